theorem slA_lt (t : Txt) (i : Nat) : slA t i < 6 := by
  unfold slA
  split
  · omega
  · omega
theorem fw_adv {t : Txt} {p s : Nat} (hq : fwF t (t.1 - p) p s = t.1) (c : p < t.1) : fitsB t p s = true ∧ fwF t (t.1 - (p + 1)) (p + 1) (if t.2 p = 59 then p + 1 else s) = t.1 := by
  rw [show t.1 - p = (t.1 - (p + 1)) + 1 by omega, fwF_s] at hq
  by_cases h : fitsB t p s = true
  · rw [if_pos h] at hq
    exact ⟨h, hq⟩
  · rw [if_neg h] at hq
    omega
theorem fit_59 {t : Txt} {s j : Nat} (hj : j ≤ dgA t s + 2) (hs : s + j < t.1) (hf : fitsB t (s + j) s = true) : t.2 (s + j) ≠ 59 := by
  have hc : cdA t (s + j) = t.2 (s + j) := if_pos hs
  intro e
  unfold fitsB at hf
  rw [show s + j - s = j by omega] at hf
  by_cases h0 : j = 0
  · rw [if_pos h0] at hf
    have h1 := of_decide_eq_true hf
    subst h0
    have hd : dgA t s = 0 := by
      unfold dgA
      rw [show cdA t s = 59 from hc.trans e]
      decide
    omega
  · rw [if_neg h0] at hf
    rw [hc, e] at hf
    by_cases h1 : j = dgA t s + 1
    · rw [if_pos h1] at hf
      exact absurd (of_decide_eq_true hf) (by decide)
    · rw [if_neg h1, if_neg (by omega)] at hf
      exact absurd (of_decide_eq_true hf) (by decide)
theorem fw_in {t : Txt} {s : Nat} (hq : fwF t (t.1 - s) s s = t.1) : ∀ j, j ≤ dgA t s + 3 → s + j ≤ t.1 → fwF t (t.1 - (s + j)) (s + j) s = t.1 := by
  intro j
  induction j with
  | zero => intro _ _; exact hq
  | succ j ih =>
    intro h1 h2
    obtain ⟨h3, h4⟩ := fw_adv (ih (by omega) (by omega)) (by omega)
    rw [if_neg (fit_59 (by omega) (by omega) h3)] at h4
    exact h4
theorem dig_ord {x : Nat} (hx : x ≤ 126) (h : 0 < digI (nI x)) : x = 98 ∨ x = 115 ∨ x = 119 ∨ x = 112 ∨ x = 108 ∨ x = 101 ∨ x = 99 ∨ x = 105 := by
  have h9 : ∀ x : Fin 127, 0 < digI (nI x.val) → x.val = 98 ∨ x.val = 115 ∨ x.val = 119 ∨ x.val = 112 ∨ x.val = 108 ∨ x.val = 101 ∨ x.val = 99 ∨ x.val = 105 := by decide +kernel
  exact h9 ⟨x, by omega⟩ h
theorem pr_ord {t : Txt} (hok : okT t) {s : Nat} (hq : fwF t (t.1 - s) s s = t.1) (hs : s < t.1) : cdA t s = 98 ∨ cdA t s = 115 ∨ cdA t s = 119 ∨ cdA t s = 112 ∨ cdA t s = 108 ∨ cdA t s = 101 ∨ cdA t s = 99 ∨ cdA t s = 105 := by
  obtain ⟨h1, -⟩ := fw_adv hq hs
  unfold fitsB at h1
  rw [if_pos (Nat.sub_self s)] at h1
  exact dig_ord (cdA_le hok s) (of_decide_eq_true h1)
theorem pr_next {t : Txt} {s d : Nat} (hq : fwF t (t.1 - s) s s = t.1) (hd : dgA t s = d) (hs : s + d + 4 < t.1) : fwF t (t.1 - (s + d + 4)) (s + d + 4) (s + d + 4) = t.1 := by
  subst hd
  obtain ⟨h1, h2⟩ := fw_adv (fw_in hq (dgA t s + 3) (Nat.le_refl _) (by omega)) (by omega)
  have h3 : t.2 (s + (dgA t s + 3)) = 59 := by
    unfold fitsB at h1
    rw [show s + (dgA t s + 3) - s = dgA t s + 3 by omega, if_neg (by omega), if_neg (by omega), if_pos rfl] at h1
    have h4 := of_decide_eq_true h1
    rw [← h4]
    exact (if_pos (by omega)).symm
  rw [if_pos h3] at h2
  exact h2
def runS (t : Txt) : Nat → Nat → Nat → Sta → Nat × Sta
  | 0, _, c, st => (c, st)
  | n + 1, s, c, st => if t.1 ≤ s then (c, st) else if st.2.1 < ordU (cdA t s) * st.1 then (c, st) else runS t n (s + dgA t s + 4) (c + 1) (ordS (cdA t s) (slA t (s + 1)) (slA t (s + dgA t s)) (slA t (s + dgA t s + 2)) st)
theorem run_end {t : Txt} {k s c : Nat} {st : Sta} (h : t.1 ≤ s) : runS t k s c st = (c, st) := by
  cases k with
  | zero => rfl
  | succ k => rw [runS, if_pos h]
theorem run_poor {t : Txt} {k s c un lt : Nat} {st : Sta} (e : cdA t s = lt) (hu : ordU lt = un) (h : st.2.1 < un * st.1) : runS t k s c st = (c, st) := by
  cases k with
  | zero => rfl
  | succ k =>
    rw [runS]
    split
    · rfl
    · rw [e, hu, if_pos h]
theorem run_go {t : Txt} {k s c un lt d : Nat} {st : Sta} (e : cdA t s = lt) (hu : ordU lt = un) (hd : dgA t s = d) (h1 : ¬ t.1 ≤ s) (h : ¬ st.2.1 < un * st.1) : runS t (k + 1) s c st = runS t k (s + d + 4) (c + 1) (ordS lt (slA t (s + 1)) (slA t (s + d)) (slA t (s + d + 2)) st) := by
  rw [runS, if_neg h1, e, hu, if_neg h, hd]
abbrev rm_X5_carryOutAll : Room := { frames := 5, cells := 0, slots := 0, locals := 140 }
set_option maxHeartbeats 4000000 in
set_option maxRecDepth 100000 in
theorem c_X5_carryOutAll (l : Launch) (G : Gl) (L : List Nat) (F : Nat → va_E) (ad : Nat → Nat) (hL : ∀ i, i < 166 → ad i ∈ L) (hin : ∀ i j, i < 166 → j < 166 → i ≠ j → ad i ≠ ad j) (t9 : Txt) (htx : txtW G F ad t9) (hco : okT t9) (st : Sta) (fx : F (ad 0) = xO ad) (hn : sta G F ad 22 st) (hrk : rkW G F ad) (h134 : ∃ u, F (ad 134) = rw7 G u) (hc : st.1 ≤ 6) (hc2 : 2 ≤ st.1) (hpu : st.2.1 ≤ 100000) (hpr : fwA t9 = t9.1) : CI l yX5_carryOutAll cX5_carryOutAll 5 (some .int) rm_X5_carryOutAll G L F [.ref (ad 0)] (fun r F1 => r = nI (runS t9 61 0 0 st).1 ∧ sta G F1 ad 22 (runS t9 61 0 0 st).2 ∧ rkW G F1 ad ∧ (∃ u, F1 (ad 134) = rw7 G u) ∧ ∀ q, (∀ i, (i = 22 ∨ (26 ≤ i ∧ i < 38) ∨ (8 ≤ i ∧ i < 22) ∨ i = 134) → q ≠ ad i) → F1 q = F q) := by
  have hl60 := htx.2.choose_spec.2.2
  refine CG_of (by decide) (Nat.le_of_ble_eq_true rfl) rfl ?_
  intro p e s m args below meth c Q C0 hr hlk hnm hQ hw ls hl
  have hx := C0.x
  have hb := C0.b
  refine lv_iconst (v := nI 0) hx hb dX5_carryOutAll_0 (by decide) ?_
  refine lv_istore_n (lv' := [(1, .int (nI (0))), (0, .ref (ad 0))]) hx hb dX5_carryOutAll_1 rfl hl (by decide) rfl (fun ls hl => ?_)
  refine lv_iconst (v := nI 0) hx hb dX5_carryOutAll_2 (by decide) ?_
  refine lv_istore_n (lv' := [(2, .int (nI (0))), (1, .int (nI (0))), (0, .ref (ad 0))]) hx hb dX5_carryOutAll_3 rfl hl (by decide) rfl (fun ls hl => ?_)
  have lp : ∀ (n k s8 c8 : Nat) (st8 : Sta), t9.1 ≤ s8 + k → (s8 < t9.1 → fwF t9 (t9.1 - s8) s8 s8 = t9.1) → runS t9 k s8 c8 st8 = runS t9 61 0 0 st → 2 ≤ st8.1 → st8.1 ≤ 6 → st8.2.1 ≤ 100000 → c8 ≤ s8 → s8 ≤ 70 → 70 - s8 < n → ∀ (FF : Nat → va_E) (H : Heap) (locs : List Loc), wD G L FF s H locs → sta G FF ad 22 st8 → rkW G FF ad → (∃ u, FF (ad 134) = rw7 G u) → (∀ q, (∀ i, (i = 22 ∨ (26 ≤ i ∧ i < 38) ∨ (8 ≤ i ∧ i < 22) ∨ i = 134) → q ≠ ad i) → FF q = F q) → ∀ ls : Array Slot, lv_has ls 5 [(0, .ref (ad 0)), (1, .int (nI (c8))), (2, .int (nI (s8)))] → W p l e rm_X5_carryOutAll s m args below meth c H locs 0 0 Q (F0 m 4 ls []) := by
    intro n
    induction n with
    | zero => intro k s8 c8 st8 _ _ _ _ _ _ _ _ hm; exact absurd hm (Nat.not_lt_zero _)
    | succ n ih =>
      intro k s8 c8 st8 hk hq hR h2 h6 hp8 hcs h70 hm FF H locs hw hn8 hrk8 h1348 fr ls hl
      obtain ⟨u8, h1348⟩ := h1348
      refine lv_iload_n hx hb dX5_carryOutAll_4 rfl (lv_at hl 2 rfl) ?_
      refine lv_aload_n hx hb dX5_carryOutAll_5 rfl (lv_at hl 0 rfl) ?_
      have f_3903 : FF (ad 0) = xO ad := (fr (ad 0) (fun i hS => hin 0 i (by omega) (by omega) (by omega))).trans fx
      refine q_get C0 hw ((hL 0 (by omega))) f_3903 fw_X5_37 rfl dX5_carryOutAll_6 ?_
      have f_3904 : FF (ad 5) = tO (ad 6) t9.1 := (fr (ad 5) (fun i hS => hin 5 i (by omega) (by omega) (by omega))).trans htx.1
      refine q_get C0 hw ((hL 5 (by omega))) f_3904 fw_X5_154 rfl dX5_carryOutAll_9 ?_
      refine n_icmp_ge (tgt := 99) hx hb dX5_carryOutAll_12 (by decide) (by omega) (by omega) (fun c_12 => ?_) (fun c_12 => ?_)
      · skip
        refine lv_iload_n hx hb dX5_carryOutAll_99 rfl (lv_at hl 1 rfl) ?_
        exact r_i C0 hr hlk hw (v := nI (c8)) rfl (by rw [← hR, run_end c_12]; exact ⟨rfl, hn8, hrk8, ⟨_, h1348⟩, (fun q hq => (fr q (fun i hS => hq i (by omega))))⟩) (Nat.le_refl _) (Nat.le_refl _) dX5_carryOutAll_100 hQ
      · skip
        have hq8 := hq (by omega)
        refine lv_aload_n hx hb dX5_carryOutAll_15 rfl (lv_at hl 0 rfl) ?_
        refine q_get C0 hw ((hL 0 (by omega))) f_3903 fw_X5_37 rfl dX5_carryOutAll_16 ?_
        refine lv_iload_n hx hb dX5_carryOutAll_19 rfl (lv_at hl 2 rfl) ?_
        refine q_calli hw (q_runV (As := [.int (nI (s8))]) (c_X4_codeAt l G L FF ad hL hin t9 (htx.keep (fun i0 hi => (fr (ad (i0)) (fun i hS => hin (i0) i (by omega) (by omega) (by omega))))) hco s8 (by omega)) C0 hw vw_X5_302 ((hL 5 (by omega))) f_3904 rfl rfl rfl hl.1 rfl (Nat.le_of_ble_eq_true rfl) dX5_carryOutAll_20 ⟨by decide, by decide⟩ ⟨by decide, by decide⟩) rfl rfl (fun r_3907 F_3905 H locs hw hp_3906 => ?_)
        obtain ⟨he_3908, o_3909⟩ := hp_3906
        subst he_3908
        have cb_3910 := cdA_le hco s8
        refine lv_istore_n (lv' := [(3, .int (nI (cdA t9 s8))), (0, .ref (ad 0)), (1, .int (nI (c8))), (2, .int (nI (s8)))]) hx hb dX5_carryOutAll_23 rfl hl (by decide) rfl (fun ls hl => ?_)
        have hord := pr_ord hco hq8 (by omega)
        rcases hord with e8 | e8 | e8 | e8 | e8 | e8 | e8 | e8
        · skip
          rw [e8] at hl
          have hd8 : dgA t9 s8 = 2 := by unfold dgA; rw [e8]; decide
          refine lv_aload_n hx hb dX5_carryOutAll_24 rfl (lv_at hl 1 rfl) ?_
          have f_3911 : F_3905 (ad 0) = xO ad := (o_3909 (ad 0) ).trans f_3903
          refine q_get C0 hw ((hL 0 (by omega))) f_3911 fw_X5_12 rfl dX5_carryOutAll_25 ?_
          have f_3912 : F_3905 (ad 22) = .inr (3, [.ref (ad 23), .int (nI (st8.2.1)), .int (nI (st8.2.2.1)), .int (nI (st8.2.2.2.1)), .int (nI (st8.2.2.2.2.1))]) := (o_3909 (ad 22) ).trans hn8.1
          refine q_get C0 hw ((hL 22 (by omega))) f_3912 fw_X5_98 rfl dX5_carryOutAll_28 ?_
          refine lv_aload_n hx hb dX5_carryOutAll_31 rfl (lv_at hl 1 rfl) ?_
          refine lv_iload_n hx hb dX5_carryOutAll_32 rfl (lv_at hl 0 rfl) ?_
          refine q_calli hw (q_runS (As := [.int (nI (98))]) (c_X5_unitsOf_98 l G L F_3905 ) C0 hw sw_X5_225 rfl hl.1 rfl (Nat.le_of_ble_eq_true rfl) dX5_carryOutAll_33 ⟨by decide, by decide⟩ ⟨by decide, by decide⟩) rfl rfl (fun r_3915 F_3913 H locs hw hp_3914 => ?_)
          obtain ⟨he_3916, o_3917⟩ := hp_3914
          subst he_3916
          have f_3918 : F_3913 (ad 0) = xO ad := (o_3917 (ad 0) ).trans f_3911
          refine q_calli hw (q_runV (As := [.int (nI (2))]) (c_X5_costOf l G L F_3913 ad hL hin 2 st8 f_3918 (hn8.keep (fun i0 hi => ((o_3917 (ad (i0)) )).trans ((o_3909 (ad (i0)) ))))) C0 hw vw_X5_228 ((hL 0 (by omega))) f_3918 rfl rfl rfl hl.1 rfl (Nat.le_of_ble_eq_true rfl) dX5_carryOutAll_36 ⟨by decide, by decide⟩ ⟨by decide, by decide⟩) rfl rfl (fun r_3921 F_3919 H locs hw hp_3920 => ?_)
          obtain ⟨he_3922, o_3923⟩ := hp_3920
          subst he_3922
          refine n_icmp_ge (tgt := 44) hx hb dX5_carryOutAll_39 (by decide) (by omega) (by omega) (fun c_39 => ?_) (fun c_39 => ?_)
          · skip
            refine lv_iload_n hx hb dX5_carryOutAll_44 rfl (lv_at hl 3 rfl) ?_
            refine lv_iload_n hx hb dX5_carryOutAll_45 rfl (lv_at hl 0 rfl) ?_
            refine q_calli hw (q_runS (As := [.int (nI (98))]) (c_X4_digitsOf_98 l G L F_3919 ) C0 hw sw_X5_220 rfl hl.1 rfl (Nat.le_of_ble_eq_true rfl) dX5_carryOutAll_46 ⟨by decide, by decide⟩ ⟨by decide, by decide⟩) rfl rfl (fun r_3926 F_3924 H locs hw hp_3925 => ?_)
            obtain ⟨he_3927, o_3928⟩ := hp_3925
            subst he_3927
            refine n_iadd hx hb dX5_carryOutAll_49 ?_
            refine lv_istore (lv' := [(4, .int (nI (s8 + 2))), (3, .int (nI (98))), (0, .ref (ad 0)), (1, .int (nI (c8))), (2, .int (nI (s8)))]) hx hb dX5_carryOutAll_50 hl (by decide) rfl (fun ls hl => ?_)
            refine lv_aload_n hx hb dX5_carryOutAll_52 rfl (lv_at hl 2 rfl) ?_
            refine lv_iload_n hx hb dX5_carryOutAll_53 rfl (lv_at hl 1 rfl) ?_
            refine lv_aload_n hx hb dX5_carryOutAll_54 rfl (lv_at hl 2 rfl) ?_
            have f_3929 : F_3919 (ad 0) = xO ad := (o_3923 (ad 0) ).trans f_3918
            have f_3930 : F_3924 (ad 0) = xO ad := (o_3928 (ad 0) ).trans f_3929
            refine q_get C0 hw ((hL 0 (by omega))) f_3930 fw_X5_37 rfl dX5_carryOutAll_55 ?_
            refine lv_iload_n hx hb dX5_carryOutAll_58 rfl (lv_at hl 4 rfl) ?_
            refine lv_iconst (v := nI 1) hx hb dX5_carryOutAll_59 (by decide) ?_
            refine n_iadd hx hb dX5_carryOutAll_60 ?_
            have f_3931 : F_3905 (ad 5) = tO (ad 6) t9.1 := (o_3909 (ad 5) ).trans f_3904
            have f_3932 : F_3913 (ad 5) = tO (ad 6) t9.1 := (o_3917 (ad 5) ).trans f_3931
            have f_3933 : F_3919 (ad 5) = tO (ad 6) t9.1 := (o_3923 (ad 5) ).trans f_3932
            have f_3934 : F_3924 (ad 5) = tO (ad 6) t9.1 := (o_3928 (ad 5) ).trans f_3933
            refine q_calli hw (q_runV (As := [.int (nI (s8 + 1))]) (c_X4_slotAt l G L F_3924 ad hL hin t9 (htx.keep (fun i0 hi => ((o_3928 (ad (i0)) )).trans (((o_3923 (ad (i0)) )).trans (((o_3917 (ad (i0)) )).trans (((o_3909 (ad (i0)) )).trans ((fr (ad (i0)) (fun i hS => hin (i0) i (by omega) (by omega) (by omega))))))))) hco (s8 + 1) (by omega)) C0 hw vw_X5_305 ((hL 5 (by omega))) f_3934 rfl rfl rfl hl.1 rfl (Nat.le_of_ble_eq_true rfl) dX5_carryOutAll_61 ⟨by decide, by decide⟩ ⟨by decide, by decide⟩) rfl rfl (fun r_3937 F_3935 H locs hw hp_3936 => ?_)
            obtain ⟨he_3938, o_3939⟩ := hp_3936
            subst he_3938
            have sl_3940 := slA_lt t9 (s8 + 1)
            refine lv_aload_n hx hb dX5_carryOutAll_64 rfl (lv_at hl 2 rfl) ?_
            have f_3941 : F_3935 (ad 0) = xO ad := (o_3939 (ad 0) ).trans f_3930
            refine q_get C0 hw ((hL 0 (by omega))) f_3941 fw_X5_37 rfl dX5_carryOutAll_65 ?_
            refine lv_iload hx hb dX5_carryOutAll_68 (lv_at hl 0 rfl) ?_
            have f_3942 : F_3935 (ad 5) = tO (ad 6) t9.1 := (o_3939 (ad 5) ).trans f_3934
            refine q_calli hw (q_runV (As := [.int (nI (s8 + 2))]) (c_X4_slotAt l G L F_3935 ad hL hin t9 (htx.keep (fun i0 hi => ((o_3939 (ad (i0)) )).trans (((o_3928 (ad (i0)) )).trans (((o_3923 (ad (i0)) )).trans (((o_3917 (ad (i0)) )).trans (((o_3909 (ad (i0)) )).trans ((fr (ad (i0)) (fun i hS => hin (i0) i (by omega) (by omega) (by omega)))))))))) hco (s8 + 2) (by omega)) C0 hw vw_X5_305 ((hL 5 (by omega))) f_3942 rfl rfl rfl hl.1 rfl (Nat.le_of_ble_eq_true rfl) dX5_carryOutAll_70 ⟨by decide, by decide⟩ ⟨by decide, by decide⟩) rfl rfl (fun r_3945 F_3943 H locs hw hp_3944 => ?_)
            obtain ⟨he_3946, o_3947⟩ := hp_3944
            subst he_3946
            have sl_3948 := slA_lt t9 (s8 + 2)
            refine lv_aload_n hx hb dX5_carryOutAll_73 rfl (lv_at hl 2 rfl) ?_
            have f_3949 : F_3943 (ad 0) = xO ad := (o_3947 (ad 0) ).trans f_3941
            refine q_get C0 hw ((hL 0 (by omega))) f_3949 fw_X5_37 rfl dX5_carryOutAll_74 ?_
            refine lv_iload hx hb dX5_carryOutAll_77 (lv_at hl 0 rfl) ?_
            refine lv_iconst (v := nI 2) hx hb dX5_carryOutAll_79 (by decide) ?_
            refine n_iadd hx hb dX5_carryOutAll_80 ?_
            have f_3950 : F_3943 (ad 5) = tO (ad 6) t9.1 := (o_3947 (ad 5) ).trans f_3942
            refine q_calli hw (q_runV (As := [.int (nI (s8 + 2 + 2))]) (c_X4_slotAt l G L F_3943 ad hL hin t9 (htx.keep (fun i0 hi => ((o_3947 (ad (i0)) )).trans (((o_3939 (ad (i0)) )).trans (((o_3928 (ad (i0)) )).trans (((o_3923 (ad (i0)) )).trans (((o_3917 (ad (i0)) )).trans (((o_3909 (ad (i0)) )).trans ((fr (ad (i0)) (fun i hS => hin (i0) i (by omega) (by omega) (by omega))))))))))) hco (s8 + 2 + 2) (by omega)) C0 hw vw_X5_305 ((hL 5 (by omega))) f_3950 rfl rfl rfl hl.1 rfl (Nat.le_of_ble_eq_true rfl) dX5_carryOutAll_81 ⟨by decide, by decide⟩ ⟨by decide, by decide⟩) rfl rfl (fun r_3953 F_3951 H locs hw hp_3952 => ?_)
            obtain ⟨he_3954, o_3955⟩ := hp_3952
            subst he_3954
            have sl_3956 := slA_lt t9 (s8 + 2 + 2)
            have f_3957 : F_3951 (ad 0) = xO ad := (o_3955 (ad 0) ).trans f_3949
            have f_3958 : F_3905 (ad 134) = rw7 G u8 := (o_3909 (ad 134) ).trans h1348
            have f_3959 : F_3913 (ad 134) = rw7 G u8 := (o_3917 (ad 134) ).trans f_3958
            have f_3960 : F_3919 (ad 134) = rw7 G u8 := (o_3923 (ad 134) ).trans f_3959
            have f_3961 : F_3924 (ad 134) = rw7 G u8 := (o_3928 (ad 134) ).trans f_3960
            have f_3962 : F_3935 (ad 134) = rw7 G u8 := (o_3939 (ad 134) ).trans f_3961
            have f_3963 : F_3943 (ad 134) = rw7 G u8 := (o_3947 (ad 134) ).trans f_3962
            have f_3964 : F_3951 (ad 134) = rw7 G u8 := (o_3955 (ad 134) ).trans f_3963
            refine q_calli hw (q_runV (As := [.int (nI (98)), .int (nI (slA t9 (s8 + 1))), .int (nI (slA t9 (s8 + 2))), .int (nI (slA t9 (s8 + 2 + 2)))]) (c_X5_carryOut_98 l G L F_3951 ad hL hin (slA t9 (s8 + 1)) (slA t9 (s8 + 2)) (slA t9 (s8 + 2 + 2)) st8 _ f_3957 (hn8.keep (fun i0 hi => ((o_3955 (ad (i0)) )).trans (((o_3947 (ad (i0)) )).trans (((o_3939 (ad (i0)) )).trans (((o_3928 (ad (i0)) )).trans (((o_3923 (ad (i0)) )).trans (((o_3917 (ad (i0)) )).trans ((o_3909 (ad (i0)) ))))))))) (hrk8.keep (fun i0 hi => ((o_3955 (ad (i0)) )).trans (((o_3947 (ad (i0)) )).trans (((o_3939 (ad (i0)) )).trans (((o_3928 (ad (i0)) )).trans (((o_3923 (ad (i0)) )).trans (((o_3917 (ad (i0)) )).trans ((o_3909 (ad (i0)) ))))))))) f_3964 (by omega) (by omega) (by omega) (by omega) (by omega) (by omega) (by omega)) C0 hw vw_X5_299 ((hL 0 (by omega))) f_3957 rfl rfl rfl hl.1 rfl (Nat.le_of_ble_eq_true rfl) dX5_carryOutAll_84 ⟨by decide, by decide⟩ ⟨by decide, by decide⟩) rfl rfl (fun r_3967 F_3965 H locs hw hp_3966 => ?_)
            obtain ⟨h_3968, h_3969, h_3970, ⟨u_3973, h_3971⟩, h_3972⟩ := hp_3966
            subst h_3968
            refine lv_pop hx hb dX5_carryOutAll_87 rfl ?_
            refine lv_iinc (v := nI (c8 + 1)) (lv' := [(1, .int (nI (c8 + 1))), (4, .int (nI (s8 + 2))), (3, .int (nI (98))), (0, .ref (ad 0)), (2, .int (nI (s8)))]) hx hb dX5_carryOutAll_88 hl (k := 3) rfl (nI_add _ _) (by decide) rfl (fun ls hl => ?_)
            refine lv_iload hx hb dX5_carryOutAll_91 (lv_at hl 1 rfl) ?_
            refine lv_iconst (v := nI 4) hx hb dX5_carryOutAll_93 (by decide) ?_
            refine n_iadd hx hb dX5_carryOutAll_94 ?_
            refine lv_istore_n (lv' := [(2, .int (nI (s8 + 2 + 4))), (1, .int (nI (c8 + 1))), (4, .int (nI (s8 + 2))), (3, .int (nI (98))), (0, .ref (ad 0))]) hx hb dX5_carryOutAll_95 rfl hl (by decide) rfl (fun ls hl => ?_)
            refine lv_goto (tgt := 4) hx hb dX5_carryOutAll_96 (by decide) ?_
            obtain ⟨k, rfl⟩ : ∃ k9, k = k9 + 1 := ⟨k - 1, by omega⟩
            have hR2 := (run_go (c := c8) (st := st8) (k := k) (un := 2) e8 rfl hd8 c_12 (by omega)).symm.trans hR
            have hps : (ordS 98 (slA t9 (s8 + 1)) (slA t9 (s8 + 2)) (slA t9 (s8 + 2 + 2)) st8).2.1 ≤ 100000 := by show st8.2.1 - ordU 98 * st8.1 ≤ 100000; omega
            exact ih k (s8 + 2 + 4) (c8 + 1) (ordS 98 (slA t9 (s8 + 1)) (slA t9 (s8 + 2)) (slA t9 (s8 + 2 + 2)) st8) (by omega) (fun h => pr_next hq8 hd8 h) hR2 h2 h6 hps (by omega) (by omega) (by omega) F_3965 H _ hw h_3969 h_3970 ⟨_, h_3971⟩ (fun q hq => ((h_3972 q (fun i hS => hq i (by omega))).trans ((o_3955 q ).trans ((o_3947 q ).trans ((o_3939 q ).trans ((o_3928 q ).trans ((o_3923 q ).trans ((o_3917 q ).trans ((o_3909 q ).trans (fr q (fun i hS => hq i (by omega)))))))))))) ls (lv_sub hl [4, 1, 0] rfl)
          · skip
            refine lv_iload_n hx hb dX5_carryOutAll_42 rfl (lv_at hl 2 rfl) ?_
            have f_3974 : F_3905 (ad 134) = rw7 G u8 := (o_3909 (ad 134) ).trans h1348
            have f_3975 : F_3913 (ad 134) = rw7 G u8 := (o_3917 (ad 134) ).trans f_3974
            have f_3976 : F_3919 (ad 134) = rw7 G u8 := (o_3923 (ad 134) ).trans f_3975
            exact r_i C0 hr hlk hw (v := nI (c8)) rfl (by rw [← hR, run_poor (un := 2) e8 rfl (by omega)]; exact ⟨rfl, (hn8.keep (fun i0 hi => ((o_3923 (ad (i0)) )).trans (((o_3917 (ad (i0)) )).trans ((o_3909 (ad (i0)) ))))), (hrk8.keep (fun i0 hi => ((o_3923 (ad (i0)) )).trans (((o_3917 (ad (i0)) )).trans ((o_3909 (ad (i0)) ))))), ⟨_, f_3976⟩, (fun q hq => ((o_3923 q ).trans ((o_3917 q ).trans ((o_3909 q ).trans (fr q (fun i hS => hq i (by omega)))))))⟩) (Nat.le_refl _) (Nat.le_refl _) dX5_carryOutAll_43 hQ
        · skip
          rw [e8] at hl
          have hd8 : dgA t9 s8 = 2 := by unfold dgA; rw [e8]; decide
          refine lv_aload_n hx hb dX5_carryOutAll_24 rfl (lv_at hl 1 rfl) ?_
          have f_3977 : F_3905 (ad 0) = xO ad := (o_3909 (ad 0) ).trans f_3903
          refine q_get C0 hw ((hL 0 (by omega))) f_3977 fw_X5_12 rfl dX5_carryOutAll_25 ?_
          have f_3978 : F_3905 (ad 22) = .inr (3, [.ref (ad 23), .int (nI (st8.2.1)), .int (nI (st8.2.2.1)), .int (nI (st8.2.2.2.1)), .int (nI (st8.2.2.2.2.1))]) := (o_3909 (ad 22) ).trans hn8.1
          refine q_get C0 hw ((hL 22 (by omega))) f_3978 fw_X5_98 rfl dX5_carryOutAll_28 ?_
          refine lv_aload_n hx hb dX5_carryOutAll_31 rfl (lv_at hl 1 rfl) ?_
          refine lv_iload_n hx hb dX5_carryOutAll_32 rfl (lv_at hl 0 rfl) ?_
          refine q_calli hw (q_runS (As := [.int (nI (115))]) (c_X5_unitsOf_115 l G L F_3905 ) C0 hw sw_X5_225 rfl hl.1 rfl (Nat.le_of_ble_eq_true rfl) dX5_carryOutAll_33 ⟨by decide, by decide⟩ ⟨by decide, by decide⟩) rfl rfl (fun r_3981 F_3979 H locs hw hp_3980 => ?_)
          obtain ⟨he_3982, o_3983⟩ := hp_3980
          subst he_3982
          have f_3984 : F_3979 (ad 0) = xO ad := (o_3983 (ad 0) ).trans f_3977
          refine q_calli hw (q_runV (As := [.int (nI (1))]) (c_X5_costOf l G L F_3979 ad hL hin 1 st8 f_3984 (hn8.keep (fun i0 hi => ((o_3983 (ad (i0)) )).trans ((o_3909 (ad (i0)) ))))) C0 hw vw_X5_228 ((hL 0 (by omega))) f_3984 rfl rfl rfl hl.1 rfl (Nat.le_of_ble_eq_true rfl) dX5_carryOutAll_36 ⟨by decide, by decide⟩ ⟨by decide, by decide⟩) rfl rfl (fun r_3987 F_3985 H locs hw hp_3986 => ?_)
          obtain ⟨he_3988, o_3989⟩ := hp_3986
          subst he_3988
          refine n_icmp_ge (tgt := 44) hx hb dX5_carryOutAll_39 (by decide) (by omega) (by omega) (fun c_39 => ?_) (fun c_39 => ?_)
          · skip
            refine lv_iload_n hx hb dX5_carryOutAll_44 rfl (lv_at hl 3 rfl) ?_
            refine lv_iload_n hx hb dX5_carryOutAll_45 rfl (lv_at hl 0 rfl) ?_
            refine q_calli hw (q_runS (As := [.int (nI (115))]) (c_X4_digitsOf_115 l G L F_3985 ) C0 hw sw_X5_220 rfl hl.1 rfl (Nat.le_of_ble_eq_true rfl) dX5_carryOutAll_46 ⟨by decide, by decide⟩ ⟨by decide, by decide⟩) rfl rfl (fun r_3992 F_3990 H locs hw hp_3991 => ?_)
            obtain ⟨he_3993, o_3994⟩ := hp_3991
            subst he_3993
            refine n_iadd hx hb dX5_carryOutAll_49 ?_
            refine lv_istore (lv' := [(4, .int (nI (s8 + 2))), (3, .int (nI (115))), (0, .ref (ad 0)), (1, .int (nI (c8))), (2, .int (nI (s8)))]) hx hb dX5_carryOutAll_50 hl (by decide) rfl (fun ls hl => ?_)
            refine lv_aload_n hx hb dX5_carryOutAll_52 rfl (lv_at hl 2 rfl) ?_
            refine lv_iload_n hx hb dX5_carryOutAll_53 rfl (lv_at hl 1 rfl) ?_
            refine lv_aload_n hx hb dX5_carryOutAll_54 rfl (lv_at hl 2 rfl) ?_
            have f_3995 : F_3985 (ad 0) = xO ad := (o_3989 (ad 0) ).trans f_3984
            have f_3996 : F_3990 (ad 0) = xO ad := (o_3994 (ad 0) ).trans f_3995
            refine q_get C0 hw ((hL 0 (by omega))) f_3996 fw_X5_37 rfl dX5_carryOutAll_55 ?_
            refine lv_iload_n hx hb dX5_carryOutAll_58 rfl (lv_at hl 4 rfl) ?_
            refine lv_iconst (v := nI 1) hx hb dX5_carryOutAll_59 (by decide) ?_
            refine n_iadd hx hb dX5_carryOutAll_60 ?_
            have f_3997 : F_3905 (ad 5) = tO (ad 6) t9.1 := (o_3909 (ad 5) ).trans f_3904
            have f_3998 : F_3979 (ad 5) = tO (ad 6) t9.1 := (o_3983 (ad 5) ).trans f_3997
            have f_3999 : F_3985 (ad 5) = tO (ad 6) t9.1 := (o_3989 (ad 5) ).trans f_3998
            have f_4000 : F_3990 (ad 5) = tO (ad 6) t9.1 := (o_3994 (ad 5) ).trans f_3999
            refine q_calli hw (q_runV (As := [.int (nI (s8 + 1))]) (c_X4_slotAt l G L F_3990 ad hL hin t9 (htx.keep (fun i0 hi => ((o_3994 (ad (i0)) )).trans (((o_3989 (ad (i0)) )).trans (((o_3983 (ad (i0)) )).trans (((o_3909 (ad (i0)) )).trans ((fr (ad (i0)) (fun i hS => hin (i0) i (by omega) (by omega) (by omega))))))))) hco (s8 + 1) (by omega)) C0 hw vw_X5_305 ((hL 5 (by omega))) f_4000 rfl rfl rfl hl.1 rfl (Nat.le_of_ble_eq_true rfl) dX5_carryOutAll_61 ⟨by decide, by decide⟩ ⟨by decide, by decide⟩) rfl rfl (fun r_4003 F_4001 H locs hw hp_4002 => ?_)
            obtain ⟨he_4004, o_4005⟩ := hp_4002
            subst he_4004
            have sl_4006 := slA_lt t9 (s8 + 1)
            refine lv_aload_n hx hb dX5_carryOutAll_64 rfl (lv_at hl 2 rfl) ?_
            have f_4007 : F_4001 (ad 0) = xO ad := (o_4005 (ad 0) ).trans f_3996
            refine q_get C0 hw ((hL 0 (by omega))) f_4007 fw_X5_37 rfl dX5_carryOutAll_65 ?_
            refine lv_iload hx hb dX5_carryOutAll_68 (lv_at hl 0 rfl) ?_
            have f_4008 : F_4001 (ad 5) = tO (ad 6) t9.1 := (o_4005 (ad 5) ).trans f_4000
            refine q_calli hw (q_runV (As := [.int (nI (s8 + 2))]) (c_X4_slotAt l G L F_4001 ad hL hin t9 (htx.keep (fun i0 hi => ((o_4005 (ad (i0)) )).trans (((o_3994 (ad (i0)) )).trans (((o_3989 (ad (i0)) )).trans (((o_3983 (ad (i0)) )).trans (((o_3909 (ad (i0)) )).trans ((fr (ad (i0)) (fun i hS => hin (i0) i (by omega) (by omega) (by omega)))))))))) hco (s8 + 2) (by omega)) C0 hw vw_X5_305 ((hL 5 (by omega))) f_4008 rfl rfl rfl hl.1 rfl (Nat.le_of_ble_eq_true rfl) dX5_carryOutAll_70 ⟨by decide, by decide⟩ ⟨by decide, by decide⟩) rfl rfl (fun r_4011 F_4009 H locs hw hp_4010 => ?_)
            obtain ⟨he_4012, o_4013⟩ := hp_4010
            subst he_4012
            have sl_4014 := slA_lt t9 (s8 + 2)
            refine lv_aload_n hx hb dX5_carryOutAll_73 rfl (lv_at hl 2 rfl) ?_
            have f_4015 : F_4009 (ad 0) = xO ad := (o_4013 (ad 0) ).trans f_4007
            refine q_get C0 hw ((hL 0 (by omega))) f_4015 fw_X5_37 rfl dX5_carryOutAll_74 ?_
            refine lv_iload hx hb dX5_carryOutAll_77 (lv_at hl 0 rfl) ?_
            refine lv_iconst (v := nI 2) hx hb dX5_carryOutAll_79 (by decide) ?_
            refine n_iadd hx hb dX5_carryOutAll_80 ?_
            have f_4016 : F_4009 (ad 5) = tO (ad 6) t9.1 := (o_4013 (ad 5) ).trans f_4008
            refine q_calli hw (q_runV (As := [.int (nI (s8 + 2 + 2))]) (c_X4_slotAt l G L F_4009 ad hL hin t9 (htx.keep (fun i0 hi => ((o_4013 (ad (i0)) )).trans (((o_4005 (ad (i0)) )).trans (((o_3994 (ad (i0)) )).trans (((o_3989 (ad (i0)) )).trans (((o_3983 (ad (i0)) )).trans (((o_3909 (ad (i0)) )).trans ((fr (ad (i0)) (fun i hS => hin (i0) i (by omega) (by omega) (by omega))))))))))) hco (s8 + 2 + 2) (by omega)) C0 hw vw_X5_305 ((hL 5 (by omega))) f_4016 rfl rfl rfl hl.1 rfl (Nat.le_of_ble_eq_true rfl) dX5_carryOutAll_81 ⟨by decide, by decide⟩ ⟨by decide, by decide⟩) rfl rfl (fun r_4019 F_4017 H locs hw hp_4018 => ?_)
            obtain ⟨he_4020, o_4021⟩ := hp_4018
            subst he_4020
            have sl_4022 := slA_lt t9 (s8 + 2 + 2)
            have f_4023 : F_4017 (ad 0) = xO ad := (o_4021 (ad 0) ).trans f_4015
            have f_4024 : F_3905 (ad 134) = rw7 G u8 := (o_3909 (ad 134) ).trans h1348
            have f_4025 : F_3979 (ad 134) = rw7 G u8 := (o_3983 (ad 134) ).trans f_4024
            have f_4026 : F_3985 (ad 134) = rw7 G u8 := (o_3989 (ad 134) ).trans f_4025
            have f_4027 : F_3990 (ad 134) = rw7 G u8 := (o_3994 (ad 134) ).trans f_4026
            have f_4028 : F_4001 (ad 134) = rw7 G u8 := (o_4005 (ad 134) ).trans f_4027
            have f_4029 : F_4009 (ad 134) = rw7 G u8 := (o_4013 (ad 134) ).trans f_4028
            have f_4030 : F_4017 (ad 134) = rw7 G u8 := (o_4021 (ad 134) ).trans f_4029
            refine q_calli hw (q_runV (As := [.int (nI (115)), .int (nI (slA t9 (s8 + 1))), .int (nI (slA t9 (s8 + 2))), .int (nI (slA t9 (s8 + 2 + 2)))]) (c_X5_carryOut_115 l G L F_4017 ad hL hin (slA t9 (s8 + 1)) (slA t9 (s8 + 2)) (slA t9 (s8 + 2 + 2)) st8 _ f_4023 (hn8.keep (fun i0 hi => ((o_4021 (ad (i0)) )).trans (((o_4013 (ad (i0)) )).trans (((o_4005 (ad (i0)) )).trans (((o_3994 (ad (i0)) )).trans (((o_3989 (ad (i0)) )).trans (((o_3983 (ad (i0)) )).trans ((o_3909 (ad (i0)) ))))))))) (hrk8.keep (fun i0 hi => ((o_4021 (ad (i0)) )).trans (((o_4013 (ad (i0)) )).trans (((o_4005 (ad (i0)) )).trans (((o_3994 (ad (i0)) )).trans (((o_3989 (ad (i0)) )).trans (((o_3983 (ad (i0)) )).trans ((o_3909 (ad (i0)) ))))))))) f_4030 (by omega) (by omega) (by omega) (by omega) (by omega) (by omega) (by omega)) C0 hw vw_X5_299 ((hL 0 (by omega))) f_4023 rfl rfl rfl hl.1 rfl (Nat.le_of_ble_eq_true rfl) dX5_carryOutAll_84 ⟨by decide, by decide⟩ ⟨by decide, by decide⟩) rfl rfl (fun r_4033 F_4031 H locs hw hp_4032 => ?_)
            obtain ⟨h_4034, h_4035, h_4036, ⟨u_4039, h_4037⟩, h_4038⟩ := hp_4032
            subst h_4034
            refine lv_pop hx hb dX5_carryOutAll_87 rfl ?_
            refine lv_iinc (v := nI (c8 + 1)) (lv' := [(1, .int (nI (c8 + 1))), (4, .int (nI (s8 + 2))), (3, .int (nI (115))), (0, .ref (ad 0)), (2, .int (nI (s8)))]) hx hb dX5_carryOutAll_88 hl (k := 3) rfl (nI_add _ _) (by decide) rfl (fun ls hl => ?_)
            refine lv_iload hx hb dX5_carryOutAll_91 (lv_at hl 1 rfl) ?_
            refine lv_iconst (v := nI 4) hx hb dX5_carryOutAll_93 (by decide) ?_
            refine n_iadd hx hb dX5_carryOutAll_94 ?_
            refine lv_istore_n (lv' := [(2, .int (nI (s8 + 2 + 4))), (1, .int (nI (c8 + 1))), (4, .int (nI (s8 + 2))), (3, .int (nI (115))), (0, .ref (ad 0))]) hx hb dX5_carryOutAll_95 rfl hl (by decide) rfl (fun ls hl => ?_)
            refine lv_goto (tgt := 4) hx hb dX5_carryOutAll_96 (by decide) ?_
            obtain ⟨k, rfl⟩ : ∃ k9, k = k9 + 1 := ⟨k - 1, by omega⟩
            have hR2 := (run_go (c := c8) (st := st8) (k := k) (un := 1) e8 rfl hd8 c_12 (by omega)).symm.trans hR
            have hps : (ordS 115 (slA t9 (s8 + 1)) (slA t9 (s8 + 2)) (slA t9 (s8 + 2 + 2)) st8).2.1 ≤ 100000 := by show st8.2.1 - ordU 115 * st8.1 ≤ 100000; omega
            exact ih k (s8 + 2 + 4) (c8 + 1) (ordS 115 (slA t9 (s8 + 1)) (slA t9 (s8 + 2)) (slA t9 (s8 + 2 + 2)) st8) (by omega) (fun h => pr_next hq8 hd8 h) hR2 h2 h6 hps (by omega) (by omega) (by omega) F_4031 H _ hw h_4035 h_4036 ⟨_, h_4037⟩ (fun q hq => ((h_4038 q (fun i hS => hq i (by omega))).trans ((o_4021 q ).trans ((o_4013 q ).trans ((o_4005 q ).trans ((o_3994 q ).trans ((o_3989 q ).trans ((o_3983 q ).trans ((o_3909 q ).trans (fr q (fun i hS => hq i (by omega)))))))))))) ls (lv_sub hl [4, 1, 0] rfl)
          · skip
            refine lv_iload_n hx hb dX5_carryOutAll_42 rfl (lv_at hl 2 rfl) ?_
            have f_4040 : F_3905 (ad 134) = rw7 G u8 := (o_3909 (ad 134) ).trans h1348
            have f_4041 : F_3979 (ad 134) = rw7 G u8 := (o_3983 (ad 134) ).trans f_4040
            have f_4042 : F_3985 (ad 134) = rw7 G u8 := (o_3989 (ad 134) ).trans f_4041
            exact r_i C0 hr hlk hw (v := nI (c8)) rfl (by rw [← hR, run_poor (un := 1) e8 rfl (by omega)]; exact ⟨rfl, (hn8.keep (fun i0 hi => ((o_3989 (ad (i0)) )).trans (((o_3983 (ad (i0)) )).trans ((o_3909 (ad (i0)) ))))), (hrk8.keep (fun i0 hi => ((o_3989 (ad (i0)) )).trans (((o_3983 (ad (i0)) )).trans ((o_3909 (ad (i0)) ))))), ⟨_, f_4042⟩, (fun q hq => ((o_3989 q ).trans ((o_3983 q ).trans ((o_3909 q ).trans (fr q (fun i hS => hq i (by omega)))))))⟩) (Nat.le_refl _) (Nat.le_refl _) dX5_carryOutAll_43 hQ
        · skip
          rw [e8] at hl
          have hd8 : dgA t9 s8 = 2 := by unfold dgA; rw [e8]; decide
          refine lv_aload_n hx hb dX5_carryOutAll_24 rfl (lv_at hl 1 rfl) ?_
          have f_4043 : F_3905 (ad 0) = xO ad := (o_3909 (ad 0) ).trans f_3903
          refine q_get C0 hw ((hL 0 (by omega))) f_4043 fw_X5_12 rfl dX5_carryOutAll_25 ?_
          have f_4044 : F_3905 (ad 22) = .inr (3, [.ref (ad 23), .int (nI (st8.2.1)), .int (nI (st8.2.2.1)), .int (nI (st8.2.2.2.1)), .int (nI (st8.2.2.2.2.1))]) := (o_3909 (ad 22) ).trans hn8.1
          refine q_get C0 hw ((hL 22 (by omega))) f_4044 fw_X5_98 rfl dX5_carryOutAll_28 ?_
          refine lv_aload_n hx hb dX5_carryOutAll_31 rfl (lv_at hl 1 rfl) ?_
          refine lv_iload_n hx hb dX5_carryOutAll_32 rfl (lv_at hl 0 rfl) ?_
          refine q_calli hw (q_runS (As := [.int (nI (119))]) (c_X5_unitsOf_119 l G L F_3905 ) C0 hw sw_X5_225 rfl hl.1 rfl (Nat.le_of_ble_eq_true rfl) dX5_carryOutAll_33 ⟨by decide, by decide⟩ ⟨by decide, by decide⟩) rfl rfl (fun r_4047 F_4045 H locs hw hp_4046 => ?_)
          obtain ⟨he_4048, o_4049⟩ := hp_4046
          subst he_4048
          have f_4050 : F_4045 (ad 0) = xO ad := (o_4049 (ad 0) ).trans f_4043
          refine q_calli hw (q_runV (As := [.int (nI (20))]) (c_X5_costOf l G L F_4045 ad hL hin 20 st8 f_4050 (hn8.keep (fun i0 hi => ((o_4049 (ad (i0)) )).trans ((o_3909 (ad (i0)) ))))) C0 hw vw_X5_228 ((hL 0 (by omega))) f_4050 rfl rfl rfl hl.1 rfl (Nat.le_of_ble_eq_true rfl) dX5_carryOutAll_36 ⟨by decide, by decide⟩ ⟨by decide, by decide⟩) rfl rfl (fun r_4053 F_4051 H locs hw hp_4052 => ?_)
          obtain ⟨he_4054, o_4055⟩ := hp_4052
          subst he_4054
          refine n_icmp_ge (tgt := 44) hx hb dX5_carryOutAll_39 (by decide) (by omega) (by omega) (fun c_39 => ?_) (fun c_39 => ?_)
          · skip
            refine lv_iload_n hx hb dX5_carryOutAll_44 rfl (lv_at hl 3 rfl) ?_
            refine lv_iload_n hx hb dX5_carryOutAll_45 rfl (lv_at hl 0 rfl) ?_
            refine q_calli hw (q_runS (As := [.int (nI (119))]) (c_X4_digitsOf_119 l G L F_4051 ) C0 hw sw_X5_220 rfl hl.1 rfl (Nat.le_of_ble_eq_true rfl) dX5_carryOutAll_46 ⟨by decide, by decide⟩ ⟨by decide, by decide⟩) rfl rfl (fun r_4058 F_4056 H locs hw hp_4057 => ?_)
            obtain ⟨he_4059, o_4060⟩ := hp_4057
            subst he_4059
            refine n_iadd hx hb dX5_carryOutAll_49 ?_
            refine lv_istore (lv' := [(4, .int (nI (s8 + 2))), (3, .int (nI (119))), (0, .ref (ad 0)), (1, .int (nI (c8))), (2, .int (nI (s8)))]) hx hb dX5_carryOutAll_50 hl (by decide) rfl (fun ls hl => ?_)
            refine lv_aload_n hx hb dX5_carryOutAll_52 rfl (lv_at hl 2 rfl) ?_
            refine lv_iload_n hx hb dX5_carryOutAll_53 rfl (lv_at hl 1 rfl) ?_
            refine lv_aload_n hx hb dX5_carryOutAll_54 rfl (lv_at hl 2 rfl) ?_
            have f_4061 : F_4051 (ad 0) = xO ad := (o_4055 (ad 0) ).trans f_4050
            have f_4062 : F_4056 (ad 0) = xO ad := (o_4060 (ad 0) ).trans f_4061
            refine q_get C0 hw ((hL 0 (by omega))) f_4062 fw_X5_37 rfl dX5_carryOutAll_55 ?_
            refine lv_iload_n hx hb dX5_carryOutAll_58 rfl (lv_at hl 4 rfl) ?_
            refine lv_iconst (v := nI 1) hx hb dX5_carryOutAll_59 (by decide) ?_
            refine n_iadd hx hb dX5_carryOutAll_60 ?_
            have f_4063 : F_3905 (ad 5) = tO (ad 6) t9.1 := (o_3909 (ad 5) ).trans f_3904
            have f_4064 : F_4045 (ad 5) = tO (ad 6) t9.1 := (o_4049 (ad 5) ).trans f_4063
            have f_4065 : F_4051 (ad 5) = tO (ad 6) t9.1 := (o_4055 (ad 5) ).trans f_4064
            have f_4066 : F_4056 (ad 5) = tO (ad 6) t9.1 := (o_4060 (ad 5) ).trans f_4065
            refine q_calli hw (q_runV (As := [.int (nI (s8 + 1))]) (c_X4_slotAt l G L F_4056 ad hL hin t9 (htx.keep (fun i0 hi => ((o_4060 (ad (i0)) )).trans (((o_4055 (ad (i0)) )).trans (((o_4049 (ad (i0)) )).trans (((o_3909 (ad (i0)) )).trans ((fr (ad (i0)) (fun i hS => hin (i0) i (by omega) (by omega) (by omega))))))))) hco (s8 + 1) (by omega)) C0 hw vw_X5_305 ((hL 5 (by omega))) f_4066 rfl rfl rfl hl.1 rfl (Nat.le_of_ble_eq_true rfl) dX5_carryOutAll_61 ⟨by decide, by decide⟩ ⟨by decide, by decide⟩) rfl rfl (fun r_4069 F_4067 H locs hw hp_4068 => ?_)
            obtain ⟨he_4070, o_4071⟩ := hp_4068
            subst he_4070
            have sl_4072 := slA_lt t9 (s8 + 1)
            refine lv_aload_n hx hb dX5_carryOutAll_64 rfl (lv_at hl 2 rfl) ?_
            have f_4073 : F_4067 (ad 0) = xO ad := (o_4071 (ad 0) ).trans f_4062
            refine q_get C0 hw ((hL 0 (by omega))) f_4073 fw_X5_37 rfl dX5_carryOutAll_65 ?_
            refine lv_iload hx hb dX5_carryOutAll_68 (lv_at hl 0 rfl) ?_
            have f_4074 : F_4067 (ad 5) = tO (ad 6) t9.1 := (o_4071 (ad 5) ).trans f_4066
            refine q_calli hw (q_runV (As := [.int (nI (s8 + 2))]) (c_X4_slotAt l G L F_4067 ad hL hin t9 (htx.keep (fun i0 hi => ((o_4071 (ad (i0)) )).trans (((o_4060 (ad (i0)) )).trans (((o_4055 (ad (i0)) )).trans (((o_4049 (ad (i0)) )).trans (((o_3909 (ad (i0)) )).trans ((fr (ad (i0)) (fun i hS => hin (i0) i (by omega) (by omega) (by omega)))))))))) hco (s8 + 2) (by omega)) C0 hw vw_X5_305 ((hL 5 (by omega))) f_4074 rfl rfl rfl hl.1 rfl (Nat.le_of_ble_eq_true rfl) dX5_carryOutAll_70 ⟨by decide, by decide⟩ ⟨by decide, by decide⟩) rfl rfl (fun r_4077 F_4075 H locs hw hp_4076 => ?_)
            obtain ⟨he_4078, o_4079⟩ := hp_4076
            subst he_4078
            have sl_4080 := slA_lt t9 (s8 + 2)
            refine lv_aload_n hx hb dX5_carryOutAll_73 rfl (lv_at hl 2 rfl) ?_
            have f_4081 : F_4075 (ad 0) = xO ad := (o_4079 (ad 0) ).trans f_4073
            refine q_get C0 hw ((hL 0 (by omega))) f_4081 fw_X5_37 rfl dX5_carryOutAll_74 ?_
            refine lv_iload hx hb dX5_carryOutAll_77 (lv_at hl 0 rfl) ?_
            refine lv_iconst (v := nI 2) hx hb dX5_carryOutAll_79 (by decide) ?_
            refine n_iadd hx hb dX5_carryOutAll_80 ?_
            have f_4082 : F_4075 (ad 5) = tO (ad 6) t9.1 := (o_4079 (ad 5) ).trans f_4074
            refine q_calli hw (q_runV (As := [.int (nI (s8 + 2 + 2))]) (c_X4_slotAt l G L F_4075 ad hL hin t9 (htx.keep (fun i0 hi => ((o_4079 (ad (i0)) )).trans (((o_4071 (ad (i0)) )).trans (((o_4060 (ad (i0)) )).trans (((o_4055 (ad (i0)) )).trans (((o_4049 (ad (i0)) )).trans (((o_3909 (ad (i0)) )).trans ((fr (ad (i0)) (fun i hS => hin (i0) i (by omega) (by omega) (by omega))))))))))) hco (s8 + 2 + 2) (by omega)) C0 hw vw_X5_305 ((hL 5 (by omega))) f_4082 rfl rfl rfl hl.1 rfl (Nat.le_of_ble_eq_true rfl) dX5_carryOutAll_81 ⟨by decide, by decide⟩ ⟨by decide, by decide⟩) rfl rfl (fun r_4085 F_4083 H locs hw hp_4084 => ?_)
            obtain ⟨he_4086, o_4087⟩ := hp_4084
            subst he_4086
            have sl_4088 := slA_lt t9 (s8 + 2 + 2)
            have f_4089 : F_4083 (ad 0) = xO ad := (o_4087 (ad 0) ).trans f_4081
            have f_4090 : F_3905 (ad 134) = rw7 G u8 := (o_3909 (ad 134) ).trans h1348
            have f_4091 : F_4045 (ad 134) = rw7 G u8 := (o_4049 (ad 134) ).trans f_4090
            have f_4092 : F_4051 (ad 134) = rw7 G u8 := (o_4055 (ad 134) ).trans f_4091
            have f_4093 : F_4056 (ad 134) = rw7 G u8 := (o_4060 (ad 134) ).trans f_4092
            have f_4094 : F_4067 (ad 134) = rw7 G u8 := (o_4071 (ad 134) ).trans f_4093
            have f_4095 : F_4075 (ad 134) = rw7 G u8 := (o_4079 (ad 134) ).trans f_4094
            have f_4096 : F_4083 (ad 134) = rw7 G u8 := (o_4087 (ad 134) ).trans f_4095
            refine q_calli hw (q_runV (As := [.int (nI (119)), .int (nI (slA t9 (s8 + 1))), .int (nI (slA t9 (s8 + 2))), .int (nI (slA t9 (s8 + 2 + 2)))]) (c_X5_carryOut_119 l G L F_4083 ad hL hin (slA t9 (s8 + 1)) (slA t9 (s8 + 2)) (slA t9 (s8 + 2 + 2)) st8 _ f_4089 (hn8.keep (fun i0 hi => ((o_4087 (ad (i0)) )).trans (((o_4079 (ad (i0)) )).trans (((o_4071 (ad (i0)) )).trans (((o_4060 (ad (i0)) )).trans (((o_4055 (ad (i0)) )).trans (((o_4049 (ad (i0)) )).trans ((o_3909 (ad (i0)) ))))))))) (hrk8.keep (fun i0 hi => ((o_4087 (ad (i0)) )).trans (((o_4079 (ad (i0)) )).trans (((o_4071 (ad (i0)) )).trans (((o_4060 (ad (i0)) )).trans (((o_4055 (ad (i0)) )).trans (((o_4049 (ad (i0)) )).trans ((o_3909 (ad (i0)) ))))))))) f_4096 (by omega) (by omega) (by omega) (by omega) (by omega) (by omega) (by omega)) C0 hw vw_X5_299 ((hL 0 (by omega))) f_4089 rfl rfl rfl hl.1 rfl (Nat.le_of_ble_eq_true rfl) dX5_carryOutAll_84 ⟨by decide, by decide⟩ ⟨by decide, by decide⟩) rfl rfl (fun r_4099 F_4097 H locs hw hp_4098 => ?_)
            obtain ⟨h_4100, h_4101, h_4102, ⟨u_4105, h_4103⟩, h_4104⟩ := hp_4098
            subst h_4100
            refine lv_pop hx hb dX5_carryOutAll_87 rfl ?_
            refine lv_iinc (v := nI (c8 + 1)) (lv' := [(1, .int (nI (c8 + 1))), (4, .int (nI (s8 + 2))), (3, .int (nI (119))), (0, .ref (ad 0)), (2, .int (nI (s8)))]) hx hb dX5_carryOutAll_88 hl (k := 3) rfl (nI_add _ _) (by decide) rfl (fun ls hl => ?_)
            refine lv_iload hx hb dX5_carryOutAll_91 (lv_at hl 1 rfl) ?_
            refine lv_iconst (v := nI 4) hx hb dX5_carryOutAll_93 (by decide) ?_
            refine n_iadd hx hb dX5_carryOutAll_94 ?_
            refine lv_istore_n (lv' := [(2, .int (nI (s8 + 2 + 4))), (1, .int (nI (c8 + 1))), (4, .int (nI (s8 + 2))), (3, .int (nI (119))), (0, .ref (ad 0))]) hx hb dX5_carryOutAll_95 rfl hl (by decide) rfl (fun ls hl => ?_)
            refine lv_goto (tgt := 4) hx hb dX5_carryOutAll_96 (by decide) ?_
            obtain ⟨k, rfl⟩ : ∃ k9, k = k9 + 1 := ⟨k - 1, by omega⟩
            have hR2 := (run_go (c := c8) (st := st8) (k := k) (un := 20) e8 rfl hd8 c_12 (by omega)).symm.trans hR
            have hps : (ordS 119 (slA t9 (s8 + 1)) (slA t9 (s8 + 2)) (slA t9 (s8 + 2 + 2)) st8).2.1 ≤ 100000 := by show st8.2.1 - ordU 119 * st8.1 ≤ 100000; omega
            exact ih k (s8 + 2 + 4) (c8 + 1) (ordS 119 (slA t9 (s8 + 1)) (slA t9 (s8 + 2)) (slA t9 (s8 + 2 + 2)) st8) (by omega) (fun h => pr_next hq8 hd8 h) hR2 h2 h6 hps (by omega) (by omega) (by omega) F_4097 H _ hw h_4101 h_4102 ⟨_, h_4103⟩ (fun q hq => ((h_4104 q (fun i hS => hq i (by omega))).trans ((o_4087 q ).trans ((o_4079 q ).trans ((o_4071 q ).trans ((o_4060 q ).trans ((o_4055 q ).trans ((o_4049 q ).trans ((o_3909 q ).trans (fr q (fun i hS => hq i (by omega)))))))))))) ls (lv_sub hl [4, 1, 0] rfl)
          · skip
            refine lv_iload_n hx hb dX5_carryOutAll_42 rfl (lv_at hl 2 rfl) ?_
            have f_4106 : F_3905 (ad 134) = rw7 G u8 := (o_3909 (ad 134) ).trans h1348
            have f_4107 : F_4045 (ad 134) = rw7 G u8 := (o_4049 (ad 134) ).trans f_4106
            have f_4108 : F_4051 (ad 134) = rw7 G u8 := (o_4055 (ad 134) ).trans f_4107
            exact r_i C0 hr hlk hw (v := nI (c8)) rfl (by rw [← hR, run_poor (un := 20) e8 rfl (by omega)]; exact ⟨rfl, (hn8.keep (fun i0 hi => ((o_4055 (ad (i0)) )).trans (((o_4049 (ad (i0)) )).trans ((o_3909 (ad (i0)) ))))), (hrk8.keep (fun i0 hi => ((o_4055 (ad (i0)) )).trans (((o_4049 (ad (i0)) )).trans ((o_3909 (ad (i0)) ))))), ⟨_, f_4108⟩, (fun q hq => ((o_4055 q ).trans ((o_4049 q ).trans ((o_3909 q ).trans (fr q (fun i hS => hq i (by omega)))))))⟩) (Nat.le_refl _) (Nat.le_refl _) dX5_carryOutAll_43 hQ
        · skip
          rw [e8] at hl
          have hd8 : dgA t9 s8 = 2 := by unfold dgA; rw [e8]; decide
          refine lv_aload_n hx hb dX5_carryOutAll_24 rfl (lv_at hl 1 rfl) ?_
          have f_4109 : F_3905 (ad 0) = xO ad := (o_3909 (ad 0) ).trans f_3903
          refine q_get C0 hw ((hL 0 (by omega))) f_4109 fw_X5_12 rfl dX5_carryOutAll_25 ?_
          have f_4110 : F_3905 (ad 22) = .inr (3, [.ref (ad 23), .int (nI (st8.2.1)), .int (nI (st8.2.2.1)), .int (nI (st8.2.2.2.1)), .int (nI (st8.2.2.2.2.1))]) := (o_3909 (ad 22) ).trans hn8.1
          refine q_get C0 hw ((hL 22 (by omega))) f_4110 fw_X5_98 rfl dX5_carryOutAll_28 ?_
          refine lv_aload_n hx hb dX5_carryOutAll_31 rfl (lv_at hl 1 rfl) ?_
          refine lv_iload_n hx hb dX5_carryOutAll_32 rfl (lv_at hl 0 rfl) ?_
          refine q_calli hw (q_runS (As := [.int (nI (112))]) (c_X5_unitsOf_112 l G L F_3905 ) C0 hw sw_X5_225 rfl hl.1 rfl (Nat.le_of_ble_eq_true rfl) dX5_carryOutAll_33 ⟨by decide, by decide⟩ ⟨by decide, by decide⟩) rfl rfl (fun r_4113 F_4111 H locs hw hp_4112 => ?_)
          obtain ⟨he_4114, o_4115⟩ := hp_4112
          subst he_4114
          have f_4116 : F_4111 (ad 0) = xO ad := (o_4115 (ad 0) ).trans f_4109
          refine q_calli hw (q_runV (As := [.int (nI (6))]) (c_X5_costOf l G L F_4111 ad hL hin 6 st8 f_4116 (hn8.keep (fun i0 hi => ((o_4115 (ad (i0)) )).trans ((o_3909 (ad (i0)) ))))) C0 hw vw_X5_228 ((hL 0 (by omega))) f_4116 rfl rfl rfl hl.1 rfl (Nat.le_of_ble_eq_true rfl) dX5_carryOutAll_36 ⟨by decide, by decide⟩ ⟨by decide, by decide⟩) rfl rfl (fun r_4119 F_4117 H locs hw hp_4118 => ?_)
          obtain ⟨he_4120, o_4121⟩ := hp_4118
          subst he_4120
          refine n_icmp_ge (tgt := 44) hx hb dX5_carryOutAll_39 (by decide) (by omega) (by omega) (fun c_39 => ?_) (fun c_39 => ?_)
          · skip
            refine lv_iload_n hx hb dX5_carryOutAll_44 rfl (lv_at hl 3 rfl) ?_
            refine lv_iload_n hx hb dX5_carryOutAll_45 rfl (lv_at hl 0 rfl) ?_
            refine q_calli hw (q_runS (As := [.int (nI (112))]) (c_X4_digitsOf_112 l G L F_4117 ) C0 hw sw_X5_220 rfl hl.1 rfl (Nat.le_of_ble_eq_true rfl) dX5_carryOutAll_46 ⟨by decide, by decide⟩ ⟨by decide, by decide⟩) rfl rfl (fun r_4124 F_4122 H locs hw hp_4123 => ?_)
            obtain ⟨he_4125, o_4126⟩ := hp_4123
            subst he_4125
            refine n_iadd hx hb dX5_carryOutAll_49 ?_
            refine lv_istore (lv' := [(4, .int (nI (s8 + 2))), (3, .int (nI (112))), (0, .ref (ad 0)), (1, .int (nI (c8))), (2, .int (nI (s8)))]) hx hb dX5_carryOutAll_50 hl (by decide) rfl (fun ls hl => ?_)
            refine lv_aload_n hx hb dX5_carryOutAll_52 rfl (lv_at hl 2 rfl) ?_
            refine lv_iload_n hx hb dX5_carryOutAll_53 rfl (lv_at hl 1 rfl) ?_
            refine lv_aload_n hx hb dX5_carryOutAll_54 rfl (lv_at hl 2 rfl) ?_
            have f_4127 : F_4117 (ad 0) = xO ad := (o_4121 (ad 0) ).trans f_4116
            have f_4128 : F_4122 (ad 0) = xO ad := (o_4126 (ad 0) ).trans f_4127
            refine q_get C0 hw ((hL 0 (by omega))) f_4128 fw_X5_37 rfl dX5_carryOutAll_55 ?_
            refine lv_iload_n hx hb dX5_carryOutAll_58 rfl (lv_at hl 4 rfl) ?_
            refine lv_iconst (v := nI 1) hx hb dX5_carryOutAll_59 (by decide) ?_
            refine n_iadd hx hb dX5_carryOutAll_60 ?_
            have f_4129 : F_3905 (ad 5) = tO (ad 6) t9.1 := (o_3909 (ad 5) ).trans f_3904
            have f_4130 : F_4111 (ad 5) = tO (ad 6) t9.1 := (o_4115 (ad 5) ).trans f_4129
            have f_4131 : F_4117 (ad 5) = tO (ad 6) t9.1 := (o_4121 (ad 5) ).trans f_4130
            have f_4132 : F_4122 (ad 5) = tO (ad 6) t9.1 := (o_4126 (ad 5) ).trans f_4131
            refine q_calli hw (q_runV (As := [.int (nI (s8 + 1))]) (c_X4_slotAt l G L F_4122 ad hL hin t9 (htx.keep (fun i0 hi => ((o_4126 (ad (i0)) )).trans (((o_4121 (ad (i0)) )).trans (((o_4115 (ad (i0)) )).trans (((o_3909 (ad (i0)) )).trans ((fr (ad (i0)) (fun i hS => hin (i0) i (by omega) (by omega) (by omega))))))))) hco (s8 + 1) (by omega)) C0 hw vw_X5_305 ((hL 5 (by omega))) f_4132 rfl rfl rfl hl.1 rfl (Nat.le_of_ble_eq_true rfl) dX5_carryOutAll_61 ⟨by decide, by decide⟩ ⟨by decide, by decide⟩) rfl rfl (fun r_4135 F_4133 H locs hw hp_4134 => ?_)
            obtain ⟨he_4136, o_4137⟩ := hp_4134
            subst he_4136
            have sl_4138 := slA_lt t9 (s8 + 1)
            refine lv_aload_n hx hb dX5_carryOutAll_64 rfl (lv_at hl 2 rfl) ?_
            have f_4139 : F_4133 (ad 0) = xO ad := (o_4137 (ad 0) ).trans f_4128
            refine q_get C0 hw ((hL 0 (by omega))) f_4139 fw_X5_37 rfl dX5_carryOutAll_65 ?_
            refine lv_iload hx hb dX5_carryOutAll_68 (lv_at hl 0 rfl) ?_
            have f_4140 : F_4133 (ad 5) = tO (ad 6) t9.1 := (o_4137 (ad 5) ).trans f_4132
            refine q_calli hw (q_runV (As := [.int (nI (s8 + 2))]) (c_X4_slotAt l G L F_4133 ad hL hin t9 (htx.keep (fun i0 hi => ((o_4137 (ad (i0)) )).trans (((o_4126 (ad (i0)) )).trans (((o_4121 (ad (i0)) )).trans (((o_4115 (ad (i0)) )).trans (((o_3909 (ad (i0)) )).trans ((fr (ad (i0)) (fun i hS => hin (i0) i (by omega) (by omega) (by omega)))))))))) hco (s8 + 2) (by omega)) C0 hw vw_X5_305 ((hL 5 (by omega))) f_4140 rfl rfl rfl hl.1 rfl (Nat.le_of_ble_eq_true rfl) dX5_carryOutAll_70 ⟨by decide, by decide⟩ ⟨by decide, by decide⟩) rfl rfl (fun r_4143 F_4141 H locs hw hp_4142 => ?_)
            obtain ⟨he_4144, o_4145⟩ := hp_4142
            subst he_4144
            have sl_4146 := slA_lt t9 (s8 + 2)
            refine lv_aload_n hx hb dX5_carryOutAll_73 rfl (lv_at hl 2 rfl) ?_
            have f_4147 : F_4141 (ad 0) = xO ad := (o_4145 (ad 0) ).trans f_4139
            refine q_get C0 hw ((hL 0 (by omega))) f_4147 fw_X5_37 rfl dX5_carryOutAll_74 ?_
            refine lv_iload hx hb dX5_carryOutAll_77 (lv_at hl 0 rfl) ?_
            refine lv_iconst (v := nI 2) hx hb dX5_carryOutAll_79 (by decide) ?_
            refine n_iadd hx hb dX5_carryOutAll_80 ?_
            have f_4148 : F_4141 (ad 5) = tO (ad 6) t9.1 := (o_4145 (ad 5) ).trans f_4140
            refine q_calli hw (q_runV (As := [.int (nI (s8 + 2 + 2))]) (c_X4_slotAt l G L F_4141 ad hL hin t9 (htx.keep (fun i0 hi => ((o_4145 (ad (i0)) )).trans (((o_4137 (ad (i0)) )).trans (((o_4126 (ad (i0)) )).trans (((o_4121 (ad (i0)) )).trans (((o_4115 (ad (i0)) )).trans (((o_3909 (ad (i0)) )).trans ((fr (ad (i0)) (fun i hS => hin (i0) i (by omega) (by omega) (by omega))))))))))) hco (s8 + 2 + 2) (by omega)) C0 hw vw_X5_305 ((hL 5 (by omega))) f_4148 rfl rfl rfl hl.1 rfl (Nat.le_of_ble_eq_true rfl) dX5_carryOutAll_81 ⟨by decide, by decide⟩ ⟨by decide, by decide⟩) rfl rfl (fun r_4151 F_4149 H locs hw hp_4150 => ?_)
            obtain ⟨he_4152, o_4153⟩ := hp_4150
            subst he_4152
            have sl_4154 := slA_lt t9 (s8 + 2 + 2)
            have f_4155 : F_4149 (ad 0) = xO ad := (o_4153 (ad 0) ).trans f_4147
            have f_4156 : F_3905 (ad 134) = rw7 G u8 := (o_3909 (ad 134) ).trans h1348
            have f_4157 : F_4111 (ad 134) = rw7 G u8 := (o_4115 (ad 134) ).trans f_4156
            have f_4158 : F_4117 (ad 134) = rw7 G u8 := (o_4121 (ad 134) ).trans f_4157
            have f_4159 : F_4122 (ad 134) = rw7 G u8 := (o_4126 (ad 134) ).trans f_4158
            have f_4160 : F_4133 (ad 134) = rw7 G u8 := (o_4137 (ad 134) ).trans f_4159
            have f_4161 : F_4141 (ad 134) = rw7 G u8 := (o_4145 (ad 134) ).trans f_4160
            have f_4162 : F_4149 (ad 134) = rw7 G u8 := (o_4153 (ad 134) ).trans f_4161
            refine q_calli hw (q_runV (As := [.int (nI (112)), .int (nI (slA t9 (s8 + 1))), .int (nI (slA t9 (s8 + 2))), .int (nI (slA t9 (s8 + 2 + 2)))]) (c_X5_carryOut_112 l G L F_4149 ad hL hin (slA t9 (s8 + 1)) (slA t9 (s8 + 2)) (slA t9 (s8 + 2 + 2)) st8 _ f_4155 (hn8.keep (fun i0 hi => ((o_4153 (ad (i0)) )).trans (((o_4145 (ad (i0)) )).trans (((o_4137 (ad (i0)) )).trans (((o_4126 (ad (i0)) )).trans (((o_4121 (ad (i0)) )).trans (((o_4115 (ad (i0)) )).trans ((o_3909 (ad (i0)) ))))))))) (hrk8.keep (fun i0 hi => ((o_4153 (ad (i0)) )).trans (((o_4145 (ad (i0)) )).trans (((o_4137 (ad (i0)) )).trans (((o_4126 (ad (i0)) )).trans (((o_4121 (ad (i0)) )).trans (((o_4115 (ad (i0)) )).trans ((o_3909 (ad (i0)) ))))))))) f_4162 (by omega) (by omega) (by omega) (by omega) (by omega) (by omega) (by omega)) C0 hw vw_X5_299 ((hL 0 (by omega))) f_4155 rfl rfl rfl hl.1 rfl (Nat.le_of_ble_eq_true rfl) dX5_carryOutAll_84 ⟨by decide, by decide⟩ ⟨by decide, by decide⟩) rfl rfl (fun r_4165 F_4163 H locs hw hp_4164 => ?_)
            obtain ⟨h_4166, h_4167, h_4168, ⟨u_4171, h_4169⟩, h_4170⟩ := hp_4164
            subst h_4166
            refine lv_pop hx hb dX5_carryOutAll_87 rfl ?_
            refine lv_iinc (v := nI (c8 + 1)) (lv' := [(1, .int (nI (c8 + 1))), (4, .int (nI (s8 + 2))), (3, .int (nI (112))), (0, .ref (ad 0)), (2, .int (nI (s8)))]) hx hb dX5_carryOutAll_88 hl (k := 3) rfl (nI_add _ _) (by decide) rfl (fun ls hl => ?_)
            refine lv_iload hx hb dX5_carryOutAll_91 (lv_at hl 1 rfl) ?_
            refine lv_iconst (v := nI 4) hx hb dX5_carryOutAll_93 (by decide) ?_
            refine n_iadd hx hb dX5_carryOutAll_94 ?_
            refine lv_istore_n (lv' := [(2, .int (nI (s8 + 2 + 4))), (1, .int (nI (c8 + 1))), (4, .int (nI (s8 + 2))), (3, .int (nI (112))), (0, .ref (ad 0))]) hx hb dX5_carryOutAll_95 rfl hl (by decide) rfl (fun ls hl => ?_)
            refine lv_goto (tgt := 4) hx hb dX5_carryOutAll_96 (by decide) ?_
            obtain ⟨k, rfl⟩ : ∃ k9, k = k9 + 1 := ⟨k - 1, by omega⟩
            have hR2 := (run_go (c := c8) (st := st8) (k := k) (un := 6) e8 rfl hd8 c_12 (by omega)).symm.trans hR
            have hps : (ordS 112 (slA t9 (s8 + 1)) (slA t9 (s8 + 2)) (slA t9 (s8 + 2 + 2)) st8).2.1 ≤ 100000 := by show st8.2.1 - ordU 112 * st8.1 ≤ 100000; omega
            exact ih k (s8 + 2 + 4) (c8 + 1) (ordS 112 (slA t9 (s8 + 1)) (slA t9 (s8 + 2)) (slA t9 (s8 + 2 + 2)) st8) (by omega) (fun h => pr_next hq8 hd8 h) hR2 h2 h6 hps (by omega) (by omega) (by omega) F_4163 H _ hw h_4167 h_4168 ⟨_, h_4169⟩ (fun q hq => ((h_4170 q (fun i hS => hq i (by omega))).trans ((o_4153 q ).trans ((o_4145 q ).trans ((o_4137 q ).trans ((o_4126 q ).trans ((o_4121 q ).trans ((o_4115 q ).trans ((o_3909 q ).trans (fr q (fun i hS => hq i (by omega)))))))))))) ls (lv_sub hl [4, 1, 0] rfl)
          · skip
            refine lv_iload_n hx hb dX5_carryOutAll_42 rfl (lv_at hl 2 rfl) ?_
            have f_4172 : F_3905 (ad 134) = rw7 G u8 := (o_3909 (ad 134) ).trans h1348
            have f_4173 : F_4111 (ad 134) = rw7 G u8 := (o_4115 (ad 134) ).trans f_4172
            have f_4174 : F_4117 (ad 134) = rw7 G u8 := (o_4121 (ad 134) ).trans f_4173
            exact r_i C0 hr hlk hw (v := nI (c8)) rfl (by rw [← hR, run_poor (un := 6) e8 rfl (by omega)]; exact ⟨rfl, (hn8.keep (fun i0 hi => ((o_4121 (ad (i0)) )).trans (((o_4115 (ad (i0)) )).trans ((o_3909 (ad (i0)) ))))), (hrk8.keep (fun i0 hi => ((o_4121 (ad (i0)) )).trans (((o_4115 (ad (i0)) )).trans ((o_3909 (ad (i0)) ))))), ⟨_, f_4174⟩, (fun q hq => ((o_4121 q ).trans ((o_4115 q ).trans ((o_3909 q ).trans (fr q (fun i hS => hq i (by omega)))))))⟩) (Nat.le_refl _) (Nat.le_refl _) dX5_carryOutAll_43 hQ
        · skip
          rw [e8] at hl
          have hd8 : dgA t9 s8 = 1 := by unfold dgA; rw [e8]; decide
          refine lv_aload_n hx hb dX5_carryOutAll_24 rfl (lv_at hl 1 rfl) ?_
          have f_4175 : F_3905 (ad 0) = xO ad := (o_3909 (ad 0) ).trans f_3903
          refine q_get C0 hw ((hL 0 (by omega))) f_4175 fw_X5_12 rfl dX5_carryOutAll_25 ?_
          have f_4176 : F_3905 (ad 22) = .inr (3, [.ref (ad 23), .int (nI (st8.2.1)), .int (nI (st8.2.2.1)), .int (nI (st8.2.2.2.1)), .int (nI (st8.2.2.2.2.1))]) := (o_3909 (ad 22) ).trans hn8.1
          refine q_get C0 hw ((hL 22 (by omega))) f_4176 fw_X5_98 rfl dX5_carryOutAll_28 ?_
          refine lv_aload_n hx hb dX5_carryOutAll_31 rfl (lv_at hl 1 rfl) ?_
          refine lv_iload_n hx hb dX5_carryOutAll_32 rfl (lv_at hl 0 rfl) ?_
          refine q_calli hw (q_runS (As := [.int (nI (108))]) (c_X5_unitsOf_108 l G L F_3905 ) C0 hw sw_X5_225 rfl hl.1 rfl (Nat.le_of_ble_eq_true rfl) dX5_carryOutAll_33 ⟨by decide, by decide⟩ ⟨by decide, by decide⟩) rfl rfl (fun r_4179 F_4177 H locs hw hp_4178 => ?_)
          obtain ⟨he_4180, o_4181⟩ := hp_4178
          subst he_4180
          have f_4182 : F_4177 (ad 0) = xO ad := (o_4181 (ad 0) ).trans f_4175
          refine q_calli hw (q_runV (As := [.int (nI (6))]) (c_X5_costOf l G L F_4177 ad hL hin 6 st8 f_4182 (hn8.keep (fun i0 hi => ((o_4181 (ad (i0)) )).trans ((o_3909 (ad (i0)) ))))) C0 hw vw_X5_228 ((hL 0 (by omega))) f_4182 rfl rfl rfl hl.1 rfl (Nat.le_of_ble_eq_true rfl) dX5_carryOutAll_36 ⟨by decide, by decide⟩ ⟨by decide, by decide⟩) rfl rfl (fun r_4185 F_4183 H locs hw hp_4184 => ?_)
          obtain ⟨he_4186, o_4187⟩ := hp_4184
          subst he_4186
          refine n_icmp_ge (tgt := 44) hx hb dX5_carryOutAll_39 (by decide) (by omega) (by omega) (fun c_39 => ?_) (fun c_39 => ?_)
          · skip
            refine lv_iload_n hx hb dX5_carryOutAll_44 rfl (lv_at hl 3 rfl) ?_
            refine lv_iload_n hx hb dX5_carryOutAll_45 rfl (lv_at hl 0 rfl) ?_
            refine q_calli hw (q_runS (As := [.int (nI (108))]) (c_X4_digitsOf_108 l G L F_4183 ) C0 hw sw_X5_220 rfl hl.1 rfl (Nat.le_of_ble_eq_true rfl) dX5_carryOutAll_46 ⟨by decide, by decide⟩ ⟨by decide, by decide⟩) rfl rfl (fun r_4190 F_4188 H locs hw hp_4189 => ?_)
            obtain ⟨he_4191, o_4192⟩ := hp_4189
            subst he_4191
            refine n_iadd hx hb dX5_carryOutAll_49 ?_
            refine lv_istore (lv' := [(4, .int (nI (s8 + 1))), (3, .int (nI (108))), (0, .ref (ad 0)), (1, .int (nI (c8))), (2, .int (nI (s8)))]) hx hb dX5_carryOutAll_50 hl (by decide) rfl (fun ls hl => ?_)
            refine lv_aload_n hx hb dX5_carryOutAll_52 rfl (lv_at hl 2 rfl) ?_
            refine lv_iload_n hx hb dX5_carryOutAll_53 rfl (lv_at hl 1 rfl) ?_
            refine lv_aload_n hx hb dX5_carryOutAll_54 rfl (lv_at hl 2 rfl) ?_
            have f_4193 : F_4183 (ad 0) = xO ad := (o_4187 (ad 0) ).trans f_4182
            have f_4194 : F_4188 (ad 0) = xO ad := (o_4192 (ad 0) ).trans f_4193
            refine q_get C0 hw ((hL 0 (by omega))) f_4194 fw_X5_37 rfl dX5_carryOutAll_55 ?_
            refine lv_iload_n hx hb dX5_carryOutAll_58 rfl (lv_at hl 4 rfl) ?_
            refine lv_iconst (v := nI 1) hx hb dX5_carryOutAll_59 (by decide) ?_
            refine n_iadd hx hb dX5_carryOutAll_60 ?_
            have f_4195 : F_3905 (ad 5) = tO (ad 6) t9.1 := (o_3909 (ad 5) ).trans f_3904
            have f_4196 : F_4177 (ad 5) = tO (ad 6) t9.1 := (o_4181 (ad 5) ).trans f_4195
            have f_4197 : F_4183 (ad 5) = tO (ad 6) t9.1 := (o_4187 (ad 5) ).trans f_4196
            have f_4198 : F_4188 (ad 5) = tO (ad 6) t9.1 := (o_4192 (ad 5) ).trans f_4197
            refine q_calli hw (q_runV (As := [.int (nI (s8 + 1))]) (c_X4_slotAt l G L F_4188 ad hL hin t9 (htx.keep (fun i0 hi => ((o_4192 (ad (i0)) )).trans (((o_4187 (ad (i0)) )).trans (((o_4181 (ad (i0)) )).trans (((o_3909 (ad (i0)) )).trans ((fr (ad (i0)) (fun i hS => hin (i0) i (by omega) (by omega) (by omega))))))))) hco (s8 + 1) (by omega)) C0 hw vw_X5_305 ((hL 5 (by omega))) f_4198 rfl rfl rfl hl.1 rfl (Nat.le_of_ble_eq_true rfl) dX5_carryOutAll_61 ⟨by decide, by decide⟩ ⟨by decide, by decide⟩) rfl rfl (fun r_4201 F_4199 H locs hw hp_4200 => ?_)
            obtain ⟨he_4202, o_4203⟩ := hp_4200
            subst he_4202
            have sl_4204 := slA_lt t9 (s8 + 1)
            refine lv_aload_n hx hb dX5_carryOutAll_64 rfl (lv_at hl 2 rfl) ?_
            have f_4205 : F_4199 (ad 0) = xO ad := (o_4203 (ad 0) ).trans f_4194
            refine q_get C0 hw ((hL 0 (by omega))) f_4205 fw_X5_37 rfl dX5_carryOutAll_65 ?_
            refine lv_iload hx hb dX5_carryOutAll_68 (lv_at hl 0 rfl) ?_
            have f_4206 : F_4199 (ad 5) = tO (ad 6) t9.1 := (o_4203 (ad 5) ).trans f_4198
            refine q_calli hw (q_runV (As := [.int (nI (s8 + 1))]) (c_X4_slotAt l G L F_4199 ad hL hin t9 (htx.keep (fun i0 hi => ((o_4203 (ad (i0)) )).trans (((o_4192 (ad (i0)) )).trans (((o_4187 (ad (i0)) )).trans (((o_4181 (ad (i0)) )).trans (((o_3909 (ad (i0)) )).trans ((fr (ad (i0)) (fun i hS => hin (i0) i (by omega) (by omega) (by omega)))))))))) hco (s8 + 1) (by omega)) C0 hw vw_X5_305 ((hL 5 (by omega))) f_4206 rfl rfl rfl hl.1 rfl (Nat.le_of_ble_eq_true rfl) dX5_carryOutAll_70 ⟨by decide, by decide⟩ ⟨by decide, by decide⟩) rfl rfl (fun r_4209 F_4207 H locs hw hp_4208 => ?_)
            obtain ⟨he_4210, o_4211⟩ := hp_4208
            subst he_4210
            have sl_4212 := slA_lt t9 (s8 + 1)
            refine lv_aload_n hx hb dX5_carryOutAll_73 rfl (lv_at hl 2 rfl) ?_
            have f_4213 : F_4207 (ad 0) = xO ad := (o_4211 (ad 0) ).trans f_4205
            refine q_get C0 hw ((hL 0 (by omega))) f_4213 fw_X5_37 rfl dX5_carryOutAll_74 ?_
            refine lv_iload hx hb dX5_carryOutAll_77 (lv_at hl 0 rfl) ?_
            refine lv_iconst (v := nI 2) hx hb dX5_carryOutAll_79 (by decide) ?_
            refine n_iadd hx hb dX5_carryOutAll_80 ?_
            have f_4214 : F_4207 (ad 5) = tO (ad 6) t9.1 := (o_4211 (ad 5) ).trans f_4206
            refine q_calli hw (q_runV (As := [.int (nI (s8 + 1 + 2))]) (c_X4_slotAt l G L F_4207 ad hL hin t9 (htx.keep (fun i0 hi => ((o_4211 (ad (i0)) )).trans (((o_4203 (ad (i0)) )).trans (((o_4192 (ad (i0)) )).trans (((o_4187 (ad (i0)) )).trans (((o_4181 (ad (i0)) )).trans (((o_3909 (ad (i0)) )).trans ((fr (ad (i0)) (fun i hS => hin (i0) i (by omega) (by omega) (by omega))))))))))) hco (s8 + 1 + 2) (by omega)) C0 hw vw_X5_305 ((hL 5 (by omega))) f_4214 rfl rfl rfl hl.1 rfl (Nat.le_of_ble_eq_true rfl) dX5_carryOutAll_81 ⟨by decide, by decide⟩ ⟨by decide, by decide⟩) rfl rfl (fun r_4217 F_4215 H locs hw hp_4216 => ?_)
            obtain ⟨he_4218, o_4219⟩ := hp_4216
            subst he_4218
            have sl_4220 := slA_lt t9 (s8 + 1 + 2)
            have f_4221 : F_4215 (ad 0) = xO ad := (o_4219 (ad 0) ).trans f_4213
            have f_4222 : F_3905 (ad 134) = rw7 G u8 := (o_3909 (ad 134) ).trans h1348
            have f_4223 : F_4177 (ad 134) = rw7 G u8 := (o_4181 (ad 134) ).trans f_4222
            have f_4224 : F_4183 (ad 134) = rw7 G u8 := (o_4187 (ad 134) ).trans f_4223
            have f_4225 : F_4188 (ad 134) = rw7 G u8 := (o_4192 (ad 134) ).trans f_4224
            have f_4226 : F_4199 (ad 134) = rw7 G u8 := (o_4203 (ad 134) ).trans f_4225
            have f_4227 : F_4207 (ad 134) = rw7 G u8 := (o_4211 (ad 134) ).trans f_4226
            have f_4228 : F_4215 (ad 134) = rw7 G u8 := (o_4219 (ad 134) ).trans f_4227
            refine q_calli hw (q_runV (As := [.int (nI (108)), .int (nI (slA t9 (s8 + 1))), .int (nI (slA t9 (s8 + 1))), .int (nI (slA t9 (s8 + 1 + 2)))]) (c_X5_carryOut_108 l G L F_4215 ad hL hin (slA t9 (s8 + 1)) (slA t9 (s8 + 1)) (slA t9 (s8 + 1 + 2)) st8 _ f_4221 (hn8.keep (fun i0 hi => ((o_4219 (ad (i0)) )).trans (((o_4211 (ad (i0)) )).trans (((o_4203 (ad (i0)) )).trans (((o_4192 (ad (i0)) )).trans (((o_4187 (ad (i0)) )).trans (((o_4181 (ad (i0)) )).trans ((o_3909 (ad (i0)) ))))))))) (hrk8.keep (fun i0 hi => ((o_4219 (ad (i0)) )).trans (((o_4211 (ad (i0)) )).trans (((o_4203 (ad (i0)) )).trans (((o_4192 (ad (i0)) )).trans (((o_4187 (ad (i0)) )).trans (((o_4181 (ad (i0)) )).trans ((o_3909 (ad (i0)) ))))))))) f_4228 (by omega) (by omega) (by omega) (by omega) (by omega) (by omega) (by omega)) C0 hw vw_X5_299 ((hL 0 (by omega))) f_4221 rfl rfl rfl hl.1 rfl (Nat.le_of_ble_eq_true rfl) dX5_carryOutAll_84 ⟨by decide, by decide⟩ ⟨by decide, by decide⟩) rfl rfl (fun r_4231 F_4229 H locs hw hp_4230 => ?_)
            obtain ⟨h_4232, h_4233, h_4234, ⟨u_4237, h_4235⟩, h_4236⟩ := hp_4230
            subst h_4232
            refine lv_pop hx hb dX5_carryOutAll_87 rfl ?_
            refine lv_iinc (v := nI (c8 + 1)) (lv' := [(1, .int (nI (c8 + 1))), (4, .int (nI (s8 + 1))), (3, .int (nI (108))), (0, .ref (ad 0)), (2, .int (nI (s8)))]) hx hb dX5_carryOutAll_88 hl (k := 3) rfl (nI_add _ _) (by decide) rfl (fun ls hl => ?_)
            refine lv_iload hx hb dX5_carryOutAll_91 (lv_at hl 1 rfl) ?_
            refine lv_iconst (v := nI 4) hx hb dX5_carryOutAll_93 (by decide) ?_
            refine n_iadd hx hb dX5_carryOutAll_94 ?_
            refine lv_istore_n (lv' := [(2, .int (nI (s8 + 1 + 4))), (1, .int (nI (c8 + 1))), (4, .int (nI (s8 + 1))), (3, .int (nI (108))), (0, .ref (ad 0))]) hx hb dX5_carryOutAll_95 rfl hl (by decide) rfl (fun ls hl => ?_)
            refine lv_goto (tgt := 4) hx hb dX5_carryOutAll_96 (by decide) ?_
            obtain ⟨k, rfl⟩ : ∃ k9, k = k9 + 1 := ⟨k - 1, by omega⟩
            have hR2 := (run_go (c := c8) (st := st8) (k := k) (un := 6) e8 rfl hd8 c_12 (by omega)).symm.trans hR
            have hps : (ordS 108 (slA t9 (s8 + 1)) (slA t9 (s8 + 1)) (slA t9 (s8 + 1 + 2)) st8).2.1 ≤ 100000 := by show st8.2.1 - ordU 108 * st8.1 ≤ 100000; omega
            exact ih k (s8 + 1 + 4) (c8 + 1) (ordS 108 (slA t9 (s8 + 1)) (slA t9 (s8 + 1)) (slA t9 (s8 + 1 + 2)) st8) (by omega) (fun h => pr_next hq8 hd8 h) hR2 h2 h6 hps (by omega) (by omega) (by omega) F_4229 H _ hw h_4233 h_4234 ⟨_, h_4235⟩ (fun q hq => ((h_4236 q (fun i hS => hq i (by omega))).trans ((o_4219 q ).trans ((o_4211 q ).trans ((o_4203 q ).trans ((o_4192 q ).trans ((o_4187 q ).trans ((o_4181 q ).trans ((o_3909 q ).trans (fr q (fun i hS => hq i (by omega)))))))))))) ls (lv_sub hl [4, 1, 0] rfl)
          · skip
            refine lv_iload_n hx hb dX5_carryOutAll_42 rfl (lv_at hl 2 rfl) ?_
            have f_4238 : F_3905 (ad 134) = rw7 G u8 := (o_3909 (ad 134) ).trans h1348
            have f_4239 : F_4177 (ad 134) = rw7 G u8 := (o_4181 (ad 134) ).trans f_4238
            have f_4240 : F_4183 (ad 134) = rw7 G u8 := (o_4187 (ad 134) ).trans f_4239
            exact r_i C0 hr hlk hw (v := nI (c8)) rfl (by rw [← hR, run_poor (un := 6) e8 rfl (by omega)]; exact ⟨rfl, (hn8.keep (fun i0 hi => ((o_4187 (ad (i0)) )).trans (((o_4181 (ad (i0)) )).trans ((o_3909 (ad (i0)) ))))), (hrk8.keep (fun i0 hi => ((o_4187 (ad (i0)) )).trans (((o_4181 (ad (i0)) )).trans ((o_3909 (ad (i0)) ))))), ⟨_, f_4240⟩, (fun q hq => ((o_4187 q ).trans ((o_4181 q ).trans ((o_3909 q ).trans (fr q (fun i hS => hq i (by omega)))))))⟩) (Nat.le_refl _) (Nat.le_refl _) dX5_carryOutAll_43 hQ
        · skip
          rw [e8] at hl
          have hd8 : dgA t9 s8 = 1 := by unfold dgA; rw [e8]; decide
          refine lv_aload_n hx hb dX5_carryOutAll_24 rfl (lv_at hl 1 rfl) ?_
          have f_4241 : F_3905 (ad 0) = xO ad := (o_3909 (ad 0) ).trans f_3903
          refine q_get C0 hw ((hL 0 (by omega))) f_4241 fw_X5_12 rfl dX5_carryOutAll_25 ?_
          have f_4242 : F_3905 (ad 22) = .inr (3, [.ref (ad 23), .int (nI (st8.2.1)), .int (nI (st8.2.2.1)), .int (nI (st8.2.2.2.1)), .int (nI (st8.2.2.2.2.1))]) := (o_3909 (ad 22) ).trans hn8.1
          refine q_get C0 hw ((hL 22 (by omega))) f_4242 fw_X5_98 rfl dX5_carryOutAll_28 ?_
          refine lv_aload_n hx hb dX5_carryOutAll_31 rfl (lv_at hl 1 rfl) ?_
          refine lv_iload_n hx hb dX5_carryOutAll_32 rfl (lv_at hl 0 rfl) ?_
          refine q_calli hw (q_runS (As := [.int (nI (101))]) (c_X5_unitsOf_101 l G L F_3905 ) C0 hw sw_X5_225 rfl hl.1 rfl (Nat.le_of_ble_eq_true rfl) dX5_carryOutAll_33 ⟨by decide, by decide⟩ ⟨by decide, by decide⟩) rfl rfl (fun r_4245 F_4243 H locs hw hp_4244 => ?_)
          obtain ⟨he_4246, o_4247⟩ := hp_4244
          subst he_4246
          have f_4248 : F_4243 (ad 0) = xO ad := (o_4247 (ad 0) ).trans f_4241
          refine q_calli hw (q_runV (As := [.int (nI (5))]) (c_X5_costOf l G L F_4243 ad hL hin 5 st8 f_4248 (hn8.keep (fun i0 hi => ((o_4247 (ad (i0)) )).trans ((o_3909 (ad (i0)) ))))) C0 hw vw_X5_228 ((hL 0 (by omega))) f_4248 rfl rfl rfl hl.1 rfl (Nat.le_of_ble_eq_true rfl) dX5_carryOutAll_36 ⟨by decide, by decide⟩ ⟨by decide, by decide⟩) rfl rfl (fun r_4251 F_4249 H locs hw hp_4250 => ?_)
          obtain ⟨he_4252, o_4253⟩ := hp_4250
          subst he_4252
          refine n_icmp_ge (tgt := 44) hx hb dX5_carryOutAll_39 (by decide) (by omega) (by omega) (fun c_39 => ?_) (fun c_39 => ?_)
          · skip
            refine lv_iload_n hx hb dX5_carryOutAll_44 rfl (lv_at hl 3 rfl) ?_
            refine lv_iload_n hx hb dX5_carryOutAll_45 rfl (lv_at hl 0 rfl) ?_
            refine q_calli hw (q_runS (As := [.int (nI (101))]) (c_X4_digitsOf_101 l G L F_4249 ) C0 hw sw_X5_220 rfl hl.1 rfl (Nat.le_of_ble_eq_true rfl) dX5_carryOutAll_46 ⟨by decide, by decide⟩ ⟨by decide, by decide⟩) rfl rfl (fun r_4256 F_4254 H locs hw hp_4255 => ?_)
            obtain ⟨he_4257, o_4258⟩ := hp_4255
            subst he_4257
            refine n_iadd hx hb dX5_carryOutAll_49 ?_
            refine lv_istore (lv' := [(4, .int (nI (s8 + 1))), (3, .int (nI (101))), (0, .ref (ad 0)), (1, .int (nI (c8))), (2, .int (nI (s8)))]) hx hb dX5_carryOutAll_50 hl (by decide) rfl (fun ls hl => ?_)
            refine lv_aload_n hx hb dX5_carryOutAll_52 rfl (lv_at hl 2 rfl) ?_
            refine lv_iload_n hx hb dX5_carryOutAll_53 rfl (lv_at hl 1 rfl) ?_
            refine lv_aload_n hx hb dX5_carryOutAll_54 rfl (lv_at hl 2 rfl) ?_
            have f_4259 : F_4249 (ad 0) = xO ad := (o_4253 (ad 0) ).trans f_4248
            have f_4260 : F_4254 (ad 0) = xO ad := (o_4258 (ad 0) ).trans f_4259
            refine q_get C0 hw ((hL 0 (by omega))) f_4260 fw_X5_37 rfl dX5_carryOutAll_55 ?_
            refine lv_iload_n hx hb dX5_carryOutAll_58 rfl (lv_at hl 4 rfl) ?_
            refine lv_iconst (v := nI 1) hx hb dX5_carryOutAll_59 (by decide) ?_
            refine n_iadd hx hb dX5_carryOutAll_60 ?_
            have f_4261 : F_3905 (ad 5) = tO (ad 6) t9.1 := (o_3909 (ad 5) ).trans f_3904
            have f_4262 : F_4243 (ad 5) = tO (ad 6) t9.1 := (o_4247 (ad 5) ).trans f_4261
            have f_4263 : F_4249 (ad 5) = tO (ad 6) t9.1 := (o_4253 (ad 5) ).trans f_4262
            have f_4264 : F_4254 (ad 5) = tO (ad 6) t9.1 := (o_4258 (ad 5) ).trans f_4263
            refine q_calli hw (q_runV (As := [.int (nI (s8 + 1))]) (c_X4_slotAt l G L F_4254 ad hL hin t9 (htx.keep (fun i0 hi => ((o_4258 (ad (i0)) )).trans (((o_4253 (ad (i0)) )).trans (((o_4247 (ad (i0)) )).trans (((o_3909 (ad (i0)) )).trans ((fr (ad (i0)) (fun i hS => hin (i0) i (by omega) (by omega) (by omega))))))))) hco (s8 + 1) (by omega)) C0 hw vw_X5_305 ((hL 5 (by omega))) f_4264 rfl rfl rfl hl.1 rfl (Nat.le_of_ble_eq_true rfl) dX5_carryOutAll_61 ⟨by decide, by decide⟩ ⟨by decide, by decide⟩) rfl rfl (fun r_4267 F_4265 H locs hw hp_4266 => ?_)
            obtain ⟨he_4268, o_4269⟩ := hp_4266
            subst he_4268
            have sl_4270 := slA_lt t9 (s8 + 1)
            refine lv_aload_n hx hb dX5_carryOutAll_64 rfl (lv_at hl 2 rfl) ?_
            have f_4271 : F_4265 (ad 0) = xO ad := (o_4269 (ad 0) ).trans f_4260
            refine q_get C0 hw ((hL 0 (by omega))) f_4271 fw_X5_37 rfl dX5_carryOutAll_65 ?_
            refine lv_iload hx hb dX5_carryOutAll_68 (lv_at hl 0 rfl) ?_
            have f_4272 : F_4265 (ad 5) = tO (ad 6) t9.1 := (o_4269 (ad 5) ).trans f_4264
            refine q_calli hw (q_runV (As := [.int (nI (s8 + 1))]) (c_X4_slotAt l G L F_4265 ad hL hin t9 (htx.keep (fun i0 hi => ((o_4269 (ad (i0)) )).trans (((o_4258 (ad (i0)) )).trans (((o_4253 (ad (i0)) )).trans (((o_4247 (ad (i0)) )).trans (((o_3909 (ad (i0)) )).trans ((fr (ad (i0)) (fun i hS => hin (i0) i (by omega) (by omega) (by omega)))))))))) hco (s8 + 1) (by omega)) C0 hw vw_X5_305 ((hL 5 (by omega))) f_4272 rfl rfl rfl hl.1 rfl (Nat.le_of_ble_eq_true rfl) dX5_carryOutAll_70 ⟨by decide, by decide⟩ ⟨by decide, by decide⟩) rfl rfl (fun r_4275 F_4273 H locs hw hp_4274 => ?_)
            obtain ⟨he_4276, o_4277⟩ := hp_4274
            subst he_4276
            have sl_4278 := slA_lt t9 (s8 + 1)
            refine lv_aload_n hx hb dX5_carryOutAll_73 rfl (lv_at hl 2 rfl) ?_
            have f_4279 : F_4273 (ad 0) = xO ad := (o_4277 (ad 0) ).trans f_4271
            refine q_get C0 hw ((hL 0 (by omega))) f_4279 fw_X5_37 rfl dX5_carryOutAll_74 ?_
            refine lv_iload hx hb dX5_carryOutAll_77 (lv_at hl 0 rfl) ?_
            refine lv_iconst (v := nI 2) hx hb dX5_carryOutAll_79 (by decide) ?_
            refine n_iadd hx hb dX5_carryOutAll_80 ?_
            have f_4280 : F_4273 (ad 5) = tO (ad 6) t9.1 := (o_4277 (ad 5) ).trans f_4272
            refine q_calli hw (q_runV (As := [.int (nI (s8 + 1 + 2))]) (c_X4_slotAt l G L F_4273 ad hL hin t9 (htx.keep (fun i0 hi => ((o_4277 (ad (i0)) )).trans (((o_4269 (ad (i0)) )).trans (((o_4258 (ad (i0)) )).trans (((o_4253 (ad (i0)) )).trans (((o_4247 (ad (i0)) )).trans (((o_3909 (ad (i0)) )).trans ((fr (ad (i0)) (fun i hS => hin (i0) i (by omega) (by omega) (by omega))))))))))) hco (s8 + 1 + 2) (by omega)) C0 hw vw_X5_305 ((hL 5 (by omega))) f_4280 rfl rfl rfl hl.1 rfl (Nat.le_of_ble_eq_true rfl) dX5_carryOutAll_81 ⟨by decide, by decide⟩ ⟨by decide, by decide⟩) rfl rfl (fun r_4283 F_4281 H locs hw hp_4282 => ?_)
            obtain ⟨he_4284, o_4285⟩ := hp_4282
            subst he_4284
            have sl_4286 := slA_lt t9 (s8 + 1 + 2)
            have f_4287 : F_4281 (ad 0) = xO ad := (o_4285 (ad 0) ).trans f_4279
            have f_4288 : F_3905 (ad 134) = rw7 G u8 := (o_3909 (ad 134) ).trans h1348
            have f_4289 : F_4243 (ad 134) = rw7 G u8 := (o_4247 (ad 134) ).trans f_4288
            have f_4290 : F_4249 (ad 134) = rw7 G u8 := (o_4253 (ad 134) ).trans f_4289
            have f_4291 : F_4254 (ad 134) = rw7 G u8 := (o_4258 (ad 134) ).trans f_4290
            have f_4292 : F_4265 (ad 134) = rw7 G u8 := (o_4269 (ad 134) ).trans f_4291
            have f_4293 : F_4273 (ad 134) = rw7 G u8 := (o_4277 (ad 134) ).trans f_4292
            have f_4294 : F_4281 (ad 134) = rw7 G u8 := (o_4285 (ad 134) ).trans f_4293
            refine q_calli hw (q_runV (As := [.int (nI (101)), .int (nI (slA t9 (s8 + 1))), .int (nI (slA t9 (s8 + 1))), .int (nI (slA t9 (s8 + 1 + 2)))]) (c_X5_carryOut_101 l G L F_4281 ad hL hin (slA t9 (s8 + 1)) (slA t9 (s8 + 1)) (slA t9 (s8 + 1 + 2)) st8 _ f_4287 (hn8.keep (fun i0 hi => ((o_4285 (ad (i0)) )).trans (((o_4277 (ad (i0)) )).trans (((o_4269 (ad (i0)) )).trans (((o_4258 (ad (i0)) )).trans (((o_4253 (ad (i0)) )).trans (((o_4247 (ad (i0)) )).trans ((o_3909 (ad (i0)) ))))))))) (hrk8.keep (fun i0 hi => ((o_4285 (ad (i0)) )).trans (((o_4277 (ad (i0)) )).trans (((o_4269 (ad (i0)) )).trans (((o_4258 (ad (i0)) )).trans (((o_4253 (ad (i0)) )).trans (((o_4247 (ad (i0)) )).trans ((o_3909 (ad (i0)) ))))))))) f_4294 (by omega) (by omega) (by omega) (by omega) (by omega) (by omega) (by omega)) C0 hw vw_X5_299 ((hL 0 (by omega))) f_4287 rfl rfl rfl hl.1 rfl (Nat.le_of_ble_eq_true rfl) dX5_carryOutAll_84 ⟨by decide, by decide⟩ ⟨by decide, by decide⟩) rfl rfl (fun r_4297 F_4295 H locs hw hp_4296 => ?_)
            obtain ⟨h_4298, h_4299, h_4300, ⟨u_4303, h_4301⟩, h_4302⟩ := hp_4296
            subst h_4298
            refine lv_pop hx hb dX5_carryOutAll_87 rfl ?_
            refine lv_iinc (v := nI (c8 + 1)) (lv' := [(1, .int (nI (c8 + 1))), (4, .int (nI (s8 + 1))), (3, .int (nI (101))), (0, .ref (ad 0)), (2, .int (nI (s8)))]) hx hb dX5_carryOutAll_88 hl (k := 3) rfl (nI_add _ _) (by decide) rfl (fun ls hl => ?_)
            refine lv_iload hx hb dX5_carryOutAll_91 (lv_at hl 1 rfl) ?_
            refine lv_iconst (v := nI 4) hx hb dX5_carryOutAll_93 (by decide) ?_
            refine n_iadd hx hb dX5_carryOutAll_94 ?_
            refine lv_istore_n (lv' := [(2, .int (nI (s8 + 1 + 4))), (1, .int (nI (c8 + 1))), (4, .int (nI (s8 + 1))), (3, .int (nI (101))), (0, .ref (ad 0))]) hx hb dX5_carryOutAll_95 rfl hl (by decide) rfl (fun ls hl => ?_)
            refine lv_goto (tgt := 4) hx hb dX5_carryOutAll_96 (by decide) ?_
            obtain ⟨k, rfl⟩ : ∃ k9, k = k9 + 1 := ⟨k - 1, by omega⟩
            have hR2 := (run_go (c := c8) (st := st8) (k := k) (un := 5) e8 rfl hd8 c_12 (by omega)).symm.trans hR
            have hps : (ordS 101 (slA t9 (s8 + 1)) (slA t9 (s8 + 1)) (slA t9 (s8 + 1 + 2)) st8).2.1 ≤ 100000 := by show st8.2.1 - ordU 101 * st8.1 ≤ 100000; omega
            exact ih k (s8 + 1 + 4) (c8 + 1) (ordS 101 (slA t9 (s8 + 1)) (slA t9 (s8 + 1)) (slA t9 (s8 + 1 + 2)) st8) (by omega) (fun h => pr_next hq8 hd8 h) hR2 h2 h6 hps (by omega) (by omega) (by omega) F_4295 H _ hw h_4299 h_4300 ⟨_, h_4301⟩ (fun q hq => ((h_4302 q (fun i hS => hq i (by omega))).trans ((o_4285 q ).trans ((o_4277 q ).trans ((o_4269 q ).trans ((o_4258 q ).trans ((o_4253 q ).trans ((o_4247 q ).trans ((o_3909 q ).trans (fr q (fun i hS => hq i (by omega)))))))))))) ls (lv_sub hl [4, 1, 0] rfl)
          · skip
            refine lv_iload_n hx hb dX5_carryOutAll_42 rfl (lv_at hl 2 rfl) ?_
            have f_4304 : F_3905 (ad 134) = rw7 G u8 := (o_3909 (ad 134) ).trans h1348
            have f_4305 : F_4243 (ad 134) = rw7 G u8 := (o_4247 (ad 134) ).trans f_4304
            have f_4306 : F_4249 (ad 134) = rw7 G u8 := (o_4253 (ad 134) ).trans f_4305
            exact r_i C0 hr hlk hw (v := nI (c8)) rfl (by rw [← hR, run_poor (un := 5) e8 rfl (by omega)]; exact ⟨rfl, (hn8.keep (fun i0 hi => ((o_4253 (ad (i0)) )).trans (((o_4247 (ad (i0)) )).trans ((o_3909 (ad (i0)) ))))), (hrk8.keep (fun i0 hi => ((o_4253 (ad (i0)) )).trans (((o_4247 (ad (i0)) )).trans ((o_3909 (ad (i0)) ))))), ⟨_, f_4306⟩, (fun q hq => ((o_4253 q ).trans ((o_4247 q ).trans ((o_3909 q ).trans (fr q (fun i hS => hq i (by omega)))))))⟩) (Nat.le_refl _) (Nat.le_refl _) dX5_carryOutAll_43 hQ
        · skip
          rw [e8] at hl
          have hd8 : dgA t9 s8 = 2 := by unfold dgA; rw [e8]; decide
          refine lv_aload_n hx hb dX5_carryOutAll_24 rfl (lv_at hl 1 rfl) ?_
          have f_4307 : F_3905 (ad 0) = xO ad := (o_3909 (ad 0) ).trans f_3903
          refine q_get C0 hw ((hL 0 (by omega))) f_4307 fw_X5_12 rfl dX5_carryOutAll_25 ?_
          have f_4308 : F_3905 (ad 22) = .inr (3, [.ref (ad 23), .int (nI (st8.2.1)), .int (nI (st8.2.2.1)), .int (nI (st8.2.2.2.1)), .int (nI (st8.2.2.2.2.1))]) := (o_3909 (ad 22) ).trans hn8.1
          refine q_get C0 hw ((hL 22 (by omega))) f_4308 fw_X5_98 rfl dX5_carryOutAll_28 ?_
          refine lv_aload_n hx hb dX5_carryOutAll_31 rfl (lv_at hl 1 rfl) ?_
          refine lv_iload_n hx hb dX5_carryOutAll_32 rfl (lv_at hl 0 rfl) ?_
          refine q_calli hw (q_runS (As := [.int (nI (99))]) (c_X5_unitsOf_99 l G L F_3905 ) C0 hw sw_X5_225 rfl hl.1 rfl (Nat.le_of_ble_eq_true rfl) dX5_carryOutAll_33 ⟨by decide, by decide⟩ ⟨by decide, by decide⟩) rfl rfl (fun r_4311 F_4309 H locs hw hp_4310 => ?_)
          obtain ⟨he_4312, o_4313⟩ := hp_4310
          subst he_4312
          have f_4314 : F_4309 (ad 0) = xO ad := (o_4313 (ad 0) ).trans f_4307
          refine q_calli hw (q_runV (As := [.int (nI (4))]) (c_X5_costOf l G L F_4309 ad hL hin 4 st8 f_4314 (hn8.keep (fun i0 hi => ((o_4313 (ad (i0)) )).trans ((o_3909 (ad (i0)) ))))) C0 hw vw_X5_228 ((hL 0 (by omega))) f_4314 rfl rfl rfl hl.1 rfl (Nat.le_of_ble_eq_true rfl) dX5_carryOutAll_36 ⟨by decide, by decide⟩ ⟨by decide, by decide⟩) rfl rfl (fun r_4317 F_4315 H locs hw hp_4316 => ?_)
          obtain ⟨he_4318, o_4319⟩ := hp_4316
          subst he_4318
          refine n_icmp_ge (tgt := 44) hx hb dX5_carryOutAll_39 (by decide) (by omega) (by omega) (fun c_39 => ?_) (fun c_39 => ?_)
          · skip
            refine lv_iload_n hx hb dX5_carryOutAll_44 rfl (lv_at hl 3 rfl) ?_
            refine lv_iload_n hx hb dX5_carryOutAll_45 rfl (lv_at hl 0 rfl) ?_
            refine q_calli hw (q_runS (As := [.int (nI (99))]) (c_X4_digitsOf_99 l G L F_4315 ) C0 hw sw_X5_220 rfl hl.1 rfl (Nat.le_of_ble_eq_true rfl) dX5_carryOutAll_46 ⟨by decide, by decide⟩ ⟨by decide, by decide⟩) rfl rfl (fun r_4322 F_4320 H locs hw hp_4321 => ?_)
            obtain ⟨he_4323, o_4324⟩ := hp_4321
            subst he_4323
            refine n_iadd hx hb dX5_carryOutAll_49 ?_
            refine lv_istore (lv' := [(4, .int (nI (s8 + 2))), (3, .int (nI (99))), (0, .ref (ad 0)), (1, .int (nI (c8))), (2, .int (nI (s8)))]) hx hb dX5_carryOutAll_50 hl (by decide) rfl (fun ls hl => ?_)
            refine lv_aload_n hx hb dX5_carryOutAll_52 rfl (lv_at hl 2 rfl) ?_
            refine lv_iload_n hx hb dX5_carryOutAll_53 rfl (lv_at hl 1 rfl) ?_
            refine lv_aload_n hx hb dX5_carryOutAll_54 rfl (lv_at hl 2 rfl) ?_
            have f_4325 : F_4315 (ad 0) = xO ad := (o_4319 (ad 0) ).trans f_4314
            have f_4326 : F_4320 (ad 0) = xO ad := (o_4324 (ad 0) ).trans f_4325
            refine q_get C0 hw ((hL 0 (by omega))) f_4326 fw_X5_37 rfl dX5_carryOutAll_55 ?_
            refine lv_iload_n hx hb dX5_carryOutAll_58 rfl (lv_at hl 4 rfl) ?_
            refine lv_iconst (v := nI 1) hx hb dX5_carryOutAll_59 (by decide) ?_
            refine n_iadd hx hb dX5_carryOutAll_60 ?_
            have f_4327 : F_3905 (ad 5) = tO (ad 6) t9.1 := (o_3909 (ad 5) ).trans f_3904
            have f_4328 : F_4309 (ad 5) = tO (ad 6) t9.1 := (o_4313 (ad 5) ).trans f_4327
            have f_4329 : F_4315 (ad 5) = tO (ad 6) t9.1 := (o_4319 (ad 5) ).trans f_4328
            have f_4330 : F_4320 (ad 5) = tO (ad 6) t9.1 := (o_4324 (ad 5) ).trans f_4329
            refine q_calli hw (q_runV (As := [.int (nI (s8 + 1))]) (c_X4_slotAt l G L F_4320 ad hL hin t9 (htx.keep (fun i0 hi => ((o_4324 (ad (i0)) )).trans (((o_4319 (ad (i0)) )).trans (((o_4313 (ad (i0)) )).trans (((o_3909 (ad (i0)) )).trans ((fr (ad (i0)) (fun i hS => hin (i0) i (by omega) (by omega) (by omega))))))))) hco (s8 + 1) (by omega)) C0 hw vw_X5_305 ((hL 5 (by omega))) f_4330 rfl rfl rfl hl.1 rfl (Nat.le_of_ble_eq_true rfl) dX5_carryOutAll_61 ⟨by decide, by decide⟩ ⟨by decide, by decide⟩) rfl rfl (fun r_4333 F_4331 H locs hw hp_4332 => ?_)
            obtain ⟨he_4334, o_4335⟩ := hp_4332
            subst he_4334
            have sl_4336 := slA_lt t9 (s8 + 1)
            refine lv_aload_n hx hb dX5_carryOutAll_64 rfl (lv_at hl 2 rfl) ?_
            have f_4337 : F_4331 (ad 0) = xO ad := (o_4335 (ad 0) ).trans f_4326
            refine q_get C0 hw ((hL 0 (by omega))) f_4337 fw_X5_37 rfl dX5_carryOutAll_65 ?_
            refine lv_iload hx hb dX5_carryOutAll_68 (lv_at hl 0 rfl) ?_
            have f_4338 : F_4331 (ad 5) = tO (ad 6) t9.1 := (o_4335 (ad 5) ).trans f_4330
            refine q_calli hw (q_runV (As := [.int (nI (s8 + 2))]) (c_X4_slotAt l G L F_4331 ad hL hin t9 (htx.keep (fun i0 hi => ((o_4335 (ad (i0)) )).trans (((o_4324 (ad (i0)) )).trans (((o_4319 (ad (i0)) )).trans (((o_4313 (ad (i0)) )).trans (((o_3909 (ad (i0)) )).trans ((fr (ad (i0)) (fun i hS => hin (i0) i (by omega) (by omega) (by omega)))))))))) hco (s8 + 2) (by omega)) C0 hw vw_X5_305 ((hL 5 (by omega))) f_4338 rfl rfl rfl hl.1 rfl (Nat.le_of_ble_eq_true rfl) dX5_carryOutAll_70 ⟨by decide, by decide⟩ ⟨by decide, by decide⟩) rfl rfl (fun r_4341 F_4339 H locs hw hp_4340 => ?_)
            obtain ⟨he_4342, o_4343⟩ := hp_4340
            subst he_4342
            have sl_4344 := slA_lt t9 (s8 + 2)
            refine lv_aload_n hx hb dX5_carryOutAll_73 rfl (lv_at hl 2 rfl) ?_
            have f_4345 : F_4339 (ad 0) = xO ad := (o_4343 (ad 0) ).trans f_4337
            refine q_get C0 hw ((hL 0 (by omega))) f_4345 fw_X5_37 rfl dX5_carryOutAll_74 ?_
            refine lv_iload hx hb dX5_carryOutAll_77 (lv_at hl 0 rfl) ?_
            refine lv_iconst (v := nI 2) hx hb dX5_carryOutAll_79 (by decide) ?_
            refine n_iadd hx hb dX5_carryOutAll_80 ?_
            have f_4346 : F_4339 (ad 5) = tO (ad 6) t9.1 := (o_4343 (ad 5) ).trans f_4338
            refine q_calli hw (q_runV (As := [.int (nI (s8 + 2 + 2))]) (c_X4_slotAt l G L F_4339 ad hL hin t9 (htx.keep (fun i0 hi => ((o_4343 (ad (i0)) )).trans (((o_4335 (ad (i0)) )).trans (((o_4324 (ad (i0)) )).trans (((o_4319 (ad (i0)) )).trans (((o_4313 (ad (i0)) )).trans (((o_3909 (ad (i0)) )).trans ((fr (ad (i0)) (fun i hS => hin (i0) i (by omega) (by omega) (by omega))))))))))) hco (s8 + 2 + 2) (by omega)) C0 hw vw_X5_305 ((hL 5 (by omega))) f_4346 rfl rfl rfl hl.1 rfl (Nat.le_of_ble_eq_true rfl) dX5_carryOutAll_81 ⟨by decide, by decide⟩ ⟨by decide, by decide⟩) rfl rfl (fun r_4349 F_4347 H locs hw hp_4348 => ?_)
            obtain ⟨he_4350, o_4351⟩ := hp_4348
            subst he_4350
            have sl_4352 := slA_lt t9 (s8 + 2 + 2)
            have f_4353 : F_4347 (ad 0) = xO ad := (o_4351 (ad 0) ).trans f_4345
            have f_4354 : F_3905 (ad 134) = rw7 G u8 := (o_3909 (ad 134) ).trans h1348
            have f_4355 : F_4309 (ad 134) = rw7 G u8 := (o_4313 (ad 134) ).trans f_4354
            have f_4356 : F_4315 (ad 134) = rw7 G u8 := (o_4319 (ad 134) ).trans f_4355
            have f_4357 : F_4320 (ad 134) = rw7 G u8 := (o_4324 (ad 134) ).trans f_4356
            have f_4358 : F_4331 (ad 134) = rw7 G u8 := (o_4335 (ad 134) ).trans f_4357
            have f_4359 : F_4339 (ad 134) = rw7 G u8 := (o_4343 (ad 134) ).trans f_4358
            have f_4360 : F_4347 (ad 134) = rw7 G u8 := (o_4351 (ad 134) ).trans f_4359
            refine q_calli hw (q_runV (As := [.int (nI (99)), .int (nI (slA t9 (s8 + 1))), .int (nI (slA t9 (s8 + 2))), .int (nI (slA t9 (s8 + 2 + 2)))]) (c_X5_carryOut_99 l G L F_4347 ad hL hin (slA t9 (s8 + 1)) (slA t9 (s8 + 2)) (slA t9 (s8 + 2 + 2)) st8 _ f_4353 (hn8.keep (fun i0 hi => ((o_4351 (ad (i0)) )).trans (((o_4343 (ad (i0)) )).trans (((o_4335 (ad (i0)) )).trans (((o_4324 (ad (i0)) )).trans (((o_4319 (ad (i0)) )).trans (((o_4313 (ad (i0)) )).trans ((o_3909 (ad (i0)) ))))))))) (hrk8.keep (fun i0 hi => ((o_4351 (ad (i0)) )).trans (((o_4343 (ad (i0)) )).trans (((o_4335 (ad (i0)) )).trans (((o_4324 (ad (i0)) )).trans (((o_4319 (ad (i0)) )).trans (((o_4313 (ad (i0)) )).trans ((o_3909 (ad (i0)) ))))))))) f_4360 (by omega) (by omega) (by omega) (by omega) (by omega) (by omega) (by omega)) C0 hw vw_X5_299 ((hL 0 (by omega))) f_4353 rfl rfl rfl hl.1 rfl (Nat.le_of_ble_eq_true rfl) dX5_carryOutAll_84 ⟨by decide, by decide⟩ ⟨by decide, by decide⟩) rfl rfl (fun r_4363 F_4361 H locs hw hp_4362 => ?_)
            obtain ⟨h_4364, h_4365, h_4366, ⟨u_4369, h_4367⟩, h_4368⟩ := hp_4362
            subst h_4364
            refine lv_pop hx hb dX5_carryOutAll_87 rfl ?_
            refine lv_iinc (v := nI (c8 + 1)) (lv' := [(1, .int (nI (c8 + 1))), (4, .int (nI (s8 + 2))), (3, .int (nI (99))), (0, .ref (ad 0)), (2, .int (nI (s8)))]) hx hb dX5_carryOutAll_88 hl (k := 3) rfl (nI_add _ _) (by decide) rfl (fun ls hl => ?_)
            refine lv_iload hx hb dX5_carryOutAll_91 (lv_at hl 1 rfl) ?_
            refine lv_iconst (v := nI 4) hx hb dX5_carryOutAll_93 (by decide) ?_
            refine n_iadd hx hb dX5_carryOutAll_94 ?_
            refine lv_istore_n (lv' := [(2, .int (nI (s8 + 2 + 4))), (1, .int (nI (c8 + 1))), (4, .int (nI (s8 + 2))), (3, .int (nI (99))), (0, .ref (ad 0))]) hx hb dX5_carryOutAll_95 rfl hl (by decide) rfl (fun ls hl => ?_)
            refine lv_goto (tgt := 4) hx hb dX5_carryOutAll_96 (by decide) ?_
            obtain ⟨k, rfl⟩ : ∃ k9, k = k9 + 1 := ⟨k - 1, by omega⟩
            have hR2 := (run_go (c := c8) (st := st8) (k := k) (un := 4) e8 rfl hd8 c_12 (by omega)).symm.trans hR
            have hps : (ordS 99 (slA t9 (s8 + 1)) (slA t9 (s8 + 2)) (slA t9 (s8 + 2 + 2)) st8).2.1 ≤ 100000 := by show st8.2.1 - ordU 99 * st8.1 ≤ 100000; omega
            exact ih k (s8 + 2 + 4) (c8 + 1) (ordS 99 (slA t9 (s8 + 1)) (slA t9 (s8 + 2)) (slA t9 (s8 + 2 + 2)) st8) (by omega) (fun h => pr_next hq8 hd8 h) hR2 h2 h6 hps (by omega) (by omega) (by omega) F_4361 H _ hw h_4365 h_4366 ⟨_, h_4367⟩ (fun q hq => ((h_4368 q (fun i hS => hq i (by omega))).trans ((o_4351 q ).trans ((o_4343 q ).trans ((o_4335 q ).trans ((o_4324 q ).trans ((o_4319 q ).trans ((o_4313 q ).trans ((o_3909 q ).trans (fr q (fun i hS => hq i (by omega)))))))))))) ls (lv_sub hl [4, 1, 0] rfl)
          · skip
            refine lv_iload_n hx hb dX5_carryOutAll_42 rfl (lv_at hl 2 rfl) ?_
            have f_4370 : F_3905 (ad 134) = rw7 G u8 := (o_3909 (ad 134) ).trans h1348
            have f_4371 : F_4309 (ad 134) = rw7 G u8 := (o_4313 (ad 134) ).trans f_4370
            have f_4372 : F_4315 (ad 134) = rw7 G u8 := (o_4319 (ad 134) ).trans f_4371
            exact r_i C0 hr hlk hw (v := nI (c8)) rfl (by rw [← hR, run_poor (un := 4) e8 rfl (by omega)]; exact ⟨rfl, (hn8.keep (fun i0 hi => ((o_4319 (ad (i0)) )).trans (((o_4313 (ad (i0)) )).trans ((o_3909 (ad (i0)) ))))), (hrk8.keep (fun i0 hi => ((o_4319 (ad (i0)) )).trans (((o_4313 (ad (i0)) )).trans ((o_3909 (ad (i0)) ))))), ⟨_, f_4372⟩, (fun q hq => ((o_4319 q ).trans ((o_4313 q ).trans ((o_3909 q ).trans (fr q (fun i hS => hq i (by omega)))))))⟩) (Nat.le_refl _) (Nat.le_refl _) dX5_carryOutAll_43 hQ
        · skip
          rw [e8] at hl
          have hd8 : dgA t9 s8 = 1 := by unfold dgA; rw [e8]; decide
          refine lv_aload_n hx hb dX5_carryOutAll_24 rfl (lv_at hl 1 rfl) ?_
          have f_4373 : F_3905 (ad 0) = xO ad := (o_3909 (ad 0) ).trans f_3903
          refine q_get C0 hw ((hL 0 (by omega))) f_4373 fw_X5_12 rfl dX5_carryOutAll_25 ?_
          have f_4374 : F_3905 (ad 22) = .inr (3, [.ref (ad 23), .int (nI (st8.2.1)), .int (nI (st8.2.2.1)), .int (nI (st8.2.2.2.1)), .int (nI (st8.2.2.2.2.1))]) := (o_3909 (ad 22) ).trans hn8.1
          refine q_get C0 hw ((hL 22 (by omega))) f_4374 fw_X5_98 rfl dX5_carryOutAll_28 ?_
          refine lv_aload_n hx hb dX5_carryOutAll_31 rfl (lv_at hl 1 rfl) ?_
          refine lv_iload_n hx hb dX5_carryOutAll_32 rfl (lv_at hl 0 rfl) ?_
          refine q_calli hw (q_runS (As := [.int (nI (105))]) (c_X5_unitsOf_105 l G L F_3905 ) C0 hw sw_X5_225 rfl hl.1 rfl (Nat.le_of_ble_eq_true rfl) dX5_carryOutAll_33 ⟨by decide, by decide⟩ ⟨by decide, by decide⟩) rfl rfl (fun r_4377 F_4375 H locs hw hp_4376 => ?_)
          obtain ⟨he_4378, o_4379⟩ := hp_4376
          subst he_4378
          have f_4380 : F_4375 (ad 0) = xO ad := (o_4379 (ad 0) ).trans f_4373
          refine q_calli hw (q_runV (As := [.int (nI (4))]) (c_X5_costOf l G L F_4375 ad hL hin 4 st8 f_4380 (hn8.keep (fun i0 hi => ((o_4379 (ad (i0)) )).trans ((o_3909 (ad (i0)) ))))) C0 hw vw_X5_228 ((hL 0 (by omega))) f_4380 rfl rfl rfl hl.1 rfl (Nat.le_of_ble_eq_true rfl) dX5_carryOutAll_36 ⟨by decide, by decide⟩ ⟨by decide, by decide⟩) rfl rfl (fun r_4383 F_4381 H locs hw hp_4382 => ?_)
          obtain ⟨he_4384, o_4385⟩ := hp_4382
          subst he_4384
          refine n_icmp_ge (tgt := 44) hx hb dX5_carryOutAll_39 (by decide) (by omega) (by omega) (fun c_39 => ?_) (fun c_39 => ?_)
          · skip
            refine lv_iload_n hx hb dX5_carryOutAll_44 rfl (lv_at hl 3 rfl) ?_
            refine lv_iload_n hx hb dX5_carryOutAll_45 rfl (lv_at hl 0 rfl) ?_
            refine q_calli hw (q_runS (As := [.int (nI (105))]) (c_X4_digitsOf_105 l G L F_4381 ) C0 hw sw_X5_220 rfl hl.1 rfl (Nat.le_of_ble_eq_true rfl) dX5_carryOutAll_46 ⟨by decide, by decide⟩ ⟨by decide, by decide⟩) rfl rfl (fun r_4388 F_4386 H locs hw hp_4387 => ?_)
            obtain ⟨he_4389, o_4390⟩ := hp_4387
            subst he_4389
            refine n_iadd hx hb dX5_carryOutAll_49 ?_
            refine lv_istore (lv' := [(4, .int (nI (s8 + 1))), (3, .int (nI (105))), (0, .ref (ad 0)), (1, .int (nI (c8))), (2, .int (nI (s8)))]) hx hb dX5_carryOutAll_50 hl (by decide) rfl (fun ls hl => ?_)
            refine lv_aload_n hx hb dX5_carryOutAll_52 rfl (lv_at hl 2 rfl) ?_
            refine lv_iload_n hx hb dX5_carryOutAll_53 rfl (lv_at hl 1 rfl) ?_
            refine lv_aload_n hx hb dX5_carryOutAll_54 rfl (lv_at hl 2 rfl) ?_
            have f_4391 : F_4381 (ad 0) = xO ad := (o_4385 (ad 0) ).trans f_4380
            have f_4392 : F_4386 (ad 0) = xO ad := (o_4390 (ad 0) ).trans f_4391
            refine q_get C0 hw ((hL 0 (by omega))) f_4392 fw_X5_37 rfl dX5_carryOutAll_55 ?_
            refine lv_iload_n hx hb dX5_carryOutAll_58 rfl (lv_at hl 4 rfl) ?_
            refine lv_iconst (v := nI 1) hx hb dX5_carryOutAll_59 (by decide) ?_
            refine n_iadd hx hb dX5_carryOutAll_60 ?_
            have f_4393 : F_3905 (ad 5) = tO (ad 6) t9.1 := (o_3909 (ad 5) ).trans f_3904
            have f_4394 : F_4375 (ad 5) = tO (ad 6) t9.1 := (o_4379 (ad 5) ).trans f_4393
            have f_4395 : F_4381 (ad 5) = tO (ad 6) t9.1 := (o_4385 (ad 5) ).trans f_4394
            have f_4396 : F_4386 (ad 5) = tO (ad 6) t9.1 := (o_4390 (ad 5) ).trans f_4395
            refine q_calli hw (q_runV (As := [.int (nI (s8 + 1))]) (c_X4_slotAt l G L F_4386 ad hL hin t9 (htx.keep (fun i0 hi => ((o_4390 (ad (i0)) )).trans (((o_4385 (ad (i0)) )).trans (((o_4379 (ad (i0)) )).trans (((o_3909 (ad (i0)) )).trans ((fr (ad (i0)) (fun i hS => hin (i0) i (by omega) (by omega) (by omega))))))))) hco (s8 + 1) (by omega)) C0 hw vw_X5_305 ((hL 5 (by omega))) f_4396 rfl rfl rfl hl.1 rfl (Nat.le_of_ble_eq_true rfl) dX5_carryOutAll_61 ⟨by decide, by decide⟩ ⟨by decide, by decide⟩) rfl rfl (fun r_4399 F_4397 H locs hw hp_4398 => ?_)
            obtain ⟨he_4400, o_4401⟩ := hp_4398
            subst he_4400
            have sl_4402 := slA_lt t9 (s8 + 1)
            refine lv_aload_n hx hb dX5_carryOutAll_64 rfl (lv_at hl 2 rfl) ?_
            have f_4403 : F_4397 (ad 0) = xO ad := (o_4401 (ad 0) ).trans f_4392
            refine q_get C0 hw ((hL 0 (by omega))) f_4403 fw_X5_37 rfl dX5_carryOutAll_65 ?_
            refine lv_iload hx hb dX5_carryOutAll_68 (lv_at hl 0 rfl) ?_
            have f_4404 : F_4397 (ad 5) = tO (ad 6) t9.1 := (o_4401 (ad 5) ).trans f_4396
            refine q_calli hw (q_runV (As := [.int (nI (s8 + 1))]) (c_X4_slotAt l G L F_4397 ad hL hin t9 (htx.keep (fun i0 hi => ((o_4401 (ad (i0)) )).trans (((o_4390 (ad (i0)) )).trans (((o_4385 (ad (i0)) )).trans (((o_4379 (ad (i0)) )).trans (((o_3909 (ad (i0)) )).trans ((fr (ad (i0)) (fun i hS => hin (i0) i (by omega) (by omega) (by omega)))))))))) hco (s8 + 1) (by omega)) C0 hw vw_X5_305 ((hL 5 (by omega))) f_4404 rfl rfl rfl hl.1 rfl (Nat.le_of_ble_eq_true rfl) dX5_carryOutAll_70 ⟨by decide, by decide⟩ ⟨by decide, by decide⟩) rfl rfl (fun r_4407 F_4405 H locs hw hp_4406 => ?_)
            obtain ⟨he_4408, o_4409⟩ := hp_4406
            subst he_4408
            have sl_4410 := slA_lt t9 (s8 + 1)
            refine lv_aload_n hx hb dX5_carryOutAll_73 rfl (lv_at hl 2 rfl) ?_
            have f_4411 : F_4405 (ad 0) = xO ad := (o_4409 (ad 0) ).trans f_4403
            refine q_get C0 hw ((hL 0 (by omega))) f_4411 fw_X5_37 rfl dX5_carryOutAll_74 ?_
            refine lv_iload hx hb dX5_carryOutAll_77 (lv_at hl 0 rfl) ?_
            refine lv_iconst (v := nI 2) hx hb dX5_carryOutAll_79 (by decide) ?_
            refine n_iadd hx hb dX5_carryOutAll_80 ?_
            have f_4412 : F_4405 (ad 5) = tO (ad 6) t9.1 := (o_4409 (ad 5) ).trans f_4404
            refine q_calli hw (q_runV (As := [.int (nI (s8 + 1 + 2))]) (c_X4_slotAt l G L F_4405 ad hL hin t9 (htx.keep (fun i0 hi => ((o_4409 (ad (i0)) )).trans (((o_4401 (ad (i0)) )).trans (((o_4390 (ad (i0)) )).trans (((o_4385 (ad (i0)) )).trans (((o_4379 (ad (i0)) )).trans (((o_3909 (ad (i0)) )).trans ((fr (ad (i0)) (fun i hS => hin (i0) i (by omega) (by omega) (by omega))))))))))) hco (s8 + 1 + 2) (by omega)) C0 hw vw_X5_305 ((hL 5 (by omega))) f_4412 rfl rfl rfl hl.1 rfl (Nat.le_of_ble_eq_true rfl) dX5_carryOutAll_81 ⟨by decide, by decide⟩ ⟨by decide, by decide⟩) rfl rfl (fun r_4415 F_4413 H locs hw hp_4414 => ?_)
            obtain ⟨he_4416, o_4417⟩ := hp_4414
            subst he_4416
            have sl_4418 := slA_lt t9 (s8 + 1 + 2)
            have f_4419 : F_4413 (ad 0) = xO ad := (o_4417 (ad 0) ).trans f_4411
            have f_4420 : F_3905 (ad 134) = rw7 G u8 := (o_3909 (ad 134) ).trans h1348
            have f_4421 : F_4375 (ad 134) = rw7 G u8 := (o_4379 (ad 134) ).trans f_4420
            have f_4422 : F_4381 (ad 134) = rw7 G u8 := (o_4385 (ad 134) ).trans f_4421
            have f_4423 : F_4386 (ad 134) = rw7 G u8 := (o_4390 (ad 134) ).trans f_4422
            have f_4424 : F_4397 (ad 134) = rw7 G u8 := (o_4401 (ad 134) ).trans f_4423
            have f_4425 : F_4405 (ad 134) = rw7 G u8 := (o_4409 (ad 134) ).trans f_4424
            have f_4426 : F_4413 (ad 134) = rw7 G u8 := (o_4417 (ad 134) ).trans f_4425
            refine q_calli hw (q_runV (As := [.int (nI (105)), .int (nI (slA t9 (s8 + 1))), .int (nI (slA t9 (s8 + 1))), .int (nI (slA t9 (s8 + 1 + 2)))]) (c_X5_carryOut_105 l G L F_4413 ad hL hin (slA t9 (s8 + 1)) (slA t9 (s8 + 1)) (slA t9 (s8 + 1 + 2)) st8 _ f_4419 (hn8.keep (fun i0 hi => ((o_4417 (ad (i0)) )).trans (((o_4409 (ad (i0)) )).trans (((o_4401 (ad (i0)) )).trans (((o_4390 (ad (i0)) )).trans (((o_4385 (ad (i0)) )).trans (((o_4379 (ad (i0)) )).trans ((o_3909 (ad (i0)) ))))))))) (hrk8.keep (fun i0 hi => ((o_4417 (ad (i0)) )).trans (((o_4409 (ad (i0)) )).trans (((o_4401 (ad (i0)) )).trans (((o_4390 (ad (i0)) )).trans (((o_4385 (ad (i0)) )).trans (((o_4379 (ad (i0)) )).trans ((o_3909 (ad (i0)) ))))))))) f_4426 (by omega) (by omega) (by omega) (by omega) (by omega) (by omega) (by omega)) C0 hw vw_X5_299 ((hL 0 (by omega))) f_4419 rfl rfl rfl hl.1 rfl (Nat.le_of_ble_eq_true rfl) dX5_carryOutAll_84 ⟨by decide, by decide⟩ ⟨by decide, by decide⟩) rfl rfl (fun r_4429 F_4427 H locs hw hp_4428 => ?_)
            obtain ⟨h_4430, h_4431, h_4432, ⟨u_4435, h_4433⟩, h_4434⟩ := hp_4428
            subst h_4430
            refine lv_pop hx hb dX5_carryOutAll_87 rfl ?_
            refine lv_iinc (v := nI (c8 + 1)) (lv' := [(1, .int (nI (c8 + 1))), (4, .int (nI (s8 + 1))), (3, .int (nI (105))), (0, .ref (ad 0)), (2, .int (nI (s8)))]) hx hb dX5_carryOutAll_88 hl (k := 3) rfl (nI_add _ _) (by decide) rfl (fun ls hl => ?_)
            refine lv_iload hx hb dX5_carryOutAll_91 (lv_at hl 1 rfl) ?_
            refine lv_iconst (v := nI 4) hx hb dX5_carryOutAll_93 (by decide) ?_
            refine n_iadd hx hb dX5_carryOutAll_94 ?_
            refine lv_istore_n (lv' := [(2, .int (nI (s8 + 1 + 4))), (1, .int (nI (c8 + 1))), (4, .int (nI (s8 + 1))), (3, .int (nI (105))), (0, .ref (ad 0))]) hx hb dX5_carryOutAll_95 rfl hl (by decide) rfl (fun ls hl => ?_)
            refine lv_goto (tgt := 4) hx hb dX5_carryOutAll_96 (by decide) ?_
            obtain ⟨k, rfl⟩ : ∃ k9, k = k9 + 1 := ⟨k - 1, by omega⟩
            have hR2 := (run_go (c := c8) (st := st8) (k := k) (un := 4) e8 rfl hd8 c_12 (by omega)).symm.trans hR
            have hps : (ordS 105 (slA t9 (s8 + 1)) (slA t9 (s8 + 1)) (slA t9 (s8 + 1 + 2)) st8).2.1 ≤ 100000 := by show st8.2.1 - ordU 105 * st8.1 ≤ 100000; omega
            exact ih k (s8 + 1 + 4) (c8 + 1) (ordS 105 (slA t9 (s8 + 1)) (slA t9 (s8 + 1)) (slA t9 (s8 + 1 + 2)) st8) (by omega) (fun h => pr_next hq8 hd8 h) hR2 h2 h6 hps (by omega) (by omega) (by omega) F_4427 H _ hw h_4431 h_4432 ⟨_, h_4433⟩ (fun q hq => ((h_4434 q (fun i hS => hq i (by omega))).trans ((o_4417 q ).trans ((o_4409 q ).trans ((o_4401 q ).trans ((o_4390 q ).trans ((o_4385 q ).trans ((o_4379 q ).trans ((o_3909 q ).trans (fr q (fun i hS => hq i (by omega)))))))))))) ls (lv_sub hl [4, 1, 0] rfl)
          · skip
            refine lv_iload_n hx hb dX5_carryOutAll_42 rfl (lv_at hl 2 rfl) ?_
            have f_4436 : F_3905 (ad 134) = rw7 G u8 := (o_3909 (ad 134) ).trans h1348
            have f_4437 : F_4375 (ad 134) = rw7 G u8 := (o_4379 (ad 134) ).trans f_4436
            have f_4438 : F_4381 (ad 134) = rw7 G u8 := (o_4385 (ad 134) ).trans f_4437
            exact r_i C0 hr hlk hw (v := nI (c8)) rfl (by rw [← hR, run_poor (un := 4) e8 rfl (by omega)]; exact ⟨rfl, (hn8.keep (fun i0 hi => ((o_4385 (ad (i0)) )).trans (((o_4379 (ad (i0)) )).trans ((o_3909 (ad (i0)) ))))), (hrk8.keep (fun i0 hi => ((o_4385 (ad (i0)) )).trans (((o_4379 (ad (i0)) )).trans ((o_3909 (ad (i0)) ))))), ⟨_, f_4438⟩, (fun q hq => ((o_4385 q ).trans ((o_4379 q ).trans ((o_3909 q ).trans (fr q (fun i hS => hq i (by omega)))))))⟩) (Nat.le_refl _) (Nat.le_refl _) dX5_carryOutAll_43 hQ
  exact lp _ 61 0 0 st (by omega) (fun _ => hpr) rfl hc2 hc hpu (Nat.le_refl _) (by omega) (Nat.lt_succ_self _) _ _ _ hw hn hrk h134 (fun q _ => rfl) ls (lv_sub hl [2, 1, 0] rfl)
