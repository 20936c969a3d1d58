theorem slA_lt (t : Txt) (i : Nat) : slA t i < 6 := by
  unfold slA
  split
  · omega
  · omega
theorem fw_adv {t : Txt} {p s : Nat} (hq : fwF t (t.1 - p) p s = t.1) (c : p < t.1) : fitsB t p s = true ∧ fwF t (t.1 - (p + 1)) (p + 1) (if t.2 p = 59 then p + 1 else s) = t.1 := by
  rw [show t.1 - p = (t.1 - (p + 1)) + 1 by omega, fwF_s] at hq
  by_cases h : fitsB t p s = true
  · rw [if_pos h] at hq
    exact ⟨h, hq⟩
  · rw [if_neg h] at hq
    omega
theorem fit_59 {t : Txt} {s j : Nat} (hj : j ≤ dgA t s + 2) (hs : s + j < t.1) (hf : fitsB t (s + j) s = true) : t.2 (s + j) ≠ 59 := by
  have hc : cdA t (s + j) = t.2 (s + j) := if_pos hs
  intro e
  unfold fitsB at hf
  rw [show s + j - s = j by omega] at hf
  by_cases h0 : j = 0
  · rw [if_pos h0] at hf
    have h1 := of_decide_eq_true hf
    subst h0
    have hd : dgA t s = 0 := by
      unfold dgA
      rw [show cdA t s = 59 from hc.trans e]
      decide
    omega
  · rw [if_neg h0] at hf
    rw [hc, e] at hf
    by_cases h1 : j = dgA t s + 1
    · rw [if_pos h1] at hf
      exact absurd (of_decide_eq_true hf) (by decide)
    · rw [if_neg h1, if_neg (by omega)] at hf
      exact absurd (of_decide_eq_true hf) (by decide)
theorem fw_in {t : Txt} {s : Nat} (hq : fwF t (t.1 - s) s s = t.1) : ∀ j, j ≤ dgA t s + 3 → s + j ≤ t.1 → fwF t (t.1 - (s + j)) (s + j) s = t.1 := by
  intro j
  induction j with
  | zero => intro _ _; exact hq
  | succ j ih =>
    intro h1 h2
    obtain ⟨h3, h4⟩ := fw_adv (ih (by omega) (by omega)) (by omega)
    rw [if_neg (fit_59 (by omega) (by omega) h3)] at h4
    exact h4
theorem dig_ord {x : Nat} (hx : x ≤ 126) (h : 0 < digI (nI x)) : x = 98 ∨ x = 115 ∨ x = 119 ∨ x = 112 ∨ x = 108 ∨ x = 101 ∨ x = 99 ∨ x = 105 := by
  have h9 : ∀ x : Fin 127, 0 < digI (nI x.val) → x.val = 98 ∨ x.val = 115 ∨ x.val = 119 ∨ x.val = 112 ∨ x.val = 108 ∨ x.val = 101 ∨ x.val = 99 ∨ x.val = 105 := by decide +kernel
  exact h9 ⟨x, by omega⟩ h
theorem pr_ord {t : Txt} (hok : okT t) {s : Nat} (hq : fwF t (t.1 - s) s s = t.1) (hs : s < t.1) : cdA t s = 98 ∨ cdA t s = 115 ∨ cdA t s = 119 ∨ cdA t s = 112 ∨ cdA t s = 108 ∨ cdA t s = 101 ∨ cdA t s = 99 ∨ cdA t s = 105 := by
  obtain ⟨h1, -⟩ := fw_adv hq hs
  unfold fitsB at h1
  rw [if_pos (Nat.sub_self s)] at h1
  exact dig_ord (cdA_le hok s) (of_decide_eq_true h1)
theorem pr_next {t : Txt} {s d : Nat} (hq : fwF t (t.1 - s) s s = t.1) (hd : dgA t s = d) (hs : s + d + 4 < t.1) : fwF t (t.1 - (s + d + 4)) (s + d + 4) (s + d + 4) = t.1 := by
  subst hd
  obtain ⟨h1, h2⟩ := fw_adv (fw_in hq (dgA t s + 3) (Nat.le_refl _) (by omega)) (by omega)
  have h3 : t.2 (s + (dgA t s + 3)) = 59 := by
    unfold fitsB at h1
    rw [show s + (dgA t s + 3) - s = dgA t s + 3 by omega, if_neg (by omega), if_neg (by omega), if_pos rfl] at h1
    have h4 := of_decide_eq_true h1
    rw [← h4]
    exact (if_pos (by omega)).symm
  rw [if_pos h3] at h2
  exact h2
def runS (t : Txt) : Nat → Nat → Nat → Sta → Nat × Sta
  | 0, _, c, st => (c, st)
  | n + 1, s, c, st => if t.1 ≤ s then (c, st) else if st.2.1 < ordU (cdA t s) * st.1 then (c, st) else runS t n (s + dgA t s + 4) (c + 1) (ordS (cdA t s) (slA t (s + 1)) (slA t (s + dgA t s)) (slA t (s + dgA t s + 2)) st)
theorem run_end {t : Txt} {k s c : Nat} {st : Sta} (h : t.1 ≤ s) : runS t k s c st = (c, st) := by
  cases k with
  | zero => rfl
  | succ k => rw [runS, if_pos h]
theorem run_poor {t : Txt} {k s c un lt : Nat} {st : Sta} (e : cdA t s = lt) (hu : ordU lt = un) (h : st.2.1 < un * st.1) : runS t k s c st = (c, st) := by
  cases k with
  | zero => rfl
  | succ k =>
    rw [runS]
    split
    · rfl
    · rw [e, hu, if_pos h]
theorem run_go {t : Txt} {k s c un lt d : Nat} {st : Sta} (e : cdA t s = lt) (hu : ordU lt = un) (hd : dgA t s = d) (h1 : ¬ t.1 ≤ s) (h : ¬ st.2.1 < un * st.1) : runS t (k + 1) s c st = runS t k (s + d + 4) (c + 1) (ordS lt (slA t (s + 1)) (slA t (s + d)) (slA t (s + d + 2)) st) := by
  rw [runS, if_neg h1, e, hu, if_neg h, hd]
theorem pr_skip {t : Txt} (hok : okT t) {s d : Nat} (hq : fwF t (t.1 - s) s s = t.1) (hd : dgA t s = d) : ∀ i, s + 1 ≤ i → i < s + d + 4 → i < t.1 → dgA t i = 0 := by
  intro i h1 h2 h3
  subst hd
  obtain ⟨h4, -⟩ := fw_adv (fw_in hq (i - s) (by omega) (by omega)) (by omega)
  rw [show s + (i - s) = i by omega] at h4
  unfold fitsB at h4
  rw [if_neg (show ¬ i - s = 0 by omega)] at h4
  have key : ∀ x : Fin 127, (x.val = 62 ∨ x.val = 59 ∨ isSl x.val) → digI (nI x.val) = 0 := by decide +kernel
  have hx := cdA_le hok i
  have h5 : cdA t i = 62 ∨ cdA t i = 59 ∨ isSl (cdA t i) := by
    split at h4
    · exact Or.inl (of_decide_eq_true h4)
    · split at h4
      · exact Or.inr (Or.inl (of_decide_eq_true h4))
      · exact Or.inr (Or.inr (of_decide_eq_true h4))
  exact key ⟨cdA t i, by omega⟩ h5
abbrev rm_X5_carryOutAll : Room := { frames := 5, cells := 0, slots := 0, locals := 140 }
set_option maxHeartbeats 4000000 in
set_option maxRecDepth 100000 in
theorem c_X5_carryOutAll (l : Launch) (G : Gl) (L : List Nat) (F : Nat → va_E) (ad : Nat → Nat) (hL : ∀ i, i < 166 → ad i ∈ L) (hin : ∀ i j, i < 166 → j < 166 → i ≠ j → ad i ≠ ad j) (t9 : Txt) (htx : txtW G F ad t9) (hco : okT t9) (st : Sta) (fx : F (ad 0) = xO ad) (hn : sta G F ad 22 st) (hrk : rkW G F ad) (h134 : ∃ u, F (ad 134) = rw7 G u) (hc : st.1 ≤ 6) (hc2 : 2 ≤ st.1) (hpu : st.2.1 ≤ 100000) (hpr : fwA t9 = t9.1) : CI l yX5_carryOutAll cX5_carryOutAll 6 (some .int) rm_X5_carryOutAll G L F [.ref (ad 0)] (fun r F1 => r = nI (runS t9 61 0 0 st).1 ∧ sta G F1 ad 22 (runS t9 61 0 0 st).2 ∧ rkW G F1 ad ∧ (∃ u, F1 (ad 134) = rw7 G u) ∧ ∀ q, (∀ i, (i = 22 ∨ (26 ≤ i ∧ i < 38) ∨ (8 ≤ i ∧ i < 22) ∨ i = 134) → q ≠ ad i) → F1 q = F q) := by
  have hl60 := htx.2.choose_spec.2.2
  refine CG_of (by decide) (Nat.le_of_ble_eq_true rfl) rfl ?_
  intro p e s m args below meth c Q C0 hr hlk hnm hQ hw ls hl
  have hx := C0.x
  have hb := C0.b
  refine lv_iconst (v := nI 0) hx hb dX5_carryOutAll_0 (by decide) ?_
  refine lv_istore_n (lv' := [(1, .int (nI (0))), (0, .ref (ad 0))]) hx hb dX5_carryOutAll_1 rfl hl (by decide) rfl (fun ls hl => ?_)
  refine lv_iconst (v := nI 0) hx hb dX5_carryOutAll_2 (by decide) ?_
  refine lv_istore_n (lv' := [(2, .int (nI (0))), (1, .int (nI (0))), (0, .ref (ad 0))]) hx hb dX5_carryOutAll_3 rfl hl (by decide) rfl (fun ls hl => ?_)
  have lp : ∀ (n k p8 s8 c8 : Nat) (st8 : Sta), p8 ≤ s8 → (∀ i, p8 ≤ i → i < s8 → i < t9.1 → dgA t9 i = 0) → t9.1 ≤ s8 + k → (s8 < t9.1 → fwF t9 (t9.1 - s8) s8 s8 = t9.1) → runS t9 k s8 c8 st8 = runS t9 61 0 0 st → 2 ≤ st8.1 → st8.1 ≤ 6 → st8.2.1 ≤ 100000 → c8 ≤ p8 → p8 ≤ 70 → 70 - p8 < n → ∀ (FF : Nat → va_E) (H : Heap) (locs : List Loc), wD G L FF s H locs → sta G FF ad 22 st8 → rkW G FF ad → (∃ u, FF (ad 134) = rw7 G u) → (∀ q, (∀ i, (i = 22 ∨ (26 ≤ i ∧ i < 38) ∨ (8 ≤ i ∧ i < 22) ∨ i = 134) → q ≠ ad i) → FF q = F q) → ∀ ls : Array Slot, lv_has ls 6 [(0, .ref (ad 0)), (1, .int (nI (c8))), (2, .int (nI (p8)))] → W p l e rm_X5_carryOutAll s m args below meth c H locs 0 0 Q (F0 m 4 ls []) := by
    intro n
    induction n with
    | zero => intro k p8 s8 c8 st8 _ _ _ _ _ _ _ _ _ _ hm; exact absurd hm (Nat.not_lt_zero _)
    | succ n ih =>
      intro k p8 s8 c8 st8 hps8 hz8 hk hq hR h2 h6 hp8 hcs h70 hm FF H locs hw hn8 hrk8 h1348 fr ls hl
      obtain ⟨u8, h1348⟩ := h1348
      refine lv_iload_n hx hb dX5_carryOutAll_4 rfl (lv_at hl 2 rfl) ?_
      refine lv_aload_n hx hb dX5_carryOutAll_5 rfl (lv_at hl 0 rfl) ?_
      have f_3903 : FF (ad 0) = xO ad := (fr (ad 0) (fun i hS => hin 0 i (by omega) (by omega) (by omega))).trans fx
      refine q_get C0 hw ((hL 0 (by omega))) f_3903 fw_X5_37 rfl dX5_carryOutAll_6 ?_
      have f_3904 : FF (ad 5) = tO (ad 6) t9.1 := (fr (ad 5) (fun i hS => hin 5 i (by omega) (by omega) (by omega))).trans htx.1
      refine q_get C0 hw ((hL 5 (by omega))) f_3904 fw_X5_154 rfl dX5_carryOutAll_9 ?_
      refine n_icmp_ge (tgt := 106) hx hb dX5_carryOutAll_12 (by decide) (by omega) (by omega) (fun c_12 => ?_) (fun c_12 => ?_)
      · skip
        refine lv_iload_n hx hb dX5_carryOutAll_106 rfl (lv_at hl 1 rfl) ?_
        exact r_i C0 hr hlk hw (v := nI (c8)) rfl (by rw [← hR, run_end (t := t9) (k := k) (s := s8) (c := c8) (st := st8) (by omega)]; exact ⟨rfl, hn8, hrk8, ⟨_, h1348⟩, (fun q hq => (fr q (fun i hS => hq i (by omega))))⟩) (Nat.le_refl _) (Nat.le_refl _) dX5_carryOutAll_107 hQ
      · skip
        refine lv_aload_n hx hb dX5_carryOutAll_15 rfl (lv_at hl 0 rfl) ?_
        refine q_get C0 hw ((hL 0 (by omega))) f_3903 fw_X5_37 rfl dX5_carryOutAll_16 ?_
        refine lv_iload_n hx hb dX5_carryOutAll_19 rfl (lv_at hl 2 rfl) ?_
        refine q_calli hw (q_runV (As := [.int (nI (p8))]) (c_X4_codeAt l G L FF ad hL hin t9 (htx.keep (fun i0 hi => (fr (ad (i0)) (fun i hS => hin (i0) i (by omega) (by omega) (by omega))))) hco p8 (by omega)) C0 hw vw_X5_302 ((hL 5 (by omega))) f_3904 rfl rfl rfl hl.1 rfl (Nat.le_of_ble_eq_true rfl) dX5_carryOutAll_20 ⟨by decide, by decide⟩ ⟨by decide, by decide⟩) rfl rfl (fun r_3907 F_3905 H locs hw hp_3906 => ?_)
        obtain ⟨he_3908, o_3909⟩ := hp_3906
        subst he_3908
        have cb_3910 := cdA_le hco p8
        refine lv_istore_n (lv' := [(3, .int (nI (cdA t9 p8))), (0, .ref (ad 0)), (1, .int (nI (c8))), (2, .int (nI (p8)))]) hx hb dX5_carryOutAll_23 rfl hl (by decide) rfl (fun ls hl => ?_)
        rcases Nat.lt_or_eq_of_le hps8 with hlt8 | heq8
        · skip
          have hz9 : digI (nI (cdA t9 p8)) = 0 := hz8 p8 (Nat.le_refl _) hlt8 (by omega)
          refine lv_iload_n hx hb dX5_carryOutAll_24 rfl (lv_at hl 0 rfl) ?_
          refine q_calli hw (q_runS (As := [.int (nI (cdA t9 p8))]) (c_X4_digitsOf l G L F_3905 (nI (cdA t9 p8))) C0 hw sw_X5_220 rfl hl.1 rfl (Nat.le_of_ble_eq_true rfl) dX5_carryOutAll_25 ⟨by decide, by decide⟩ ⟨by decide, by decide⟩) rfl rfl (fun r_3913 F_3911 H locs hw hp_3912 => ?_)
          obtain ⟨he_3914, o_3915⟩ := hp_3912
          subst he_3914
          refine lv_istore (lv' := [(4, .int (nI (digI (nI (cdA t9 p8))))), (3, .int (nI (cdA t9 p8))), (0, .ref (ad 0)), (1, .int (nI (c8))), (2, .int (nI (p8)))]) hx hb dX5_carryOutAll_28 hl (by decide) rfl (fun ls hl => ?_)
          refine lv_iload hx hb dX5_carryOutAll_30 (lv_at hl 0 rfl) ?_
          refine n_if_le (tgt := 100) hx hb dX5_carryOutAll_32 (by decide) (by omega) (fun c_32 => ?_) (fun c_32 => ?_)
          · skip
            refine lv_iinc (v := nI (p8 + 1)) (lv' := [(2, .int (nI (p8 + 1))), (4, .int (nI (digI (nI (cdA t9 p8))))), (3, .int (nI (cdA t9 p8))), (0, .ref (ad 0)), (1, .int (nI (c8)))]) hx hb dX5_carryOutAll_100 hl (k := 4) rfl (nI_add _ _) (by decide) rfl (fun ls hl => ?_)
            refine lv_goto (tgt := 4) hx hb dX5_carryOutAll_103 (by decide) ?_
            have f_3916 : F_3905 (ad 134) = rw7 G u8 := (o_3909 (ad 134) ).trans h1348
            have f_3917 : F_3911 (ad 134) = rw7 G u8 := (o_3915 (ad 134) ).trans f_3916
            exact ih k (p8 + 1) s8 c8 st8 hlt8 (fun i h1 h2 h3 => hz8 i (by omega) h2 h3) hk hq hR h2 h6 hp8 (by omega) (by omega) (by omega) F_3911 H _ hw (hn8.keep (fun i0 hi => ((o_3915 (ad (i0)) )).trans ((o_3909 (ad (i0)) )))) (hrk8.keep (fun i0 hi => ((o_3915 (ad (i0)) )).trans ((o_3909 (ad (i0)) )))) ⟨_, f_3917⟩ (fun q hq => ((o_3915 q ).trans ((o_3909 q ).trans (fr q (fun i hS => hq i (by omega)))))) ls (lv_sub hl [3, 4, 0] rfl)
          · skip
            exact absurd hz9 (by omega)
        · skip
          rw [heq8] at hl
          have hq8 := hq (by omega)
          have hord := pr_ord hco hq8 (by omega)
          rcases hord with e8 | e8 | e8 | e8 | e8 | e8 | e8 | e8
          · skip
            rw [e8] at hl
            have hd8 : dgA t9 s8 = 2 := by unfold dgA; rw [e8]; decide
            refine lv_iload_n hx hb dX5_carryOutAll_24 rfl (lv_at hl 0 rfl) ?_
            refine q_calli hw (q_runS (As := [.int (nI (98))]) (c_X4_digitsOf_98 l G L F_3905 ) C0 hw sw_X5_220 rfl hl.1 rfl (Nat.le_of_ble_eq_true rfl) dX5_carryOutAll_25 ⟨by decide, by decide⟩ ⟨by decide, by decide⟩) rfl rfl (fun r_3920 F_3918 H locs hw hp_3919 => ?_)
            obtain ⟨he_3921, o_3922⟩ := hp_3919
            subst he_3921
            refine lv_istore (lv' := [(4, .int (nI (2))), (3, .int (nI (98))), (0, .ref (ad 0)), (1, .int (nI (c8))), (2, .int (nI (s8)))]) hx hb dX5_carryOutAll_28 hl (by decide) rfl (fun ls hl => ?_)
            refine lv_iload hx hb dX5_carryOutAll_30 (lv_at hl 0 rfl) ?_
            refine n_if_le (tgt := 100) hx hb dX5_carryOutAll_32 (by decide) (by decide) (fun c_32 => ?_) (fun c_32 => ?_)
            · skip
              exact absurd c_32 (by omega)
            · skip
              refine lv_aload_n hx hb dX5_carryOutAll_35 rfl (lv_at hl 2 rfl) ?_
              have f_3923 : F_3905 (ad 0) = xO ad := (o_3909 (ad 0) ).trans f_3903
              have f_3924 : F_3918 (ad 0) = xO ad := (o_3922 (ad 0) ).trans f_3923
              refine q_get C0 hw ((hL 0 (by omega))) f_3924 fw_X5_12 rfl dX5_carryOutAll_36 ?_
              have f_3925 : F_3905 (ad 22) = .inr (3, [.ref (ad 23), .int (nI (st8.2.1)), .int (nI (st8.2.2.1)), .int (nI (st8.2.2.2.1)), .int (nI (st8.2.2.2.2.1))]) := (o_3909 (ad 22) ).trans hn8.1
              have f_3926 : F_3918 (ad 22) = .inr (3, [.ref (ad 23), .int (nI (st8.2.1)), .int (nI (st8.2.2.1)), .int (nI (st8.2.2.2.1)), .int (nI (st8.2.2.2.2.1))]) := (o_3922 (ad 22) ).trans f_3925
              refine q_get C0 hw ((hL 22 (by omega))) f_3926 fw_X5_98 rfl dX5_carryOutAll_39 ?_
              refine lv_aload_n hx hb dX5_carryOutAll_42 rfl (lv_at hl 2 rfl) ?_
              refine lv_iload_n hx hb dX5_carryOutAll_43 rfl (lv_at hl 1 rfl) ?_
              refine q_calli hw (q_runS (As := [.int (nI (98))]) (c_X5_unitsOf_98 l G L F_3918 ) C0 hw sw_X5_225 rfl hl.1 rfl (Nat.le_of_ble_eq_true rfl) dX5_carryOutAll_44 ⟨by decide, by decide⟩ ⟨by decide, by decide⟩) rfl rfl (fun r_3929 F_3927 H locs hw hp_3928 => ?_)
              obtain ⟨he_3930, o_3931⟩ := hp_3928
              subst he_3930
              have f_3932 : F_3927 (ad 0) = xO ad := (o_3931 (ad 0) ).trans f_3924
              refine q_calli hw (q_runV (As := [.int (nI (2))]) (c_X5_costOf l G L F_3927 ad hL hin 2 st8 f_3932 (hn8.keep (fun i0 hi => ((o_3931 (ad (i0)) )).trans (((o_3922 (ad (i0)) )).trans ((o_3909 (ad (i0)) )))))) C0 hw vw_X5_228 ((hL 0 (by omega))) f_3932 rfl rfl rfl hl.1 rfl (Nat.le_of_ble_eq_true rfl) dX5_carryOutAll_47 ⟨by decide, by decide⟩ ⟨by decide, by decide⟩) rfl rfl (fun r_3935 F_3933 H locs hw hp_3934 => ?_)
              obtain ⟨he_3936, o_3937⟩ := hp_3934
              subst he_3936
              refine n_icmp_ge (tgt := 55) hx hb dX5_carryOutAll_50 (by decide) (by omega) (by omega) (fun c_50 => ?_) (fun c_50 => ?_)
              · skip
                refine lv_iload_n hx hb dX5_carryOutAll_55 rfl (lv_at hl 4 rfl) ?_
                refine lv_iload hx hb dX5_carryOutAll_56 (lv_at hl 0 rfl) ?_
                refine n_iadd hx hb dX5_carryOutAll_58 ?_
                refine lv_istore (lv' := [(5, .int (nI (s8 + 2))), (4, .int (nI (2))), (3, .int (nI (98))), (0, .ref (ad 0)), (1, .int (nI (c8))), (2, .int (nI (s8)))]) hx hb dX5_carryOutAll_59 hl (by decide) rfl (fun ls hl => ?_)
                refine lv_aload_n hx hb dX5_carryOutAll_61 rfl (lv_at hl 3 rfl) ?_
                refine lv_iload_n hx hb dX5_carryOutAll_62 rfl (lv_at hl 2 rfl) ?_
                refine lv_aload_n hx hb dX5_carryOutAll_63 rfl (lv_at hl 3 rfl) ?_
                have f_3938 : F_3933 (ad 0) = xO ad := (o_3937 (ad 0) ).trans f_3932
                refine q_get C0 hw ((hL 0 (by omega))) f_3938 fw_X5_37 rfl dX5_carryOutAll_64 ?_
                refine lv_iload_n hx hb dX5_carryOutAll_67 rfl (lv_at hl 5 rfl) ?_
                refine lv_iconst (v := nI 1) hx hb dX5_carryOutAll_68 (by decide) ?_
                refine n_iadd hx hb dX5_carryOutAll_69 ?_
                have f_3939 : F_3905 (ad 5) = tO (ad 6) t9.1 := (o_3909 (ad 5) ).trans f_3904
                have f_3940 : F_3918 (ad 5) = tO (ad 6) t9.1 := (o_3922 (ad 5) ).trans f_3939
                have f_3941 : F_3927 (ad 5) = tO (ad 6) t9.1 := (o_3931 (ad 5) ).trans f_3940
                have f_3942 : F_3933 (ad 5) = tO (ad 6) t9.1 := (o_3937 (ad 5) ).trans f_3941
                refine q_calli hw (q_runV (As := [.int (nI (s8 + 1))]) (c_X4_slotAt l G L F_3933 ad hL hin t9 (htx.keep (fun i0 hi => ((o_3937 (ad (i0)) )).trans (((o_3931 (ad (i0)) )).trans (((o_3922 (ad (i0)) )).trans (((o_3909 (ad (i0)) )).trans ((fr (ad (i0)) (fun i hS => hin (i0) i (by omega) (by omega) (by omega))))))))) hco (s8 + 1) (by omega)) C0 hw vw_X5_305 ((hL 5 (by omega))) f_3942 rfl rfl rfl hl.1 rfl (Nat.le_of_ble_eq_true rfl) dX5_carryOutAll_70 ⟨by decide, by decide⟩ ⟨by decide, by decide⟩) rfl rfl (fun r_3945 F_3943 H locs hw hp_3944 => ?_)
                obtain ⟨he_3946, o_3947⟩ := hp_3944
                subst he_3946
                have sl_3948 := slA_lt t9 (s8 + 1)
                refine lv_aload_n hx hb dX5_carryOutAll_73 rfl (lv_at hl 3 rfl) ?_
                have f_3949 : F_3943 (ad 0) = xO ad := (o_3947 (ad 0) ).trans f_3938
                refine q_get C0 hw ((hL 0 (by omega))) f_3949 fw_X5_37 rfl dX5_carryOutAll_74 ?_
                refine lv_iload hx hb dX5_carryOutAll_77 (lv_at hl 0 rfl) ?_
                have f_3950 : F_3943 (ad 5) = tO (ad 6) t9.1 := (o_3947 (ad 5) ).trans f_3942
                refine q_calli hw (q_runV (As := [.int (nI (s8 + 2))]) (c_X4_slotAt l G L F_3943 ad hL hin t9 (htx.keep (fun i0 hi => ((o_3947 (ad (i0)) )).trans (((o_3937 (ad (i0)) )).trans (((o_3931 (ad (i0)) )).trans (((o_3922 (ad (i0)) )).trans (((o_3909 (ad (i0)) )).trans ((fr (ad (i0)) (fun i hS => hin (i0) i (by omega) (by omega) (by omega)))))))))) hco (s8 + 2) (by omega)) C0 hw vw_X5_305 ((hL 5 (by omega))) f_3950 rfl rfl rfl hl.1 rfl (Nat.le_of_ble_eq_true rfl) dX5_carryOutAll_79 ⟨by decide, by decide⟩ ⟨by decide, by decide⟩) rfl rfl (fun r_3953 F_3951 H locs hw hp_3952 => ?_)
                obtain ⟨he_3954, o_3955⟩ := hp_3952
                subst he_3954
                have sl_3956 := slA_lt t9 (s8 + 2)
                refine lv_aload_n hx hb dX5_carryOutAll_82 rfl (lv_at hl 3 rfl) ?_
                have f_3957 : F_3951 (ad 0) = xO ad := (o_3955 (ad 0) ).trans f_3949
                refine q_get C0 hw ((hL 0 (by omega))) f_3957 fw_X5_37 rfl dX5_carryOutAll_83 ?_
                refine lv_iload hx hb dX5_carryOutAll_86 (lv_at hl 0 rfl) ?_
                refine lv_iconst (v := nI 2) hx hb dX5_carryOutAll_88 (by decide) ?_
                refine n_iadd hx hb dX5_carryOutAll_89 ?_
                have f_3958 : F_3951 (ad 5) = tO (ad 6) t9.1 := (o_3955 (ad 5) ).trans f_3950
                refine q_calli hw (q_runV (As := [.int (nI (s8 + 2 + 2))]) (c_X4_slotAt l G L F_3951 ad hL hin t9 (htx.keep (fun i0 hi => ((o_3955 (ad (i0)) )).trans (((o_3947 (ad (i0)) )).trans (((o_3937 (ad (i0)) )).trans (((o_3931 (ad (i0)) )).trans (((o_3922 (ad (i0)) )).trans (((o_3909 (ad (i0)) )).trans ((fr (ad (i0)) (fun i hS => hin (i0) i (by omega) (by omega) (by omega))))))))))) hco (s8 + 2 + 2) (by omega)) C0 hw vw_X5_305 ((hL 5 (by omega))) f_3958 rfl rfl rfl hl.1 rfl (Nat.le_of_ble_eq_true rfl) dX5_carryOutAll_90 ⟨by decide, by decide⟩ ⟨by decide, by decide⟩) rfl rfl (fun r_3961 F_3959 H locs hw hp_3960 => ?_)
                obtain ⟨he_3962, o_3963⟩ := hp_3960
                subst he_3962
                have sl_3964 := slA_lt t9 (s8 + 2 + 2)
                have f_3965 : F_3959 (ad 0) = xO ad := (o_3963 (ad 0) ).trans f_3957
                have f_3966 : F_3905 (ad 134) = rw7 G u8 := (o_3909 (ad 134) ).trans h1348
                have f_3967 : F_3918 (ad 134) = rw7 G u8 := (o_3922 (ad 134) ).trans f_3966
                have f_3968 : F_3927 (ad 134) = rw7 G u8 := (o_3931 (ad 134) ).trans f_3967
                have f_3969 : F_3933 (ad 134) = rw7 G u8 := (o_3937 (ad 134) ).trans f_3968
                have f_3970 : F_3943 (ad 134) = rw7 G u8 := (o_3947 (ad 134) ).trans f_3969
                have f_3971 : F_3951 (ad 134) = rw7 G u8 := (o_3955 (ad 134) ).trans f_3970
                have f_3972 : F_3959 (ad 134) = rw7 G u8 := (o_3963 (ad 134) ).trans f_3971
                refine q_calli hw (q_runV (As := [.int (nI (98)), .int (nI (slA t9 (s8 + 1))), .int (nI (slA t9 (s8 + 2))), .int (nI (slA t9 (s8 + 2 + 2)))]) (c_X5_carryOut_98 l G L F_3959 ad hL hin (slA t9 (s8 + 1)) (slA t9 (s8 + 2)) (slA t9 (s8 + 2 + 2)) st8 _ f_3965 (hn8.keep (fun i0 hi => ((o_3963 (ad (i0)) )).trans (((o_3955 (ad (i0)) )).trans (((o_3947 (ad (i0)) )).trans (((o_3937 (ad (i0)) )).trans (((o_3931 (ad (i0)) )).trans (((o_3922 (ad (i0)) )).trans ((o_3909 (ad (i0)) ))))))))) (hrk8.keep (fun i0 hi => ((o_3963 (ad (i0)) )).trans (((o_3955 (ad (i0)) )).trans (((o_3947 (ad (i0)) )).trans (((o_3937 (ad (i0)) )).trans (((o_3931 (ad (i0)) )).trans (((o_3922 (ad (i0)) )).trans ((o_3909 (ad (i0)) ))))))))) f_3972 (by omega) (by omega) (by omega) (by omega) (by omega) (by omega) (by omega)) C0 hw vw_X5_299 ((hL 0 (by omega))) f_3965 rfl rfl rfl hl.1 rfl (Nat.le_of_ble_eq_true rfl) dX5_carryOutAll_93 ⟨by decide, by decide⟩ ⟨by decide, by decide⟩) rfl rfl (fun r_3975 F_3973 H locs hw hp_3974 => ?_)
                obtain ⟨h_3976, h_3977, h_3978, ⟨u_3981, h_3979⟩, h_3980⟩ := hp_3974
                subst h_3976
                refine lv_pop hx hb dX5_carryOutAll_96 rfl ?_
                refine lv_iinc (v := nI (c8 + 1)) (lv' := [(1, .int (nI (c8 + 1))), (5, .int (nI (s8 + 2))), (4, .int (nI (2))), (3, .int (nI (98))), (0, .ref (ad 0)), (2, .int (nI (s8)))]) hx hb dX5_carryOutAll_97 hl (k := 4) rfl (nI_add _ _) (by decide) rfl (fun ls hl => ?_)
                refine lv_iinc (v := nI (s8 + 1)) (lv' := [(2, .int (nI (s8 + 1))), (1, .int (nI (c8 + 1))), (5, .int (nI (s8 + 2))), (4, .int (nI (2))), (3, .int (nI (98))), (0, .ref (ad 0))]) hx hb dX5_carryOutAll_100 hl (k := 5) rfl (nI_add _ _) (by decide) rfl (fun ls hl => ?_)
                refine lv_goto (tgt := 4) hx hb dX5_carryOutAll_103 (by decide) ?_
                obtain ⟨k, rfl⟩ : ∃ k9, k = k9 + 1 := ⟨k - 1, by omega⟩
                have hR2 := (run_go (c := c8) (st := st8) (k := k) (un := 2) e8 rfl hd8 (by omega) (by omega)).symm.trans hR
                have hps : (ordS 98 (slA t9 (s8 + 1)) (slA t9 (s8 + 2)) (slA t9 (s8 + 2 + 2)) st8).2.1 ≤ 100000 := by show st8.2.1 - ordU 98 * st8.1 ≤ 100000; omega
                exact ih k (s8 + 1) (s8 + 2 + 4) (c8 + 1) (ordS 98 (slA t9 (s8 + 1)) (slA t9 (s8 + 2)) (slA t9 (s8 + 2 + 2)) st8) (by omega) (pr_skip hco hq8 hd8) (by omega) (fun h => pr_next hq8 hd8 h) hR2 h2 h6 hps (by omega) (by omega) (by omega) F_3973 H _ hw h_3977 h_3978 ⟨_, h_3979⟩ (fun q hq => ((h_3980 q (fun i hS => hq i (by omega))).trans ((o_3963 q ).trans ((o_3955 q ).trans ((o_3947 q ).trans ((o_3937 q ).trans ((o_3931 q ).trans ((o_3922 q ).trans ((o_3909 q ).trans (fr q (fun i hS => hq i (by omega)))))))))))) ls (lv_sub hl [5, 1, 0] rfl)
              · skip
                refine lv_iload_n hx hb dX5_carryOutAll_53 rfl (lv_at hl 3 rfl) ?_
                have f_3982 : F_3905 (ad 134) = rw7 G u8 := (o_3909 (ad 134) ).trans h1348
                have f_3983 : F_3918 (ad 134) = rw7 G u8 := (o_3922 (ad 134) ).trans f_3982
                have f_3984 : F_3927 (ad 134) = rw7 G u8 := (o_3931 (ad 134) ).trans f_3983
                have f_3985 : F_3933 (ad 134) = rw7 G u8 := (o_3937 (ad 134) ).trans f_3984
                exact r_i C0 hr hlk hw (v := nI (c8)) rfl (by rw [← hR, run_poor (k := k) (c := c8) (un := 2) e8 rfl (by omega)]; exact ⟨rfl, (hn8.keep (fun i0 hi => ((o_3937 (ad (i0)) )).trans (((o_3931 (ad (i0)) )).trans (((o_3922 (ad (i0)) )).trans ((o_3909 (ad (i0)) )))))), (hrk8.keep (fun i0 hi => ((o_3937 (ad (i0)) )).trans (((o_3931 (ad (i0)) )).trans (((o_3922 (ad (i0)) )).trans ((o_3909 (ad (i0)) )))))), ⟨_, f_3985⟩, (fun q hq => ((o_3937 q ).trans ((o_3931 q ).trans ((o_3922 q ).trans ((o_3909 q ).trans (fr q (fun i hS => hq i (by omega))))))))⟩) (Nat.le_refl _) (Nat.le_refl _) dX5_carryOutAll_54 hQ
          · skip
            rw [e8] at hl
            have hd8 : dgA t9 s8 = 2 := by unfold dgA; rw [e8]; decide
            refine lv_iload_n hx hb dX5_carryOutAll_24 rfl (lv_at hl 0 rfl) ?_
            refine q_calli hw (q_runS (As := [.int (nI (115))]) (c_X4_digitsOf_115 l G L F_3905 ) C0 hw sw_X5_220 rfl hl.1 rfl (Nat.le_of_ble_eq_true rfl) dX5_carryOutAll_25 ⟨by decide, by decide⟩ ⟨by decide, by decide⟩) rfl rfl (fun r_3988 F_3986 H locs hw hp_3987 => ?_)
            obtain ⟨he_3989, o_3990⟩ := hp_3987
            subst he_3989
            refine lv_istore (lv' := [(4, .int (nI (2))), (3, .int (nI (115))), (0, .ref (ad 0)), (1, .int (nI (c8))), (2, .int (nI (s8)))]) hx hb dX5_carryOutAll_28 hl (by decide) rfl (fun ls hl => ?_)
            refine lv_iload hx hb dX5_carryOutAll_30 (lv_at hl 0 rfl) ?_
            refine n_if_le (tgt := 100) hx hb dX5_carryOutAll_32 (by decide) (by decide) (fun c_32 => ?_) (fun c_32 => ?_)
            · skip
              exact absurd c_32 (by omega)
            · skip
              refine lv_aload_n hx hb dX5_carryOutAll_35 rfl (lv_at hl 2 rfl) ?_
              have f_3991 : F_3905 (ad 0) = xO ad := (o_3909 (ad 0) ).trans f_3903
              have f_3992 : F_3986 (ad 0) = xO ad := (o_3990 (ad 0) ).trans f_3991
              refine q_get C0 hw ((hL 0 (by omega))) f_3992 fw_X5_12 rfl dX5_carryOutAll_36 ?_
              have f_3993 : F_3905 (ad 22) = .inr (3, [.ref (ad 23), .int (nI (st8.2.1)), .int (nI (st8.2.2.1)), .int (nI (st8.2.2.2.1)), .int (nI (st8.2.2.2.2.1))]) := (o_3909 (ad 22) ).trans hn8.1
              have f_3994 : F_3986 (ad 22) = .inr (3, [.ref (ad 23), .int (nI (st8.2.1)), .int (nI (st8.2.2.1)), .int (nI (st8.2.2.2.1)), .int (nI (st8.2.2.2.2.1))]) := (o_3990 (ad 22) ).trans f_3993
              refine q_get C0 hw ((hL 22 (by omega))) f_3994 fw_X5_98 rfl dX5_carryOutAll_39 ?_
              refine lv_aload_n hx hb dX5_carryOutAll_42 rfl (lv_at hl 2 rfl) ?_
              refine lv_iload_n hx hb dX5_carryOutAll_43 rfl (lv_at hl 1 rfl) ?_
              refine q_calli hw (q_runS (As := [.int (nI (115))]) (c_X5_unitsOf_115 l G L F_3986 ) C0 hw sw_X5_225 rfl hl.1 rfl (Nat.le_of_ble_eq_true rfl) dX5_carryOutAll_44 ⟨by decide, by decide⟩ ⟨by decide, by decide⟩) rfl rfl (fun r_3997 F_3995 H locs hw hp_3996 => ?_)
              obtain ⟨he_3998, o_3999⟩ := hp_3996
              subst he_3998
              have f_4000 : F_3995 (ad 0) = xO ad := (o_3999 (ad 0) ).trans f_3992
              refine q_calli hw (q_runV (As := [.int (nI (1))]) (c_X5_costOf l G L F_3995 ad hL hin 1 st8 f_4000 (hn8.keep (fun i0 hi => ((o_3999 (ad (i0)) )).trans (((o_3990 (ad (i0)) )).trans ((o_3909 (ad (i0)) )))))) C0 hw vw_X5_228 ((hL 0 (by omega))) f_4000 rfl rfl rfl hl.1 rfl (Nat.le_of_ble_eq_true rfl) dX5_carryOutAll_47 ⟨by decide, by decide⟩ ⟨by decide, by decide⟩) rfl rfl (fun r_4003 F_4001 H locs hw hp_4002 => ?_)
              obtain ⟨he_4004, o_4005⟩ := hp_4002
              subst he_4004
              refine n_icmp_ge (tgt := 55) hx hb dX5_carryOutAll_50 (by decide) (by omega) (by omega) (fun c_50 => ?_) (fun c_50 => ?_)
              · skip
                refine lv_iload_n hx hb dX5_carryOutAll_55 rfl (lv_at hl 4 rfl) ?_
                refine lv_iload hx hb dX5_carryOutAll_56 (lv_at hl 0 rfl) ?_
                refine n_iadd hx hb dX5_carryOutAll_58 ?_
                refine lv_istore (lv' := [(5, .int (nI (s8 + 2))), (4, .int (nI (2))), (3, .int (nI (115))), (0, .ref (ad 0)), (1, .int (nI (c8))), (2, .int (nI (s8)))]) hx hb dX5_carryOutAll_59 hl (by decide) rfl (fun ls hl => ?_)
                refine lv_aload_n hx hb dX5_carryOutAll_61 rfl (lv_at hl 3 rfl) ?_
                refine lv_iload_n hx hb dX5_carryOutAll_62 rfl (lv_at hl 2 rfl) ?_
                refine lv_aload_n hx hb dX5_carryOutAll_63 rfl (lv_at hl 3 rfl) ?_
                have f_4006 : F_4001 (ad 0) = xO ad := (o_4005 (ad 0) ).trans f_4000
                refine q_get C0 hw ((hL 0 (by omega))) f_4006 fw_X5_37 rfl dX5_carryOutAll_64 ?_
                refine lv_iload_n hx hb dX5_carryOutAll_67 rfl (lv_at hl 5 rfl) ?_
                refine lv_iconst (v := nI 1) hx hb dX5_carryOutAll_68 (by decide) ?_
                refine n_iadd hx hb dX5_carryOutAll_69 ?_
                have f_4007 : F_3905 (ad 5) = tO (ad 6) t9.1 := (o_3909 (ad 5) ).trans f_3904
                have f_4008 : F_3986 (ad 5) = tO (ad 6) t9.1 := (o_3990 (ad 5) ).trans f_4007
                have f_4009 : F_3995 (ad 5) = tO (ad 6) t9.1 := (o_3999 (ad 5) ).trans f_4008
                have f_4010 : F_4001 (ad 5) = tO (ad 6) t9.1 := (o_4005 (ad 5) ).trans f_4009
                refine q_calli hw (q_runV (As := [.int (nI (s8 + 1))]) (c_X4_slotAt l G L F_4001 ad hL hin t9 (htx.keep (fun i0 hi => ((o_4005 (ad (i0)) )).trans (((o_3999 (ad (i0)) )).trans (((o_3990 (ad (i0)) )).trans (((o_3909 (ad (i0)) )).trans ((fr (ad (i0)) (fun i hS => hin (i0) i (by omega) (by omega) (by omega))))))))) hco (s8 + 1) (by omega)) C0 hw vw_X5_305 ((hL 5 (by omega))) f_4010 rfl rfl rfl hl.1 rfl (Nat.le_of_ble_eq_true rfl) dX5_carryOutAll_70 ⟨by decide, by decide⟩ ⟨by decide, by decide⟩) rfl rfl (fun r_4013 F_4011 H locs hw hp_4012 => ?_)
                obtain ⟨he_4014, o_4015⟩ := hp_4012
                subst he_4014
                have sl_4016 := slA_lt t9 (s8 + 1)
                refine lv_aload_n hx hb dX5_carryOutAll_73 rfl (lv_at hl 3 rfl) ?_
                have f_4017 : F_4011 (ad 0) = xO ad := (o_4015 (ad 0) ).trans f_4006
                refine q_get C0 hw ((hL 0 (by omega))) f_4017 fw_X5_37 rfl dX5_carryOutAll_74 ?_
                refine lv_iload hx hb dX5_carryOutAll_77 (lv_at hl 0 rfl) ?_
                have f_4018 : F_4011 (ad 5) = tO (ad 6) t9.1 := (o_4015 (ad 5) ).trans f_4010
                refine q_calli hw (q_runV (As := [.int (nI (s8 + 2))]) (c_X4_slotAt l G L F_4011 ad hL hin t9 (htx.keep (fun i0 hi => ((o_4015 (ad (i0)) )).trans (((o_4005 (ad (i0)) )).trans (((o_3999 (ad (i0)) )).trans (((o_3990 (ad (i0)) )).trans (((o_3909 (ad (i0)) )).trans ((fr (ad (i0)) (fun i hS => hin (i0) i (by omega) (by omega) (by omega)))))))))) hco (s8 + 2) (by omega)) C0 hw vw_X5_305 ((hL 5 (by omega))) f_4018 rfl rfl rfl hl.1 rfl (Nat.le_of_ble_eq_true rfl) dX5_carryOutAll_79 ⟨by decide, by decide⟩ ⟨by decide, by decide⟩) rfl rfl (fun r_4021 F_4019 H locs hw hp_4020 => ?_)
                obtain ⟨he_4022, o_4023⟩ := hp_4020
                subst he_4022
                have sl_4024 := slA_lt t9 (s8 + 2)
                refine lv_aload_n hx hb dX5_carryOutAll_82 rfl (lv_at hl 3 rfl) ?_
                have f_4025 : F_4019 (ad 0) = xO ad := (o_4023 (ad 0) ).trans f_4017
                refine q_get C0 hw ((hL 0 (by omega))) f_4025 fw_X5_37 rfl dX5_carryOutAll_83 ?_
                refine lv_iload hx hb dX5_carryOutAll_86 (lv_at hl 0 rfl) ?_
                refine lv_iconst (v := nI 2) hx hb dX5_carryOutAll_88 (by decide) ?_
                refine n_iadd hx hb dX5_carryOutAll_89 ?_
                have f_4026 : F_4019 (ad 5) = tO (ad 6) t9.1 := (o_4023 (ad 5) ).trans f_4018
                refine q_calli hw (q_runV (As := [.int (nI (s8 + 2 + 2))]) (c_X4_slotAt l G L F_4019 ad hL hin t9 (htx.keep (fun i0 hi => ((o_4023 (ad (i0)) )).trans (((o_4015 (ad (i0)) )).trans (((o_4005 (ad (i0)) )).trans (((o_3999 (ad (i0)) )).trans (((o_3990 (ad (i0)) )).trans (((o_3909 (ad (i0)) )).trans ((fr (ad (i0)) (fun i hS => hin (i0) i (by omega) (by omega) (by omega))))))))))) hco (s8 + 2 + 2) (by omega)) C0 hw vw_X5_305 ((hL 5 (by omega))) f_4026 rfl rfl rfl hl.1 rfl (Nat.le_of_ble_eq_true rfl) dX5_carryOutAll_90 ⟨by decide, by decide⟩ ⟨by decide, by decide⟩) rfl rfl (fun r_4029 F_4027 H locs hw hp_4028 => ?_)
                obtain ⟨he_4030, o_4031⟩ := hp_4028
                subst he_4030
                have sl_4032 := slA_lt t9 (s8 + 2 + 2)
                have f_4033 : F_4027 (ad 0) = xO ad := (o_4031 (ad 0) ).trans f_4025
                have f_4034 : F_3905 (ad 134) = rw7 G u8 := (o_3909 (ad 134) ).trans h1348
                have f_4035 : F_3986 (ad 134) = rw7 G u8 := (o_3990 (ad 134) ).trans f_4034
                have f_4036 : F_3995 (ad 134) = rw7 G u8 := (o_3999 (ad 134) ).trans f_4035
                have f_4037 : F_4001 (ad 134) = rw7 G u8 := (o_4005 (ad 134) ).trans f_4036
                have f_4038 : F_4011 (ad 134) = rw7 G u8 := (o_4015 (ad 134) ).trans f_4037
                have f_4039 : F_4019 (ad 134) = rw7 G u8 := (o_4023 (ad 134) ).trans f_4038
                have f_4040 : F_4027 (ad 134) = rw7 G u8 := (o_4031 (ad 134) ).trans f_4039
                refine q_calli hw (q_runV (As := [.int (nI (115)), .int (nI (slA t9 (s8 + 1))), .int (nI (slA t9 (s8 + 2))), .int (nI (slA t9 (s8 + 2 + 2)))]) (c_X5_carryOut_115 l G L F_4027 ad hL hin (slA t9 (s8 + 1)) (slA t9 (s8 + 2)) (slA t9 (s8 + 2 + 2)) st8 _ f_4033 (hn8.keep (fun i0 hi => ((o_4031 (ad (i0)) )).trans (((o_4023 (ad (i0)) )).trans (((o_4015 (ad (i0)) )).trans (((o_4005 (ad (i0)) )).trans (((o_3999 (ad (i0)) )).trans (((o_3990 (ad (i0)) )).trans ((o_3909 (ad (i0)) ))))))))) (hrk8.keep (fun i0 hi => ((o_4031 (ad (i0)) )).trans (((o_4023 (ad (i0)) )).trans (((o_4015 (ad (i0)) )).trans (((o_4005 (ad (i0)) )).trans (((o_3999 (ad (i0)) )).trans (((o_3990 (ad (i0)) )).trans ((o_3909 (ad (i0)) ))))))))) f_4040 (by omega) (by omega) (by omega) (by omega) (by omega) (by omega) (by omega)) C0 hw vw_X5_299 ((hL 0 (by omega))) f_4033 rfl rfl rfl hl.1 rfl (Nat.le_of_ble_eq_true rfl) dX5_carryOutAll_93 ⟨by decide, by decide⟩ ⟨by decide, by decide⟩) rfl rfl (fun r_4043 F_4041 H locs hw hp_4042 => ?_)
                obtain ⟨h_4044, h_4045, h_4046, ⟨u_4049, h_4047⟩, h_4048⟩ := hp_4042
                subst h_4044
                refine lv_pop hx hb dX5_carryOutAll_96 rfl ?_
                refine lv_iinc (v := nI (c8 + 1)) (lv' := [(1, .int (nI (c8 + 1))), (5, .int (nI (s8 + 2))), (4, .int (nI (2))), (3, .int (nI (115))), (0, .ref (ad 0)), (2, .int (nI (s8)))]) hx hb dX5_carryOutAll_97 hl (k := 4) rfl (nI_add _ _) (by decide) rfl (fun ls hl => ?_)
                refine lv_iinc (v := nI (s8 + 1)) (lv' := [(2, .int (nI (s8 + 1))), (1, .int (nI (c8 + 1))), (5, .int (nI (s8 + 2))), (4, .int (nI (2))), (3, .int (nI (115))), (0, .ref (ad 0))]) hx hb dX5_carryOutAll_100 hl (k := 5) rfl (nI_add _ _) (by decide) rfl (fun ls hl => ?_)
                refine lv_goto (tgt := 4) hx hb dX5_carryOutAll_103 (by decide) ?_
                obtain ⟨k, rfl⟩ : ∃ k9, k = k9 + 1 := ⟨k - 1, by omega⟩
                have hR2 := (run_go (c := c8) (st := st8) (k := k) (un := 1) e8 rfl hd8 (by omega) (by omega)).symm.trans hR
                have hps : (ordS 115 (slA t9 (s8 + 1)) (slA t9 (s8 + 2)) (slA t9 (s8 + 2 + 2)) st8).2.1 ≤ 100000 := by show st8.2.1 - ordU 115 * st8.1 ≤ 100000; omega
                exact ih k (s8 + 1) (s8 + 2 + 4) (c8 + 1) (ordS 115 (slA t9 (s8 + 1)) (slA t9 (s8 + 2)) (slA t9 (s8 + 2 + 2)) st8) (by omega) (pr_skip hco hq8 hd8) (by omega) (fun h => pr_next hq8 hd8 h) hR2 h2 h6 hps (by omega) (by omega) (by omega) F_4041 H _ hw h_4045 h_4046 ⟨_, h_4047⟩ (fun q hq => ((h_4048 q (fun i hS => hq i (by omega))).trans ((o_4031 q ).trans ((o_4023 q ).trans ((o_4015 q ).trans ((o_4005 q ).trans ((o_3999 q ).trans ((o_3990 q ).trans ((o_3909 q ).trans (fr q (fun i hS => hq i (by omega)))))))))))) ls (lv_sub hl [5, 1, 0] rfl)
              · skip
                refine lv_iload_n hx hb dX5_carryOutAll_53 rfl (lv_at hl 3 rfl) ?_
                have f_4050 : F_3905 (ad 134) = rw7 G u8 := (o_3909 (ad 134) ).trans h1348
                have f_4051 : F_3986 (ad 134) = rw7 G u8 := (o_3990 (ad 134) ).trans f_4050
                have f_4052 : F_3995 (ad 134) = rw7 G u8 := (o_3999 (ad 134) ).trans f_4051
                have f_4053 : F_4001 (ad 134) = rw7 G u8 := (o_4005 (ad 134) ).trans f_4052
                exact r_i C0 hr hlk hw (v := nI (c8)) rfl (by rw [← hR, run_poor (k := k) (c := c8) (un := 1) e8 rfl (by omega)]; exact ⟨rfl, (hn8.keep (fun i0 hi => ((o_4005 (ad (i0)) )).trans (((o_3999 (ad (i0)) )).trans (((o_3990 (ad (i0)) )).trans ((o_3909 (ad (i0)) )))))), (hrk8.keep (fun i0 hi => ((o_4005 (ad (i0)) )).trans (((o_3999 (ad (i0)) )).trans (((o_3990 (ad (i0)) )).trans ((o_3909 (ad (i0)) )))))), ⟨_, f_4053⟩, (fun q hq => ((o_4005 q ).trans ((o_3999 q ).trans ((o_3990 q ).trans ((o_3909 q ).trans (fr q (fun i hS => hq i (by omega))))))))⟩) (Nat.le_refl _) (Nat.le_refl _) dX5_carryOutAll_54 hQ
          · skip
            rw [e8] at hl
            have hd8 : dgA t9 s8 = 2 := by unfold dgA; rw [e8]; decide
            refine lv_iload_n hx hb dX5_carryOutAll_24 rfl (lv_at hl 0 rfl) ?_
            refine q_calli hw (q_runS (As := [.int (nI (119))]) (c_X4_digitsOf_119 l G L F_3905 ) C0 hw sw_X5_220 rfl hl.1 rfl (Nat.le_of_ble_eq_true rfl) dX5_carryOutAll_25 ⟨by decide, by decide⟩ ⟨by decide, by decide⟩) rfl rfl (fun r_4056 F_4054 H locs hw hp_4055 => ?_)
            obtain ⟨he_4057, o_4058⟩ := hp_4055
            subst he_4057
            refine lv_istore (lv' := [(4, .int (nI (2))), (3, .int (nI (119))), (0, .ref (ad 0)), (1, .int (nI (c8))), (2, .int (nI (s8)))]) hx hb dX5_carryOutAll_28 hl (by decide) rfl (fun ls hl => ?_)
            refine lv_iload hx hb dX5_carryOutAll_30 (lv_at hl 0 rfl) ?_
            refine n_if_le (tgt := 100) hx hb dX5_carryOutAll_32 (by decide) (by decide) (fun c_32 => ?_) (fun c_32 => ?_)
            · skip
              exact absurd c_32 (by omega)
            · skip
              refine lv_aload_n hx hb dX5_carryOutAll_35 rfl (lv_at hl 2 rfl) ?_
              have f_4059 : F_3905 (ad 0) = xO ad := (o_3909 (ad 0) ).trans f_3903
              have f_4060 : F_4054 (ad 0) = xO ad := (o_4058 (ad 0) ).trans f_4059
              refine q_get C0 hw ((hL 0 (by omega))) f_4060 fw_X5_12 rfl dX5_carryOutAll_36 ?_
              have f_4061 : F_3905 (ad 22) = .inr (3, [.ref (ad 23), .int (nI (st8.2.1)), .int (nI (st8.2.2.1)), .int (nI (st8.2.2.2.1)), .int (nI (st8.2.2.2.2.1))]) := (o_3909 (ad 22) ).trans hn8.1
              have f_4062 : F_4054 (ad 22) = .inr (3, [.ref (ad 23), .int (nI (st8.2.1)), .int (nI (st8.2.2.1)), .int (nI (st8.2.2.2.1)), .int (nI (st8.2.2.2.2.1))]) := (o_4058 (ad 22) ).trans f_4061
              refine q_get C0 hw ((hL 22 (by omega))) f_4062 fw_X5_98 rfl dX5_carryOutAll_39 ?_
              refine lv_aload_n hx hb dX5_carryOutAll_42 rfl (lv_at hl 2 rfl) ?_
              refine lv_iload_n hx hb dX5_carryOutAll_43 rfl (lv_at hl 1 rfl) ?_
              refine q_calli hw (q_runS (As := [.int (nI (119))]) (c_X5_unitsOf_119 l G L F_4054 ) C0 hw sw_X5_225 rfl hl.1 rfl (Nat.le_of_ble_eq_true rfl) dX5_carryOutAll_44 ⟨by decide, by decide⟩ ⟨by decide, by decide⟩) rfl rfl (fun r_4065 F_4063 H locs hw hp_4064 => ?_)
              obtain ⟨he_4066, o_4067⟩ := hp_4064
              subst he_4066
              have f_4068 : F_4063 (ad 0) = xO ad := (o_4067 (ad 0) ).trans f_4060
              refine q_calli hw (q_runV (As := [.int (nI (20))]) (c_X5_costOf l G L F_4063 ad hL hin 20 st8 f_4068 (hn8.keep (fun i0 hi => ((o_4067 (ad (i0)) )).trans (((o_4058 (ad (i0)) )).trans ((o_3909 (ad (i0)) )))))) C0 hw vw_X5_228 ((hL 0 (by omega))) f_4068 rfl rfl rfl hl.1 rfl (Nat.le_of_ble_eq_true rfl) dX5_carryOutAll_47 ⟨by decide, by decide⟩ ⟨by decide, by decide⟩) rfl rfl (fun r_4071 F_4069 H locs hw hp_4070 => ?_)
              obtain ⟨he_4072, o_4073⟩ := hp_4070
              subst he_4072
              refine n_icmp_ge (tgt := 55) hx hb dX5_carryOutAll_50 (by decide) (by omega) (by omega) (fun c_50 => ?_) (fun c_50 => ?_)
              · skip
                refine lv_iload_n hx hb dX5_carryOutAll_55 rfl (lv_at hl 4 rfl) ?_
                refine lv_iload hx hb dX5_carryOutAll_56 (lv_at hl 0 rfl) ?_
                refine n_iadd hx hb dX5_carryOutAll_58 ?_
                refine lv_istore (lv' := [(5, .int (nI (s8 + 2))), (4, .int (nI (2))), (3, .int (nI (119))), (0, .ref (ad 0)), (1, .int (nI (c8))), (2, .int (nI (s8)))]) hx hb dX5_carryOutAll_59 hl (by decide) rfl (fun ls hl => ?_)
                refine lv_aload_n hx hb dX5_carryOutAll_61 rfl (lv_at hl 3 rfl) ?_
                refine lv_iload_n hx hb dX5_carryOutAll_62 rfl (lv_at hl 2 rfl) ?_
                refine lv_aload_n hx hb dX5_carryOutAll_63 rfl (lv_at hl 3 rfl) ?_
                have f_4074 : F_4069 (ad 0) = xO ad := (o_4073 (ad 0) ).trans f_4068
                refine q_get C0 hw ((hL 0 (by omega))) f_4074 fw_X5_37 rfl dX5_carryOutAll_64 ?_
                refine lv_iload_n hx hb dX5_carryOutAll_67 rfl (lv_at hl 5 rfl) ?_
                refine lv_iconst (v := nI 1) hx hb dX5_carryOutAll_68 (by decide) ?_
                refine n_iadd hx hb dX5_carryOutAll_69 ?_
                have f_4075 : F_3905 (ad 5) = tO (ad 6) t9.1 := (o_3909 (ad 5) ).trans f_3904
                have f_4076 : F_4054 (ad 5) = tO (ad 6) t9.1 := (o_4058 (ad 5) ).trans f_4075
                have f_4077 : F_4063 (ad 5) = tO (ad 6) t9.1 := (o_4067 (ad 5) ).trans f_4076
                have f_4078 : F_4069 (ad 5) = tO (ad 6) t9.1 := (o_4073 (ad 5) ).trans f_4077
                refine q_calli hw (q_runV (As := [.int (nI (s8 + 1))]) (c_X4_slotAt l G L F_4069 ad hL hin t9 (htx.keep (fun i0 hi => ((o_4073 (ad (i0)) )).trans (((o_4067 (ad (i0)) )).trans (((o_4058 (ad (i0)) )).trans (((o_3909 (ad (i0)) )).trans ((fr (ad (i0)) (fun i hS => hin (i0) i (by omega) (by omega) (by omega))))))))) hco (s8 + 1) (by omega)) C0 hw vw_X5_305 ((hL 5 (by omega))) f_4078 rfl rfl rfl hl.1 rfl (Nat.le_of_ble_eq_true rfl) dX5_carryOutAll_70 ⟨by decide, by decide⟩ ⟨by decide, by decide⟩) rfl rfl (fun r_4081 F_4079 H locs hw hp_4080 => ?_)
                obtain ⟨he_4082, o_4083⟩ := hp_4080
                subst he_4082
                have sl_4084 := slA_lt t9 (s8 + 1)
                refine lv_aload_n hx hb dX5_carryOutAll_73 rfl (lv_at hl 3 rfl) ?_
                have f_4085 : F_4079 (ad 0) = xO ad := (o_4083 (ad 0) ).trans f_4074
                refine q_get C0 hw ((hL 0 (by omega))) f_4085 fw_X5_37 rfl dX5_carryOutAll_74 ?_
                refine lv_iload hx hb dX5_carryOutAll_77 (lv_at hl 0 rfl) ?_
                have f_4086 : F_4079 (ad 5) = tO (ad 6) t9.1 := (o_4083 (ad 5) ).trans f_4078
                refine q_calli hw (q_runV (As := [.int (nI (s8 + 2))]) (c_X4_slotAt l G L F_4079 ad hL hin t9 (htx.keep (fun i0 hi => ((o_4083 (ad (i0)) )).trans (((o_4073 (ad (i0)) )).trans (((o_4067 (ad (i0)) )).trans (((o_4058 (ad (i0)) )).trans (((o_3909 (ad (i0)) )).trans ((fr (ad (i0)) (fun i hS => hin (i0) i (by omega) (by omega) (by omega)))))))))) hco (s8 + 2) (by omega)) C0 hw vw_X5_305 ((hL 5 (by omega))) f_4086 rfl rfl rfl hl.1 rfl (Nat.le_of_ble_eq_true rfl) dX5_carryOutAll_79 ⟨by decide, by decide⟩ ⟨by decide, by decide⟩) rfl rfl (fun r_4089 F_4087 H locs hw hp_4088 => ?_)
                obtain ⟨he_4090, o_4091⟩ := hp_4088
                subst he_4090
                have sl_4092 := slA_lt t9 (s8 + 2)
                refine lv_aload_n hx hb dX5_carryOutAll_82 rfl (lv_at hl 3 rfl) ?_
                have f_4093 : F_4087 (ad 0) = xO ad := (o_4091 (ad 0) ).trans f_4085
                refine q_get C0 hw ((hL 0 (by omega))) f_4093 fw_X5_37 rfl dX5_carryOutAll_83 ?_
                refine lv_iload hx hb dX5_carryOutAll_86 (lv_at hl 0 rfl) ?_
                refine lv_iconst (v := nI 2) hx hb dX5_carryOutAll_88 (by decide) ?_
                refine n_iadd hx hb dX5_carryOutAll_89 ?_
                have f_4094 : F_4087 (ad 5) = tO (ad 6) t9.1 := (o_4091 (ad 5) ).trans f_4086
                refine q_calli hw (q_runV (As := [.int (nI (s8 + 2 + 2))]) (c_X4_slotAt l G L F_4087 ad hL hin t9 (htx.keep (fun i0 hi => ((o_4091 (ad (i0)) )).trans (((o_4083 (ad (i0)) )).trans (((o_4073 (ad (i0)) )).trans (((o_4067 (ad (i0)) )).trans (((o_4058 (ad (i0)) )).trans (((o_3909 (ad (i0)) )).trans ((fr (ad (i0)) (fun i hS => hin (i0) i (by omega) (by omega) (by omega))))))))))) hco (s8 + 2 + 2) (by omega)) C0 hw vw_X5_305 ((hL 5 (by omega))) f_4094 rfl rfl rfl hl.1 rfl (Nat.le_of_ble_eq_true rfl) dX5_carryOutAll_90 ⟨by decide, by decide⟩ ⟨by decide, by decide⟩) rfl rfl (fun r_4097 F_4095 H locs hw hp_4096 => ?_)
                obtain ⟨he_4098, o_4099⟩ := hp_4096
                subst he_4098
                have sl_4100 := slA_lt t9 (s8 + 2 + 2)
                have f_4101 : F_4095 (ad 0) = xO ad := (o_4099 (ad 0) ).trans f_4093
                have f_4102 : F_3905 (ad 134) = rw7 G u8 := (o_3909 (ad 134) ).trans h1348
                have f_4103 : F_4054 (ad 134) = rw7 G u8 := (o_4058 (ad 134) ).trans f_4102
                have f_4104 : F_4063 (ad 134) = rw7 G u8 := (o_4067 (ad 134) ).trans f_4103
                have f_4105 : F_4069 (ad 134) = rw7 G u8 := (o_4073 (ad 134) ).trans f_4104
                have f_4106 : F_4079 (ad 134) = rw7 G u8 := (o_4083 (ad 134) ).trans f_4105
                have f_4107 : F_4087 (ad 134) = rw7 G u8 := (o_4091 (ad 134) ).trans f_4106
                have f_4108 : F_4095 (ad 134) = rw7 G u8 := (o_4099 (ad 134) ).trans f_4107
                refine q_calli hw (q_runV (As := [.int (nI (119)), .int (nI (slA t9 (s8 + 1))), .int (nI (slA t9 (s8 + 2))), .int (nI (slA t9 (s8 + 2 + 2)))]) (c_X5_carryOut_119 l G L F_4095 ad hL hin (slA t9 (s8 + 1)) (slA t9 (s8 + 2)) (slA t9 (s8 + 2 + 2)) st8 _ f_4101 (hn8.keep (fun i0 hi => ((o_4099 (ad (i0)) )).trans (((o_4091 (ad (i0)) )).trans (((o_4083 (ad (i0)) )).trans (((o_4073 (ad (i0)) )).trans (((o_4067 (ad (i0)) )).trans (((o_4058 (ad (i0)) )).trans ((o_3909 (ad (i0)) ))))))))) (hrk8.keep (fun i0 hi => ((o_4099 (ad (i0)) )).trans (((o_4091 (ad (i0)) )).trans (((o_4083 (ad (i0)) )).trans (((o_4073 (ad (i0)) )).trans (((o_4067 (ad (i0)) )).trans (((o_4058 (ad (i0)) )).trans ((o_3909 (ad (i0)) ))))))))) f_4108 (by omega) (by omega) (by omega) (by omega) (by omega) (by omega) (by omega)) C0 hw vw_X5_299 ((hL 0 (by omega))) f_4101 rfl rfl rfl hl.1 rfl (Nat.le_of_ble_eq_true rfl) dX5_carryOutAll_93 ⟨by decide, by decide⟩ ⟨by decide, by decide⟩) rfl rfl (fun r_4111 F_4109 H locs hw hp_4110 => ?_)
                obtain ⟨h_4112, h_4113, h_4114, ⟨u_4117, h_4115⟩, h_4116⟩ := hp_4110
                subst h_4112
                refine lv_pop hx hb dX5_carryOutAll_96 rfl ?_
                refine lv_iinc (v := nI (c8 + 1)) (lv' := [(1, .int (nI (c8 + 1))), (5, .int (nI (s8 + 2))), (4, .int (nI (2))), (3, .int (nI (119))), (0, .ref (ad 0)), (2, .int (nI (s8)))]) hx hb dX5_carryOutAll_97 hl (k := 4) rfl (nI_add _ _) (by decide) rfl (fun ls hl => ?_)
                refine lv_iinc (v := nI (s8 + 1)) (lv' := [(2, .int (nI (s8 + 1))), (1, .int (nI (c8 + 1))), (5, .int (nI (s8 + 2))), (4, .int (nI (2))), (3, .int (nI (119))), (0, .ref (ad 0))]) hx hb dX5_carryOutAll_100 hl (k := 5) rfl (nI_add _ _) (by decide) rfl (fun ls hl => ?_)
                refine lv_goto (tgt := 4) hx hb dX5_carryOutAll_103 (by decide) ?_
                obtain ⟨k, rfl⟩ : ∃ k9, k = k9 + 1 := ⟨k - 1, by omega⟩
                have hR2 := (run_go (c := c8) (st := st8) (k := k) (un := 20) e8 rfl hd8 (by omega) (by omega)).symm.trans hR
                have hps : (ordS 119 (slA t9 (s8 + 1)) (slA t9 (s8 + 2)) (slA t9 (s8 + 2 + 2)) st8).2.1 ≤ 100000 := by show st8.2.1 - ordU 119 * st8.1 ≤ 100000; omega
                exact ih k (s8 + 1) (s8 + 2 + 4) (c8 + 1) (ordS 119 (slA t9 (s8 + 1)) (slA t9 (s8 + 2)) (slA t9 (s8 + 2 + 2)) st8) (by omega) (pr_skip hco hq8 hd8) (by omega) (fun h => pr_next hq8 hd8 h) hR2 h2 h6 hps (by omega) (by omega) (by omega) F_4109 H _ hw h_4113 h_4114 ⟨_, h_4115⟩ (fun q hq => ((h_4116 q (fun i hS => hq i (by omega))).trans ((o_4099 q ).trans ((o_4091 q ).trans ((o_4083 q ).trans ((o_4073 q ).trans ((o_4067 q ).trans ((o_4058 q ).trans ((o_3909 q ).trans (fr q (fun i hS => hq i (by omega)))))))))))) ls (lv_sub hl [5, 1, 0] rfl)
              · skip
                refine lv_iload_n hx hb dX5_carryOutAll_53 rfl (lv_at hl 3 rfl) ?_
                have f_4118 : F_3905 (ad 134) = rw7 G u8 := (o_3909 (ad 134) ).trans h1348
                have f_4119 : F_4054 (ad 134) = rw7 G u8 := (o_4058 (ad 134) ).trans f_4118
                have f_4120 : F_4063 (ad 134) = rw7 G u8 := (o_4067 (ad 134) ).trans f_4119
                have f_4121 : F_4069 (ad 134) = rw7 G u8 := (o_4073 (ad 134) ).trans f_4120
                exact r_i C0 hr hlk hw (v := nI (c8)) rfl (by rw [← hR, run_poor (k := k) (c := c8) (un := 20) e8 rfl (by omega)]; exact ⟨rfl, (hn8.keep (fun i0 hi => ((o_4073 (ad (i0)) )).trans (((o_4067 (ad (i0)) )).trans (((o_4058 (ad (i0)) )).trans ((o_3909 (ad (i0)) )))))), (hrk8.keep (fun i0 hi => ((o_4073 (ad (i0)) )).trans (((o_4067 (ad (i0)) )).trans (((o_4058 (ad (i0)) )).trans ((o_3909 (ad (i0)) )))))), ⟨_, f_4121⟩, (fun q hq => ((o_4073 q ).trans ((o_4067 q ).trans ((o_4058 q ).trans ((o_3909 q ).trans (fr q (fun i hS => hq i (by omega))))))))⟩) (Nat.le_refl _) (Nat.le_refl _) dX5_carryOutAll_54 hQ
          · skip
            rw [e8] at hl
            have hd8 : dgA t9 s8 = 2 := by unfold dgA; rw [e8]; decide
            refine lv_iload_n hx hb dX5_carryOutAll_24 rfl (lv_at hl 0 rfl) ?_
            refine q_calli hw (q_runS (As := [.int (nI (112))]) (c_X4_digitsOf_112 l G L F_3905 ) C0 hw sw_X5_220 rfl hl.1 rfl (Nat.le_of_ble_eq_true rfl) dX5_carryOutAll_25 ⟨by decide, by decide⟩ ⟨by decide, by decide⟩) rfl rfl (fun r_4124 F_4122 H locs hw hp_4123 => ?_)
            obtain ⟨he_4125, o_4126⟩ := hp_4123
            subst he_4125
            refine lv_istore (lv' := [(4, .int (nI (2))), (3, .int (nI (112))), (0, .ref (ad 0)), (1, .int (nI (c8))), (2, .int (nI (s8)))]) hx hb dX5_carryOutAll_28 hl (by decide) rfl (fun ls hl => ?_)
            refine lv_iload hx hb dX5_carryOutAll_30 (lv_at hl 0 rfl) ?_
            refine n_if_le (tgt := 100) hx hb dX5_carryOutAll_32 (by decide) (by decide) (fun c_32 => ?_) (fun c_32 => ?_)
            · skip
              exact absurd c_32 (by omega)
            · skip
              refine lv_aload_n hx hb dX5_carryOutAll_35 rfl (lv_at hl 2 rfl) ?_
              have f_4127 : F_3905 (ad 0) = xO ad := (o_3909 (ad 0) ).trans f_3903
              have f_4128 : F_4122 (ad 0) = xO ad := (o_4126 (ad 0) ).trans f_4127
              refine q_get C0 hw ((hL 0 (by omega))) f_4128 fw_X5_12 rfl dX5_carryOutAll_36 ?_
              have f_4129 : F_3905 (ad 22) = .inr (3, [.ref (ad 23), .int (nI (st8.2.1)), .int (nI (st8.2.2.1)), .int (nI (st8.2.2.2.1)), .int (nI (st8.2.2.2.2.1))]) := (o_3909 (ad 22) ).trans hn8.1
              have f_4130 : F_4122 (ad 22) = .inr (3, [.ref (ad 23), .int (nI (st8.2.1)), .int (nI (st8.2.2.1)), .int (nI (st8.2.2.2.1)), .int (nI (st8.2.2.2.2.1))]) := (o_4126 (ad 22) ).trans f_4129
              refine q_get C0 hw ((hL 22 (by omega))) f_4130 fw_X5_98 rfl dX5_carryOutAll_39 ?_
              refine lv_aload_n hx hb dX5_carryOutAll_42 rfl (lv_at hl 2 rfl) ?_
              refine lv_iload_n hx hb dX5_carryOutAll_43 rfl (lv_at hl 1 rfl) ?_
              refine q_calli hw (q_runS (As := [.int (nI (112))]) (c_X5_unitsOf_112 l G L F_4122 ) C0 hw sw_X5_225 rfl hl.1 rfl (Nat.le_of_ble_eq_true rfl) dX5_carryOutAll_44 ⟨by decide, by decide⟩ ⟨by decide, by decide⟩) rfl rfl (fun r_4133 F_4131 H locs hw hp_4132 => ?_)
              obtain ⟨he_4134, o_4135⟩ := hp_4132
              subst he_4134
              have f_4136 : F_4131 (ad 0) = xO ad := (o_4135 (ad 0) ).trans f_4128
              refine q_calli hw (q_runV (As := [.int (nI (6))]) (c_X5_costOf l G L F_4131 ad hL hin 6 st8 f_4136 (hn8.keep (fun i0 hi => ((o_4135 (ad (i0)) )).trans (((o_4126 (ad (i0)) )).trans ((o_3909 (ad (i0)) )))))) C0 hw vw_X5_228 ((hL 0 (by omega))) f_4136 rfl rfl rfl hl.1 rfl (Nat.le_of_ble_eq_true rfl) dX5_carryOutAll_47 ⟨by decide, by decide⟩ ⟨by decide, by decide⟩) rfl rfl (fun r_4139 F_4137 H locs hw hp_4138 => ?_)
              obtain ⟨he_4140, o_4141⟩ := hp_4138
              subst he_4140
              refine n_icmp_ge (tgt := 55) hx hb dX5_carryOutAll_50 (by decide) (by omega) (by omega) (fun c_50 => ?_) (fun c_50 => ?_)
              · skip
                refine lv_iload_n hx hb dX5_carryOutAll_55 rfl (lv_at hl 4 rfl) ?_
                refine lv_iload hx hb dX5_carryOutAll_56 (lv_at hl 0 rfl) ?_
                refine n_iadd hx hb dX5_carryOutAll_58 ?_
                refine lv_istore (lv' := [(5, .int (nI (s8 + 2))), (4, .int (nI (2))), (3, .int (nI (112))), (0, .ref (ad 0)), (1, .int (nI (c8))), (2, .int (nI (s8)))]) hx hb dX5_carryOutAll_59 hl (by decide) rfl (fun ls hl => ?_)
                refine lv_aload_n hx hb dX5_carryOutAll_61 rfl (lv_at hl 3 rfl) ?_
                refine lv_iload_n hx hb dX5_carryOutAll_62 rfl (lv_at hl 2 rfl) ?_
                refine lv_aload_n hx hb dX5_carryOutAll_63 rfl (lv_at hl 3 rfl) ?_
                have f_4142 : F_4137 (ad 0) = xO ad := (o_4141 (ad 0) ).trans f_4136
                refine q_get C0 hw ((hL 0 (by omega))) f_4142 fw_X5_37 rfl dX5_carryOutAll_64 ?_
                refine lv_iload_n hx hb dX5_carryOutAll_67 rfl (lv_at hl 5 rfl) ?_
                refine lv_iconst (v := nI 1) hx hb dX5_carryOutAll_68 (by decide) ?_
                refine n_iadd hx hb dX5_carryOutAll_69 ?_
                have f_4143 : F_3905 (ad 5) = tO (ad 6) t9.1 := (o_3909 (ad 5) ).trans f_3904
                have f_4144 : F_4122 (ad 5) = tO (ad 6) t9.1 := (o_4126 (ad 5) ).trans f_4143
                have f_4145 : F_4131 (ad 5) = tO (ad 6) t9.1 := (o_4135 (ad 5) ).trans f_4144
                have f_4146 : F_4137 (ad 5) = tO (ad 6) t9.1 := (o_4141 (ad 5) ).trans f_4145
                refine q_calli hw (q_runV (As := [.int (nI (s8 + 1))]) (c_X4_slotAt l G L F_4137 ad hL hin t9 (htx.keep (fun i0 hi => ((o_4141 (ad (i0)) )).trans (((o_4135 (ad (i0)) )).trans (((o_4126 (ad (i0)) )).trans (((o_3909 (ad (i0)) )).trans ((fr (ad (i0)) (fun i hS => hin (i0) i (by omega) (by omega) (by omega))))))))) hco (s8 + 1) (by omega)) C0 hw vw_X5_305 ((hL 5 (by omega))) f_4146 rfl rfl rfl hl.1 rfl (Nat.le_of_ble_eq_true rfl) dX5_carryOutAll_70 ⟨by decide, by decide⟩ ⟨by decide, by decide⟩) rfl rfl (fun r_4149 F_4147 H locs hw hp_4148 => ?_)
                obtain ⟨he_4150, o_4151⟩ := hp_4148
                subst he_4150
                have sl_4152 := slA_lt t9 (s8 + 1)
                refine lv_aload_n hx hb dX5_carryOutAll_73 rfl (lv_at hl 3 rfl) ?_
                have f_4153 : F_4147 (ad 0) = xO ad := (o_4151 (ad 0) ).trans f_4142
                refine q_get C0 hw ((hL 0 (by omega))) f_4153 fw_X5_37 rfl dX5_carryOutAll_74 ?_
                refine lv_iload hx hb dX5_carryOutAll_77 (lv_at hl 0 rfl) ?_
                have f_4154 : F_4147 (ad 5) = tO (ad 6) t9.1 := (o_4151 (ad 5) ).trans f_4146
                refine q_calli hw (q_runV (As := [.int (nI (s8 + 2))]) (c_X4_slotAt l G L F_4147 ad hL hin t9 (htx.keep (fun i0 hi => ((o_4151 (ad (i0)) )).trans (((o_4141 (ad (i0)) )).trans (((o_4135 (ad (i0)) )).trans (((o_4126 (ad (i0)) )).trans (((o_3909 (ad (i0)) )).trans ((fr (ad (i0)) (fun i hS => hin (i0) i (by omega) (by omega) (by omega)))))))))) hco (s8 + 2) (by omega)) C0 hw vw_X5_305 ((hL 5 (by omega))) f_4154 rfl rfl rfl hl.1 rfl (Nat.le_of_ble_eq_true rfl) dX5_carryOutAll_79 ⟨by decide, by decide⟩ ⟨by decide, by decide⟩) rfl rfl (fun r_4157 F_4155 H locs hw hp_4156 => ?_)
                obtain ⟨he_4158, o_4159⟩ := hp_4156
                subst he_4158
                have sl_4160 := slA_lt t9 (s8 + 2)
                refine lv_aload_n hx hb dX5_carryOutAll_82 rfl (lv_at hl 3 rfl) ?_
                have f_4161 : F_4155 (ad 0) = xO ad := (o_4159 (ad 0) ).trans f_4153
                refine q_get C0 hw ((hL 0 (by omega))) f_4161 fw_X5_37 rfl dX5_carryOutAll_83 ?_
                refine lv_iload hx hb dX5_carryOutAll_86 (lv_at hl 0 rfl) ?_
                refine lv_iconst (v := nI 2) hx hb dX5_carryOutAll_88 (by decide) ?_
                refine n_iadd hx hb dX5_carryOutAll_89 ?_
                have f_4162 : F_4155 (ad 5) = tO (ad 6) t9.1 := (o_4159 (ad 5) ).trans f_4154
                refine q_calli hw (q_runV (As := [.int (nI (s8 + 2 + 2))]) (c_X4_slotAt l G L F_4155 ad hL hin t9 (htx.keep (fun i0 hi => ((o_4159 (ad (i0)) )).trans (((o_4151 (ad (i0)) )).trans (((o_4141 (ad (i0)) )).trans (((o_4135 (ad (i0)) )).trans (((o_4126 (ad (i0)) )).trans (((o_3909 (ad (i0)) )).trans ((fr (ad (i0)) (fun i hS => hin (i0) i (by omega) (by omega) (by omega))))))))))) hco (s8 + 2 + 2) (by omega)) C0 hw vw_X5_305 ((hL 5 (by omega))) f_4162 rfl rfl rfl hl.1 rfl (Nat.le_of_ble_eq_true rfl) dX5_carryOutAll_90 ⟨by decide, by decide⟩ ⟨by decide, by decide⟩) rfl rfl (fun r_4165 F_4163 H locs hw hp_4164 => ?_)
                obtain ⟨he_4166, o_4167⟩ := hp_4164
                subst he_4166
                have sl_4168 := slA_lt t9 (s8 + 2 + 2)
                have f_4169 : F_4163 (ad 0) = xO ad := (o_4167 (ad 0) ).trans f_4161
                have f_4170 : F_3905 (ad 134) = rw7 G u8 := (o_3909 (ad 134) ).trans h1348
                have f_4171 : F_4122 (ad 134) = rw7 G u8 := (o_4126 (ad 134) ).trans f_4170
                have f_4172 : F_4131 (ad 134) = rw7 G u8 := (o_4135 (ad 134) ).trans f_4171
                have f_4173 : F_4137 (ad 134) = rw7 G u8 := (o_4141 (ad 134) ).trans f_4172
                have f_4174 : F_4147 (ad 134) = rw7 G u8 := (o_4151 (ad 134) ).trans f_4173
                have f_4175 : F_4155 (ad 134) = rw7 G u8 := (o_4159 (ad 134) ).trans f_4174
                have f_4176 : F_4163 (ad 134) = rw7 G u8 := (o_4167 (ad 134) ).trans f_4175
                refine q_calli hw (q_runV (As := [.int (nI (112)), .int (nI (slA t9 (s8 + 1))), .int (nI (slA t9 (s8 + 2))), .int (nI (slA t9 (s8 + 2 + 2)))]) (c_X5_carryOut_112 l G L F_4163 ad hL hin (slA t9 (s8 + 1)) (slA t9 (s8 + 2)) (slA t9 (s8 + 2 + 2)) st8 _ f_4169 (hn8.keep (fun i0 hi => ((o_4167 (ad (i0)) )).trans (((o_4159 (ad (i0)) )).trans (((o_4151 (ad (i0)) )).trans (((o_4141 (ad (i0)) )).trans (((o_4135 (ad (i0)) )).trans (((o_4126 (ad (i0)) )).trans ((o_3909 (ad (i0)) ))))))))) (hrk8.keep (fun i0 hi => ((o_4167 (ad (i0)) )).trans (((o_4159 (ad (i0)) )).trans (((o_4151 (ad (i0)) )).trans (((o_4141 (ad (i0)) )).trans (((o_4135 (ad (i0)) )).trans (((o_4126 (ad (i0)) )).trans ((o_3909 (ad (i0)) ))))))))) f_4176 (by omega) (by omega) (by omega) (by omega) (by omega) (by omega) (by omega)) C0 hw vw_X5_299 ((hL 0 (by omega))) f_4169 rfl rfl rfl hl.1 rfl (Nat.le_of_ble_eq_true rfl) dX5_carryOutAll_93 ⟨by decide, by decide⟩ ⟨by decide, by decide⟩) rfl rfl (fun r_4179 F_4177 H locs hw hp_4178 => ?_)
                obtain ⟨h_4180, h_4181, h_4182, ⟨u_4185, h_4183⟩, h_4184⟩ := hp_4178
                subst h_4180
                refine lv_pop hx hb dX5_carryOutAll_96 rfl ?_
                refine lv_iinc (v := nI (c8 + 1)) (lv' := [(1, .int (nI (c8 + 1))), (5, .int (nI (s8 + 2))), (4, .int (nI (2))), (3, .int (nI (112))), (0, .ref (ad 0)), (2, .int (nI (s8)))]) hx hb dX5_carryOutAll_97 hl (k := 4) rfl (nI_add _ _) (by decide) rfl (fun ls hl => ?_)
                refine lv_iinc (v := nI (s8 + 1)) (lv' := [(2, .int (nI (s8 + 1))), (1, .int (nI (c8 + 1))), (5, .int (nI (s8 + 2))), (4, .int (nI (2))), (3, .int (nI (112))), (0, .ref (ad 0))]) hx hb dX5_carryOutAll_100 hl (k := 5) rfl (nI_add _ _) (by decide) rfl (fun ls hl => ?_)
                refine lv_goto (tgt := 4) hx hb dX5_carryOutAll_103 (by decide) ?_
                obtain ⟨k, rfl⟩ : ∃ k9, k = k9 + 1 := ⟨k - 1, by omega⟩
                have hR2 := (run_go (c := c8) (st := st8) (k := k) (un := 6) e8 rfl hd8 (by omega) (by omega)).symm.trans hR
                have hps : (ordS 112 (slA t9 (s8 + 1)) (slA t9 (s8 + 2)) (slA t9 (s8 + 2 + 2)) st8).2.1 ≤ 100000 := by show st8.2.1 - ordU 112 * st8.1 ≤ 100000; omega
                exact ih k (s8 + 1) (s8 + 2 + 4) (c8 + 1) (ordS 112 (slA t9 (s8 + 1)) (slA t9 (s8 + 2)) (slA t9 (s8 + 2 + 2)) st8) (by omega) (pr_skip hco hq8 hd8) (by omega) (fun h => pr_next hq8 hd8 h) hR2 h2 h6 hps (by omega) (by omega) (by omega) F_4177 H _ hw h_4181 h_4182 ⟨_, h_4183⟩ (fun q hq => ((h_4184 q (fun i hS => hq i (by omega))).trans ((o_4167 q ).trans ((o_4159 q ).trans ((o_4151 q ).trans ((o_4141 q ).trans ((o_4135 q ).trans ((o_4126 q ).trans ((o_3909 q ).trans (fr q (fun i hS => hq i (by omega)))))))))))) ls (lv_sub hl [5, 1, 0] rfl)
              · skip
                refine lv_iload_n hx hb dX5_carryOutAll_53 rfl (lv_at hl 3 rfl) ?_
                have f_4186 : F_3905 (ad 134) = rw7 G u8 := (o_3909 (ad 134) ).trans h1348
                have f_4187 : F_4122 (ad 134) = rw7 G u8 := (o_4126 (ad 134) ).trans f_4186
                have f_4188 : F_4131 (ad 134) = rw7 G u8 := (o_4135 (ad 134) ).trans f_4187
                have f_4189 : F_4137 (ad 134) = rw7 G u8 := (o_4141 (ad 134) ).trans f_4188
                exact r_i C0 hr hlk hw (v := nI (c8)) rfl (by rw [← hR, run_poor (k := k) (c := c8) (un := 6) e8 rfl (by omega)]; exact ⟨rfl, (hn8.keep (fun i0 hi => ((o_4141 (ad (i0)) )).trans (((o_4135 (ad (i0)) )).trans (((o_4126 (ad (i0)) )).trans ((o_3909 (ad (i0)) )))))), (hrk8.keep (fun i0 hi => ((o_4141 (ad (i0)) )).trans (((o_4135 (ad (i0)) )).trans (((o_4126 (ad (i0)) )).trans ((o_3909 (ad (i0)) )))))), ⟨_, f_4189⟩, (fun q hq => ((o_4141 q ).trans ((o_4135 q ).trans ((o_4126 q ).trans ((o_3909 q ).trans (fr q (fun i hS => hq i (by omega))))))))⟩) (Nat.le_refl _) (Nat.le_refl _) dX5_carryOutAll_54 hQ
          · skip
            rw [e8] at hl
            have hd8 : dgA t9 s8 = 1 := by unfold dgA; rw [e8]; decide
            refine lv_iload_n hx hb dX5_carryOutAll_24 rfl (lv_at hl 0 rfl) ?_
            refine q_calli hw (q_runS (As := [.int (nI (108))]) (c_X4_digitsOf_108 l G L F_3905 ) C0 hw sw_X5_220 rfl hl.1 rfl (Nat.le_of_ble_eq_true rfl) dX5_carryOutAll_25 ⟨by decide, by decide⟩ ⟨by decide, by decide⟩) rfl rfl (fun r_4192 F_4190 H locs hw hp_4191 => ?_)
            obtain ⟨he_4193, o_4194⟩ := hp_4191
            subst he_4193
            refine lv_istore (lv' := [(4, .int (nI (1))), (3, .int (nI (108))), (0, .ref (ad 0)), (1, .int (nI (c8))), (2, .int (nI (s8)))]) hx hb dX5_carryOutAll_28 hl (by decide) rfl (fun ls hl => ?_)
            refine lv_iload hx hb dX5_carryOutAll_30 (lv_at hl 0 rfl) ?_
            refine n_if_le (tgt := 100) hx hb dX5_carryOutAll_32 (by decide) (by decide) (fun c_32 => ?_) (fun c_32 => ?_)
            · skip
              exact absurd c_32 (by omega)
            · skip
              refine lv_aload_n hx hb dX5_carryOutAll_35 rfl (lv_at hl 2 rfl) ?_
              have f_4195 : F_3905 (ad 0) = xO ad := (o_3909 (ad 0) ).trans f_3903
              have f_4196 : F_4190 (ad 0) = xO ad := (o_4194 (ad 0) ).trans f_4195
              refine q_get C0 hw ((hL 0 (by omega))) f_4196 fw_X5_12 rfl dX5_carryOutAll_36 ?_
              have f_4197 : F_3905 (ad 22) = .inr (3, [.ref (ad 23), .int (nI (st8.2.1)), .int (nI (st8.2.2.1)), .int (nI (st8.2.2.2.1)), .int (nI (st8.2.2.2.2.1))]) := (o_3909 (ad 22) ).trans hn8.1
              have f_4198 : F_4190 (ad 22) = .inr (3, [.ref (ad 23), .int (nI (st8.2.1)), .int (nI (st8.2.2.1)), .int (nI (st8.2.2.2.1)), .int (nI (st8.2.2.2.2.1))]) := (o_4194 (ad 22) ).trans f_4197
              refine q_get C0 hw ((hL 22 (by omega))) f_4198 fw_X5_98 rfl dX5_carryOutAll_39 ?_
              refine lv_aload_n hx hb dX5_carryOutAll_42 rfl (lv_at hl 2 rfl) ?_
              refine lv_iload_n hx hb dX5_carryOutAll_43 rfl (lv_at hl 1 rfl) ?_
              refine q_calli hw (q_runS (As := [.int (nI (108))]) (c_X5_unitsOf_108 l G L F_4190 ) C0 hw sw_X5_225 rfl hl.1 rfl (Nat.le_of_ble_eq_true rfl) dX5_carryOutAll_44 ⟨by decide, by decide⟩ ⟨by decide, by decide⟩) rfl rfl (fun r_4201 F_4199 H locs hw hp_4200 => ?_)
              obtain ⟨he_4202, o_4203⟩ := hp_4200
              subst he_4202
              have f_4204 : F_4199 (ad 0) = xO ad := (o_4203 (ad 0) ).trans f_4196
              refine q_calli hw (q_runV (As := [.int (nI (6))]) (c_X5_costOf l G L F_4199 ad hL hin 6 st8 f_4204 (hn8.keep (fun i0 hi => ((o_4203 (ad (i0)) )).trans (((o_4194 (ad (i0)) )).trans ((o_3909 (ad (i0)) )))))) C0 hw vw_X5_228 ((hL 0 (by omega))) f_4204 rfl rfl rfl hl.1 rfl (Nat.le_of_ble_eq_true rfl) dX5_carryOutAll_47 ⟨by decide, by decide⟩ ⟨by decide, by decide⟩) rfl rfl (fun r_4207 F_4205 H locs hw hp_4206 => ?_)
              obtain ⟨he_4208, o_4209⟩ := hp_4206
              subst he_4208
              refine n_icmp_ge (tgt := 55) hx hb dX5_carryOutAll_50 (by decide) (by omega) (by omega) (fun c_50 => ?_) (fun c_50 => ?_)
              · skip
                refine lv_iload_n hx hb dX5_carryOutAll_55 rfl (lv_at hl 4 rfl) ?_
                refine lv_iload hx hb dX5_carryOutAll_56 (lv_at hl 0 rfl) ?_
                refine n_iadd hx hb dX5_carryOutAll_58 ?_
                refine lv_istore (lv' := [(5, .int (nI (s8 + 1))), (4, .int (nI (1))), (3, .int (nI (108))), (0, .ref (ad 0)), (1, .int (nI (c8))), (2, .int (nI (s8)))]) hx hb dX5_carryOutAll_59 hl (by decide) rfl (fun ls hl => ?_)
                refine lv_aload_n hx hb dX5_carryOutAll_61 rfl (lv_at hl 3 rfl) ?_
                refine lv_iload_n hx hb dX5_carryOutAll_62 rfl (lv_at hl 2 rfl) ?_
                refine lv_aload_n hx hb dX5_carryOutAll_63 rfl (lv_at hl 3 rfl) ?_
                have f_4210 : F_4205 (ad 0) = xO ad := (o_4209 (ad 0) ).trans f_4204
                refine q_get C0 hw ((hL 0 (by omega))) f_4210 fw_X5_37 rfl dX5_carryOutAll_64 ?_
                refine lv_iload_n hx hb dX5_carryOutAll_67 rfl (lv_at hl 5 rfl) ?_
                refine lv_iconst (v := nI 1) hx hb dX5_carryOutAll_68 (by decide) ?_
                refine n_iadd hx hb dX5_carryOutAll_69 ?_
                have f_4211 : F_3905 (ad 5) = tO (ad 6) t9.1 := (o_3909 (ad 5) ).trans f_3904
                have f_4212 : F_4190 (ad 5) = tO (ad 6) t9.1 := (o_4194 (ad 5) ).trans f_4211
                have f_4213 : F_4199 (ad 5) = tO (ad 6) t9.1 := (o_4203 (ad 5) ).trans f_4212
                have f_4214 : F_4205 (ad 5) = tO (ad 6) t9.1 := (o_4209 (ad 5) ).trans f_4213
                refine q_calli hw (q_runV (As := [.int (nI (s8 + 1))]) (c_X4_slotAt l G L F_4205 ad hL hin t9 (htx.keep (fun i0 hi => ((o_4209 (ad (i0)) )).trans (((o_4203 (ad (i0)) )).trans (((o_4194 (ad (i0)) )).trans (((o_3909 (ad (i0)) )).trans ((fr (ad (i0)) (fun i hS => hin (i0) i (by omega) (by omega) (by omega))))))))) hco (s8 + 1) (by omega)) C0 hw vw_X5_305 ((hL 5 (by omega))) f_4214 rfl rfl rfl hl.1 rfl (Nat.le_of_ble_eq_true rfl) dX5_carryOutAll_70 ⟨by decide, by decide⟩ ⟨by decide, by decide⟩) rfl rfl (fun r_4217 F_4215 H locs hw hp_4216 => ?_)
                obtain ⟨he_4218, o_4219⟩ := hp_4216
                subst he_4218
                have sl_4220 := slA_lt t9 (s8 + 1)
                refine lv_aload_n hx hb dX5_carryOutAll_73 rfl (lv_at hl 3 rfl) ?_
                have f_4221 : F_4215 (ad 0) = xO ad := (o_4219 (ad 0) ).trans f_4210
                refine q_get C0 hw ((hL 0 (by omega))) f_4221 fw_X5_37 rfl dX5_carryOutAll_74 ?_
                refine lv_iload hx hb dX5_carryOutAll_77 (lv_at hl 0 rfl) ?_
                have f_4222 : F_4215 (ad 5) = tO (ad 6) t9.1 := (o_4219 (ad 5) ).trans f_4214
                refine q_calli hw (q_runV (As := [.int (nI (s8 + 1))]) (c_X4_slotAt l G L F_4215 ad hL hin t9 (htx.keep (fun i0 hi => ((o_4219 (ad (i0)) )).trans (((o_4209 (ad (i0)) )).trans (((o_4203 (ad (i0)) )).trans (((o_4194 (ad (i0)) )).trans (((o_3909 (ad (i0)) )).trans ((fr (ad (i0)) (fun i hS => hin (i0) i (by omega) (by omega) (by omega)))))))))) hco (s8 + 1) (by omega)) C0 hw vw_X5_305 ((hL 5 (by omega))) f_4222 rfl rfl rfl hl.1 rfl (Nat.le_of_ble_eq_true rfl) dX5_carryOutAll_79 ⟨by decide, by decide⟩ ⟨by decide, by decide⟩) rfl rfl (fun r_4225 F_4223 H locs hw hp_4224 => ?_)
                obtain ⟨he_4226, o_4227⟩ := hp_4224
                subst he_4226
                have sl_4228 := slA_lt t9 (s8 + 1)
                refine lv_aload_n hx hb dX5_carryOutAll_82 rfl (lv_at hl 3 rfl) ?_
                have f_4229 : F_4223 (ad 0) = xO ad := (o_4227 (ad 0) ).trans f_4221
                refine q_get C0 hw ((hL 0 (by omega))) f_4229 fw_X5_37 rfl dX5_carryOutAll_83 ?_
                refine lv_iload hx hb dX5_carryOutAll_86 (lv_at hl 0 rfl) ?_
                refine lv_iconst (v := nI 2) hx hb dX5_carryOutAll_88 (by decide) ?_
                refine n_iadd hx hb dX5_carryOutAll_89 ?_
                have f_4230 : F_4223 (ad 5) = tO (ad 6) t9.1 := (o_4227 (ad 5) ).trans f_4222
                refine q_calli hw (q_runV (As := [.int (nI (s8 + 1 + 2))]) (c_X4_slotAt l G L F_4223 ad hL hin t9 (htx.keep (fun i0 hi => ((o_4227 (ad (i0)) )).trans (((o_4219 (ad (i0)) )).trans (((o_4209 (ad (i0)) )).trans (((o_4203 (ad (i0)) )).trans (((o_4194 (ad (i0)) )).trans (((o_3909 (ad (i0)) )).trans ((fr (ad (i0)) (fun i hS => hin (i0) i (by omega) (by omega) (by omega))))))))))) hco (s8 + 1 + 2) (by omega)) C0 hw vw_X5_305 ((hL 5 (by omega))) f_4230 rfl rfl rfl hl.1 rfl (Nat.le_of_ble_eq_true rfl) dX5_carryOutAll_90 ⟨by decide, by decide⟩ ⟨by decide, by decide⟩) rfl rfl (fun r_4233 F_4231 H locs hw hp_4232 => ?_)
                obtain ⟨he_4234, o_4235⟩ := hp_4232
                subst he_4234
                have sl_4236 := slA_lt t9 (s8 + 1 + 2)
                have f_4237 : F_4231 (ad 0) = xO ad := (o_4235 (ad 0) ).trans f_4229
                have f_4238 : F_3905 (ad 134) = rw7 G u8 := (o_3909 (ad 134) ).trans h1348
                have f_4239 : F_4190 (ad 134) = rw7 G u8 := (o_4194 (ad 134) ).trans f_4238
                have f_4240 : F_4199 (ad 134) = rw7 G u8 := (o_4203 (ad 134) ).trans f_4239
                have f_4241 : F_4205 (ad 134) = rw7 G u8 := (o_4209 (ad 134) ).trans f_4240
                have f_4242 : F_4215 (ad 134) = rw7 G u8 := (o_4219 (ad 134) ).trans f_4241
                have f_4243 : F_4223 (ad 134) = rw7 G u8 := (o_4227 (ad 134) ).trans f_4242
                have f_4244 : F_4231 (ad 134) = rw7 G u8 := (o_4235 (ad 134) ).trans f_4243
                refine q_calli hw (q_runV (As := [.int (nI (108)), .int (nI (slA t9 (s8 + 1))), .int (nI (slA t9 (s8 + 1))), .int (nI (slA t9 (s8 + 1 + 2)))]) (c_X5_carryOut_108 l G L F_4231 ad hL hin (slA t9 (s8 + 1)) (slA t9 (s8 + 1)) (slA t9 (s8 + 1 + 2)) st8 _ f_4237 (hn8.keep (fun i0 hi => ((o_4235 (ad (i0)) )).trans (((o_4227 (ad (i0)) )).trans (((o_4219 (ad (i0)) )).trans (((o_4209 (ad (i0)) )).trans (((o_4203 (ad (i0)) )).trans (((o_4194 (ad (i0)) )).trans ((o_3909 (ad (i0)) ))))))))) (hrk8.keep (fun i0 hi => ((o_4235 (ad (i0)) )).trans (((o_4227 (ad (i0)) )).trans (((o_4219 (ad (i0)) )).trans (((o_4209 (ad (i0)) )).trans (((o_4203 (ad (i0)) )).trans (((o_4194 (ad (i0)) )).trans ((o_3909 (ad (i0)) ))))))))) f_4244 (by omega) (by omega) (by omega) (by omega) (by omega) (by omega) (by omega)) C0 hw vw_X5_299 ((hL 0 (by omega))) f_4237 rfl rfl rfl hl.1 rfl (Nat.le_of_ble_eq_true rfl) dX5_carryOutAll_93 ⟨by decide, by decide⟩ ⟨by decide, by decide⟩) rfl rfl (fun r_4247 F_4245 H locs hw hp_4246 => ?_)
                obtain ⟨h_4248, h_4249, h_4250, ⟨u_4253, h_4251⟩, h_4252⟩ := hp_4246
                subst h_4248
                refine lv_pop hx hb dX5_carryOutAll_96 rfl ?_
                refine lv_iinc (v := nI (c8 + 1)) (lv' := [(1, .int (nI (c8 + 1))), (5, .int (nI (s8 + 1))), (4, .int (nI (1))), (3, .int (nI (108))), (0, .ref (ad 0)), (2, .int (nI (s8)))]) hx hb dX5_carryOutAll_97 hl (k := 4) rfl (nI_add _ _) (by decide) rfl (fun ls hl => ?_)
                refine lv_iinc (v := nI (s8 + 1)) (lv' := [(2, .int (nI (s8 + 1))), (1, .int (nI (c8 + 1))), (5, .int (nI (s8 + 1))), (4, .int (nI (1))), (3, .int (nI (108))), (0, .ref (ad 0))]) hx hb dX5_carryOutAll_100 hl (k := 5) rfl (nI_add _ _) (by decide) rfl (fun ls hl => ?_)
                refine lv_goto (tgt := 4) hx hb dX5_carryOutAll_103 (by decide) ?_
                obtain ⟨k, rfl⟩ : ∃ k9, k = k9 + 1 := ⟨k - 1, by omega⟩
                have hR2 := (run_go (c := c8) (st := st8) (k := k) (un := 6) e8 rfl hd8 (by omega) (by omega)).symm.trans hR
                have hps : (ordS 108 (slA t9 (s8 + 1)) (slA t9 (s8 + 1)) (slA t9 (s8 + 1 + 2)) st8).2.1 ≤ 100000 := by show st8.2.1 - ordU 108 * st8.1 ≤ 100000; omega
                exact ih k (s8 + 1) (s8 + 1 + 4) (c8 + 1) (ordS 108 (slA t9 (s8 + 1)) (slA t9 (s8 + 1)) (slA t9 (s8 + 1 + 2)) st8) (by omega) (pr_skip hco hq8 hd8) (by omega) (fun h => pr_next hq8 hd8 h) hR2 h2 h6 hps (by omega) (by omega) (by omega) F_4245 H _ hw h_4249 h_4250 ⟨_, h_4251⟩ (fun q hq => ((h_4252 q (fun i hS => hq i (by omega))).trans ((o_4235 q ).trans ((o_4227 q ).trans ((o_4219 q ).trans ((o_4209 q ).trans ((o_4203 q ).trans ((o_4194 q ).trans ((o_3909 q ).trans (fr q (fun i hS => hq i (by omega)))))))))))) ls (lv_sub hl [5, 1, 0] rfl)
              · skip
                refine lv_iload_n hx hb dX5_carryOutAll_53 rfl (lv_at hl 3 rfl) ?_
                have f_4254 : F_3905 (ad 134) = rw7 G u8 := (o_3909 (ad 134) ).trans h1348
                have f_4255 : F_4190 (ad 134) = rw7 G u8 := (o_4194 (ad 134) ).trans f_4254
                have f_4256 : F_4199 (ad 134) = rw7 G u8 := (o_4203 (ad 134) ).trans f_4255
                have f_4257 : F_4205 (ad 134) = rw7 G u8 := (o_4209 (ad 134) ).trans f_4256
                exact r_i C0 hr hlk hw (v := nI (c8)) rfl (by rw [← hR, run_poor (k := k) (c := c8) (un := 6) e8 rfl (by omega)]; exact ⟨rfl, (hn8.keep (fun i0 hi => ((o_4209 (ad (i0)) )).trans (((o_4203 (ad (i0)) )).trans (((o_4194 (ad (i0)) )).trans ((o_3909 (ad (i0)) )))))), (hrk8.keep (fun i0 hi => ((o_4209 (ad (i0)) )).trans (((o_4203 (ad (i0)) )).trans (((o_4194 (ad (i0)) )).trans ((o_3909 (ad (i0)) )))))), ⟨_, f_4257⟩, (fun q hq => ((o_4209 q ).trans ((o_4203 q ).trans ((o_4194 q ).trans ((o_3909 q ).trans (fr q (fun i hS => hq i (by omega))))))))⟩) (Nat.le_refl _) (Nat.le_refl _) dX5_carryOutAll_54 hQ
          · skip
            rw [e8] at hl
            have hd8 : dgA t9 s8 = 1 := by unfold dgA; rw [e8]; decide
            refine lv_iload_n hx hb dX5_carryOutAll_24 rfl (lv_at hl 0 rfl) ?_
            refine q_calli hw (q_runS (As := [.int (nI (101))]) (c_X4_digitsOf_101 l G L F_3905 ) C0 hw sw_X5_220 rfl hl.1 rfl (Nat.le_of_ble_eq_true rfl) dX5_carryOutAll_25 ⟨by decide, by decide⟩ ⟨by decide, by decide⟩) rfl rfl (fun r_4260 F_4258 H locs hw hp_4259 => ?_)
            obtain ⟨he_4261, o_4262⟩ := hp_4259
            subst he_4261
            refine lv_istore (lv' := [(4, .int (nI (1))), (3, .int (nI (101))), (0, .ref (ad 0)), (1, .int (nI (c8))), (2, .int (nI (s8)))]) hx hb dX5_carryOutAll_28 hl (by decide) rfl (fun ls hl => ?_)
            refine lv_iload hx hb dX5_carryOutAll_30 (lv_at hl 0 rfl) ?_
            refine n_if_le (tgt := 100) hx hb dX5_carryOutAll_32 (by decide) (by decide) (fun c_32 => ?_) (fun c_32 => ?_)
            · skip
              exact absurd c_32 (by omega)
            · skip
              refine lv_aload_n hx hb dX5_carryOutAll_35 rfl (lv_at hl 2 rfl) ?_
              have f_4263 : F_3905 (ad 0) = xO ad := (o_3909 (ad 0) ).trans f_3903
              have f_4264 : F_4258 (ad 0) = xO ad := (o_4262 (ad 0) ).trans f_4263
              refine q_get C0 hw ((hL 0 (by omega))) f_4264 fw_X5_12 rfl dX5_carryOutAll_36 ?_
              have f_4265 : F_3905 (ad 22) = .inr (3, [.ref (ad 23), .int (nI (st8.2.1)), .int (nI (st8.2.2.1)), .int (nI (st8.2.2.2.1)), .int (nI (st8.2.2.2.2.1))]) := (o_3909 (ad 22) ).trans hn8.1
              have f_4266 : F_4258 (ad 22) = .inr (3, [.ref (ad 23), .int (nI (st8.2.1)), .int (nI (st8.2.2.1)), .int (nI (st8.2.2.2.1)), .int (nI (st8.2.2.2.2.1))]) := (o_4262 (ad 22) ).trans f_4265
              refine q_get C0 hw ((hL 22 (by omega))) f_4266 fw_X5_98 rfl dX5_carryOutAll_39 ?_
              refine lv_aload_n hx hb dX5_carryOutAll_42 rfl (lv_at hl 2 rfl) ?_
              refine lv_iload_n hx hb dX5_carryOutAll_43 rfl (lv_at hl 1 rfl) ?_
              refine q_calli hw (q_runS (As := [.int (nI (101))]) (c_X5_unitsOf_101 l G L F_4258 ) C0 hw sw_X5_225 rfl hl.1 rfl (Nat.le_of_ble_eq_true rfl) dX5_carryOutAll_44 ⟨by decide, by decide⟩ ⟨by decide, by decide⟩) rfl rfl (fun r_4269 F_4267 H locs hw hp_4268 => ?_)
              obtain ⟨he_4270, o_4271⟩ := hp_4268
              subst he_4270
              have f_4272 : F_4267 (ad 0) = xO ad := (o_4271 (ad 0) ).trans f_4264
              refine q_calli hw (q_runV (As := [.int (nI (5))]) (c_X5_costOf l G L F_4267 ad hL hin 5 st8 f_4272 (hn8.keep (fun i0 hi => ((o_4271 (ad (i0)) )).trans (((o_4262 (ad (i0)) )).trans ((o_3909 (ad (i0)) )))))) C0 hw vw_X5_228 ((hL 0 (by omega))) f_4272 rfl rfl rfl hl.1 rfl (Nat.le_of_ble_eq_true rfl) dX5_carryOutAll_47 ⟨by decide, by decide⟩ ⟨by decide, by decide⟩) rfl rfl (fun r_4275 F_4273 H locs hw hp_4274 => ?_)
              obtain ⟨he_4276, o_4277⟩ := hp_4274
              subst he_4276
              refine n_icmp_ge (tgt := 55) hx hb dX5_carryOutAll_50 (by decide) (by omega) (by omega) (fun c_50 => ?_) (fun c_50 => ?_)
              · skip
                refine lv_iload_n hx hb dX5_carryOutAll_55 rfl (lv_at hl 4 rfl) ?_
                refine lv_iload hx hb dX5_carryOutAll_56 (lv_at hl 0 rfl) ?_
                refine n_iadd hx hb dX5_carryOutAll_58 ?_
                refine lv_istore (lv' := [(5, .int (nI (s8 + 1))), (4, .int (nI (1))), (3, .int (nI (101))), (0, .ref (ad 0)), (1, .int (nI (c8))), (2, .int (nI (s8)))]) hx hb dX5_carryOutAll_59 hl (by decide) rfl (fun ls hl => ?_)
                refine lv_aload_n hx hb dX5_carryOutAll_61 rfl (lv_at hl 3 rfl) ?_
                refine lv_iload_n hx hb dX5_carryOutAll_62 rfl (lv_at hl 2 rfl) ?_
                refine lv_aload_n hx hb dX5_carryOutAll_63 rfl (lv_at hl 3 rfl) ?_
                have f_4278 : F_4273 (ad 0) = xO ad := (o_4277 (ad 0) ).trans f_4272
                refine q_get C0 hw ((hL 0 (by omega))) f_4278 fw_X5_37 rfl dX5_carryOutAll_64 ?_
                refine lv_iload_n hx hb dX5_carryOutAll_67 rfl (lv_at hl 5 rfl) ?_
                refine lv_iconst (v := nI 1) hx hb dX5_carryOutAll_68 (by decide) ?_
                refine n_iadd hx hb dX5_carryOutAll_69 ?_
                have f_4279 : F_3905 (ad 5) = tO (ad 6) t9.1 := (o_3909 (ad 5) ).trans f_3904
                have f_4280 : F_4258 (ad 5) = tO (ad 6) t9.1 := (o_4262 (ad 5) ).trans f_4279
                have f_4281 : F_4267 (ad 5) = tO (ad 6) t9.1 := (o_4271 (ad 5) ).trans f_4280
                have f_4282 : F_4273 (ad 5) = tO (ad 6) t9.1 := (o_4277 (ad 5) ).trans f_4281
                refine q_calli hw (q_runV (As := [.int (nI (s8 + 1))]) (c_X4_slotAt l G L F_4273 ad hL hin t9 (htx.keep (fun i0 hi => ((o_4277 (ad (i0)) )).trans (((o_4271 (ad (i0)) )).trans (((o_4262 (ad (i0)) )).trans (((o_3909 (ad (i0)) )).trans ((fr (ad (i0)) (fun i hS => hin (i0) i (by omega) (by omega) (by omega))))))))) hco (s8 + 1) (by omega)) C0 hw vw_X5_305 ((hL 5 (by omega))) f_4282 rfl rfl rfl hl.1 rfl (Nat.le_of_ble_eq_true rfl) dX5_carryOutAll_70 ⟨by decide, by decide⟩ ⟨by decide, by decide⟩) rfl rfl (fun r_4285 F_4283 H locs hw hp_4284 => ?_)
                obtain ⟨he_4286, o_4287⟩ := hp_4284
                subst he_4286
                have sl_4288 := slA_lt t9 (s8 + 1)
                refine lv_aload_n hx hb dX5_carryOutAll_73 rfl (lv_at hl 3 rfl) ?_
                have f_4289 : F_4283 (ad 0) = xO ad := (o_4287 (ad 0) ).trans f_4278
                refine q_get C0 hw ((hL 0 (by omega))) f_4289 fw_X5_37 rfl dX5_carryOutAll_74 ?_
                refine lv_iload hx hb dX5_carryOutAll_77 (lv_at hl 0 rfl) ?_
                have f_4290 : F_4283 (ad 5) = tO (ad 6) t9.1 := (o_4287 (ad 5) ).trans f_4282
                refine q_calli hw (q_runV (As := [.int (nI (s8 + 1))]) (c_X4_slotAt l G L F_4283 ad hL hin t9 (htx.keep (fun i0 hi => ((o_4287 (ad (i0)) )).trans (((o_4277 (ad (i0)) )).trans (((o_4271 (ad (i0)) )).trans (((o_4262 (ad (i0)) )).trans (((o_3909 (ad (i0)) )).trans ((fr (ad (i0)) (fun i hS => hin (i0) i (by omega) (by omega) (by omega)))))))))) hco (s8 + 1) (by omega)) C0 hw vw_X5_305 ((hL 5 (by omega))) f_4290 rfl rfl rfl hl.1 rfl (Nat.le_of_ble_eq_true rfl) dX5_carryOutAll_79 ⟨by decide, by decide⟩ ⟨by decide, by decide⟩) rfl rfl (fun r_4293 F_4291 H locs hw hp_4292 => ?_)
                obtain ⟨he_4294, o_4295⟩ := hp_4292
                subst he_4294
                have sl_4296 := slA_lt t9 (s8 + 1)
                refine lv_aload_n hx hb dX5_carryOutAll_82 rfl (lv_at hl 3 rfl) ?_
                have f_4297 : F_4291 (ad 0) = xO ad := (o_4295 (ad 0) ).trans f_4289
                refine q_get C0 hw ((hL 0 (by omega))) f_4297 fw_X5_37 rfl dX5_carryOutAll_83 ?_
                refine lv_iload hx hb dX5_carryOutAll_86 (lv_at hl 0 rfl) ?_
                refine lv_iconst (v := nI 2) hx hb dX5_carryOutAll_88 (by decide) ?_
                refine n_iadd hx hb dX5_carryOutAll_89 ?_
                have f_4298 : F_4291 (ad 5) = tO (ad 6) t9.1 := (o_4295 (ad 5) ).trans f_4290
                refine q_calli hw (q_runV (As := [.int (nI (s8 + 1 + 2))]) (c_X4_slotAt l G L F_4291 ad hL hin t9 (htx.keep (fun i0 hi => ((o_4295 (ad (i0)) )).trans (((o_4287 (ad (i0)) )).trans (((o_4277 (ad (i0)) )).trans (((o_4271 (ad (i0)) )).trans (((o_4262 (ad (i0)) )).trans (((o_3909 (ad (i0)) )).trans ((fr (ad (i0)) (fun i hS => hin (i0) i (by omega) (by omega) (by omega))))))))))) hco (s8 + 1 + 2) (by omega)) C0 hw vw_X5_305 ((hL 5 (by omega))) f_4298 rfl rfl rfl hl.1 rfl (Nat.le_of_ble_eq_true rfl) dX5_carryOutAll_90 ⟨by decide, by decide⟩ ⟨by decide, by decide⟩) rfl rfl (fun r_4301 F_4299 H locs hw hp_4300 => ?_)
                obtain ⟨he_4302, o_4303⟩ := hp_4300
                subst he_4302
                have sl_4304 := slA_lt t9 (s8 + 1 + 2)
                have f_4305 : F_4299 (ad 0) = xO ad := (o_4303 (ad 0) ).trans f_4297
                have f_4306 : F_3905 (ad 134) = rw7 G u8 := (o_3909 (ad 134) ).trans h1348
                have f_4307 : F_4258 (ad 134) = rw7 G u8 := (o_4262 (ad 134) ).trans f_4306
                have f_4308 : F_4267 (ad 134) = rw7 G u8 := (o_4271 (ad 134) ).trans f_4307
                have f_4309 : F_4273 (ad 134) = rw7 G u8 := (o_4277 (ad 134) ).trans f_4308
                have f_4310 : F_4283 (ad 134) = rw7 G u8 := (o_4287 (ad 134) ).trans f_4309
                have f_4311 : F_4291 (ad 134) = rw7 G u8 := (o_4295 (ad 134) ).trans f_4310
                have f_4312 : F_4299 (ad 134) = rw7 G u8 := (o_4303 (ad 134) ).trans f_4311
                refine q_calli hw (q_runV (As := [.int (nI (101)), .int (nI (slA t9 (s8 + 1))), .int (nI (slA t9 (s8 + 1))), .int (nI (slA t9 (s8 + 1 + 2)))]) (c_X5_carryOut_101 l G L F_4299 ad hL hin (slA t9 (s8 + 1)) (slA t9 (s8 + 1)) (slA t9 (s8 + 1 + 2)) st8 _ f_4305 (hn8.keep (fun i0 hi => ((o_4303 (ad (i0)) )).trans (((o_4295 (ad (i0)) )).trans (((o_4287 (ad (i0)) )).trans (((o_4277 (ad (i0)) )).trans (((o_4271 (ad (i0)) )).trans (((o_4262 (ad (i0)) )).trans ((o_3909 (ad (i0)) ))))))))) (hrk8.keep (fun i0 hi => ((o_4303 (ad (i0)) )).trans (((o_4295 (ad (i0)) )).trans (((o_4287 (ad (i0)) )).trans (((o_4277 (ad (i0)) )).trans (((o_4271 (ad (i0)) )).trans (((o_4262 (ad (i0)) )).trans ((o_3909 (ad (i0)) ))))))))) f_4312 (by omega) (by omega) (by omega) (by omega) (by omega) (by omega) (by omega)) C0 hw vw_X5_299 ((hL 0 (by omega))) f_4305 rfl rfl rfl hl.1 rfl (Nat.le_of_ble_eq_true rfl) dX5_carryOutAll_93 ⟨by decide, by decide⟩ ⟨by decide, by decide⟩) rfl rfl (fun r_4315 F_4313 H locs hw hp_4314 => ?_)
                obtain ⟨h_4316, h_4317, h_4318, ⟨u_4321, h_4319⟩, h_4320⟩ := hp_4314
                subst h_4316
                refine lv_pop hx hb dX5_carryOutAll_96 rfl ?_
                refine lv_iinc (v := nI (c8 + 1)) (lv' := [(1, .int (nI (c8 + 1))), (5, .int (nI (s8 + 1))), (4, .int (nI (1))), (3, .int (nI (101))), (0, .ref (ad 0)), (2, .int (nI (s8)))]) hx hb dX5_carryOutAll_97 hl (k := 4) rfl (nI_add _ _) (by decide) rfl (fun ls hl => ?_)
                refine lv_iinc (v := nI (s8 + 1)) (lv' := [(2, .int (nI (s8 + 1))), (1, .int (nI (c8 + 1))), (5, .int (nI (s8 + 1))), (4, .int (nI (1))), (3, .int (nI (101))), (0, .ref (ad 0))]) hx hb dX5_carryOutAll_100 hl (k := 5) rfl (nI_add _ _) (by decide) rfl (fun ls hl => ?_)
                refine lv_goto (tgt := 4) hx hb dX5_carryOutAll_103 (by decide) ?_
                obtain ⟨k, rfl⟩ : ∃ k9, k = k9 + 1 := ⟨k - 1, by omega⟩
                have hR2 := (run_go (c := c8) (st := st8) (k := k) (un := 5) e8 rfl hd8 (by omega) (by omega)).symm.trans hR
                have hps : (ordS 101 (slA t9 (s8 + 1)) (slA t9 (s8 + 1)) (slA t9 (s8 + 1 + 2)) st8).2.1 ≤ 100000 := by show st8.2.1 - ordU 101 * st8.1 ≤ 100000; omega
                exact ih k (s8 + 1) (s8 + 1 + 4) (c8 + 1) (ordS 101 (slA t9 (s8 + 1)) (slA t9 (s8 + 1)) (slA t9 (s8 + 1 + 2)) st8) (by omega) (pr_skip hco hq8 hd8) (by omega) (fun h => pr_next hq8 hd8 h) hR2 h2 h6 hps (by omega) (by omega) (by omega) F_4313 H _ hw h_4317 h_4318 ⟨_, h_4319⟩ (fun q hq => ((h_4320 q (fun i hS => hq i (by omega))).trans ((o_4303 q ).trans ((o_4295 q ).trans ((o_4287 q ).trans ((o_4277 q ).trans ((o_4271 q ).trans ((o_4262 q ).trans ((o_3909 q ).trans (fr q (fun i hS => hq i (by omega)))))))))))) ls (lv_sub hl [5, 1, 0] rfl)
              · skip
                refine lv_iload_n hx hb dX5_carryOutAll_53 rfl (lv_at hl 3 rfl) ?_
                have f_4322 : F_3905 (ad 134) = rw7 G u8 := (o_3909 (ad 134) ).trans h1348
                have f_4323 : F_4258 (ad 134) = rw7 G u8 := (o_4262 (ad 134) ).trans f_4322
                have f_4324 : F_4267 (ad 134) = rw7 G u8 := (o_4271 (ad 134) ).trans f_4323
                have f_4325 : F_4273 (ad 134) = rw7 G u8 := (o_4277 (ad 134) ).trans f_4324
                exact r_i C0 hr hlk hw (v := nI (c8)) rfl (by rw [← hR, run_poor (k := k) (c := c8) (un := 5) e8 rfl (by omega)]; exact ⟨rfl, (hn8.keep (fun i0 hi => ((o_4277 (ad (i0)) )).trans (((o_4271 (ad (i0)) )).trans (((o_4262 (ad (i0)) )).trans ((o_3909 (ad (i0)) )))))), (hrk8.keep (fun i0 hi => ((o_4277 (ad (i0)) )).trans (((o_4271 (ad (i0)) )).trans (((o_4262 (ad (i0)) )).trans ((o_3909 (ad (i0)) )))))), ⟨_, f_4325⟩, (fun q hq => ((o_4277 q ).trans ((o_4271 q ).trans ((o_4262 q ).trans ((o_3909 q ).trans (fr q (fun i hS => hq i (by omega))))))))⟩) (Nat.le_refl _) (Nat.le_refl _) dX5_carryOutAll_54 hQ
          · skip
            rw [e8] at hl
            have hd8 : dgA t9 s8 = 2 := by unfold dgA; rw [e8]; decide
            refine lv_iload_n hx hb dX5_carryOutAll_24 rfl (lv_at hl 0 rfl) ?_
            refine q_calli hw (q_runS (As := [.int (nI (99))]) (c_X4_digitsOf_99 l G L F_3905 ) C0 hw sw_X5_220 rfl hl.1 rfl (Nat.le_of_ble_eq_true rfl) dX5_carryOutAll_25 ⟨by decide, by decide⟩ ⟨by decide, by decide⟩) rfl rfl (fun r_4328 F_4326 H locs hw hp_4327 => ?_)
            obtain ⟨he_4329, o_4330⟩ := hp_4327
            subst he_4329
            refine lv_istore (lv' := [(4, .int (nI (2))), (3, .int (nI (99))), (0, .ref (ad 0)), (1, .int (nI (c8))), (2, .int (nI (s8)))]) hx hb dX5_carryOutAll_28 hl (by decide) rfl (fun ls hl => ?_)
            refine lv_iload hx hb dX5_carryOutAll_30 (lv_at hl 0 rfl) ?_
            refine n_if_le (tgt := 100) hx hb dX5_carryOutAll_32 (by decide) (by decide) (fun c_32 => ?_) (fun c_32 => ?_)
            · skip
              exact absurd c_32 (by omega)
            · skip
              refine lv_aload_n hx hb dX5_carryOutAll_35 rfl (lv_at hl 2 rfl) ?_
              have f_4331 : F_3905 (ad 0) = xO ad := (o_3909 (ad 0) ).trans f_3903
              have f_4332 : F_4326 (ad 0) = xO ad := (o_4330 (ad 0) ).trans f_4331
              refine q_get C0 hw ((hL 0 (by omega))) f_4332 fw_X5_12 rfl dX5_carryOutAll_36 ?_
              have f_4333 : F_3905 (ad 22) = .inr (3, [.ref (ad 23), .int (nI (st8.2.1)), .int (nI (st8.2.2.1)), .int (nI (st8.2.2.2.1)), .int (nI (st8.2.2.2.2.1))]) := (o_3909 (ad 22) ).trans hn8.1
              have f_4334 : F_4326 (ad 22) = .inr (3, [.ref (ad 23), .int (nI (st8.2.1)), .int (nI (st8.2.2.1)), .int (nI (st8.2.2.2.1)), .int (nI (st8.2.2.2.2.1))]) := (o_4330 (ad 22) ).trans f_4333
              refine q_get C0 hw ((hL 22 (by omega))) f_4334 fw_X5_98 rfl dX5_carryOutAll_39 ?_
              refine lv_aload_n hx hb dX5_carryOutAll_42 rfl (lv_at hl 2 rfl) ?_
              refine lv_iload_n hx hb dX5_carryOutAll_43 rfl (lv_at hl 1 rfl) ?_
              refine q_calli hw (q_runS (As := [.int (nI (99))]) (c_X5_unitsOf_99 l G L F_4326 ) C0 hw sw_X5_225 rfl hl.1 rfl (Nat.le_of_ble_eq_true rfl) dX5_carryOutAll_44 ⟨by decide, by decide⟩ ⟨by decide, by decide⟩) rfl rfl (fun r_4337 F_4335 H locs hw hp_4336 => ?_)
              obtain ⟨he_4338, o_4339⟩ := hp_4336
              subst he_4338
              have f_4340 : F_4335 (ad 0) = xO ad := (o_4339 (ad 0) ).trans f_4332
              refine q_calli hw (q_runV (As := [.int (nI (4))]) (c_X5_costOf l G L F_4335 ad hL hin 4 st8 f_4340 (hn8.keep (fun i0 hi => ((o_4339 (ad (i0)) )).trans (((o_4330 (ad (i0)) )).trans ((o_3909 (ad (i0)) )))))) C0 hw vw_X5_228 ((hL 0 (by omega))) f_4340 rfl rfl rfl hl.1 rfl (Nat.le_of_ble_eq_true rfl) dX5_carryOutAll_47 ⟨by decide, by decide⟩ ⟨by decide, by decide⟩) rfl rfl (fun r_4343 F_4341 H locs hw hp_4342 => ?_)
              obtain ⟨he_4344, o_4345⟩ := hp_4342
              subst he_4344
              refine n_icmp_ge (tgt := 55) hx hb dX5_carryOutAll_50 (by decide) (by omega) (by omega) (fun c_50 => ?_) (fun c_50 => ?_)
              · skip
                refine lv_iload_n hx hb dX5_carryOutAll_55 rfl (lv_at hl 4 rfl) ?_
                refine lv_iload hx hb dX5_carryOutAll_56 (lv_at hl 0 rfl) ?_
                refine n_iadd hx hb dX5_carryOutAll_58 ?_
                refine lv_istore (lv' := [(5, .int (nI (s8 + 2))), (4, .int (nI (2))), (3, .int (nI (99))), (0, .ref (ad 0)), (1, .int (nI (c8))), (2, .int (nI (s8)))]) hx hb dX5_carryOutAll_59 hl (by decide) rfl (fun ls hl => ?_)
                refine lv_aload_n hx hb dX5_carryOutAll_61 rfl (lv_at hl 3 rfl) ?_
                refine lv_iload_n hx hb dX5_carryOutAll_62 rfl (lv_at hl 2 rfl) ?_
                refine lv_aload_n hx hb dX5_carryOutAll_63 rfl (lv_at hl 3 rfl) ?_
                have f_4346 : F_4341 (ad 0) = xO ad := (o_4345 (ad 0) ).trans f_4340
                refine q_get C0 hw ((hL 0 (by omega))) f_4346 fw_X5_37 rfl dX5_carryOutAll_64 ?_
                refine lv_iload_n hx hb dX5_carryOutAll_67 rfl (lv_at hl 5 rfl) ?_
                refine lv_iconst (v := nI 1) hx hb dX5_carryOutAll_68 (by decide) ?_
                refine n_iadd hx hb dX5_carryOutAll_69 ?_
                have f_4347 : F_3905 (ad 5) = tO (ad 6) t9.1 := (o_3909 (ad 5) ).trans f_3904
                have f_4348 : F_4326 (ad 5) = tO (ad 6) t9.1 := (o_4330 (ad 5) ).trans f_4347
                have f_4349 : F_4335 (ad 5) = tO (ad 6) t9.1 := (o_4339 (ad 5) ).trans f_4348
                have f_4350 : F_4341 (ad 5) = tO (ad 6) t9.1 := (o_4345 (ad 5) ).trans f_4349
                refine q_calli hw (q_runV (As := [.int (nI (s8 + 1))]) (c_X4_slotAt l G L F_4341 ad hL hin t9 (htx.keep (fun i0 hi => ((o_4345 (ad (i0)) )).trans (((o_4339 (ad (i0)) )).trans (((o_4330 (ad (i0)) )).trans (((o_3909 (ad (i0)) )).trans ((fr (ad (i0)) (fun i hS => hin (i0) i (by omega) (by omega) (by omega))))))))) hco (s8 + 1) (by omega)) C0 hw vw_X5_305 ((hL 5 (by omega))) f_4350 rfl rfl rfl hl.1 rfl (Nat.le_of_ble_eq_true rfl) dX5_carryOutAll_70 ⟨by decide, by decide⟩ ⟨by decide, by decide⟩) rfl rfl (fun r_4353 F_4351 H locs hw hp_4352 => ?_)
                obtain ⟨he_4354, o_4355⟩ := hp_4352
                subst he_4354
                have sl_4356 := slA_lt t9 (s8 + 1)
                refine lv_aload_n hx hb dX5_carryOutAll_73 rfl (lv_at hl 3 rfl) ?_
                have f_4357 : F_4351 (ad 0) = xO ad := (o_4355 (ad 0) ).trans f_4346
                refine q_get C0 hw ((hL 0 (by omega))) f_4357 fw_X5_37 rfl dX5_carryOutAll_74 ?_
                refine lv_iload hx hb dX5_carryOutAll_77 (lv_at hl 0 rfl) ?_
                have f_4358 : F_4351 (ad 5) = tO (ad 6) t9.1 := (o_4355 (ad 5) ).trans f_4350
                refine q_calli hw (q_runV (As := [.int (nI (s8 + 2))]) (c_X4_slotAt l G L F_4351 ad hL hin t9 (htx.keep (fun i0 hi => ((o_4355 (ad (i0)) )).trans (((o_4345 (ad (i0)) )).trans (((o_4339 (ad (i0)) )).trans (((o_4330 (ad (i0)) )).trans (((o_3909 (ad (i0)) )).trans ((fr (ad (i0)) (fun i hS => hin (i0) i (by omega) (by omega) (by omega)))))))))) hco (s8 + 2) (by omega)) C0 hw vw_X5_305 ((hL 5 (by omega))) f_4358 rfl rfl rfl hl.1 rfl (Nat.le_of_ble_eq_true rfl) dX5_carryOutAll_79 ⟨by decide, by decide⟩ ⟨by decide, by decide⟩) rfl rfl (fun r_4361 F_4359 H locs hw hp_4360 => ?_)
                obtain ⟨he_4362, o_4363⟩ := hp_4360
                subst he_4362
                have sl_4364 := slA_lt t9 (s8 + 2)
                refine lv_aload_n hx hb dX5_carryOutAll_82 rfl (lv_at hl 3 rfl) ?_
                have f_4365 : F_4359 (ad 0) = xO ad := (o_4363 (ad 0) ).trans f_4357
                refine q_get C0 hw ((hL 0 (by omega))) f_4365 fw_X5_37 rfl dX5_carryOutAll_83 ?_
                refine lv_iload hx hb dX5_carryOutAll_86 (lv_at hl 0 rfl) ?_
                refine lv_iconst (v := nI 2) hx hb dX5_carryOutAll_88 (by decide) ?_
                refine n_iadd hx hb dX5_carryOutAll_89 ?_
                have f_4366 : F_4359 (ad 5) = tO (ad 6) t9.1 := (o_4363 (ad 5) ).trans f_4358
                refine q_calli hw (q_runV (As := [.int (nI (s8 + 2 + 2))]) (c_X4_slotAt l G L F_4359 ad hL hin t9 (htx.keep (fun i0 hi => ((o_4363 (ad (i0)) )).trans (((o_4355 (ad (i0)) )).trans (((o_4345 (ad (i0)) )).trans (((o_4339 (ad (i0)) )).trans (((o_4330 (ad (i0)) )).trans (((o_3909 (ad (i0)) )).trans ((fr (ad (i0)) (fun i hS => hin (i0) i (by omega) (by omega) (by omega))))))))))) hco (s8 + 2 + 2) (by omega)) C0 hw vw_X5_305 ((hL 5 (by omega))) f_4366 rfl rfl rfl hl.1 rfl (Nat.le_of_ble_eq_true rfl) dX5_carryOutAll_90 ⟨by decide, by decide⟩ ⟨by decide, by decide⟩) rfl rfl (fun r_4369 F_4367 H locs hw hp_4368 => ?_)
                obtain ⟨he_4370, o_4371⟩ := hp_4368
                subst he_4370
                have sl_4372 := slA_lt t9 (s8 + 2 + 2)
                have f_4373 : F_4367 (ad 0) = xO ad := (o_4371 (ad 0) ).trans f_4365
                have f_4374 : F_3905 (ad 134) = rw7 G u8 := (o_3909 (ad 134) ).trans h1348
                have f_4375 : F_4326 (ad 134) = rw7 G u8 := (o_4330 (ad 134) ).trans f_4374
                have f_4376 : F_4335 (ad 134) = rw7 G u8 := (o_4339 (ad 134) ).trans f_4375
                have f_4377 : F_4341 (ad 134) = rw7 G u8 := (o_4345 (ad 134) ).trans f_4376
                have f_4378 : F_4351 (ad 134) = rw7 G u8 := (o_4355 (ad 134) ).trans f_4377
                have f_4379 : F_4359 (ad 134) = rw7 G u8 := (o_4363 (ad 134) ).trans f_4378
                have f_4380 : F_4367 (ad 134) = rw7 G u8 := (o_4371 (ad 134) ).trans f_4379
                refine q_calli hw (q_runV (As := [.int (nI (99)), .int (nI (slA t9 (s8 + 1))), .int (nI (slA t9 (s8 + 2))), .int (nI (slA t9 (s8 + 2 + 2)))]) (c_X5_carryOut_99 l G L F_4367 ad hL hin (slA t9 (s8 + 1)) (slA t9 (s8 + 2)) (slA t9 (s8 + 2 + 2)) st8 _ f_4373 (hn8.keep (fun i0 hi => ((o_4371 (ad (i0)) )).trans (((o_4363 (ad (i0)) )).trans (((o_4355 (ad (i0)) )).trans (((o_4345 (ad (i0)) )).trans (((o_4339 (ad (i0)) )).trans (((o_4330 (ad (i0)) )).trans ((o_3909 (ad (i0)) ))))))))) (hrk8.keep (fun i0 hi => ((o_4371 (ad (i0)) )).trans (((o_4363 (ad (i0)) )).trans (((o_4355 (ad (i0)) )).trans (((o_4345 (ad (i0)) )).trans (((o_4339 (ad (i0)) )).trans (((o_4330 (ad (i0)) )).trans ((o_3909 (ad (i0)) ))))))))) f_4380 (by omega) (by omega) (by omega) (by omega) (by omega) (by omega) (by omega)) C0 hw vw_X5_299 ((hL 0 (by omega))) f_4373 rfl rfl rfl hl.1 rfl (Nat.le_of_ble_eq_true rfl) dX5_carryOutAll_93 ⟨by decide, by decide⟩ ⟨by decide, by decide⟩) rfl rfl (fun r_4383 F_4381 H locs hw hp_4382 => ?_)
                obtain ⟨h_4384, h_4385, h_4386, ⟨u_4389, h_4387⟩, h_4388⟩ := hp_4382
                subst h_4384
                refine lv_pop hx hb dX5_carryOutAll_96 rfl ?_
                refine lv_iinc (v := nI (c8 + 1)) (lv' := [(1, .int (nI (c8 + 1))), (5, .int (nI (s8 + 2))), (4, .int (nI (2))), (3, .int (nI (99))), (0, .ref (ad 0)), (2, .int (nI (s8)))]) hx hb dX5_carryOutAll_97 hl (k := 4) rfl (nI_add _ _) (by decide) rfl (fun ls hl => ?_)
                refine lv_iinc (v := nI (s8 + 1)) (lv' := [(2, .int (nI (s8 + 1))), (1, .int (nI (c8 + 1))), (5, .int (nI (s8 + 2))), (4, .int (nI (2))), (3, .int (nI (99))), (0, .ref (ad 0))]) hx hb dX5_carryOutAll_100 hl (k := 5) rfl (nI_add _ _) (by decide) rfl (fun ls hl => ?_)
                refine lv_goto (tgt := 4) hx hb dX5_carryOutAll_103 (by decide) ?_
                obtain ⟨k, rfl⟩ : ∃ k9, k = k9 + 1 := ⟨k - 1, by omega⟩
                have hR2 := (run_go (c := c8) (st := st8) (k := k) (un := 4) e8 rfl hd8 (by omega) (by omega)).symm.trans hR
                have hps : (ordS 99 (slA t9 (s8 + 1)) (slA t9 (s8 + 2)) (slA t9 (s8 + 2 + 2)) st8).2.1 ≤ 100000 := by show st8.2.1 - ordU 99 * st8.1 ≤ 100000; omega
                exact ih k (s8 + 1) (s8 + 2 + 4) (c8 + 1) (ordS 99 (slA t9 (s8 + 1)) (slA t9 (s8 + 2)) (slA t9 (s8 + 2 + 2)) st8) (by omega) (pr_skip hco hq8 hd8) (by omega) (fun h => pr_next hq8 hd8 h) hR2 h2 h6 hps (by omega) (by omega) (by omega) F_4381 H _ hw h_4385 h_4386 ⟨_, h_4387⟩ (fun q hq => ((h_4388 q (fun i hS => hq i (by omega))).trans ((o_4371 q ).trans ((o_4363 q ).trans ((o_4355 q ).trans ((o_4345 q ).trans ((o_4339 q ).trans ((o_4330 q ).trans ((o_3909 q ).trans (fr q (fun i hS => hq i (by omega)))))))))))) ls (lv_sub hl [5, 1, 0] rfl)
              · skip
                refine lv_iload_n hx hb dX5_carryOutAll_53 rfl (lv_at hl 3 rfl) ?_
                have f_4390 : F_3905 (ad 134) = rw7 G u8 := (o_3909 (ad 134) ).trans h1348
                have f_4391 : F_4326 (ad 134) = rw7 G u8 := (o_4330 (ad 134) ).trans f_4390
                have f_4392 : F_4335 (ad 134) = rw7 G u8 := (o_4339 (ad 134) ).trans f_4391
                have f_4393 : F_4341 (ad 134) = rw7 G u8 := (o_4345 (ad 134) ).trans f_4392
                exact r_i C0 hr hlk hw (v := nI (c8)) rfl (by rw [← hR, run_poor (k := k) (c := c8) (un := 4) e8 rfl (by omega)]; exact ⟨rfl, (hn8.keep (fun i0 hi => ((o_4345 (ad (i0)) )).trans (((o_4339 (ad (i0)) )).trans (((o_4330 (ad (i0)) )).trans ((o_3909 (ad (i0)) )))))), (hrk8.keep (fun i0 hi => ((o_4345 (ad (i0)) )).trans (((o_4339 (ad (i0)) )).trans (((o_4330 (ad (i0)) )).trans ((o_3909 (ad (i0)) )))))), ⟨_, f_4393⟩, (fun q hq => ((o_4345 q ).trans ((o_4339 q ).trans ((o_4330 q ).trans ((o_3909 q ).trans (fr q (fun i hS => hq i (by omega))))))))⟩) (Nat.le_refl _) (Nat.le_refl _) dX5_carryOutAll_54 hQ
          · skip
            rw [e8] at hl
            have hd8 : dgA t9 s8 = 1 := by unfold dgA; rw [e8]; decide
            refine lv_iload_n hx hb dX5_carryOutAll_24 rfl (lv_at hl 0 rfl) ?_
            refine q_calli hw (q_runS (As := [.int (nI (105))]) (c_X4_digitsOf_105 l G L F_3905 ) C0 hw sw_X5_220 rfl hl.1 rfl (Nat.le_of_ble_eq_true rfl) dX5_carryOutAll_25 ⟨by decide, by decide⟩ ⟨by decide, by decide⟩) rfl rfl (fun r_4396 F_4394 H locs hw hp_4395 => ?_)
            obtain ⟨he_4397, o_4398⟩ := hp_4395
            subst he_4397
            refine lv_istore (lv' := [(4, .int (nI (1))), (3, .int (nI (105))), (0, .ref (ad 0)), (1, .int (nI (c8))), (2, .int (nI (s8)))]) hx hb dX5_carryOutAll_28 hl (by decide) rfl (fun ls hl => ?_)
            refine lv_iload hx hb dX5_carryOutAll_30 (lv_at hl 0 rfl) ?_
            refine n_if_le (tgt := 100) hx hb dX5_carryOutAll_32 (by decide) (by decide) (fun c_32 => ?_) (fun c_32 => ?_)
            · skip
              exact absurd c_32 (by omega)
            · skip
              refine lv_aload_n hx hb dX5_carryOutAll_35 rfl (lv_at hl 2 rfl) ?_
              have f_4399 : F_3905 (ad 0) = xO ad := (o_3909 (ad 0) ).trans f_3903
              have f_4400 : F_4394 (ad 0) = xO ad := (o_4398 (ad 0) ).trans f_4399
              refine q_get C0 hw ((hL 0 (by omega))) f_4400 fw_X5_12 rfl dX5_carryOutAll_36 ?_
              have f_4401 : F_3905 (ad 22) = .inr (3, [.ref (ad 23), .int (nI (st8.2.1)), .int (nI (st8.2.2.1)), .int (nI (st8.2.2.2.1)), .int (nI (st8.2.2.2.2.1))]) := (o_3909 (ad 22) ).trans hn8.1
              have f_4402 : F_4394 (ad 22) = .inr (3, [.ref (ad 23), .int (nI (st8.2.1)), .int (nI (st8.2.2.1)), .int (nI (st8.2.2.2.1)), .int (nI (st8.2.2.2.2.1))]) := (o_4398 (ad 22) ).trans f_4401
              refine q_get C0 hw ((hL 22 (by omega))) f_4402 fw_X5_98 rfl dX5_carryOutAll_39 ?_
              refine lv_aload_n hx hb dX5_carryOutAll_42 rfl (lv_at hl 2 rfl) ?_
              refine lv_iload_n hx hb dX5_carryOutAll_43 rfl (lv_at hl 1 rfl) ?_
              refine q_calli hw (q_runS (As := [.int (nI (105))]) (c_X5_unitsOf_105 l G L F_4394 ) C0 hw sw_X5_225 rfl hl.1 rfl (Nat.le_of_ble_eq_true rfl) dX5_carryOutAll_44 ⟨by decide, by decide⟩ ⟨by decide, by decide⟩) rfl rfl (fun r_4405 F_4403 H locs hw hp_4404 => ?_)
              obtain ⟨he_4406, o_4407⟩ := hp_4404
              subst he_4406
              have f_4408 : F_4403 (ad 0) = xO ad := (o_4407 (ad 0) ).trans f_4400
              refine q_calli hw (q_runV (As := [.int (nI (4))]) (c_X5_costOf l G L F_4403 ad hL hin 4 st8 f_4408 (hn8.keep (fun i0 hi => ((o_4407 (ad (i0)) )).trans (((o_4398 (ad (i0)) )).trans ((o_3909 (ad (i0)) )))))) C0 hw vw_X5_228 ((hL 0 (by omega))) f_4408 rfl rfl rfl hl.1 rfl (Nat.le_of_ble_eq_true rfl) dX5_carryOutAll_47 ⟨by decide, by decide⟩ ⟨by decide, by decide⟩) rfl rfl (fun r_4411 F_4409 H locs hw hp_4410 => ?_)
              obtain ⟨he_4412, o_4413⟩ := hp_4410
              subst he_4412
              refine n_icmp_ge (tgt := 55) hx hb dX5_carryOutAll_50 (by decide) (by omega) (by omega) (fun c_50 => ?_) (fun c_50 => ?_)
              · skip
                refine lv_iload_n hx hb dX5_carryOutAll_55 rfl (lv_at hl 4 rfl) ?_
                refine lv_iload hx hb dX5_carryOutAll_56 (lv_at hl 0 rfl) ?_
                refine n_iadd hx hb dX5_carryOutAll_58 ?_
                refine lv_istore (lv' := [(5, .int (nI (s8 + 1))), (4, .int (nI (1))), (3, .int (nI (105))), (0, .ref (ad 0)), (1, .int (nI (c8))), (2, .int (nI (s8)))]) hx hb dX5_carryOutAll_59 hl (by decide) rfl (fun ls hl => ?_)
                refine lv_aload_n hx hb dX5_carryOutAll_61 rfl (lv_at hl 3 rfl) ?_
                refine lv_iload_n hx hb dX5_carryOutAll_62 rfl (lv_at hl 2 rfl) ?_
                refine lv_aload_n hx hb dX5_carryOutAll_63 rfl (lv_at hl 3 rfl) ?_
                have f_4414 : F_4409 (ad 0) = xO ad := (o_4413 (ad 0) ).trans f_4408
                refine q_get C0 hw ((hL 0 (by omega))) f_4414 fw_X5_37 rfl dX5_carryOutAll_64 ?_
                refine lv_iload_n hx hb dX5_carryOutAll_67 rfl (lv_at hl 5 rfl) ?_
                refine lv_iconst (v := nI 1) hx hb dX5_carryOutAll_68 (by decide) ?_
                refine n_iadd hx hb dX5_carryOutAll_69 ?_
                have f_4415 : F_3905 (ad 5) = tO (ad 6) t9.1 := (o_3909 (ad 5) ).trans f_3904
                have f_4416 : F_4394 (ad 5) = tO (ad 6) t9.1 := (o_4398 (ad 5) ).trans f_4415
                have f_4417 : F_4403 (ad 5) = tO (ad 6) t9.1 := (o_4407 (ad 5) ).trans f_4416
                have f_4418 : F_4409 (ad 5) = tO (ad 6) t9.1 := (o_4413 (ad 5) ).trans f_4417
                refine q_calli hw (q_runV (As := [.int (nI (s8 + 1))]) (c_X4_slotAt l G L F_4409 ad hL hin t9 (htx.keep (fun i0 hi => ((o_4413 (ad (i0)) )).trans (((o_4407 (ad (i0)) )).trans (((o_4398 (ad (i0)) )).trans (((o_3909 (ad (i0)) )).trans ((fr (ad (i0)) (fun i hS => hin (i0) i (by omega) (by omega) (by omega))))))))) hco (s8 + 1) (by omega)) C0 hw vw_X5_305 ((hL 5 (by omega))) f_4418 rfl rfl rfl hl.1 rfl (Nat.le_of_ble_eq_true rfl) dX5_carryOutAll_70 ⟨by decide, by decide⟩ ⟨by decide, by decide⟩) rfl rfl (fun r_4421 F_4419 H locs hw hp_4420 => ?_)
                obtain ⟨he_4422, o_4423⟩ := hp_4420
                subst he_4422
                have sl_4424 := slA_lt t9 (s8 + 1)
                refine lv_aload_n hx hb dX5_carryOutAll_73 rfl (lv_at hl 3 rfl) ?_
                have f_4425 : F_4419 (ad 0) = xO ad := (o_4423 (ad 0) ).trans f_4414
                refine q_get C0 hw ((hL 0 (by omega))) f_4425 fw_X5_37 rfl dX5_carryOutAll_74 ?_
                refine lv_iload hx hb dX5_carryOutAll_77 (lv_at hl 0 rfl) ?_
                have f_4426 : F_4419 (ad 5) = tO (ad 6) t9.1 := (o_4423 (ad 5) ).trans f_4418
                refine q_calli hw (q_runV (As := [.int (nI (s8 + 1))]) (c_X4_slotAt l G L F_4419 ad hL hin t9 (htx.keep (fun i0 hi => ((o_4423 (ad (i0)) )).trans (((o_4413 (ad (i0)) )).trans (((o_4407 (ad (i0)) )).trans (((o_4398 (ad (i0)) )).trans (((o_3909 (ad (i0)) )).trans ((fr (ad (i0)) (fun i hS => hin (i0) i (by omega) (by omega) (by omega)))))))))) hco (s8 + 1) (by omega)) C0 hw vw_X5_305 ((hL 5 (by omega))) f_4426 rfl rfl rfl hl.1 rfl (Nat.le_of_ble_eq_true rfl) dX5_carryOutAll_79 ⟨by decide, by decide⟩ ⟨by decide, by decide⟩) rfl rfl (fun r_4429 F_4427 H locs hw hp_4428 => ?_)
                obtain ⟨he_4430, o_4431⟩ := hp_4428
                subst he_4430
                have sl_4432 := slA_lt t9 (s8 + 1)
                refine lv_aload_n hx hb dX5_carryOutAll_82 rfl (lv_at hl 3 rfl) ?_
                have f_4433 : F_4427 (ad 0) = xO ad := (o_4431 (ad 0) ).trans f_4425
                refine q_get C0 hw ((hL 0 (by omega))) f_4433 fw_X5_37 rfl dX5_carryOutAll_83 ?_
                refine lv_iload hx hb dX5_carryOutAll_86 (lv_at hl 0 rfl) ?_
                refine lv_iconst (v := nI 2) hx hb dX5_carryOutAll_88 (by decide) ?_
                refine n_iadd hx hb dX5_carryOutAll_89 ?_
                have f_4434 : F_4427 (ad 5) = tO (ad 6) t9.1 := (o_4431 (ad 5) ).trans f_4426
                refine q_calli hw (q_runV (As := [.int (nI (s8 + 1 + 2))]) (c_X4_slotAt l G L F_4427 ad hL hin t9 (htx.keep (fun i0 hi => ((o_4431 (ad (i0)) )).trans (((o_4423 (ad (i0)) )).trans (((o_4413 (ad (i0)) )).trans (((o_4407 (ad (i0)) )).trans (((o_4398 (ad (i0)) )).trans (((o_3909 (ad (i0)) )).trans ((fr (ad (i0)) (fun i hS => hin (i0) i (by omega) (by omega) (by omega))))))))))) hco (s8 + 1 + 2) (by omega)) C0 hw vw_X5_305 ((hL 5 (by omega))) f_4434 rfl rfl rfl hl.1 rfl (Nat.le_of_ble_eq_true rfl) dX5_carryOutAll_90 ⟨by decide, by decide⟩ ⟨by decide, by decide⟩) rfl rfl (fun r_4437 F_4435 H locs hw hp_4436 => ?_)
                obtain ⟨he_4438, o_4439⟩ := hp_4436
                subst he_4438
                have sl_4440 := slA_lt t9 (s8 + 1 + 2)
                have f_4441 : F_4435 (ad 0) = xO ad := (o_4439 (ad 0) ).trans f_4433
                have f_4442 : F_3905 (ad 134) = rw7 G u8 := (o_3909 (ad 134) ).trans h1348
                have f_4443 : F_4394 (ad 134) = rw7 G u8 := (o_4398 (ad 134) ).trans f_4442
                have f_4444 : F_4403 (ad 134) = rw7 G u8 := (o_4407 (ad 134) ).trans f_4443
                have f_4445 : F_4409 (ad 134) = rw7 G u8 := (o_4413 (ad 134) ).trans f_4444
                have f_4446 : F_4419 (ad 134) = rw7 G u8 := (o_4423 (ad 134) ).trans f_4445
                have f_4447 : F_4427 (ad 134) = rw7 G u8 := (o_4431 (ad 134) ).trans f_4446
                have f_4448 : F_4435 (ad 134) = rw7 G u8 := (o_4439 (ad 134) ).trans f_4447
                refine q_calli hw (q_runV (As := [.int (nI (105)), .int (nI (slA t9 (s8 + 1))), .int (nI (slA t9 (s8 + 1))), .int (nI (slA t9 (s8 + 1 + 2)))]) (c_X5_carryOut_105 l G L F_4435 ad hL hin (slA t9 (s8 + 1)) (slA t9 (s8 + 1)) (slA t9 (s8 + 1 + 2)) st8 _ f_4441 (hn8.keep (fun i0 hi => ((o_4439 (ad (i0)) )).trans (((o_4431 (ad (i0)) )).trans (((o_4423 (ad (i0)) )).trans (((o_4413 (ad (i0)) )).trans (((o_4407 (ad (i0)) )).trans (((o_4398 (ad (i0)) )).trans ((o_3909 (ad (i0)) ))))))))) (hrk8.keep (fun i0 hi => ((o_4439 (ad (i0)) )).trans (((o_4431 (ad (i0)) )).trans (((o_4423 (ad (i0)) )).trans (((o_4413 (ad (i0)) )).trans (((o_4407 (ad (i0)) )).trans (((o_4398 (ad (i0)) )).trans ((o_3909 (ad (i0)) ))))))))) f_4448 (by omega) (by omega) (by omega) (by omega) (by omega) (by omega) (by omega)) C0 hw vw_X5_299 ((hL 0 (by omega))) f_4441 rfl rfl rfl hl.1 rfl (Nat.le_of_ble_eq_true rfl) dX5_carryOutAll_93 ⟨by decide, by decide⟩ ⟨by decide, by decide⟩) rfl rfl (fun r_4451 F_4449 H locs hw hp_4450 => ?_)
                obtain ⟨h_4452, h_4453, h_4454, ⟨u_4457, h_4455⟩, h_4456⟩ := hp_4450
                subst h_4452
                refine lv_pop hx hb dX5_carryOutAll_96 rfl ?_
                refine lv_iinc (v := nI (c8 + 1)) (lv' := [(1, .int (nI (c8 + 1))), (5, .int (nI (s8 + 1))), (4, .int (nI (1))), (3, .int (nI (105))), (0, .ref (ad 0)), (2, .int (nI (s8)))]) hx hb dX5_carryOutAll_97 hl (k := 4) rfl (nI_add _ _) (by decide) rfl (fun ls hl => ?_)
                refine lv_iinc (v := nI (s8 + 1)) (lv' := [(2, .int (nI (s8 + 1))), (1, .int (nI (c8 + 1))), (5, .int (nI (s8 + 1))), (4, .int (nI (1))), (3, .int (nI (105))), (0, .ref (ad 0))]) hx hb dX5_carryOutAll_100 hl (k := 5) rfl (nI_add _ _) (by decide) rfl (fun ls hl => ?_)
                refine lv_goto (tgt := 4) hx hb dX5_carryOutAll_103 (by decide) ?_
                obtain ⟨k, rfl⟩ : ∃ k9, k = k9 + 1 := ⟨k - 1, by omega⟩
                have hR2 := (run_go (c := c8) (st := st8) (k := k) (un := 4) e8 rfl hd8 (by omega) (by omega)).symm.trans hR
                have hps : (ordS 105 (slA t9 (s8 + 1)) (slA t9 (s8 + 1)) (slA t9 (s8 + 1 + 2)) st8).2.1 ≤ 100000 := by show st8.2.1 - ordU 105 * st8.1 ≤ 100000; omega
                exact ih k (s8 + 1) (s8 + 1 + 4) (c8 + 1) (ordS 105 (slA t9 (s8 + 1)) (slA t9 (s8 + 1)) (slA t9 (s8 + 1 + 2)) st8) (by omega) (pr_skip hco hq8 hd8) (by omega) (fun h => pr_next hq8 hd8 h) hR2 h2 h6 hps (by omega) (by omega) (by omega) F_4449 H _ hw h_4453 h_4454 ⟨_, h_4455⟩ (fun q hq => ((h_4456 q (fun i hS => hq i (by omega))).trans ((o_4439 q ).trans ((o_4431 q ).trans ((o_4423 q ).trans ((o_4413 q ).trans ((o_4407 q ).trans ((o_4398 q ).trans ((o_3909 q ).trans (fr q (fun i hS => hq i (by omega)))))))))))) ls (lv_sub hl [5, 1, 0] rfl)
              · skip
                refine lv_iload_n hx hb dX5_carryOutAll_53 rfl (lv_at hl 3 rfl) ?_
                have f_4458 : F_3905 (ad 134) = rw7 G u8 := (o_3909 (ad 134) ).trans h1348
                have f_4459 : F_4394 (ad 134) = rw7 G u8 := (o_4398 (ad 134) ).trans f_4458
                have f_4460 : F_4403 (ad 134) = rw7 G u8 := (o_4407 (ad 134) ).trans f_4459
                have f_4461 : F_4409 (ad 134) = rw7 G u8 := (o_4413 (ad 134) ).trans f_4460
                exact r_i C0 hr hlk hw (v := nI (c8)) rfl (by rw [← hR, run_poor (k := k) (c := c8) (un := 4) e8 rfl (by omega)]; exact ⟨rfl, (hn8.keep (fun i0 hi => ((o_4413 (ad (i0)) )).trans (((o_4407 (ad (i0)) )).trans (((o_4398 (ad (i0)) )).trans ((o_3909 (ad (i0)) )))))), (hrk8.keep (fun i0 hi => ((o_4413 (ad (i0)) )).trans (((o_4407 (ad (i0)) )).trans (((o_4398 (ad (i0)) )).trans ((o_3909 (ad (i0)) )))))), ⟨_, f_4461⟩, (fun q hq => ((o_4413 q ).trans ((o_4407 q ).trans ((o_4398 q ).trans ((o_3909 q ).trans (fr q (fun i hS => hq i (by omega))))))))⟩) (Nat.le_refl _) (Nat.le_refl _) dX5_carryOutAll_54 hQ
  exact lp _ 61 0 0 0 st (Nat.le_refl _) (fun i _ h9 _ => absurd h9 (Nat.not_lt_zero _)) (by omega) (fun _ => hpr) rfl hc2 hc hpu (Nat.le_refl _) (by omega) (Nat.lt_succ_self _) _ _ _ hw hn hrk h134 (fun q _ => rfl) ls (lv_sub hl [2, 1, 0] rfl)
