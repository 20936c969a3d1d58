theorem fwF_s (t : Txt) (n p s : Nat) : fwF t (n + 1) p s = if fitsB t p s then fwF t n (p + 1) (if t.2 p = 59 then p + 1 else s) else p := rfl
theorem fw_end {t : Txt} {p s : Nat} (hq : fwF t (t.1 - p) p s = fwA t) (hp : p ≤ t.1) (c : t.1 ≤ p) : t.1 = fwA t := by
  rw [← hq, show t.1 - p = 0 by omega]
  show t.1 = p
  omega
theorem fw_no {t : Txt} {p s : Nat} (hq : fwF t (t.1 - p) p s = fwA t) (c : ¬ t.1 ≤ p) (h : ¬ fitsB t p s = true) : p = fwA t := by
  rw [← hq, show t.1 - p = (t.1 - (p + 1)) + 1 by omega, fwF_s, if_neg h]
theorem fw_yes {t : Txt} {p s s' : Nat} (hq : fwF t (t.1 - p) p s = fwA t) (c : ¬ t.1 ≤ p) (h : fitsB t p s = true) (e : (if t.2 p = 59 then p + 1 else s) = s') : fwF t (t.1 - (p + 1)) (p + 1) s' = fwA t := by
  rw [← hq, show t.1 - p = (t.1 - (p + 1)) + 1 by omega, fwF_s, if_pos h, e]
abbrev rm_X4_firstWrong : Room := { frames := 2, cells := 0, slots := 0, locals := 46 }
set_option maxHeartbeats 4000000 in
set_option maxRecDepth 100000 in
theorem c_X4_firstWrong (l : Launch) (G : Gl) (L : List Nat) (F : Nat → va_E) (ad : Nat → Nat) (hL : ∀ i, i < 166 → ad i ∈ L) (hin : ∀ i j, i < 166 → j < 166 → i ≠ j → ad i ≠ ad j) (t9 : Txt) (htx : txtW G F ad t9) (hco : okT t9) : CI l yX4_firstWrong cX4_firstWrong 3 (some .int) rm_X4_firstWrong G L F [.ref (ad 5)] (fun r F1 => r = nI (fwA t9) ∧ ∀ q, F1 q = F q) := by
  obtain ⟨-, cf, h6, hcf, hl60⟩ := id htx
  refine CG_of (by decide) (Nat.le_of_ble_eq_true rfl) rfl ?_
  intro p e s m args below meth c Q C0 hr hlk hnm hQ hw ls hl
  have hx := C0.x
  have hb := C0.b
  refine lv_iconst (v := nI 0) hx hb dX4_firstWrong_0 (by decide) ?_
  refine lv_istore_n (lv' := [(1, .int (nI (0))), (0, .ref (ad 5))]) hx hb dX4_firstWrong_1 rfl hl (by decide) rfl (fun ls hl => ?_)
  refine lv_iconst (v := nI 0) hx hb dX4_firstWrong_2 (by decide) ?_
  refine lv_istore_n (lv' := [(2, .int (nI (0))), (1, .int (nI (0))), (0, .ref (ad 5))]) hx hb dX4_firstWrong_3 rfl hl (by decide) rfl (fun ls hl => ?_)
  have lp4 : ∀ (n : Nat) (p8 : Nat) (s8 : Nat), p8 ≤ t9.1 → s8 ≤ p8 → fwF t9 (t9.1 - p8) p8 s8 = fwA t9 → t9.1 + 1 - p8 < n → ∀ (F_3840 : Nat → va_E) (H : Heap) (locs : List Loc), wD G L F_3840 s H locs → (∀ q, F_3840 q = F q) → ∀ ls : Array Slot, lv_has ls 3 [(0, .ref (ad 5)), (1, .int (nI (s8))), (2, .int (nI (p8)))] → W p l e rm_X4_firstWrong s m args below meth c H locs 0 0 Q (F0 m 4 ls []) := by
    intro n
    induction n with
    | zero => intro p8 s8 hp hs hq hm; exact absurd hm (Nat.not_lt_zero _)
    | succ n ih_4 =>
      intro p8 s8 hp hs hq hm F_3840 H locs hw  fr_3841 ls hl
      refine lv_iload_n hx hb dX4_firstWrong_4 rfl (lv_at hl 2 rfl) ?_
      refine lv_aload_n hx hb dX4_firstWrong_5 rfl (lv_at hl 0 rfl) ?_
      have f_3842 : F_3840 (ad 5) = tO (ad 6) t9.1 := (fr_3841 (ad 5) ).trans htx.1
      refine q_get C0 hw ((hL 5 (by omega))) f_3842 fw_X4_15 rfl dX4_firstWrong_6 ?_
      refine n_icmp_ge (tgt := 44) hx hb dX4_firstWrong_9 (by decide) (by omega) (by omega) (fun c_9 => ?_) (fun c_9 => ?_)
      · skip
        refine lv_aload_n hx hb dX4_firstWrong_44 rfl (lv_at hl 0 rfl) ?_
        refine q_get C0 hw ((hL 5 (by omega))) f_3842 fw_X4_15 rfl dX4_firstWrong_45 ?_
        exact r_i C0 hr hlk hw (v := nI (t9.1)) rfl ⟨congrArg nI (fw_end hq hp c_9), (fun q  => (fr_3841 q ))⟩ (Nat.le_refl _) (Nat.le_refl _) dX4_firstWrong_48 hQ
      · skip
        refine lv_aload_n hx hb dX4_firstWrong_12 rfl (lv_at hl 0 rfl) ?_
        refine lv_iload_n hx hb dX4_firstWrong_13 rfl (lv_at hl 2 rfl) ?_
        refine lv_iload_n hx hb dX4_firstWrong_14 rfl (lv_at hl 1 rfl) ?_
        refine q_calli hw (q_runV (As := [.int (nI (p8)), .int (nI (s8))]) (c_X4_fits l G L F_3840 ad hL hin t9 (htx.keep (fun i0 hi => (fr_3841 (ad (i0)) ))) hco p8 s8 (by omega) (by omega)) C0 hw vw_X4_31 ((hL 5 (by omega))) f_3842 rfl rfl rfl hl.1 rfl (Nat.le_of_ble_eq_true rfl) dX4_firstWrong_15 ⟨by decide, by decide⟩ ⟨by decide, by decide⟩) rfl rfl (fun r_3845 F_3843 H locs hw hp_3844 => ?_)
        obtain ⟨he_3846, o_3847⟩ := hp_3844
        by_cases hb_3848 : fitsB t9 p8 s8 = true
        · skip
          rw [if_pos hb_3848] at he_3846
          subst he_3846
          refine n_if_ne (tgt := 23) hx hb dX4_firstWrong_18 (by decide) (by decide) (fun c_18 => ?_) (fun c_18 => ?_)
          · skip
            refine lv_aload_n hx hb dX4_firstWrong_23 rfl (lv_at hl 0 rfl) ?_
            have f_3849 : F_3843 (ad 5) = tO (ad 6) t9.1 := (o_3847 (ad 5) ).trans f_3842
            refine q_get C0 hw ((hL 5 (by omega))) f_3849 fw_X4_9 rfl dX4_firstWrong_24 ?_
            refine lv_iload_n hx hb dX4_firstWrong_27 rfl (lv_at hl 2 rfl) ?_
            have f_3850 : F_3840 (ad 6) = .inl (G.2 0, 60, .inl cf) := (fr_3841 (ad 6) ).trans h6
            have f_3851 : F_3843 (ad 6) = .inl (G.2 0, 60, .inl cf) := (o_3847 (ad 6) ).trans f_3850
            refine q_iald C0 hw ((hL 6 (by omega))) f_3851 (p8) (by omega) (by decide) (v := nI (t9.2 p8)) (hcf p8 (by omega)) dX4_firstWrong_28 ?_
            have := hco p8 (by omega)
            refine lv_bipush (v := nI 59) hx hb dX4_firstWrong_29 (by decide) ?_
            refine n_icmp_ne (tgt := 38) hx hb dX4_firstWrong_31 (by decide) (by omega) (by decide) (fun c_31 => ?_) (fun c_31 => ?_)
            · skip
              refine lv_iinc (v := nI (p8 + 1)) (lv' := [(2, .int (nI (p8 + 1))), (0, .ref (ad 5)), (1, .int (nI (s8)))]) hx hb dX4_firstWrong_38 hl (k := 2) rfl (nI_add _ _) (by decide) rfl (fun ls hl => ?_)
              refine lv_goto (tgt := 4) hx hb dX4_firstWrong_41 (by decide) ?_
              exact ih_4 (p8 + 1) (s8) ((by omega)) ((by omega)) ((fw_yes hq c_9 hb_3848 (if_neg c_31))) (by omega) F_3843 _ _ hw  (fun q  => ((o_3847 q ).trans (fr_3841 q ))) ls (lv_sub hl [1, 2, 0] rfl)
            · skip
              refine lv_iload_n hx hb dX4_firstWrong_34 rfl (lv_at hl 2 rfl) ?_
              refine lv_iconst (v := nI 1) hx hb dX4_firstWrong_35 (by decide) ?_
              refine n_iadd hx hb dX4_firstWrong_36 ?_
              refine lv_istore_n (lv' := [(1, .int (nI (p8 + 1))), (0, .ref (ad 5)), (2, .int (nI (p8)))]) hx hb dX4_firstWrong_37 rfl hl (by decide) rfl (fun ls hl => ?_)
              refine lv_iinc (v := nI (p8 + 1)) (lv' := [(2, .int (nI (p8 + 1))), (1, .int (nI (p8 + 1))), (0, .ref (ad 5))]) hx hb dX4_firstWrong_38 hl (k := 2) rfl (nI_add _ _) (by decide) rfl (fun ls hl => ?_)
              refine lv_goto (tgt := 4) hx hb dX4_firstWrong_41 (by decide) ?_
              exact ih_4 (p8 + 1) (p8 + 1) ((by omega)) ((by omega)) ((fw_yes hq c_9 hb_3848 (if_pos c_31))) (by omega) F_3843 _ _ hw  (fun q  => ((o_3847 q ).trans (fr_3841 q ))) ls (lv_sub hl [2, 1, 0] rfl)
          · skip
            exact absurd c_18 (by omega)
        · skip
          rw [if_neg hb_3848] at he_3846
          subst he_3846
          refine n_if_ne (tgt := 23) hx hb dX4_firstWrong_18 (by decide) (by decide) (fun c_18 => ?_) (fun c_18 => ?_)
          · skip
            exact absurd c_18 (by omega)
          · skip
            refine lv_iload_n hx hb dX4_firstWrong_21 rfl (lv_at hl 2 rfl) ?_
            exact r_i C0 hr hlk hw (v := nI (p8)) rfl ⟨congrArg nI (fw_no hq c_9 hb_3848), (fun q  => ((o_3847 q ).trans (fr_3841 q )))⟩ (Nat.le_refl _) (Nat.le_refl _) dX4_firstWrong_22 hQ
  exact lp4 _ (0) (0) ((by omega)) ((by omega)) (rfl) (Nat.lt_succ_self _) F _ _ hw  (fun q  => rfl) ls (lv_sub hl [2, 1, 0] rfl)
abbrev rm_X4_isProgram : Room := { frames := 3, cells := 0, slots := 0, locals := 68 }
set_option maxHeartbeats 4000000 in
set_option maxRecDepth 100000 in
theorem c_X4_isProgram_a (l : Launch) (G : Gl) (L : List Nat) (F : Nat → va_E) (ad : Nat → Nat) (hL : ∀ i, i < 166 → ad i ∈ L) (hin : ∀ i j, i < 166 → j < 166 → i ≠ j → ad i ≠ ad j) (t9 : Txt) (htx : txtW G F ad t9) (hco : okT t9) (h29 : 2 ≤ t9.1) : CI l yX4_isProgram cX4_isProgram 1 (some .boolean) rm_X4_isProgram G L F [.ref (ad 5)] (fun r F1 => r = (if isPr t9 then nI 1 else nI 0) ∧ ∀ q, F1 q = F q) := by
  obtain ⟨-, cf, h6, hcf, hl60⟩ := id htx
  have hfw := fwA_le t9
  refine CG_of (by decide) (Nat.le_of_ble_eq_true rfl) rfl ?_
  intro p e s m args below meth c Q C0 hr hlk hnm hQ hw ls hl
  have hx := C0.x
  have hb := C0.b
  refine lv_aload_n hx hb dX4_isProgram_0 rfl (lv_at hl 0 rfl) ?_
  refine q_calli hw (q_runV (As := []) (c_X4_firstWrong l G L F ad hL hin t9 htx hco) C0 hw vw_X4_38 ((hL 5 (by omega))) htx.1 rfl rfl rfl hl.1 rfl (Nat.le_of_ble_eq_true rfl) dX4_isProgram_1 ⟨by decide, by decide⟩ ⟨by decide, by decide⟩) rfl rfl (fun r_3854 F_3852 H locs hw hp_3853 => ?_)
  obtain ⟨he_3855, o_3856⟩ := hp_3853
  subst he_3855
  refine lv_aload_n hx hb dX4_isProgram_4 rfl (lv_at hl 0 rfl) ?_
  have f_3857 : F_3852 (ad 5) = tO (ad 6) t9.1 := (o_3856 (ad 5) ).trans htx.1
  refine q_get C0 hw ((hL 5 (by omega))) f_3857 fw_X4_15 rfl dX4_isProgram_5 ?_
  refine n_icmp_ne (tgt := 30) hx hb dX4_isProgram_8 (by decide) (by omega) (by omega) (fun c_8 => ?_) (fun c_8 => ?_)
  · skip
    refine lv_iconst (v := nI 0) hx hb dX4_isProgram_30 (by decide) ?_
    exact r_i C0 hr hlk hw (v := nI 0) rfl ⟨bool_f (fun h9 => c_8 h9.1), (fun q  => (o_3856 q ))⟩ (Nat.le_refl _) (Nat.le_refl _) dX4_isProgram_31 hQ
  · skip
    refine lv_aload_n hx hb dX4_isProgram_11 rfl (lv_at hl 0 rfl) ?_
    refine lv_aload_n hx hb dX4_isProgram_12 rfl (lv_at hl 0 rfl) ?_
    refine q_get C0 hw ((hL 5 (by omega))) f_3857 fw_X4_15 rfl dX4_isProgram_13 ?_
    refine lv_iconst (v := nI 2) hx hb dX4_isProgram_16 (by decide) ?_
    refine n_isub hx hb (by omega) dX4_isProgram_17 ?_
    refine q_calli hw (q_runV (As := [.int (nI (t9.1 - 2))]) (c_X4_codeAt l G L F_3852 ad hL hin t9 (htx.keep (fun i0 hi => (o_3856 (ad (i0)) ))) hco (t9.1 - 2) (by omega)) C0 hw vw_X4_23 ((hL 5 (by omega))) f_3857 rfl rfl rfl hl.1 rfl (Nat.le_of_ble_eq_true rfl) dX4_isProgram_18 ⟨by decide, by decide⟩ ⟨by decide, by decide⟩) rfl rfl (fun r_3860 F_3858 H locs hw hp_3859 => ?_)
    obtain ⟨he_3861, o_3862⟩ := hp_3859
    subst he_3861
    have cb_3863 := cdA_le hco (t9.1 - 2)
    have e62 : cdA t9 (t9.1 - 2) = t9.2 (t9.1 - 2) := if_pos (by omega)
    refine lv_bipush (v := nI 62) hx hb dX4_isProgram_21 (by decide) ?_
    refine n_icmp_ne (tgt := 30) hx hb dX4_isProgram_23 (by decide) (by omega) (by decide) (fun c_23 => ?_) (fun c_23 => ?_)
    · skip
      refine lv_iconst (v := nI 0) hx hb dX4_isProgram_30 (by decide) ?_
      exact r_i C0 hr hlk hw (v := nI 0) rfl ⟨bool_f (fun h9 => c_23 (e62.trans h9.2.2)), (fun q  => ((o_3862 q ).trans (o_3856 q )))⟩ (Nat.le_refl _) (Nat.le_refl _) dX4_isProgram_31 hQ
    · skip
      refine lv_iconst (v := nI 1) hx hb dX4_isProgram_26 (by decide) ?_
      refine lv_goto (tgt := 31) hx hb dX4_isProgram_27 (by decide) ?_
      exact r_i C0 hr hlk hw (v := nI 1) rfl ⟨bool_t ⟨c_8, h29, e62.symm.trans c_23⟩, (fun q  => ((o_3862 q ).trans (o_3856 q )))⟩ (Nat.le_refl _) (Nat.le_refl _) dX4_isProgram_31 hQ
set_option maxHeartbeats 4000000 in
set_option maxRecDepth 100000 in
theorem c_X4_isProgram_b (l : Launch) (G : Gl) (L : List Nat) (F : Nat → va_E) (ad : Nat → Nat) (hL : ∀ i, i < 166 → ad i ∈ L) (hin : ∀ i j, i < 166 → j < 166 → i ≠ j → ad i ≠ ad j) (t9 : Txt) (htx : txtW G F ad t9) (hco : okT t9) (h29 : t9.1 < 2) : CI l yX4_isProgram cX4_isProgram 1 (some .boolean) rm_X4_isProgram G L F [.ref (ad 5)] (fun r F1 => r = (if isPr t9 then nI 1 else nI 0) ∧ ∀ q, F1 q = F q) := by
  obtain ⟨-, cf, h6, hcf, hl60⟩ := id htx
  have hfw := fwA_le t9
  refine CG_of (by decide) (Nat.le_of_ble_eq_true rfl) rfl ?_
  intro p e s m args below meth c Q C0 hr hlk hnm hQ hw ls hl
  have hx := C0.x
  have hb := C0.b
  refine lv_aload_n hx hb dX4_isProgram_0 rfl (lv_at hl 0 rfl) ?_
  refine q_calli hw (q_runV (As := []) (c_X4_firstWrong l G L F ad hL hin t9 htx hco) C0 hw vw_X4_38 ((hL 5 (by omega))) htx.1 rfl rfl rfl hl.1 rfl (Nat.le_of_ble_eq_true rfl) dX4_isProgram_1 ⟨by decide, by decide⟩ ⟨by decide, by decide⟩) rfl rfl (fun r_3866 F_3864 H locs hw hp_3865 => ?_)
  obtain ⟨he_3867, o_3868⟩ := hp_3865
  subst he_3867
  refine lv_aload_n hx hb dX4_isProgram_4 rfl (lv_at hl 0 rfl) ?_
  have f_3869 : F_3864 (ad 5) = tO (ad 6) t9.1 := (o_3868 (ad 5) ).trans htx.1
  refine q_get C0 hw ((hL 5 (by omega))) f_3869 fw_X4_15 rfl dX4_isProgram_5 ?_
  refine n_icmp_ne (tgt := 30) hx hb dX4_isProgram_8 (by decide) (by omega) (by omega) (fun c_8 => ?_) (fun c_8 => ?_)
  · skip
    refine lv_iconst (v := nI 0) hx hb dX4_isProgram_30 (by decide) ?_
    exact r_i C0 hr hlk hw (v := nI 0) rfl ⟨bool_f (fun h9 => c_8 h9.1), (fun q  => (o_3868 q ))⟩ (Nat.le_refl _) (Nat.le_refl _) dX4_isProgram_31 hQ
  · skip
    refine lv_aload_n hx hb dX4_isProgram_11 rfl (lv_at hl 0 rfl) ?_
    refine lv_aload_n hx hb dX4_isProgram_12 rfl (lv_at hl 0 rfl) ?_
    refine q_get C0 hw ((hL 5 (by omega))) f_3869 fw_X4_15 rfl dX4_isProgram_13 ?_
    refine lv_iconst (v := nI 2) hx hb dX4_isProgram_16 (by decide) ?_
    refine lv_isub hx hb dX4_isProgram_17 ?_
    refine q_calli hw (q_runV (As := [.int ((nI (t9.1)) - (nI 2))]) (c_X4_codeAt_neg l G L F_3864 ad hL hin t9 (htx.keep (fun i0 hi => (o_3868 (ad (i0)) ))) hco ((nI (t9.1)) - (nI 2)) (pk_sneg (by omega) (by omega))) C0 hw vw_X4_23 ((hL 5 (by omega))) f_3869 rfl rfl rfl hl.1 rfl (Nat.le_of_ble_eq_true rfl) dX4_isProgram_18 ⟨by decide, by decide⟩ ⟨by decide, by decide⟩) rfl rfl (fun r_3872 F_3870 H locs hw hp_3871 => ?_)
    obtain ⟨he_3873, o_3874⟩ := hp_3871
    subst he_3873
    refine lv_bipush (v := nI 62) hx hb dX4_isProgram_21 (by decide) ?_
    refine n_icmp_ne (tgt := 30) hx hb dX4_isProgram_23 (by decide) (by decide) (by decide) (fun c_23 => ?_) (fun c_23 => ?_)
    · skip
      refine lv_iconst (v := nI 0) hx hb dX4_isProgram_30 (by decide) ?_
      exact r_i C0 hr hlk hw (v := nI 0) rfl ⟨bool_f (fun h9 => by omega), (fun q  => ((o_3874 q ).trans (o_3868 q )))⟩ (Nat.le_refl _) (Nat.le_refl _) dX4_isProgram_31 hQ
    · skip
      exact absurd c_23 (by omega)
theorem c_X4_isProgram (l : Launch) (G : Gl) (L : List Nat) (F : Nat → va_E) (ad : Nat → Nat) (hL : ∀ i, i < 166 → ad i ∈ L) (hin : ∀ i j, i < 166 → j < 166 → i ≠ j → ad i ≠ ad j) (t9 : Txt) (htx : txtW G F ad t9) (hco : okT t9) : CI l yX4_isProgram cX4_isProgram 1 (some .boolean) rm_X4_isProgram G L F [.ref (ad 5)] (fun r F1 => r = (if isPr t9 then nI 1 else nI 0) ∧ ∀ q, F1 q = F q) := by
  rcases Nat.lt_or_ge t9.1 2 with h | h
  · exact c_X4_isProgram_b l G L F ad hL hin t9 htx hco h
  · exact c_X4_isProgram_a l G L F ad hL hin t9 htx hco h
abbrev rm_X4_hashFrom : Room := { frames := 0, cells := 0, slots := 0, locals := 0 }
set_option maxHeartbeats 4000000 in
set_option maxRecDepth 100000 in
theorem c_X4_hashFrom (l : Launch) (G : Gl) (L : List Nat) (F : Nat → va_E) (ad : Nat → Nat) (hL : ∀ i, i < 166 → ad i ∈ L) (hin : ∀ i j, i < 166 → j < 166 → i ≠ j → ad i ≠ ad j) (t9 : Txt) (htx : txtW G F ad t9) (hco : okT t9) (h9 : Int64) : CL l yX4_hashFrom cX4_hashFrom 6 (some .long) rm_X4_hashFrom G L F [.ref (ad 5), .long (h9)] (fun r F1 => r = hfN t9 h9 t9.1 ∧ ∀ q, F1 q = F q) := by
  obtain ⟨-, cf, h6, hcf, hl60⟩ := id htx
  refine CG_of (by decide) (Nat.le_of_ble_eq_true rfl) rfl ?_
  intro p e s m args below meth c Q C0 hr hlk hnm hQ hw ls hl
  have hx := C0.x
  have hb := C0.b
  refine lv_ldc2 (v := lN (31)) hx hb C0.ow (C0.ts _ kw_X4_42) dX4_hashFrom_0 ?_
  refine lv_lload_n hx hb dX4_hashFrom_3 rfl (lv_at hl 1 rfl) ?_
  refine lv_lmul hx hb dX4_hashFrom_4 ?_
  refine lv_aload_n hx hb dX4_hashFrom_5 rfl (lv_at hl 0 rfl) ?_
  refine q_get C0 hw ((hL 5 (by omega))) htx.1 fw_X4_15 rfl dX4_hashFrom_6 ?_
  refine n_i2l hx hb (by omega) dX4_hashFrom_9 ?_
  refine lv_ladd hx hb dX4_hashFrom_10 ?_
  refine lv_lstore_n (lv' := [(3, .long ((lN (31) * (h9)) + lN (t9.1))), (0, .ref (ad 5)), (1, .long (h9))]) hx hb dX4_hashFrom_11 rfl hl (by decide) rfl (fun ls hl => ?_)
  refine lv_iconst (v := nI 0) hx hb dX4_hashFrom_12 (by decide) ?_
  refine lv_istore (lv' := [(5, .int (nI (0))), (3, .long ((lN (31) * (h9)) + lN (t9.1))), (0, .ref (ad 5)), (1, .long (h9))]) hx hb dX4_hashFrom_13 hl (by decide) rfl (fun ls hl => ?_)
  have lp15 : ∀ (n : Nat) (i9 : Nat), i9 ≤ t9.1 → t9.1 + 1 - i9 < n → ∀ (F_3875 : Nat → va_E) (H : Heap) (locs : List Loc), wD G L F_3875 s H locs → (∀ q, F_3875 q = F q) → ∀ ls : Array Slot, lv_has ls 6 [(0, .ref (ad 5)), (3, .long (hfN t9 h9 i9)), (5, .int (nI (i9)))] → W p l e rm_X4_hashFrom s m args below meth c H locs 0 0 Q (F0 m 15 ls []) := by
    intro n
    induction n with
    | zero => intro i9 hi9 hm; exact absurd hm (Nat.not_lt_zero _)
    | succ n ih_15 =>
      intro i9 hi9 hm F_3875 H locs hw  fr_3876 ls hl
      refine lv_iload hx hb dX4_hashFrom_15 (lv_at hl 2 rfl) ?_
      refine lv_aload_n hx hb dX4_hashFrom_17 rfl (lv_at hl 0 rfl) ?_
      have f_3877 : F_3875 (ad 5) = tO (ad 6) t9.1 := (fr_3876 (ad 5) ).trans htx.1
      refine q_get C0 hw ((hL 5 (by omega))) f_3877 fw_X4_15 rfl dX4_hashFrom_18 ?_
      refine n_icmp_ge (tgt := 45) hx hb dX4_hashFrom_21 (by decide) (by omega) (by omega) (fun c_21 => ?_) (fun c_21 => ?_)
      · skip
        obtain rfl : i9 = t9.1 := by omega
        refine lv_lload_n hx hb dX4_hashFrom_45 rfl (lv_at hl 1 rfl) ?_
        exact r_l C0 hr hlk hw ⟨rfl, (fun q  => (fr_3876 q ))⟩ (Nat.le_refl _) (Nat.le_refl _) dX4_hashFrom_46 hQ
      · skip
        refine lv_ldc2 (v := lN (31)) hx hb C0.ow (C0.ts _ kw_X4_42) dX4_hashFrom_24 ?_
        refine lv_lload_n hx hb dX4_hashFrom_27 rfl (lv_at hl 1 rfl) ?_
        refine lv_lmul hx hb dX4_hashFrom_28 ?_
        refine lv_aload_n hx hb dX4_hashFrom_29 rfl (lv_at hl 0 rfl) ?_
        refine q_get C0 hw ((hL 5 (by omega))) f_3877 fw_X4_9 rfl dX4_hashFrom_30 ?_
        refine lv_iload hx hb dX4_hashFrom_33 (lv_at hl 2 rfl) ?_
        have f_3878 : F_3875 (ad 6) = .inl (G.2 0, 60, .inl cf) := (fr_3876 (ad 6) ).trans h6
        refine q_iald C0 hw ((hL 6 (by omega))) f_3878 (i9) (by omega) (by decide) (v := nI (t9.2 i9)) (hcf i9 (by omega)) dX4_hashFrom_35 ?_
        have := hco i9 (by omega)
        refine n_i2l hx hb (by omega) dX4_hashFrom_36 ?_
        refine lv_ladd hx hb dX4_hashFrom_37 ?_
        refine lv_lstore_n (lv' := [(3, .long ((lN (31) * (hfN t9 h9 i9)) + lN (t9.2 i9))), (0, .ref (ad 5)), (5, .int (nI (i9)))]) hx hb dX4_hashFrom_38 rfl hl (by decide) rfl (fun ls hl => ?_)
        refine lv_iinc (v := nI (i9 + 1)) (lv' := [(5, .int (nI (i9 + 1))), (3, .long ((lN (31) * (hfN t9 h9 i9)) + lN (t9.2 i9))), (0, .ref (ad 5))]) hx hb dX4_hashFrom_39 hl (k := 2) rfl (nI_add _ _) (by decide) rfl (fun ls hl => ?_)
        refine lv_goto (tgt := 15) hx hb dX4_hashFrom_42 (by decide) ?_
        exact ih_15 (i9 + 1) ((by omega)) (by omega) F_3875 _ _ hw  (fun q  => (fr_3876 q )) ls (lv_sub hl [2, 1, 0] rfl)
  exact lp15 _ (0) ((by omega)) (Nat.lt_succ_self _) F _ _ hw  (fun q  => rfl) ls (lv_sub hl [2, 1, 0] rfl)
abbrev rm_X5_append : Room := { frames := 2, cells := 0, slots := 0, locals := 41 }
set_option maxHeartbeats 4000000 in
set_option maxRecDepth 100000 in
theorem c_X5_append (l : Launch) (G : Gl) (L : List Nat) (F : Nat → va_E) (ad : Nat → Nat) (hL : ∀ i, i < 166 → ad i ∈ L) (hin : ∀ i j, i < 166 → j < 166 → i ≠ j → ad i ≠ ad j) (A : AB) (x9 : Nat) (hx1 : 33 ≤ x9) (hx2 : x9 ≤ 126) (h60 : A.2.2.2.1 < 60) (hX : XW G F ad A) (hA : okA A) : CI l yX5_append cX5_append 2 (some .int) rm_X5_append G L F [.ref (ad 0), .int (nI (x9))] (fun r F1 => r = nI (A.2.2.2.1 + 1) ∧ XW G F1 ad (A.1, A.2.1, A.2.2.1, (A.2.2.2.1 + 1, va_up A.2.2.2.2 A.2.2.2.1 x9)) ∧ ∀ q, (∀ i, (i < 166) → q ≠ ad i) → F1 q = F q) := by
  obtain ⟨fx, hn, hh, hsn, htx, hrk, ⟨u9, h134⟩, ⟨v9, h150⟩⟩ := hX
  obtain ⟨⟨hc2, hc, hpu, hok⟩, ⟨hh6, hho⟩, hso, hl60, hco⟩ := id hA
  refine CG_of (by decide) (Nat.le_of_ble_eq_true rfl) rfl ?_
  intro p e s m args below meth c Q C0 hr hlk hnm hQ hw ls hl
  have hx := C0.x
  have hb := C0.b
  refine lv_iload_n hx hb dX5_append_0 rfl (lv_at hl 1 rfl) ?_
  refine lv_bipush (v := nI 33) hx hb dX5_append_1 (by decide) ?_
  refine n_icmp_lt (tgt := 12) hx hb dX5_append_3 (by decide) (by omega) (by decide) (fun c_3 => ?_) (fun c_3 => ?_)
  · skip
    exact absurd c_3 (by omega)
  · skip
    refine lv_iload_n hx hb dX5_append_6 rfl (lv_at hl 1 rfl) ?_
    refine lv_bipush (v := nI 126) hx hb dX5_append_7 (by decide) ?_
    refine n_icmp_le (tgt := 22) hx hb dX5_append_9 (by decide) (by omega) (by decide) (fun c_9 => ?_) (fun c_9 => ?_)
    · skip
      refine lv_aload_n hx hb dX5_append_22 rfl (lv_at hl 0 rfl) ?_
      refine q_get C0 hw ((hL 0 (by omega))) fx fw_X5_37 rfl dX5_append_23 ?_
      refine q_calli hw (q_runV (As := []) (c_X4_isFull l G L F ad hL hin A.2.2.2 htx hco) C0 hw vw_X5_145 ((hL 5 (by omega))) htx.1 rfl rfl rfl hl.1 rfl (Nat.le_of_ble_eq_true rfl) dX5_append_26 ⟨by decide, by decide⟩ ⟨by decide, by decide⟩) rfl rfl (fun r_3881 F_3879 H locs hw hp_3880 => ?_)
      obtain ⟨he_3882, o_3883⟩ := hp_3880
      rw [if_neg (by omega)] at he_3882
      subst he_3882
      refine n_if_eq (tgt := 42) hx hb dX5_append_29 (by decide) (by decide) (fun c_29 => ?_) (fun c_29 => ?_)
      · skip
        refine lv_aload_n hx hb dX5_append_42 rfl (lv_at hl 0 rfl) ?_
        have f_3884 : F_3879 (ad 0) = xO ad := (o_3883 (ad 0) ).trans fx
        refine q_get C0 hw ((hL 0 (by omega))) f_3884 fw_X5_37 rfl dX5_append_43 ?_
        refine lv_iload_n hx hb dX5_append_46 rfl (lv_at hl 1 rfl) ?_
        have f_3885 : F_3879 (ad 5) = tO (ad 6) A.2.2.2.1 := (o_3883 (ad 5) ).trans htx.1
        refine q_callv hw (q_runV (As := [.int (nI (x9))]) (c_X4_add l G L F_3879 ad hL hin A.2.2.2 (htx.keep (fun i0 hi => (o_3883 (ad (i0)) ))) hco x9 (by omega) (by omega) (by omega)) C0 hw vw_X5_151 ((hL 5 (by omega))) f_3885 rfl rfl rfl hl.1 rfl (Nat.le_of_ble_eq_true rfl) dX5_append_47 ⟨by decide, by decide⟩ ⟨by decide, by decide⟩) rfl rfl (fun F_3886 H locs hw hp_3887 => ?_)
        refine lv_aload_n hx hb dX5_append_50 rfl (lv_at hl 0 rfl) ?_
        have f_3888 : F_3886 (ad 0) = xO ad := (hp_3887.2 (ad 0) (fun i hS => hin 0 i (by omega) (by omega) (by omega))).trans f_3884
        refine q_get C0 hw ((hL 0 (by omega))) f_3888 fw_X5_37 rfl dX5_append_51 ?_
        refine q_get C0 hw ((hL 5 (by omega))) hp_3887.1.1 fw_X5_154 rfl dX5_append_54 ?_
        have f_3889 : F_3879 (ad 134) = rw7 G u9 := (o_3883 (ad 134) ).trans h134
        have f_3890 : F_3886 (ad 134) = rw7 G u9 := (hp_3887.2 (ad 134) (fun i hS => hin 134 i (by omega) (by omega) (by omega))).trans f_3889
        have f_3891 : F_3879 (ad 150) = rw7 G v9 := (o_3883 (ad 150) ).trans h150
        have f_3892 : F_3886 (ad 150) = rw7 G v9 := (hp_3887.2 (ad 150) (fun i hS => hin 150 i (by omega) (by omega) (by omega))).trans f_3891
        exact r_i C0 hr hlk hw (v := nI (A.2.2.2.1 + 1)) rfl ⟨rfl, ⟨f_3888, (hn.keep (fun i0 hi => ((hp_3887.2 (ad (i0)) (fun i hS => hin (i0) i (by omega) (by omega) (by omega)))).trans ((o_3883 (ad (i0)) )))), (hh.keep (fun i0 hi => ((hp_3887.2 (ad (i0)) (fun i hS => hin (i0) i (by omega) (by omega) (by omega)))).trans ((o_3883 (ad (i0)) )))), (hsn.keep (fun i0 hi => ((hp_3887.2 (ad (i0)) (fun i hS => hin (i0) i (by omega) (by omega) (by omega)))).trans ((o_3883 (ad (i0)) )))), hp_3887.1, (hrk.keep (fun i0 hi => ((hp_3887.2 (ad (i0)) (fun i hS => hin (i0) i (by omega) (by omega) (by omega)))).trans ((o_3883 (ad (i0)) )))), ⟨_, f_3890⟩, ⟨_, f_3892⟩⟩, (fun q hq => ((hp_3887.2 q (fun i hS => hq i (by omega))).trans (o_3883 q )))⟩ (Nat.le_refl _) (Nat.le_refl _) dX5_append_57 hQ
      · skip
        exact absurd c_29 (by omega)
    · skip
      exact absurd c_9 (by omega)
abbrev rm_X5_clearBuffer : Room := { frames := 1, cells := 0, slots := 0, locals := 20 }
set_option maxHeartbeats 4000000 in
set_option maxRecDepth 100000 in
theorem c_X5_clearBuffer (l : Launch) (G : Gl) (L : List Nat) (F : Nat → va_E) (ad : Nat → Nat) (hL : ∀ i, i < 166 → ad i ∈ L) (hin : ∀ i j, i < 166 → j < 166 → i ≠ j → ad i ≠ ad j) (A : AB) (hX : XW G F ad A) (hA : okA A) : CI l yX5_clearBuffer cX5_clearBuffer 2 (some .int) rm_X5_clearBuffer G L F [.ref (ad 0)] (fun r F1 => r = nI A.2.2.2.1 ∧ XW G F1 ad (A.1, A.2.1, A.2.2.1, (0, A.2.2.2.2)) ∧ ∀ q, (∀ i, (i < 166) → q ≠ ad i) → F1 q = F q) := by
  obtain ⟨fx, hn, hh, hsn, htx, hrk, ⟨u9, h134⟩, ⟨v9, h150⟩⟩ := hX
  obtain ⟨⟨hc2, hc, hpu, hok⟩, ⟨hh6, hho⟩, hso, hl60, hco⟩ := id hA
  refine CG_of (by decide) (Nat.le_of_ble_eq_true rfl) rfl ?_
  intro p e s m args below meth c Q C0 hr hlk hnm hQ hw ls hl
  have hx := C0.x
  have hb := C0.b
  refine lv_aload_n hx hb dX5_clearBuffer_0 rfl (lv_at hl 0 rfl) ?_
  refine q_get C0 hw ((hL 0 (by omega))) fx fw_X5_37 rfl dX5_clearBuffer_1 ?_
  refine q_get C0 hw ((hL 5 (by omega))) htx.1 fw_X5_154 rfl dX5_clearBuffer_4 ?_
  refine lv_istore_n (lv' := [(1, .int (nI (A.2.2.2.1))), (0, .ref (ad 0))]) hx hb dX5_clearBuffer_7 rfl hl (by decide) rfl (fun ls hl => ?_)
  refine lv_aload_n hx hb dX5_clearBuffer_8 rfl (lv_at hl 1 rfl) ?_
  refine q_get C0 hw ((hL 0 (by omega))) fx fw_X5_37 rfl dX5_clearBuffer_9 ?_
  refine q_callv hw (q_runV (As := []) (c_X4_empty l G L F ad hL hin A.2.2.2 htx hco A.2.2.2.2) C0 hw vw_X5_157 ((hL 5 (by omega))) htx.1 rfl rfl rfl hl.1 rfl (Nat.le_of_ble_eq_true rfl) dX5_clearBuffer_12 ⟨by decide, by decide⟩ ⟨by decide, by decide⟩) rfl rfl (fun F_3893 H locs hw hp_3894 => ?_)
  refine lv_iload_n hx hb dX5_clearBuffer_15 rfl (lv_at hl 0 rfl) ?_
  have f_3895 : F_3893 (ad 0) = xO ad := (hp_3894.2 (ad 0) (fun i hS => hin 0 i (by omega) (by omega) (by omega))).trans fx
  have f_3896 : F_3893 (ad 134) = rw7 G u9 := (hp_3894.2 (ad 134) (fun i hS => hin 134 i (by omega) (by omega) (by omega))).trans h134
  have f_3897 : F_3893 (ad 150) = rw7 G v9 := (hp_3894.2 (ad 150) (fun i hS => hin 150 i (by omega) (by omega) (by omega))).trans h150
  exact r_i C0 hr hlk hw (v := nI (A.2.2.2.1)) rfl ⟨rfl, ⟨f_3895, (hn.keep (fun i0 hi => (hp_3894.2 (ad (i0)) (fun i hS => hin (i0) i (by omega) (by omega) (by omega))))), (hh.keep (fun i0 hi => (hp_3894.2 (ad (i0)) (fun i hS => hin (i0) i (by omega) (by omega) (by omega))))), (hsn.keep (fun i0 hi => (hp_3894.2 (ad (i0)) (fun i hS => hin (i0) i (by omega) (by omega) (by omega))))), hp_3894.1, (hrk.keep (fun i0 hi => (hp_3894.2 (ad (i0)) (fun i hS => hin (i0) i (by omega) (by omega) (by omega))))), ⟨_, f_3896⟩, ⟨_, f_3897⟩⟩, (fun q hq => (hp_3894.2 q (fun i hS => hq i (by omega))))⟩ (Nat.le_refl _) (Nat.le_refl _) dX5_clearBuffer_16 hQ
abbrev rm_X5_firstError : Room := { frames := 3, cells := 0, slots := 0, locals := 68 }
set_option maxHeartbeats 4000000 in
set_option maxRecDepth 100000 in
theorem c_X5_firstError (l : Launch) (G : Gl) (L : List Nat) (F : Nat → va_E) (ad : Nat → Nat) (hL : ∀ i, i < 166 → ad i ∈ L) (hin : ∀ i j, i < 166 → j < 166 → i ≠ j → ad i ≠ ad j) (A : AB) (hX : XW G F ad A) (hA : okA A) : CI l yX5_firstError cX5_firstError 1 (some .int) rm_X5_firstError G L F [.ref (ad 0)] (fun r F1 => r = nI (fwA A.2.2.2) ∧ ∀ q, F1 q = F q) := by
  obtain ⟨fx, hn, hh, hsn, htx, hrk, ⟨u9, h134⟩, ⟨v9, h150⟩⟩ := hX
  obtain ⟨⟨hc2, hc, hpu, hok⟩, ⟨hh6, hho⟩, hso, hl60, hco⟩ := id hA
  refine CG_of (by decide) (Nat.le_of_ble_eq_true rfl) rfl ?_
  intro p e s m args below meth c Q C0 hr hlk hnm hQ hw ls hl
  have hx := C0.x
  have hb := C0.b
  refine lv_aload_n hx hb dX5_firstError_0 rfl (lv_at hl 0 rfl) ?_
  refine q_get C0 hw ((hL 0 (by omega))) fx fw_X5_37 rfl dX5_firstError_1 ?_
  refine q_calli hw (q_runV (As := []) (c_X4_firstWrong l G L F ad hL hin A.2.2.2 htx hco) C0 hw vw_X5_160 ((hL 5 (by omega))) htx.1 rfl rfl rfl hl.1 rfl (Nat.le_of_ble_eq_true rfl) dX5_firstError_4 ⟨by decide, by decide⟩ ⟨by decide, by decide⟩) rfl rfl (fun r_3900 F_3898 H locs hw hp_3899 => ?_)
  obtain ⟨he_3901, o_3902⟩ := hp_3899
  subst he_3901
  exact r_i C0 hr hlk hw (v := nI (fwA A.2.2.2)) rfl ⟨rfl, (fun q  => (o_3902 q ))⟩ (Nat.le_refl _) (Nat.le_refl _) dX5_firstError_7 hQ
