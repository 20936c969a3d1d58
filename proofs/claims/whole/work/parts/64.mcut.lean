def ctM (zf : Nat → Int32) (c k : Nat) : Nat → Int32 := fun i => if i = 0 then nI c else if 5 ≤ i ∧ i < 5 + k ∧ c < (i - 5) % 7 then nI 0 else zf i
theorem ctM_0 (zf : Nat → Int32) (c : Nat) : upd zf 0 (nI c) = ctM zf c 0 := by
  funext i
  by_cases e : i = 0
  · simp [upd, ctM, e]
  · simp only [upd, ctM, e, if_false]
    rw [if_neg (by omega)]
theorem ctM_a (zf : Nat → Int32) {c k : Nat} (h : c < k % 7) : upd (ctM zf c k) (5 + k) (nI 0) = ctM zf c (k + 1) := by
  funext i
  by_cases e : i = 5 + k
  · subst e
    simp only [upd, ctM, if_true]
    rw [if_neg (by omega), if_pos ⟨by omega, by omega, by rw [show 5 + k - 5 = k by omega]; exact h⟩]
  · simp only [upd, ctM, e, if_false]
    by_cases e0 : i = 0
    · rw [if_pos e0, if_pos e0]
    · rw [if_neg e0, if_neg e0]
      by_cases e1 : 5 ≤ i ∧ i < 5 + k ∧ c < (i - 5) % 7
      · rw [if_pos e1, if_pos ⟨e1.1, by omega, e1.2.2⟩]
      · rw [if_neg e1, if_neg (fun h9 => e1 ⟨h9.1, by omega, h9.2.2⟩)]
theorem ctM_b (zf : Nat → Int32) {c k : Nat} (h : k % 7 ≤ c) : upd (ctM zf c k) (5 + k) (ctM zf c k (5 + k)) = ctM zf c (k + 1) := by
  funext i
  by_cases e : i = 5 + k
  · subst e
    simp only [upd, ctM, if_true]
    rw [if_neg (by omega), if_neg (by omega), if_neg (by omega), if_neg (fun h9 => by have h8 := h9.2.2; rw [show 5 + k - 5 = k by omega] at h8; omega)]
  · simp only [upd, ctM, e, if_false]
    by_cases e0 : i = 0
    · rw [if_pos e0, if_pos e0]
    · rw [if_neg e0, if_neg e0]
      by_cases e1 : 5 ≤ i ∧ i < 5 + k ∧ c < (i - 5) % 7
      · rw [if_pos e1, if_pos ⟨e1.1, by omega, e1.2.2⟩]
      · rw [if_neg e1, if_neg (fun h9 => e1 ⟨h9.1, by omega, h9.2.2⟩)]
abbrev rm_X6_cut : Room := { frames := 1, cells := 0, slots := 0, locals := 22 }
set_option maxHeartbeats 4000000 in
set_option maxRecDepth 100000 in
theorem c_X6_cut_x (l : Launch) (G : Gl) (L : List Nat) (F : Nat → va_E) (b : Nat) (ma : Nat → Nat) (mi : Nat → Int32) (hh : Int64) (zf hf : Nat → Int32) (n9 : Nat) (x9 : Int32) (mb : b ∈ L) (fb : F b = mO ma mi hh) (hm0 : mi 0 = nI n9) (hn6 : n9 ≤ 6) (hma : ∀ i, i < 7 → ma i ∈ L) (fz : F (ma 0) = .inl (G.2 0, 89, .inl zf)) (fh : F (ma 1) = .inl (G.2 0, 534, .inl hf)) (h9 : ¬ inR x9 2 6) : CI l yX6_cut cX6_cut 4 (some .int) rm_X6_cut G L F [.ref b, .int (x9)] (fun r F1 => r = nI 0 ∧ F1 b = mO ma (va_up mi 2 (nI 1)) hh ∧ ∀ q, q ≠ b → F1 q = F q) := by
  refine CG_of (by decide) (Nat.le_of_ble_eq_true rfl) rfl ?_
  intro p e s m args below meth c Q C0 hr hlk hnm hQ hw ls hl
  have hx := C0.x
  have hb := C0.b
  refine lv_aload_n hx hb dX6_cut_0 rfl (lv_at hl 0 rfl) ?_
  refine lv_iload_n hx hb dX6_cut_1 rfl (lv_at hl 1 rfl) ?_
  refine lv_iconst (v := nI 2) hx hb dX6_cut_2 (by decide) ?_
  refine lv_bipush (v := nI 6) hx hb dX6_cut_3 (by decide) ?_
  refine q_calli hw (q_runS (As := [.int (x9), .int (nI (2)), .int (nI (6))]) (c_X6_within l G L F x9 2 6) C0 hw sw_X6_38 rfl hl.1 rfl (Nat.le_of_ble_eq_true rfl) dX6_cut_5 ⟨by decide, by decide⟩ ⟨by decide, by decide⟩) rfl rfl (fun r_5018 F_5016 H locs hw hp_5017 => ?_)
  obtain ⟨he_5019, o_5020⟩ := hp_5017
  rw [if_neg h9] at he_5019
  subst he_5019
  refine n_if_eq (tgt := 15) hx hb dX6_cut_8 (by decide) (by decide) (fun c_8 => ?_) (fun c_8 => ?_)
  · skip
    refine lv_iconst (v := nI 1) hx hb dX6_cut_15 (by decide) ?_
    have f_5021 : F_5016 b = mO ma mi hh := (o_5020 b ).trans fb
    refine q_put C0 hw mb f_5021 fw_X6_31 pw_X6_8 rfl rfl rfl (Nat.le_of_ble_eq_true rfl) dX6_cut_16 (fun F_5022 H locs hw f_5023 o_5024 => ?_)
    have f_5023 : F_5022 b = .inr (6, [.ref (ma 0), .int (mi 0), .ref (ma 1), .ref (ma 2), .ref (ma 3), .ref (ma 4), .int (mi 1), .ref (ma 5), .int (nI (1)), .ref (ma 6), .int (mi 3), .int (mi 4), .long (hh)]) := f_5023
    refine lv_aload_n hx hb dX6_cut_19 rfl (lv_at hl 0 rfl) ?_
    refine q_get C0 hw mb f_5023 fw_X6_31 rfl dX6_cut_20 ?_
    refine n_if_le (tgt := 28) hx hb dX6_cut_23 (by decide) (by decide) (fun c_23 => ?_) (fun c_23 => ?_)
    · skip
      exact absurd c_23 (by omega)
    · skip
      refine lv_iconst (v := nI 0) hx hb dX6_cut_26 (by decide) ?_
      exact r_i C0 hr hlk hw (v := nI 0) rfl ⟨rfl, f_5023, (fun q k0 => ((o_5024 q k0).trans (o_5020 q )))⟩ (Nat.le_refl _) (Nat.le_refl _) dX6_cut_27 hQ
  · skip
    exact absurd c_8 (by omega)
set_option maxHeartbeats 4000000 in
set_option maxRecDepth 100000 in
theorem c_X6_cut (l : Launch) (G : Gl) (L : List Nat) (F : Nat → va_E) (b : Nat) (ma : Nat → Nat) (mi : Nat → Int32) (hh : Int64) (zf hf : Nat → Int32) (n9 : Nat) (c9 cu : Nat) (mb : b ∈ L) (fb : F b = mO ma mi hh) (hm0 : mi 0 = nI n9) (hn6 : n9 ≤ 6) (hma : ∀ i, i < 7 → ma i ∈ L) (fz : F (ma 0) = .inl (G.2 0, 89, .inl zf)) (fh : F (ma 1) = .inl (G.2 0, 534, .inl hf)) (hz0 : zf 0 = nI cu) (hc9 : c9 < 100) (h9 : inR (nI c9) 2 6) : CI l yX6_cut cX6_cut 4 (some .int) rm_X6_cut G L F [.ref b, .int (nI (c9))] (fun r F1 => r = nI cu ∧ F1 b = mO ma (va_up (va_up mi 2 (nI 0)) 0 (nI (svM n9 hf zf).1)) hh ∧ F1 (ma 1) = .inl (G.2 0, 534, .inl (svM n9 hf zf).2) ∧ F1 (ma 0) = .inl (G.2 0, 89, .inl (ctM zf c9 84)) ∧ ∀ q, q ≠ b → q ≠ ma 1 → q ≠ ma 0 → F1 q = F q) := by
  refine CG_of (by decide) (Nat.le_of_ble_eq_true rfl) rfl ?_
  intro p e s m args below meth c Q C0 hr hlk hnm hQ hw ls hl
  have hx := C0.x
  have hb := C0.b
  refine lv_aload_n hx hb dX6_cut_0 rfl (lv_at hl 0 rfl) ?_
  refine lv_iload_n hx hb dX6_cut_1 rfl (lv_at hl 1 rfl) ?_
  refine lv_iconst (v := nI 2) hx hb dX6_cut_2 (by decide) ?_
  refine lv_bipush (v := nI 6) hx hb dX6_cut_3 (by decide) ?_
  refine q_calli hw (q_runS (As := [.int (nI (c9)), .int (nI (2)), .int (nI (6))]) (c_X6_within l G L F (nI (c9)) 2 6) C0 hw sw_X6_38 rfl hl.1 rfl (Nat.le_of_ble_eq_true rfl) dX6_cut_5 ⟨by decide, by decide⟩ ⟨by decide, by decide⟩) rfl rfl (fun r_5027 F_5025 H locs hw hp_5026 => ?_)
  obtain ⟨he_5028, o_5029⟩ := hp_5026
  rw [if_pos h9] at he_5028
  subst he_5028
  refine n_if_eq (tgt := 15) hx hb dX6_cut_8 (by decide) (by decide) (fun c_8 => ?_) (fun c_8 => ?_)
  · skip
    exact absurd c_8 (by omega)
  · skip
    refine lv_iconst (v := nI 0) hx hb dX6_cut_11 (by decide) ?_
    refine lv_goto (tgt := 16) hx hb dX6_cut_12 (by decide) ?_
    have f_5030 : F_5025 b = mO ma mi hh := (o_5029 b ).trans fb
    refine q_put C0 hw mb f_5030 fw_X6_31 pw_X6_8 rfl rfl rfl (Nat.le_of_ble_eq_true rfl) dX6_cut_16 (fun F_5031 H locs hw f_5032 o_5033 => ?_)
    have f_5032 : F_5031 b = .inr (6, [.ref (ma 0), .int (mi 0), .ref (ma 1), .ref (ma 2), .ref (ma 3), .ref (ma 4), .int (mi 1), .ref (ma 5), .int (nI (0)), .ref (ma 6), .int (mi 3), .int (mi 4), .long (hh)]) := f_5032
    refine lv_aload_n hx hb dX6_cut_19 rfl (lv_at hl 0 rfl) ?_
    refine q_get C0 hw mb f_5032 fw_X6_31 rfl dX6_cut_20 ?_
    refine n_if_le (tgt := 28) hx hb dX6_cut_23 (by decide) (by decide) (fun c_23 => ?_) (fun c_23 => ?_)
    · skip
      have hb_5034 : F_5031 b = mO ma (va_up mi 2 (nI 0)) hh := f_5032
      refine lv_aload_n hx hb dX6_cut_28 rfl (lv_at hl 0 rfl) ?_
      have f_5035 : F_5025 (ma 0) = .inl (G.2 0, 89, .inl zf) := (o_5029 (ma 0) ).trans fz
      have f_5036 : F_5031 (ma 0) = .inl (G.2 0, 89, .inl zf) := (o_5033 (ma 0) (ne_ao f_5035 f_5030)).trans f_5035
      have f_5037 : F_5025 (ma 1) = .inl (G.2 0, 534, .inl hf) := (o_5029 (ma 1) ).trans fh
      have f_5038 : F_5031 (ma 1) = .inl (G.2 0, 534, .inl hf) := (o_5033 (ma 1) (ne_ao f_5037 f_5030)).trans f_5037
      refine q_callv hw (q_runV (As := []) (c_X6_save l G L F_5031 b ma (va_up mi 2 (nI 0)) hh zf hf n9 mb hb_5034 hm0 hn6 hma f_5036 f_5038) C0 hw vw_X6_87 mb hb_5034 rfl rfl rfl hl.1 rfl (Nat.le_of_ble_eq_true rfl) dX6_cut_29 ⟨by decide, by decide⟩ ⟨by decide, by decide⟩) rfl rfl (fun F_5039 H locs hw hp_5040 => ?_)
      obtain ⟨f_5041, f_5042, o_5043⟩ := hp_5040
      refine lv_aload_n hx hb dX6_cut_32 rfl (lv_at hl 0 rfl) ?_
      refine q_get C0 hw mb f_5041 fw_X6_7 rfl dX6_cut_33 ?_
      refine lv_iconst (v := nI 0) hx hb dX6_cut_36 (by decide) ?_
      have f_5044 : F_5039 (ma 0) = .inl (G.2 0, 89, .inl zf) := (o_5043 (ma 0) (ne_ao f_5036 hb_5034) (ne_aa (by decide) f_5036 f_5038)).trans f_5036
      refine q_iald C0 hw ((hma 0 (by decide))) f_5044 (0) (by omega) (by decide) (v := nI (cu)) hz0 dX6_cut_37 ?_
      refine lv_istore_n (lv' := [(2, .int (nI (cu))), (0, .ref b), (1, .int (nI (c9)))]) hx hb dX6_cut_38 rfl hl (by decide) rfl (fun ls hl => ?_)
      refine lv_aload_n hx hb dX6_cut_39 rfl (lv_at hl 1 rfl) ?_
      refine q_get C0 hw mb f_5041 fw_X6_7 rfl dX6_cut_40 ?_
      refine lv_iconst (v := nI 0) hx hb dX6_cut_43 (by decide) ?_
      refine lv_iload_n hx hb dX6_cut_44 rfl (lv_at hl 2 rfl) ?_
      refine q_iast C0 hw ((hma 0 (by decide))) f_5044 (0) (by omega) (by decide) dX6_cut_45 (fun F_5045 H locs hw f_5046 o_5047 => ?_)
      refine lv_iconst (v := nI 0) hx hb dX6_cut_46 (by decide) ?_
      refine lv_istore_n (lv' := [(3, .int (nI (0))), (2, .int (nI (cu))), (0, .ref b), (1, .int (nI (c9)))]) hx hb dX6_cut_47 rfl hl (by decide) rfl (fun ls hl => ?_)
      have lp48 : ∀ (n : Nat) (k9 : Nat), k9 ≤ 84 → 85 - k9 < n → ∀ (F_5048 : Nat → va_E) (H : Heap) (locs : List Loc), wD G L F_5048 s H locs → F_5048 b = mO ma ((va_up (va_up mi 2 (nI 0)) 0 (nI (svM n9 hf zf).1))) hh → F_5048 (ma 1) = .inl (G.2 0, 534, .inl ((svM n9 hf zf).2)) → F_5048 (ma 0) = .inl (G.2 0, 89, .inl ((ctM zf c9 k9))) → (∀ q, q ≠ b → q ≠ (ma 1) → q ≠ (ma 0) → F_5048 q = F q) → ∀ ls : Array Slot, lv_has ls 4 [(0, .ref b), (1, .int (nI (c9))), (2, .int (nI (cu))), (3, .int (nI (k9)))] → W p l e rm_X6_cut s m args below meth c H locs 0 0 Q (F0 m 48 ls []) := by
        intro n
        induction n with
        | zero => intro k9 hk9 hm; exact absurd hm (Nat.not_lt_zero _)
        | succ n ih_48 =>
          intro k9 hk9 hm F_5048 H locs hw f_5049 f_5050 f_5051 fr_5052 ls hl
          refine lv_iload_n hx hb dX6_cut_48 rfl (lv_at hl 3 rfl) ?_
          refine lv_bipush (v := nI 84) hx hb dX6_cut_49 (by decide) ?_
          refine n_icmp_ge (tgt := 88) hx hb dX6_cut_51 (by decide) (by omega) (by decide) (fun c_51 => ?_) (fun c_51 => ?_)
          · skip
            have hk84 : k9 = 84 := by omega
            have hz61 := f_5051
            rw [hk84] at hz61
            refine lv_iload_n hx hb dX6_cut_88 rfl (lv_at hl 2 rfl) ?_
            exact r_i C0 hr hlk hw (v := nI (cu)) rfl ⟨rfl, f_5049, f_5050, hz61, (fun q k0 k1 k2 => (fr_5052 q k0 k1 k2))⟩ (Nat.le_refl _) (Nat.le_refl _) dX6_cut_89 hQ
          · skip
            refine lv_aload_n hx hb dX6_cut_54 rfl (lv_at hl 0 rfl) ?_
            refine q_get C0 hw mb f_5049 fw_X6_7 rfl dX6_cut_55 ?_
            refine lv_iconst (v := nI 5) hx hb dX6_cut_58 (by decide) ?_
            refine lv_iload_n hx hb dX6_cut_59 rfl (lv_at hl 3 rfl) ?_
            refine n_iadd hx hb dX6_cut_60 ?_
            refine lv_iload_n hx hb dX6_cut_61 rfl (lv_at hl 3 rfl) ?_
            refine lv_bipush (v := nI 7) hx hb dX6_cut_62 (by decide) ?_
            refine n_irem hx hb (by omega) (by decide) (by decide) dX6_cut_64 ?_
            refine lv_iload_n hx hb dX6_cut_65 rfl (lv_at hl 1 rfl) ?_
            refine n_icmp_le (tgt := 73) hx hb dX6_cut_66 (by decide) (by omega) (by omega) (fun c_66 => ?_) (fun c_66 => ?_)
            · skip
              refine lv_aload_n hx hb dX6_cut_73 rfl (lv_at hl 0 rfl) ?_
              refine q_get C0 hw mb f_5049 fw_X6_7 rfl dX6_cut_74 ?_
              refine lv_iconst (v := nI 5) hx hb dX6_cut_77 (by decide) ?_
              refine lv_iload_n hx hb dX6_cut_78 rfl (lv_at hl 3 rfl) ?_
              refine n_iadd hx hb dX6_cut_79 ?_
              refine q_iald C0 hw ((hma 0 (by decide))) f_5051 (5 + k9) (by omega) (by decide) (v := (((ctM zf c9 k9)) (5 + k9))) rfl dX6_cut_80 ?_
              refine q_iast C0 hw ((hma 0 (by decide))) f_5051 (5 + k9) (by omega) (by decide) dX6_cut_81 (fun F_5053 H locs hw f_5054 o_5055 => ?_)
              refine lv_iinc (v := nI (k9 + 1)) (lv' := [(3, .int (nI (k9 + 1))), (0, .ref b), (1, .int (nI (c9))), (2, .int (nI (cu)))]) hx hb dX6_cut_82 hl (k := 3) rfl (nI_add _ _) (by decide) rfl (fun ls hl => ?_)
              refine lv_goto (tgt := 48) hx hb dX6_cut_85 (by decide) ?_
              have f_5056 : F_5053 b = mO ma ((va_up (va_up mi 2 (nI 0)) 0 (nI (svM n9 hf zf).1))) hh := (o_5055 b (ne_oa f_5049 f_5051)).trans f_5049
              have f_5057 : F_5053 (ma 1) = .inl (G.2 0, 534, .inl ((svM n9 hf zf).2)) := (o_5055 (ma 1) (ne_aa (by decide) f_5050 f_5051)).trans f_5050
              exact ih_48 (k9 + 1) ((by omega)) (by omega) F_5053 _ _ hw (f_5056) (f_5057) (f_5054.trans (by rw [ctM_b zf c_66])) (fun q k0 k1 k2 => ((o_5055 q k2).trans (fr_5052 q k0 k1 k2))) ls (lv_sub hl [1, 2, 3, 0] rfl)
            · skip
              refine lv_iconst (v := nI 0) hx hb dX6_cut_69 (by decide) ?_
              refine lv_goto (tgt := 81) hx hb dX6_cut_70 (by decide) ?_
              refine q_iast C0 hw ((hma 0 (by decide))) f_5051 (5 + k9) (by omega) (by decide) dX6_cut_81 (fun F_5058 H locs hw f_5059 o_5060 => ?_)
              refine lv_iinc (v := nI (k9 + 1)) (lv' := [(3, .int (nI (k9 + 1))), (0, .ref b), (1, .int (nI (c9))), (2, .int (nI (cu)))]) hx hb dX6_cut_82 hl (k := 3) rfl (nI_add _ _) (by decide) rfl (fun ls hl => ?_)
              refine lv_goto (tgt := 48) hx hb dX6_cut_85 (by decide) ?_
              have f_5061 : F_5058 b = mO ma ((va_up (va_up mi 2 (nI 0)) 0 (nI (svM n9 hf zf).1))) hh := (o_5060 b (ne_oa f_5049 f_5051)).trans f_5049
              have f_5062 : F_5058 (ma 1) = .inl (G.2 0, 534, .inl ((svM n9 hf zf).2)) := (o_5060 (ma 1) (ne_aa (by decide) f_5050 f_5051)).trans f_5050
              exact ih_48 (k9 + 1) ((by omega)) (by omega) F_5058 _ _ hw (f_5061) (f_5062) (f_5059.trans (by rw [ctM_a zf (Nat.lt_of_not_le c_66)])) (fun q k0 k1 k2 => ((o_5060 q k2).trans (fr_5052 q k0 k1 k2))) ls (lv_sub hl [1, 2, 3, 0] rfl)
      have f_5063 : F_5045 b = mO ma ((va_up (va_up mi 2 (nI 0)) 0 (nI (svM n9 hf zf).1))) hh := (o_5047 b (ne_oa f_5041 f_5044)).trans f_5041
      have f_5064 : F_5045 (ma 1) = .inl (G.2 0, 534, .inl ((svM n9 hf zf).2)) := (o_5047 (ma 1) (ne_aa (by decide) f_5042 f_5044)).trans f_5042
      exact lp48 _ (0) ((by omega)) (Nat.lt_succ_self _) F_5045 _ _ hw (f_5063) (f_5064) (f_5046.trans (by rw [ctM_0])) (fun q k0 k1 k2 => ((o_5047 q k2).trans ((o_5043 q k0 k1).trans ((o_5033 q k0).trans (o_5029 q ))))) ls (lv_sub hl [2, 3, 1, 0] rfl)
    · skip
      exact absurd c_23 (by omega)
