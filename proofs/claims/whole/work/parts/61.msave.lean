def shM (hf : Nat → Int32) (k : Nat) : Nat → Int32 := fun i => if i + 89 < k then hf (i + 89) else hf i
theorem shM_0 (hf : Nat → Int32) : shM hf 89 = hf := by
  funext i
  exact if_neg (by omega)
theorem shM_s (hf : Nat → Int32) {k : Nat} (h : 89 ≤ k) : upd (shM hf k) (k - 89) (shM hf k k) = shM hf (k + 1) := by
  funext i
  have h1 : shM hf k k = hf k := if_neg (by omega)
  rw [h1]
  by_cases e : i = k - 89
  · subst e
    simp only [upd, shM, if_true]
    rw [if_pos (by omega), show k - 89 + 89 = k by omega]
  · simp only [upd, shM, e, if_false]
    by_cases e2 : i + 89 < k
    · rw [if_pos e2, if_pos (by omega)]
    · rw [if_neg e2, if_neg (by omega)]
def cpM (hf zf : Nat → Int32) (n k : Nat) : Nat → Int32 := fun i => if 89 * n ≤ i ∧ i < 89 * n + k then zf (i - 89 * n) else hf i
theorem cpM_0 (hf zf : Nat → Int32) (n : Nat) : cpM hf zf n 0 = hf := by
  funext i
  exact if_neg (by omega)
theorem cpM_s (hf zf : Nat → Int32) (n k : Nat) : upd (cpM hf zf n k) (89 * n + k) (zf k) = cpM hf zf n (k + 1) := by
  funext i
  by_cases e : i = 89 * n + k
  · subst e
    simp only [upd, cpM, if_true]
    rw [if_pos (by omega), show 89 * n + k - 89 * n = k by omega]
  · simp only [upd, cpM, e, if_false]
    by_cases e2 : 89 * n ≤ i ∧ i < 89 * n + k
    · rw [if_pos e2, if_pos (by omega)]
    · rw [if_neg e2, if_neg (by omega)]
def svM (n : Nat) (hf zf : Nat → Int32) : Nat × (Nat → Int32) := if n = 6 then (6, cpM (shM hf 534) zf 5 89) else (n + 1, cpM hf zf n 89)
abbrev rm_X6_save : Room := { frames := 0, cells := 0, slots := 0, locals := 0 }
set_option maxHeartbeats 4000000 in
set_option maxRecDepth 100000 in
theorem c_X6_save (l : Launch) (G : Gl) (L : List Nat) (F : Nat → va_E) (b : Nat) (ma : Nat → Nat) (mi : Nat → Int32) (hh : Int64) (zf hf : Nat → Int32) (n9 : Nat) (mb : b ∈ L) (fb : F b = mO ma mi hh) (hm0 : mi 0 = nI n9) (hn6 : n9 ≤ 6) (hma : ∀ i, i < 7 → ma i ∈ L) (fz : F (ma 0) = .inl (G.2 0, 89, .inl zf)) (fh : F (ma 1) = .inl (G.2 0, 534, .inl hf)) : CV l yX6_save cX6_save 2 none rm_X6_save G L F [.ref b] (fun F1 => F1 b = mO ma (va_up mi 0 (nI (svM n9 hf zf).1)) hh ∧ F1 (ma 1) = .inl (G.2 0, 534, .inl (svM n9 hf zf).2) ∧ ∀ q, q ≠ b → q ≠ ma 1 → F1 q = F q) := by
  have fb2 : F b = .inr (6, [.ref (ma 0), .int (nI (n9)), .ref (ma 1), .ref (ma 2), .ref (ma 3), .ref (ma 4), .int (mi 1), .ref (ma 5), .int (mi 2), .ref (ma 6), .int (mi 3), .int (mi 4), .long (hh)]) := by rw [fb]; simp only [mO]; rw [hm0]
  refine CG_of (by decide) (Nat.le_of_ble_eq_true rfl) rfl ?_
  intro p e s m args below meth c Q C0 hr hlk hnm hQ hw ls hl
  have hx := C0.x
  have hb := C0.b
  refine lv_aload_n hx hb dX6_save_0 rfl (lv_at hl 0 rfl) ?_
  refine q_get C0 hw mb fb2 fw_X6_35 rfl dX6_save_1 ?_
  refine lv_bipush (v := nI 6) hx hb dX6_save_4 (by decide) ?_
  refine n_icmp_ne (tgt := 50) hx hb dX6_save_6 (by decide) (by omega) (by decide) (fun c_6 => ?_) (fun c_6 => ?_)
  · skip
    have hn9 : ¬ n9 = 6 := c_6
    refine lv_iconst (v := nI 0) hx hb dX6_save_50 (by decide) ?_
    refine lv_istore_n (lv' := [(1, .int (nI (0))), (0, .ref b)]) hx hb dX6_save_51 rfl hl (by decide) rfl (fun ls hl => ?_)
    have lp52 : ∀ (n : Nat) (k9 : Nat), k9 ≤ 89 → 90 - k9 < n → ∀ (F_4947 : Nat → va_E) (H : Heap) (locs : List Loc), wD G L F_4947 s H locs → F_4947 b = .inr (6, [.ref (ma 0), .int (nI (n9)), .ref (ma 1), .ref (ma 2), .ref (ma 3), .ref (ma 4), .int (mi 1), .ref (ma 5), .int (mi 2), .ref (ma 6), .int (mi 3), .int (mi 4), .long (hh)]) → F_4947 (ma 1) = .inl (G.2 0, 534, .inl (cpM hf zf n9 k9)) → (∀ q, q ≠ b → q ≠ (ma 1) → F_4947 q = F q) → ∀ ls : Array Slot, lv_has ls 2 [(0, .ref b), (1, .int (nI (k9)))] → W p l e rm_X6_save s m args below meth c H locs 0 0 Q (F0 m 52 ls []) := by
      intro n
      induction n with
      | zero => intro k9 hk9 hm; exact absurd hm (Nat.not_lt_zero _)
      | succ n ih_52 =>
        intro k9 hk9 hm F_4947 H locs hw f_4948 f_4949 fr_4950 ls hl
        refine lv_iload_n hx hb dX6_save_52 rfl (lv_at hl 1 rfl) ?_
        refine lv_bipush (v := nI 89) hx hb dX6_save_53 (by decide) ?_
        refine n_icmp_ge (tgt := 84) hx hb dX6_save_55 (by decide) (by omega) (by decide) (fun c_55 => ?_) (fun c_55 => ?_)
        · skip
          have hk89 : k9 = 89 := by omega
          refine lv_aload_n hx hb dX6_save_84 rfl (lv_at hl 0 rfl) ?_
          refine lv_dup hx hb dX6_save_85 rfl ?_
          refine q_get C0 hw mb f_4948 fw_X6_35 rfl dX6_save_86 ?_
          refine lv_iconst (v := nI 1) hx hb dX6_save_89 (by decide) ?_
          refine n_iadd hx hb dX6_save_90 ?_
          refine q_put C0 hw mb f_4948 fw_X6_35 pw_X6_1 rfl rfl rfl (Nat.le_of_ble_eq_true rfl) dX6_save_91 (fun F_4951 H locs hw f_4952 o_4953 => ?_)
          have f_4952 : F_4951 b = .inr (6, [.ref (ma 0), .int (nI (n9 + 1)), .ref (ma 1), .ref (ma 2), .ref (ma 3), .ref (ma 4), .int (mi 1), .ref (ma 5), .int (mi 2), .ref (ma 6), .int (mi 3), .int (mi 4), .long (hh)]) := f_4952
          have f_4954 : F_4951 (ma 1) = .inl (G.2 0, 534, .inl (cpM hf zf n9 k9)) := (o_4953 (ma 1) (ne_ao f_4949 f_4948)).trans f_4949
          have hh61 := f_4954
          rw [hk89] at hh61
          exact r_v C0 hr hlk hw ⟨(by rw [show (svM n9 hf zf).1 = n9 + 1 by unfold svM; rw [if_neg hn9]]; exact f_4952), (by rw [show (svM n9 hf zf).2 = cpM hf zf n9 89 by unfold svM; rw [if_neg hn9]]; exact hh61), (fun q k0 k1 => ((o_4953 q k0).trans (fr_4950 q k0 k1)))⟩ (Nat.le_refl _) (Nat.le_refl _) dX6_save_94 hQ
        · skip
          refine lv_aload_n hx hb dX6_save_58 rfl (lv_at hl 0 rfl) ?_
          refine q_get C0 hw mb f_4948 fw_X6_13 rfl dX6_save_59 ?_
          refine lv_bipush (v := nI 89) hx hb dX6_save_62 (by decide) ?_
          refine lv_aload_n hx hb dX6_save_64 rfl (lv_at hl 0 rfl) ?_
          refine q_get C0 hw mb f_4948 fw_X6_35 rfl dX6_save_65 ?_
          refine n_imul hx hb dX6_save_68 ?_
          refine lv_iload_n hx hb dX6_save_69 rfl (lv_at hl 1 rfl) ?_
          refine n_iadd hx hb dX6_save_70 ?_
          refine lv_aload_n hx hb dX6_save_71 rfl (lv_at hl 0 rfl) ?_
          refine q_get C0 hw mb f_4948 fw_X6_7 rfl dX6_save_72 ?_
          refine lv_iload_n hx hb dX6_save_75 rfl (lv_at hl 1 rfl) ?_
          have f_4955 : F_4947 (ma 0) = .inl (G.2 0, 89, .inl zf) := (fr_4950 (ma 0) (ne_ao fz fb2) (ne_aa (by decide) fz fh)).trans fz
          refine q_iald C0 hw ((hma 0 (by decide))) f_4955 (k9) (by omega) (by decide) (v := (zf (k9))) rfl dX6_save_76 ?_
          refine q_iast C0 hw ((hma 1 (by decide))) f_4949 (89 * n9 + k9) (by omega) (by decide) dX6_save_77 (fun F_4956 H locs hw f_4957 o_4958 => ?_)
          refine lv_iinc (v := nI (k9 + 1)) (lv' := [(1, .int (nI (k9 + 1))), (0, .ref b)]) hx hb dX6_save_78 hl (k := 1) rfl (nI_add _ _) (by decide) rfl (fun ls hl => ?_)
          refine lv_goto (tgt := 52) hx hb dX6_save_81 (by decide) ?_
          have f_4959 : F_4956 b = .inr (6, [.ref (ma 0), .int (nI (n9)), .ref (ma 1), .ref (ma 2), .ref (ma 3), .ref (ma 4), .int (mi 1), .ref (ma 5), .int (mi 2), .ref (ma 6), .int (mi 3), .int (mi 4), .long (hh)]) := (o_4958 b (ne_oa f_4948 f_4949)).trans f_4948
          exact ih_52 (k9 + 1) ((by omega)) (by omega) F_4956 _ _ hw (f_4959) (f_4957.trans (by rw [cpM_s])) (fun q k0 k1 => ((o_4958 q k1).trans (fr_4950 q k0 k1))) ls (lv_sub hl [1, 0] rfl)
    exact lp52 _ (0) ((by omega)) (Nat.lt_succ_self _) F _ _ hw (fb2) (fh.trans (by rw [cpM_0])) (fun q k0 k1 => rfl) ls (lv_sub hl [1, 0] rfl)
  · skip
    have hn9 : n9 = 6 := c_6
    refine lv_bipush (v := nI 89) hx hb dX6_save_9 (by decide) ?_
    refine lv_istore_n (lv' := [(1, .int (nI (89))), (0, .ref b)]) hx hb dX6_save_11 rfl hl (by decide) rfl (fun ls hl => ?_)
    have lp12 : ∀ (n : Nat) (j9 : Nat), 89 ≤ j9 → j9 ≤ 534 → 535 - j9 < n → ∀ (F_4960 : Nat → va_E) (H : Heap) (locs : List Loc), wD G L F_4960 s H locs → F_4960 b = .inr (6, [.ref (ma 0), .int (nI (n9)), .ref (ma 1), .ref (ma 2), .ref (ma 3), .ref (ma 4), .int (mi 1), .ref (ma 5), .int (mi 2), .ref (ma 6), .int (mi 3), .int (mi 4), .long (hh)]) → F_4960 (ma 1) = .inl (G.2 0, 534, .inl (shM hf j9)) → (∀ q, q ≠ b → q ≠ (ma 1) → F_4960 q = F q) → ∀ ls : Array Slot, lv_has ls 2 [(0, .ref b), (1, .int (nI (j9)))] → W p l e rm_X6_save s m args below meth c H locs 0 0 Q (F0 m 12 ls []) := by
      intro n
      induction n with
      | zero => intro j9 hj9 hj8 hm; exact absurd hm (Nat.not_lt_zero _)
      | succ n ih_12 =>
        intro j9 hj9 hj8 hm F_4960 H locs hw f_4961 f_4962 fr_4963 ls hl
        refine lv_iload_n hx hb dX6_save_12 rfl (lv_at hl 1 rfl) ?_
        refine lv_sipush (v := nI 534) hx hb dX6_save_13 (by decide) ?_
        refine n_icmp_ge (tgt := 40) hx hb dX6_save_16 (by decide) (by omega) (by decide) (fun c_16 => ?_) (fun c_16 => ?_)
        · skip
          have hj534 : j9 = 534 := by omega
          refine lv_aload_n hx hb dX6_save_40 rfl (lv_at hl 0 rfl) ?_
          refine lv_dup hx hb dX6_save_41 rfl ?_
          refine q_get C0 hw mb f_4961 fw_X6_35 rfl dX6_save_42 ?_
          refine lv_iconst (v := nI 1) hx hb dX6_save_45 (by decide) ?_
          refine n_isub hx hb (by omega) dX6_save_46 ?_
          refine q_put C0 hw mb f_4961 fw_X6_35 pw_X6_1 rfl rfl rfl (Nat.le_of_ble_eq_true rfl) dX6_save_47 (fun F_4964 H locs hw f_4965 o_4966 => ?_)
          have f_4965 : F_4964 b = .inr (6, [.ref (ma 0), .int (nI (n9 - 1)), .ref (ma 1), .ref (ma 2), .ref (ma 3), .ref (ma 4), .int (mi 1), .ref (ma 5), .int (mi 2), .ref (ma 6), .int (mi 3), .int (mi 4), .long (hh)]) := f_4965
          refine lv_iconst (v := nI 0) hx hb dX6_save_50 (by decide) ?_
          refine lv_istore_n (lv' := [(1, .int (nI (0))), (0, .ref b)]) hx hb dX6_save_51 rfl hl (by decide) rfl (fun ls hl => ?_)
          have lp52 : ∀ (n : Nat) (k9 : Nat), k9 ≤ 89 → 90 - k9 < n → ∀ (F_4967 : Nat → va_E) (H : Heap) (locs : List Loc), wD G L F_4967 s H locs → F_4967 b = .inr (6, [.ref (ma 0), .int (nI (n9 - 1)), .ref (ma 1), .ref (ma 2), .ref (ma 3), .ref (ma 4), .int (mi 1), .ref (ma 5), .int (mi 2), .ref (ma 6), .int (mi 3), .int (mi 4), .long (hh)]) → F_4967 (ma 1) = .inl (G.2 0, 534, .inl (cpM (shM hf 534) zf (n9 - 1) k9)) → (∀ q, q ≠ b → q ≠ (ma 1) → F_4967 q = F q) → ∀ ls : Array Slot, lv_has ls 2 [(0, .ref b), (1, .int (nI (k9)))] → W p l e rm_X6_save s m args below meth c H locs 0 0 Q (F0 m 52 ls []) := by
            intro n
            induction n with
            | zero => intro k9 hk9 hm; exact absurd hm (Nat.not_lt_zero _)
            | succ n ih_52 =>
              intro k9 hk9 hm F_4967 H locs hw f_4968 f_4969 fr_4970 ls hl
              refine lv_iload_n hx hb dX6_save_52 rfl (lv_at hl 1 rfl) ?_
              refine lv_bipush (v := nI 89) hx hb dX6_save_53 (by decide) ?_
              refine n_icmp_ge (tgt := 84) hx hb dX6_save_55 (by decide) (by omega) (by decide) (fun c_55 => ?_) (fun c_55 => ?_)
              · skip
                have hk89 : k9 = 89 := by omega
                refine lv_aload_n hx hb dX6_save_84 rfl (lv_at hl 0 rfl) ?_
                refine lv_dup hx hb dX6_save_85 rfl ?_
                refine q_get C0 hw mb f_4968 fw_X6_35 rfl dX6_save_86 ?_
                refine lv_iconst (v := nI 1) hx hb dX6_save_89 (by decide) ?_
                refine n_iadd hx hb dX6_save_90 ?_
                refine q_put C0 hw mb f_4968 fw_X6_35 pw_X6_1 rfl rfl rfl (Nat.le_of_ble_eq_true rfl) dX6_save_91 (fun F_4971 H locs hw f_4972 o_4973 => ?_)
                have f_4972 : F_4971 b = .inr (6, [.ref (ma 0), .int (nI (n9 - 1 + 1)), .ref (ma 1), .ref (ma 2), .ref (ma 3), .ref (ma 4), .int (mi 1), .ref (ma 5), .int (mi 2), .ref (ma 6), .int (mi 3), .int (mi 4), .long (hh)]) := f_4972
                have f_4974 : F_4971 (ma 1) = .inl (G.2 0, 534, .inl (cpM (shM hf 534) zf (n9 - 1) k9)) := (o_4973 (ma 1) (ne_ao f_4969 f_4968)).trans f_4969
                have e61 : n9 - 1 + 1 = 6 := by omega
                have e51 : n9 - 1 = 5 := by omega
                have hb61 := f_4972
                rw [e61] at hb61
                have hh61 := f_4974
                rw [hk89, e51] at hh61
                exact r_v C0 hr hlk hw ⟨(by rw [show (svM n9 hf zf).1 = 6 by unfold svM; rw [if_pos hn9]]; exact hb61), (by rw [show (svM n9 hf zf).2 = cpM (shM hf 534) zf 5 89 by unfold svM; rw [if_pos hn9]]; exact hh61), (fun q k0 k1 => ((o_4973 q k0).trans (fr_4970 q k0 k1)))⟩ (Nat.le_refl _) (Nat.le_refl _) dX6_save_94 hQ
              · skip
                refine lv_aload_n hx hb dX6_save_58 rfl (lv_at hl 0 rfl) ?_
                refine q_get C0 hw mb f_4968 fw_X6_13 rfl dX6_save_59 ?_
                refine lv_bipush (v := nI 89) hx hb dX6_save_62 (by decide) ?_
                refine lv_aload_n hx hb dX6_save_64 rfl (lv_at hl 0 rfl) ?_
                refine q_get C0 hw mb f_4968 fw_X6_35 rfl dX6_save_65 ?_
                refine n_imul hx hb dX6_save_68 ?_
                refine lv_iload_n hx hb dX6_save_69 rfl (lv_at hl 1 rfl) ?_
                refine n_iadd hx hb dX6_save_70 ?_
                refine lv_aload_n hx hb dX6_save_71 rfl (lv_at hl 0 rfl) ?_
                refine q_get C0 hw mb f_4968 fw_X6_7 rfl dX6_save_72 ?_
                refine lv_iload_n hx hb dX6_save_75 rfl (lv_at hl 1 rfl) ?_
                have f_4975 : F_4967 (ma 0) = .inl (G.2 0, 89, .inl zf) := (fr_4970 (ma 0) (ne_ao fz fb2) (ne_aa (by decide) fz fh)).trans fz
                refine q_iald C0 hw ((hma 0 (by decide))) f_4975 (k9) (by omega) (by decide) (v := (zf (k9))) rfl dX6_save_76 ?_
                refine q_iast C0 hw ((hma 1 (by decide))) f_4969 (89 * (n9 - 1) + k9) (by omega) (by decide) dX6_save_77 (fun F_4976 H locs hw f_4977 o_4978 => ?_)
                refine lv_iinc (v := nI (k9 + 1)) (lv' := [(1, .int (nI (k9 + 1))), (0, .ref b)]) hx hb dX6_save_78 hl (k := 1) rfl (nI_add _ _) (by decide) rfl (fun ls hl => ?_)
                refine lv_goto (tgt := 52) hx hb dX6_save_81 (by decide) ?_
                have f_4979 : F_4976 b = .inr (6, [.ref (ma 0), .int (nI (n9 - 1)), .ref (ma 1), .ref (ma 2), .ref (ma 3), .ref (ma 4), .int (mi 1), .ref (ma 5), .int (mi 2), .ref (ma 6), .int (mi 3), .int (mi 4), .long (hh)]) := (o_4978 b (ne_oa f_4968 f_4969)).trans f_4968
                exact ih_52 (k9 + 1) ((by omega)) (by omega) F_4976 _ _ hw (f_4979) (f_4977.trans (by rw [cpM_s])) (fun q k0 k1 => ((o_4978 q k1).trans (fr_4970 q k0 k1))) ls (lv_sub hl [1, 0] rfl)
          have f_4980 : F_4964 (ma 1) = .inl (G.2 0, 534, .inl (shM hf j9)) := (o_4966 (ma 1) (ne_ao f_4962 f_4961)).trans f_4962
          exact lp52 _ (0) ((by omega)) (Nat.lt_succ_self _) F_4964 _ _ hw (f_4965) (f_4980.trans (by rw [cpM_0, hj534])) (fun q k0 k1 => ((o_4966 q k0).trans (fr_4963 q k0 k1))) ls (lv_sub hl [1, 0] rfl)
        · skip
          refine lv_aload_n hx hb dX6_save_19 rfl (lv_at hl 0 rfl) ?_
          refine q_get C0 hw mb f_4961 fw_X6_13 rfl dX6_save_20 ?_
          refine lv_iload_n hx hb dX6_save_23 rfl (lv_at hl 1 rfl) ?_
          refine lv_bipush (v := nI 89) hx hb dX6_save_24 (by decide) ?_
          refine n_isub hx hb (by omega) dX6_save_26 ?_
          refine lv_aload_n hx hb dX6_save_27 rfl (lv_at hl 0 rfl) ?_
          refine q_get C0 hw mb f_4961 fw_X6_13 rfl dX6_save_28 ?_
          refine lv_iload_n hx hb dX6_save_31 rfl (lv_at hl 1 rfl) ?_
          refine q_iald C0 hw ((hma 1 (by decide))) f_4962 (j9) (by omega) (by decide) (v := ((shM hf j9) (j9))) rfl dX6_save_32 ?_
          refine q_iast C0 hw ((hma 1 (by decide))) f_4962 (j9 - 89) (by omega) (by decide) dX6_save_33 (fun F_4981 H locs hw f_4982 o_4983 => ?_)
          refine lv_iinc (v := nI (j9 + 1)) (lv' := [(1, .int (nI (j9 + 1))), (0, .ref b)]) hx hb dX6_save_34 hl (k := 1) rfl (nI_add _ _) (by decide) rfl (fun ls hl => ?_)
          refine lv_goto (tgt := 12) hx hb dX6_save_37 (by decide) ?_
          have f_4984 : F_4981 b = .inr (6, [.ref (ma 0), .int (nI (n9)), .ref (ma 1), .ref (ma 2), .ref (ma 3), .ref (ma 4), .int (mi 1), .ref (ma 5), .int (mi 2), .ref (ma 6), .int (mi 3), .int (mi 4), .long (hh)]) := (o_4983 b (ne_oa f_4961 f_4962)).trans f_4961
          exact ih_12 (j9 + 1) ((by omega)) ((by omega)) (by omega) F_4981 _ _ hw (f_4984) (f_4982.trans (by rw [shM_s hf (by omega)])) (fun q k0 k1 => ((o_4983 q k1).trans (fr_4963 q k0 k1))) ls (lv_sub hl [1, 0] rfl)
    exact lp12 _ (89) ((by omega)) ((by omega)) (Nat.lt_succ_self _) F _ _ hw (fb2) (fh.trans (by rw [shM_0])) (fun q k0 k1 => rfl) ls (lv_sub hl [1, 0] rfl)
