abbrev rm_J7_fill_53178 : Room := { frames := 0, cells := 0, slots := 0, locals := 0 }
set_option maxHeartbeats 4000000 in
set_option maxRecDepth 100000 in
theorem c_J7_fill_53178 (l : Launch) (G : Gl) (L : List Nat) (F : Nat → va_E) (a : Nat) (u : Nat → ZP) (z : ZP) (ma : a ∈ L) (fa : F a = rw7 G u) : CV l yJ7_fill_53178 cJ7_fill_53178 4 none rm_J7_fill_53178 G L F [.ref a, .int (nI (z.val))] (fun F1 => F1 a = rw7 G ((fun _ => z)) ∧ ∀ q, q ≠ a → F1 q = F q) := by
  refine CG_of (by decide) (Nat.le_of_ble_eq_true rfl) rfl ?_
  intro p e s m args below meth c Q C0 hr hlk hnm hQ hw ls hl
  have hx := C0.x
  have hb := C0.b
  have hz := z.isLt
  refine lv_iconst (v := nI 0) hx hb dJ7_fill_53178_0 (by decide) ?_
  refine lv_istore_n (lv' := [(2, .int (nI (0))), (0, .ref a), (1, .int (nI (z.val)))]) hx hb dJ7_fill_53178_1 rfl hl (by decide) rfl (fun ls hl => ?_)
  refine lv_aload_n hx hb dJ7_fill_53178_2 rfl (lv_at hl 1 rfl) ?_
  refine q_alen C0 hw ma fa dJ7_fill_53178_3 ?_
  refine lv_istore_n (lv' := [(3, .int (nI (7))), (2, .int (nI (0))), (0, .ref a), (1, .int (nI (z.val)))]) hx hb dJ7_fill_53178_4 rfl hl (by decide) rfl (fun ls hl => ?_)
  have lp5 : ∀ (n : Nat) (i : Nat), 0 ≤ i → i ≤ 7 → 7 + 1 - i < n → ∀ (F_1 : Nat → va_E) (H : Heap) (locs : List Loc), wD G L F_1 s H locs → F_1 a = rw7 G (m_upto ((fun _ => z)) u i) → (∀ q, q ≠ a → F_1 q = F q) → ∀ ls : Array Slot, lv_has ls 4 [(0, .ref a), (1, .int (nI (z.val))), (2, .int (nI (i))), (3, .int (nI (7)))] → W p l e rm_J7_fill_53178 s m args below meth c H locs 0 0 Q (F0 m 5 ls []) := by
    intro n
    induction n with
    | zero => intro i hlo hhi hm; exact absurd hm (Nat.not_lt_zero _)
    | succ n ih_5 =>
      intro i hlo hhi hm F_1 H locs hw f_2 fr_3 ls hl
      refine lv_iload_n hx hb dJ7_fill_53178_5 rfl (lv_at hl 2 rfl) ?_
      refine lv_iload_n hx hb dJ7_fill_53178_6 rfl (lv_at hl 3 rfl) ?_
      refine n_icmp_ge (tgt := 20) hx hb dJ7_fill_53178_7 (by decide) (by omega) (by decide) (fun c_7 => ?_) (fun c_7 => ?_)
      · skip
        obtain rfl : i = 7 := by omega
        obtain ⟨F_4, hw, f_5, o_6⟩ := hw.rowE f_2 (v := (fun _ => z)) (m_upto_7 ((fun _ => z)) u)
        exact r_v C0 hr hlk hw ⟨f_5, (fun q k0 => ((o_6 q k0).trans (fr_3 q k0)))⟩ (Nat.le_refl _) (Nat.le_refl _) dJ7_fill_53178_20 hQ
      · skip
        refine lv_aload_n hx hb dJ7_fill_53178_10 rfl (lv_at hl 0 rfl) ?_
        refine lv_iload_n hx hb dJ7_fill_53178_11 rfl (lv_at hl 2 rfl) ?_
        refine lv_iload_n hx hb dJ7_fill_53178_12 rfl (lv_at hl 1 rfl) ?_
        refine q_rst C0 hw ma f_2 (i) (by omega) (z := z) dJ7_fill_53178_13 (fun F_7 H locs hw f_8 o_9 => ?_)
        refine lv_iinc (v := nI (i + 1)) (lv' := [(2, .int (nI (i + 1))), (0, .ref a), (1, .int (nI (z.val))), (3, .int (nI (7)))]) hx hb dJ7_fill_53178_14 hl (k := 2) rfl (nI_add _ _) (by decide) rfl (fun ls hl => ?_)
        refine lv_goto (tgt := 5) hx hb dJ7_fill_53178_17 (by decide) ?_
        exact ih_5 (i + 1) ((by omega)) ((by omega)) (by omega) F_7 _ _ hw (f_8.trans (congrArg (rw7 G) (m_upto_s ((fun _ => z)) u i (rfl)))) (fun q k0 => ((o_9 q k0).trans (fr_3 q k0))) ls (lv_sub hl [1, 2, 0, 3] rfl)
  exact lp5 _ (0) ((by omega)) ((by omega)) (Nat.lt_succ_self _) F _ _ hw (fa.trans (congrArg (rw7 G) (m_upto_0 ((fun _ => z)) u).symm)) (fun q k0 => rfl) ls (lv_sub hl [2, 3, 1, 0] rfl)
abbrev rm_X1_addRows : Room := { frames := 0, cells := 0, slots := 0, locals := 0 }
set_option maxHeartbeats 4000000 in
set_option maxRecDepth 100000 in
theorem c_X1_addRows (l : Launch) (G : Gl) (L : List Nat) (F : Nat → va_E) (a b o : Nat) (u v w : Nat → ZP) (ma : a ∈ L) (fa : F a = rw7 G u) (mb : b ∈ L) (fb : F b = rw7 G v) (mo : o ∈ L) (fo : F o = rw7 G w) (nao : a ≠ o) (nbo : b ≠ o) : CV l yX1_addRows cX1_addRows 4 none rm_X1_addRows G L F [.ref a, .ref b, .ref o] (fun F1 => F1 o = rw7 G (m_add u v) ∧ ∀ q, q ≠ o → F1 q = F q) := by
  refine CG_of (by decide) (Nat.le_of_ble_eq_true rfl) rfl ?_
  intro p e s m args below meth c Q C0 hr hlk hnm hQ hw ls hl
  have hx := C0.x
  have hb := C0.b
  refine lv_iconst (v := nI 0) hx hb dX1_addRows_0 (by decide) ?_
  refine lv_istore_n (lv' := [(3, .int (nI (0))), (0, .ref a), (1, .ref b), (2, .ref o)]) hx hb dX1_addRows_1 rfl hl (by decide) rfl (fun ls hl => ?_)
  have lp2 : ∀ (n : Nat) (i : Nat), 0 ≤ i → i ≤ 7 → 7 + 1 - i < n → ∀ (F_10 : Nat → va_E) (H : Heap) (locs : List Loc), wD G L F_10 s H locs → F_10 o = rw7 G (m_upto (m_add u v) w i) → (∀ q, q ≠ o → F_10 q = F q) → ∀ ls : Array Slot, lv_has ls 4 [(0, .ref a), (1, .ref b), (2, .ref o), (3, .int (nI (i)))] → W p l e rm_X1_addRows s m args below meth c H locs 0 0 Q (F0 m 2 ls []) := by
    intro n
    induction n with
    | zero => intro i hlo hhi hm; exact absurd hm (Nat.not_lt_zero _)
    | succ n ih_2 =>
      intro i hlo hhi hm F_10 H locs hw f_11 fr_12 ls hl
      refine lv_iload_n hx hb dX1_addRows_2 rfl (lv_at hl 3 rfl) ?_
      refine lv_bipush (v := nI 6) hx hb dX1_addRows_3 (by decide) ?_
      refine n_icmp_gt (tgt := 28) hx hb dX1_addRows_5 (by decide) (by omega) (by decide) (fun c_5 => ?_) (fun c_5 => ?_)
      · skip
        obtain rfl : i = 7 := by omega
        obtain ⟨F_13, hw, f_14, o_15⟩ := hw.rowE f_11 (v := m_add u v) (m_upto_7 (m_add u v) w)
        exact r_v C0 hr hlk hw ⟨f_14, (fun q k0 => ((o_15 q k0).trans (fr_12 q k0)))⟩ (Nat.le_refl _) (Nat.le_refl _) dX1_addRows_28 hQ
      · skip
        refine lv_aload_n hx hb dX1_addRows_8 rfl (lv_at hl 2 rfl) ?_
        refine lv_iload_n hx hb dX1_addRows_9 rfl (lv_at hl 3 rfl) ?_
        refine lv_aload_n hx hb dX1_addRows_10 rfl (lv_at hl 0 rfl) ?_
        refine lv_iload_n hx hb dX1_addRows_11 rfl (lv_at hl 3 rfl) ?_
        have f_16 : F_10 a = rw7 G u := (fr_12 a (nao)).trans fa
        refine q_rld C0 hw ma f_16 (i) (by omega) dX1_addRows_12 (fun z_17 => ?_)
        refine lv_aload_n hx hb dX1_addRows_13 rfl (lv_at hl 1 rfl) ?_
        refine lv_iload_n hx hb dX1_addRows_14 rfl (lv_at hl 3 rfl) ?_
        have f_18 : F_10 b = rw7 G v := (fr_12 b (nbo)).trans fb
        refine q_rld C0 hw mb f_18 (i) (by omega) dX1_addRows_15 (fun z_19 => ?_)
        refine n_iadd hx hb dX1_addRows_16 ?_
        refine lv_sipush (v := nI 10007) hx hb dX1_addRows_17 (by decide) ?_
        refine n_iremP hx hb (by omega) dX1_addRows_20 ?_
        refine q_rst C0 hw mo f_11 (i) (by omega) (z := zc ((u (i)).val + ((v (i)).val))) dX1_addRows_21 (fun F_20 H locs hw f_21 o_22 => ?_)
        refine lv_iinc (v := nI (i + 1)) (lv' := [(3, .int (nI (i + 1))), (0, .ref a), (1, .ref b), (2, .ref o)]) hx hb dX1_addRows_22 hl (k := 3) rfl (nI_add _ _) (by decide) rfl (fun ls hl => ?_)
        refine lv_goto (tgt := 2) hx hb dX1_addRows_25 (by decide) ?_
        exact ih_2 (i + 1) ((by omega)) ((by omega)) (by omega) F_20 _ _ hw (f_21.trans (congrArg (rw7 G) (m_upto_s (m_add u v) w i (by rw [zc_add, zc_z, zc_z]; rfl)))) (fun q k0 => ((o_22 q k0).trans (fr_12 q k0))) ls (lv_sub hl [1, 2, 3, 0] rfl)
  exact lp2 _ (0) ((by omega)) ((by omega)) (Nat.lt_succ_self _) F _ _ hw (fo.trans (congrArg (rw7 G) (m_upto_0 (m_add u v) w).symm)) (fun q k0 => rfl) ls (lv_sub hl [1, 2, 3, 0] rfl)
abbrev rm_X1_scaleRow : Room := { frames := 0, cells := 0, slots := 0, locals := 0 }
set_option maxHeartbeats 4000000 in
set_option maxRecDepth 100000 in
theorem c_X1_scaleRow (l : Launch) (G : Gl) (L : List Nat) (F : Nat → va_E) (a o : Nat) (u w : Nat → ZP) (z : ZP) (ma : a ∈ L) (fa : F a = rw7 G u) (mo : o ∈ L) (fo : F o = rw7 G w) (nao : a ≠ o) : CV l yX1_scaleRow cX1_scaleRow 4 none rm_X1_scaleRow G L F [.ref a, .int (nI (z.val)), .ref o] (fun F1 => F1 o = rw7 G (m_scale u z) ∧ ∀ q, q ≠ o → F1 q = F q) := by
  refine CG_of (by decide) (Nat.le_of_ble_eq_true rfl) rfl ?_
  intro p e s m args below meth c Q C0 hr hlk hnm hQ hw ls hl
  have hx := C0.x
  have hb := C0.b
  have hz := z.isLt
  refine lv_iconst (v := nI 0) hx hb dX1_scaleRow_0 (by decide) ?_
  refine lv_istore_n (lv' := [(3, .int (nI (0))), (0, .ref a), (1, .int (nI (z.val))), (2, .ref o)]) hx hb dX1_scaleRow_1 rfl hl (by decide) rfl (fun ls hl => ?_)
  have lp2 : ∀ (n : Nat) (i : Nat), 0 ≤ i → i ≤ 7 → 7 + 1 - i < n → ∀ (F_23 : Nat → va_E) (H : Heap) (locs : List Loc), wD G L F_23 s H locs → F_23 o = rw7 G (m_upto (m_scale u z) w i) → (∀ q, q ≠ o → F_23 q = F q) → ∀ ls : Array Slot, lv_has ls 4 [(0, .ref a), (1, .int (nI (z.val))), (2, .ref o), (3, .int (nI (i)))] → W p l e rm_X1_scaleRow s m args below meth c H locs 0 0 Q (F0 m 2 ls []) := by
    intro n
    induction n with
    | zero => intro i hlo hhi hm; exact absurd hm (Nat.not_lt_zero _)
    | succ n ih_2 =>
      intro i hlo hhi hm F_23 H locs hw f_24 fr_25 ls hl
      refine lv_iload_n hx hb dX1_scaleRow_2 rfl (lv_at hl 3 rfl) ?_
      refine lv_bipush (v := nI 6) hx hb dX1_scaleRow_3 (by decide) ?_
      refine n_icmp_gt (tgt := 29) hx hb dX1_scaleRow_5 (by decide) (by omega) (by decide) (fun c_5 => ?_) (fun c_5 => ?_)
      · skip
        obtain rfl : i = 7 := by omega
        obtain ⟨F_26, hw, f_27, o_28⟩ := hw.rowE f_24 (v := m_scale u z) (m_upto_7 (m_scale u z) w)
        exact r_v C0 hr hlk hw ⟨f_27, (fun q k0 => ((o_28 q k0).trans (fr_25 q k0)))⟩ (Nat.le_refl _) (Nat.le_refl _) dX1_scaleRow_29 hQ
      · skip
        refine lv_aload_n hx hb dX1_scaleRow_8 rfl (lv_at hl 2 rfl) ?_
        refine lv_iload_n hx hb dX1_scaleRow_9 rfl (lv_at hl 3 rfl) ?_
        refine lv_aload_n hx hb dX1_scaleRow_10 rfl (lv_at hl 0 rfl) ?_
        refine lv_iload_n hx hb dX1_scaleRow_11 rfl (lv_at hl 3 rfl) ?_
        have f_29 : F_23 a = rw7 G u := (fr_25 a (nao)).trans fa
        refine q_rld C0 hw ma f_29 (i) (by omega) dX1_scaleRow_12 (fun z_30 => ?_)
        refine n_i2l hx hb (by omega) dX1_scaleRow_13 ?_
        refine lv_iload_n hx hb dX1_scaleRow_14 rfl (lv_at hl 1 rfl) ?_
        refine n_i2l hx hb (by omega) dX1_scaleRow_15 ?_
        refine n_lmul hx hb dX1_scaleRow_16 ?_
        have m_31 := mul2_le (a := (u (i)).val) (b := z.val) (by omega) (by omega)
        refine lv_ldc2 (v := lN (10007)) hx hb C0.ow (C0.ts _ kw_X1_54) dX1_scaleRow_17 ?_
        refine n_lremP hx hb (by omega) dX1_scaleRow_20 ?_
        refine n_l2i hx hb dX1_scaleRow_21 ?_
        refine q_rst C0 hw mo f_24 (i) (by omega) (z := zc (((u (i)).val) * z.val)) dX1_scaleRow_22 (fun F_32 H locs hw f_33 o_34 => ?_)
        refine lv_iinc (v := nI (i + 1)) (lv' := [(3, .int (nI (i + 1))), (0, .ref a), (1, .int (nI (z.val))), (2, .ref o)]) hx hb dX1_scaleRow_23 hl (k := 3) rfl (nI_add _ _) (by decide) rfl (fun ls hl => ?_)
        refine lv_goto (tgt := 2) hx hb dX1_scaleRow_26 (by decide) ?_
        exact ih_2 (i + 1) ((by omega)) ((by omega)) (by omega) F_32 _ _ hw (f_33.trans (congrArg (rw7 G) (m_upto_s (m_scale u z) w i (by rw [zc_mul, zc_z, zc_z]; rfl)))) (fun q k0 => ((o_34 q k0).trans (fr_25 q k0))) ls (lv_sub hl [1, 2, 3, 0] rfl)
  exact lp2 _ (0) ((by omega)) ((by omega)) (Nat.lt_succ_self _) F _ _ hw (fo.trans (congrArg (rw7 G) (m_upto_0 (m_scale u z) w).symm)) (fun q k0 => rfl) ls (lv_sub hl [1, 2, 3, 0] rfl)
set_option maxHeartbeats 4000000 in
set_option maxRecDepth 100000 in
theorem c_X1_scaleRow_s (l : Launch) (G : Gl) (L : List Nat) (F : Nat → va_E) (a : Nat) (u : Nat → ZP) (z : ZP) (ma : a ∈ L) (fa : F a = rw7 G u) : CV l yX1_scaleRow cX1_scaleRow 4 none rm_X1_scaleRow G L F [.ref a, .int (nI (z.val)), .ref a] (fun F1 => F1 a = rw7 G (m_scale u z) ∧ ∀ q, q ≠ a → F1 q = F q) := by
  refine CG_of (by decide) (Nat.le_of_ble_eq_true rfl) rfl ?_
  intro p e s m args below meth c Q C0 hr hlk hnm hQ hw ls hl
  have hx := C0.x
  have hb := C0.b
  have hz := z.isLt
  refine lv_iconst (v := nI 0) hx hb dX1_scaleRow_0 (by decide) ?_
  refine lv_istore_n (lv' := [(3, .int (nI (0))), (0, .ref a), (1, .int (nI (z.val))), (2, .ref a)]) hx hb dX1_scaleRow_1 rfl hl (by decide) rfl (fun ls hl => ?_)
  have lp2 : ∀ (n : Nat) (i : Nat), 0 ≤ i → i ≤ 7 → 7 + 1 - i < n → ∀ (F_35 : Nat → va_E) (H : Heap) (locs : List Loc), wD G L F_35 s H locs → F_35 a = rw7 G (m_upto (m_scale u z) u i) → (∀ q, q ≠ a → F_35 q = F q) → ∀ ls : Array Slot, lv_has ls 4 [(0, .ref a), (1, .int (nI (z.val))), (2, .ref a), (3, .int (nI (i)))] → W p l e rm_X1_scaleRow s m args below meth c H locs 0 0 Q (F0 m 2 ls []) := by
    intro n
    induction n with
    | zero => intro i hlo hhi hm; exact absurd hm (Nat.not_lt_zero _)
    | succ n ih_2 =>
      intro i hlo hhi hm F_35 H locs hw f_36 fr_37 ls hl
      refine lv_iload_n hx hb dX1_scaleRow_2 rfl (lv_at hl 3 rfl) ?_
      refine lv_bipush (v := nI 6) hx hb dX1_scaleRow_3 (by decide) ?_
      refine n_icmp_gt (tgt := 29) hx hb dX1_scaleRow_5 (by decide) (by omega) (by decide) (fun c_5 => ?_) (fun c_5 => ?_)
      · skip
        obtain rfl : i = 7 := by omega
        obtain ⟨F_38, hw, f_39, o_40⟩ := hw.rowE f_36 (v := m_scale u z) (m_upto_7 (m_scale u z) u)
        exact r_v C0 hr hlk hw ⟨f_39, (fun q k0 => ((o_40 q k0).trans (fr_37 q k0)))⟩ (Nat.le_refl _) (Nat.le_refl _) dX1_scaleRow_29 hQ
      · skip
        refine lv_aload_n hx hb dX1_scaleRow_8 rfl (lv_at hl 2 rfl) ?_
        refine lv_iload_n hx hb dX1_scaleRow_9 rfl (lv_at hl 3 rfl) ?_
        refine lv_aload_n hx hb dX1_scaleRow_10 rfl (lv_at hl 0 rfl) ?_
        refine lv_iload_n hx hb dX1_scaleRow_11 rfl (lv_at hl 3 rfl) ?_
        refine q_rld C0 hw ma f_36 (i) (by omega) dX1_scaleRow_12 (fun z_41 => ?_)
        refine n_i2l hx hb (by omega) dX1_scaleRow_13 ?_
        refine lv_iload_n hx hb dX1_scaleRow_14 rfl (lv_at hl 1 rfl) ?_
        refine n_i2l hx hb (by omega) dX1_scaleRow_15 ?_
        refine n_lmul hx hb dX1_scaleRow_16 ?_
        have m_42 := mul2_le (a := ((m_upto (m_scale u z) u i) (i)).val) (b := z.val) (by omega) (by omega)
        refine lv_ldc2 (v := lN (10007)) hx hb C0.ow (C0.ts _ kw_X1_54) dX1_scaleRow_17 ?_
        refine n_lremP hx hb (by omega) dX1_scaleRow_20 ?_
        refine n_l2i hx hb dX1_scaleRow_21 ?_
        refine q_rst C0 hw ma f_36 (i) (by omega) (z := zc ((((m_upto (m_scale u z) u i) (i)).val) * z.val)) dX1_scaleRow_22 (fun F_43 H locs hw f_44 o_45 => ?_)
        refine lv_iinc (v := nI (i + 1)) (lv' := [(3, .int (nI (i + 1))), (0, .ref a), (1, .int (nI (z.val))), (2, .ref a)]) hx hb dX1_scaleRow_23 hl (k := 3) rfl (nI_add _ _) (by decide) rfl (fun ls hl => ?_)
        refine lv_goto (tgt := 2) hx hb dX1_scaleRow_26 (by decide) ?_
        exact ih_2 (i + 1) ((by omega)) ((by omega)) (by omega) F_43 _ _ hw (f_44.trans (congrArg (rw7 G) (m_upto_s (m_scale u z) u i (by rw [zc_mul, zc_z, zc_z, m_upto_at]; rfl)))) (fun q k0 => ((o_45 q k0).trans (fr_37 q k0))) ls (lv_sub hl [1, 2, 3, 0] rfl)
  exact lp2 _ (0) ((by omega)) ((by omega)) (Nat.lt_succ_self _) F _ _ hw (fa.trans (congrArg (rw7 G) (m_upto_0 (m_scale u z) u).symm)) (fun q k0 => rfl) ls (lv_sub hl [1, 2, 3, 0] rfl)
abbrev rm_X1_addMultiple : Room := { frames := 0, cells := 0, slots := 0, locals := 0 }
set_option maxHeartbeats 4000000 in
set_option maxRecDepth 100000 in
theorem c_X1_addMultiple (l : Launch) (G : Gl) (L : List Nat) (F : Nat → va_E) (o a : Nat) (w u : Nat → ZP) (z : ZP) (mo : o ∈ L) (fo : F o = rw7 G w) (ma : a ∈ L) (fa : F a = rw7 G u) (nao : a ≠ o) : CV l yX1_addMultiple cX1_addMultiple 4 none rm_X1_addMultiple G L F [.ref o, .ref a, .int (nI (z.val))] (fun F1 => F1 o = rw7 G (m_am w u z) ∧ ∀ q, q ≠ o → F1 q = F q) := by
  refine CG_of (by decide) (Nat.le_of_ble_eq_true rfl) rfl ?_
  intro p e s m args below meth c Q C0 hr hlk hnm hQ hw ls hl
  have hx := C0.x
  have hb := C0.b
  have hz := z.isLt
  refine lv_iconst (v := nI 0) hx hb dX1_addMultiple_0 (by decide) ?_
  refine lv_istore_n (lv' := [(3, .int (nI (0))), (0, .ref o), (1, .ref a), (2, .int (nI (z.val)))]) hx hb dX1_addMultiple_1 rfl hl (by decide) rfl (fun ls hl => ?_)
  have lp2 : ∀ (n : Nat) (i : Nat), 0 ≤ i → i ≤ 7 → 7 + 1 - i < n → ∀ (F_46 : Nat → va_E) (H : Heap) (locs : List Loc), wD G L F_46 s H locs → F_46 o = rw7 G (m_upto (m_am w u z) w i) → (∀ q, q ≠ o → F_46 q = F q) → ∀ ls : Array Slot, lv_has ls 4 [(0, .ref o), (1, .ref a), (2, .int (nI (z.val))), (3, .int (nI (i)))] → W p l e rm_X1_addMultiple s m args below meth c H locs 0 0 Q (F0 m 2 ls []) := by
    intro n
    induction n with
    | zero => intro i hlo hhi hm; exact absurd hm (Nat.not_lt_zero _)
    | succ n ih_2 =>
      intro i hlo hhi hm F_46 H locs hw f_47 fr_48 ls hl
      refine lv_iload_n hx hb dX1_addMultiple_2 rfl (lv_at hl 3 rfl) ?_
      refine lv_bipush (v := nI 6) hx hb dX1_addMultiple_3 (by decide) ?_
      refine n_icmp_gt (tgt := 34) hx hb dX1_addMultiple_5 (by decide) (by omega) (by decide) (fun c_5 => ?_) (fun c_5 => ?_)
      · skip
        obtain rfl : i = 7 := by omega
        obtain ⟨F_49, hw, f_50, o_51⟩ := hw.rowE f_47 (v := m_am w u z) (m_upto_7 (m_am w u z) w)
        exact r_v C0 hr hlk hw ⟨f_50, (fun q k0 => ((o_51 q k0).trans (fr_48 q k0)))⟩ (Nat.le_refl _) (Nat.le_refl _) dX1_addMultiple_34 hQ
      · skip
        refine lv_aload_n hx hb dX1_addMultiple_8 rfl (lv_at hl 0 rfl) ?_
        refine lv_iload_n hx hb dX1_addMultiple_9 rfl (lv_at hl 3 rfl) ?_
        refine lv_aload_n hx hb dX1_addMultiple_10 rfl (lv_at hl 0 rfl) ?_
        refine lv_iload_n hx hb dX1_addMultiple_11 rfl (lv_at hl 3 rfl) ?_
        refine q_rld C0 hw mo f_47 (i) (by omega) dX1_addMultiple_12 (fun z_52 => ?_)
        refine n_i2l hx hb (by omega) dX1_addMultiple_13 ?_
        refine lv_aload_n hx hb dX1_addMultiple_14 rfl (lv_at hl 1 rfl) ?_
        refine lv_iload_n hx hb dX1_addMultiple_15 rfl (lv_at hl 3 rfl) ?_
        have f_53 : F_46 a = rw7 G u := (fr_48 a (nao)).trans fa
        refine q_rld C0 hw ma f_53 (i) (by omega) dX1_addMultiple_16 (fun z_54 => ?_)
        refine n_i2l hx hb (by omega) dX1_addMultiple_17 ?_
        refine lv_iload_n hx hb dX1_addMultiple_18 rfl (lv_at hl 2 rfl) ?_
        refine n_i2l hx hb (by omega) dX1_addMultiple_19 ?_
        refine n_lmul hx hb dX1_addMultiple_20 ?_
        have m_55 := mul2_le (a := (u (i)).val) (b := z.val) (by omega) (by omega)
        refine n_ladd hx hb dX1_addMultiple_21 ?_
        refine lv_ldc2 (v := lN (10007)) hx hb C0.ow (C0.ts _ kw_X1_54) dX1_addMultiple_22 ?_
        refine n_lremP hx hb (by omega) dX1_addMultiple_25 ?_
        refine n_l2i hx hb dX1_addMultiple_26 ?_
        refine q_rst C0 hw mo f_47 (i) (by omega) (z := zc (((m_upto (m_am w u z) w i) (i)).val + (((u (i)).val) * z.val))) dX1_addMultiple_27 (fun F_56 H locs hw f_57 o_58 => ?_)
        refine lv_iinc (v := nI (i + 1)) (lv' := [(3, .int (nI (i + 1))), (0, .ref o), (1, .ref a), (2, .int (nI (z.val)))]) hx hb dX1_addMultiple_28 hl (k := 3) rfl (nI_add _ _) (by decide) rfl (fun ls hl => ?_)
        refine lv_goto (tgt := 2) hx hb dX1_addMultiple_31 (by decide) ?_
        exact ih_2 (i + 1) ((by omega)) ((by omega)) (by omega) F_56 _ _ hw (f_57.trans (congrArg (rw7 G) (m_upto_s (m_am w u z) w i (by rw [zc_add, zc_mul, zc_z, zc_z, zc_z, m_upto_at]; rfl)))) (fun q k0 => ((o_58 q k0).trans (fr_48 q k0))) ls (lv_sub hl [1, 2, 3, 0] rfl)
  exact lp2 _ (0) ((by omega)) ((by omega)) (Nat.lt_succ_self _) F _ _ hw (fo.trans (congrArg (rw7 G) (m_upto_0 (m_am w u z) w).symm)) (fun q k0 => rfl) ls (lv_sub hl [1, 2, 3, 0] rfl)
abbrev rm_X1_makeX : Room := { frames := 1, cells := 0, slots := 0, locals := 23 }
set_option maxHeartbeats 4000000 in
set_option maxRecDepth 100000 in
theorem c_X1_makeX (l : Launch) (G : Gl) (L : List Nat) (F : Nat → va_E) (a : Nat) (u : Nat → ZP) (ma : a ∈ L) (fa : F a = rw7 G u) : CV l yX1_makeX cX1_makeX 1 none rm_X1_makeX G L F [.ref a] (fun F1 => F1 a = rw7 G m_x ∧ ∀ q, q ≠ a → F1 q = F q) := by
  refine CG_of (by decide) (Nat.le_of_ble_eq_true rfl) rfl ?_
  intro p e s m args below meth c Q C0 hr hlk hnm hQ hw ls hl
  have hx := C0.x
  have hb := C0.b
  refine lv_aload_n hx hb dX1_makeX_0 rfl (lv_at hl 0 rfl) ?_
  refine lv_iconst (v := nI 0) hx hb dX1_makeX_1 (by decide) ?_
  refine q_callv hw (q_runS (As := [.ref a, .int (nI (0))]) (c_J7_fill_53178 l G L F a u (zc 0) ma fa) C0 hw sw_X1_62 rfl hl.1 rfl (Nat.le_of_ble_eq_true rfl) dX1_makeX_2 ⟨by decide, by decide⟩ ⟨by decide, by decide⟩) rfl rfl (fun F_59 H locs hw hp_60 => ?_)
  refine lv_aload_n hx hb dX1_makeX_5 rfl (lv_at hl 0 rfl) ?_
  refine lv_iconst (v := nI 1) hx hb dX1_makeX_6 (by decide) ?_
  refine lv_iconst (v := nI 1) hx hb dX1_makeX_7 (by decide) ?_
  refine q_rst C0 hw ma hp_60.1 (1) (by omega) (z := zc 1) dX1_makeX_8 (fun F_61 H locs hw f_62 o_63 => ?_)
  exact r_v C0 hr hlk hw ⟨f_62.trans (congrArg (rw7 G) m_x_eq), (fun q k0 => ((o_63 q k0).trans (hp_60.2 q k0)))⟩ (Nat.le_refl _) (Nat.le_refl _) dX1_makeX_9 hQ
abbrev rm_X1_act : Room := { frames := 1, cells := 0, slots := 0, locals := 23 }
set_option maxHeartbeats 4000000 in
set_option maxRecDepth 100000 in
theorem c_X1_act (l : Launch) (G : Gl) (L : List Nat) (F : Nat → va_E) (a b o cu : Nat) (u v w : Nat → ZP) (ma : a ∈ L) (fa : F a = rw7 G u) (mb : b ∈ L) (fb : F b = rw7 G v) (mo : o ∈ L) (fo : F o = rw7 G w) (nao : a ≠ o) (nbo : b ≠ o) (hc : cu ≤ 6) (hc1 : 1 ≤ cu) : CV l yX1_act cX1_act 9 none rm_X1_act G L F [.ref a, .ref b, .int (nI (cu)), .ref o] (fun F1 => F1 o = rw7 G ((m_act u v cu)) ∧ ∀ q, q ≠ o → F1 q = F q) := by
  refine CG_of (by decide) (Nat.le_of_ble_eq_true rfl) rfl ?_
  intro p e s m args below meth c Q C0 hr hlk hnm hQ hw ls hl
  have hx := C0.x
  have hb := C0.b
  refine lv_aload_n hx hb dX1_act_0 rfl (lv_at hl 3 rfl) ?_
  refine lv_iconst (v := nI 0) hx hb dX1_act_1 (by decide) ?_
  refine q_callv hw (q_runS (As := [.ref o, .int (nI (0))]) (c_J7_fill_53178 l G L F o w (zc 0) mo fo) C0 hw sw_X1_62 rfl hl.1 rfl (Nat.le_of_ble_eq_true rfl) dX1_act_2 ⟨by decide, by decide⟩ ⟨by decide, by decide⟩) rfl rfl (fun F_64 H locs hw hp_65 => ?_)
  refine lv_iconst (v := nI 2) hx hb dX1_act_5 (by decide) ?_
  refine lv_istore (lv' := [(4, .int (nI (2))), (0, .ref a), (1, .ref b), (2, .int (nI (cu))), (3, .ref o)]) hx hb dX1_act_6 hl (by decide) rfl (fun ls hl => ?_)
  have lp8 : ∀ (n : Nat) (i : Nat), 2 ≤ i → i ≤ cu + 1 → (cu + 1) + 1 - i < n → ∀ (F_66 : Nat → va_E) (H : Heap) (locs : List Loc), wD G L F_66 s H locs → F_66 o = rw7 G (m_actp u v i) → (∀ q, q ≠ o → F_66 q = F q) → ∀ ls : Array Slot, lv_has ls 9 [(0, .ref a), (1, .ref b), (2, .int (nI (cu))), (3, .ref o), (4, .int (nI (i)))] → W p l e rm_X1_act s m args below meth c H locs 0 0 Q (F0 m 8 ls []) := by
    intro n
    induction n with
    | zero => intro i hlo hhi hm; exact absurd hm (Nat.not_lt_zero _)
    | succ n ih_8 =>
      intro i hlo hhi hm F_66 H locs hw f_67 fr_68 ls hl
      refine lv_iload hx hb dX1_act_8 (lv_at hl 4 rfl) ?_
      refine lv_iload_n hx hb dX1_act_10 rfl (lv_at hl 2 rfl) ?_
      refine n_icmp_gt (tgt := 79) hx hb dX1_act_11 (by decide) (by omega) (by omega) (fun c_11 => ?_) (fun c_11 => ?_)
      · skip
        obtain rfl : i = cu + 1 := by omega
        rw [m_actp_e] at f_67
        exact r_v C0 hr hlk hw ⟨f_67, (fun q k0 => (fr_68 q k0))⟩ (Nat.le_refl _) (Nat.le_refl _) dX1_act_79 hQ
      · skip
        refine lv_lconst (v := lN 0) hx hb dX1_act_14 (by decide) ?_
        refine lv_lstore (lv' := [(5, .long (lN (0))), (0, .ref a), (1, .ref b), (2, .int (nI (cu))), (3, .ref o), (4, .int (nI (i)))]) hx hb dX1_act_15 hl (by decide) rfl (fun ls hl => ?_)
        refine lv_iconst (v := nI 2) hx hb dX1_act_17 (by decide) ?_
        refine lv_istore (lv' := [(7, .int (nI (2))), (5, .long (lN (0))), (0, .ref a), (1, .ref b), (2, .int (nI (cu))), (3, .ref o), (4, .int (nI (i)))]) hx hb dX1_act_18 hl (by decide) rfl (fun ls hl => ?_)
        have lp20 : ∀ (n : Nat) (j : Nat) (t : Nat), 2 ≤ j → j ≤ i + 1 → zc t = m_sumc u v i (j - 2) → t ≤ (j - 2) * 700000000 → (i + 1) + 1 - j < n → ∀ (F_69 : Nat → va_E) (H : Heap) (locs : List Loc), wD G L F_69 s H locs → F_69 o = rw7 G (m_actp u v i) → (∀ q, q ≠ o → F_69 q = F q) → ∀ ls : Array Slot, lv_has ls 9 [(0, .ref a), (1, .ref b), (2, .int (nI (cu))), (3, .ref o), (4, .int (nI (i))), (5, .long (lN (t))), (7, .int (nI (j)))] → W p l e rm_X1_act s m args below meth c H locs 0 0 Q (F0 m 20 ls []) := by
          intro n
          induction n with
          | zero => intro j t hlo hhi ht hb9 hm; exact absurd hm (Nat.not_lt_zero _)
          | succ n ih_20 =>
            intro j t hlo hhi ht hb9 hm F_69 H locs hw f_70 fr_71 ls hl
            refine lv_iload hx hb dX1_act_20 (lv_at hl 6 rfl) ?_
            refine lv_iload hx hb dX1_act_22 (lv_at hl 4 rfl) ?_
            refine n_icmp_gt (tgt := 62) hx hb dX1_act_24 (by decide) (by omega) (by omega) (fun c_24 => ?_) (fun c_24 => ?_)
            · skip
              obtain rfl : j = i + 1 := by omega
              have ht2 : zc t = m_actc u v i := by rw [ht]; unfold m_actc; congr 1
              refine lv_aload_n hx hb dX1_act_62 rfl (lv_at hl 3 rfl) ?_
              refine lv_iload hx hb dX1_act_63 (lv_at hl 4 rfl) ?_
              refine lv_lload hx hb dX1_act_65 (lv_at hl 5 rfl) ?_
              refine lv_ldc2 (v := lN (10007)) hx hb C0.ow (C0.ts _ kw_X1_54) dX1_act_67 ?_
              refine n_lremP hx hb (by omega) dX1_act_70 ?_
              refine n_l2i hx hb dX1_act_71 ?_
              refine q_rst C0 hw mo f_70 (i) (by omega) (z := zc (t)) dX1_act_72 (fun F_72 H locs hw f_73 o_74 => ?_)
              refine lv_iinc (v := nI (i + 1)) (lv' := [(4, .int (nI (i + 1))), (0, .ref a), (1, .ref b), (2, .int (nI (cu))), (3, .ref o), (5, .long (lN (t))), (7, .int (nI ((i + 1))))]) hx hb dX1_act_73 hl (k := 4) rfl (nI_add _ _) (by decide) rfl (fun ls hl => ?_)
              refine lv_goto (tgt := 8) hx hb dX1_act_76 (by decide) ?_
              exact ih_8 (i + 1) ((by omega)) ((by omega)) (by omega) F_72 _ _ hw (f_73.trans (congrArg (rw7 G) (m_actp_s u v (by omega) ht2))) (fun q k0 => ((o_74 q k0).trans (fr_71 q k0))) ls (lv_sub hl [1, 2, 3, 4, 0] rfl)
            · skip
              refine lv_iload hx hb dX1_act_27 (lv_at hl 4 rfl) ?_
              refine lv_iload hx hb dX1_act_29 (lv_at hl 6 rfl) ?_
              refine n_isub hx hb (by omega) dX1_act_31 ?_
              refine lv_iconst (v := nI 1) hx hb dX1_act_32 (by decide) ?_
              refine n_iadd hx hb dX1_act_33 ?_
              refine lv_istore (lv' := [(8, .int (nI (i - j + 1))), (0, .ref a), (1, .ref b), (2, .int (nI (cu))), (3, .ref o), (4, .int (nI (i))), (5, .long (lN (t))), (7, .int (nI (j)))]) hx hb dX1_act_34 hl (by decide) rfl (fun ls hl => ?_)
              refine lv_lload hx hb dX1_act_36 (lv_at hl 6 rfl) ?_
              refine lv_aload_n hx hb dX1_act_38 rfl (lv_at hl 1 rfl) ?_
              refine lv_iload hx hb dX1_act_39 (lv_at hl 7 rfl) ?_
              have f_75 : F_69 a = rw7 G u := (fr_71 a (nao)).trans fa
              refine q_rld C0 hw ma f_75 (j) (by omega) dX1_act_41 (fun z_76 => ?_)
              refine n_i2l hx hb (by omega) dX1_act_42 ?_
              refine lv_aload_n hx hb dX1_act_43 rfl (lv_at hl 2 rfl) ?_
              refine lv_iload hx hb dX1_act_44 (lv_at hl 0 rfl) ?_
              have f_77 : F_69 b = rw7 G v := (fr_71 b (nbo)).trans fb
              refine q_rld C0 hw mb f_77 (i - j + 1) (by omega) dX1_act_46 (fun z_78 => ?_)
              refine n_i2l hx hb (by omega) dX1_act_47 ?_
              refine n_lmul hx hb dX1_act_48 ?_
              have m_79 := mul2_le (a := (u (j)).val) (b := (v (i - j + 1)).val) (by omega) (by omega)
              refine lv_iload hx hb dX1_act_49 (lv_at hl 0 rfl) ?_
              refine n_i2l hx hb (by omega) dX1_act_51 ?_
              refine n_lmul hx hb dX1_act_52 ?_
              have m_80 := mul3_le (a := (u (j)).val) (b := (v (i - j + 1)).val) (d := i - j + 1) (by omega) (by omega) (by omega)
              refine n_ladd hx hb dX1_act_53 ?_
              refine lv_lstore (lv' := [(5, .long (lN (t + ((((u (j)).val) * ((v (i - j + 1)).val)) * (i - j + 1))))), (8, .int (nI (i - j + 1))), (0, .ref a), (1, .ref b), (2, .int (nI (cu))), (3, .ref o), (4, .int (nI (i))), (7, .int (nI (j)))]) hx hb dX1_act_54 hl (by decide) rfl (fun ls hl => ?_)
              refine lv_iinc (v := nI (j + 1)) (lv' := [(7, .int (nI (j + 1))), (5, .long (lN (t + ((((u (j)).val) * ((v (i - j + 1)).val)) * (i - j + 1))))), (8, .int (nI (i - j + 1))), (0, .ref a), (1, .ref b), (2, .int (nI (cu))), (3, .ref o), (4, .int (nI (i)))]) hx hb dX1_act_56 hl (k := 7) rfl (nI_add _ _) (by decide) rfl (fun ls hl => ?_)
              refine lv_goto (tgt := 20) hx hb dX1_act_59 (by decide) ?_
              exact ih_20 (j + 1) (t + ((((u (j)).val) * ((v (i - j + 1)).val)) * (i - j + 1))) ((by omega)) ((by omega)) ((m_sumc_s u v i hlo ht)) ((by omega)) (by omega) F_69 _ _ hw (f_70) (fun q k0 => (fr_71 q k0)) ls (lv_sub hl [3, 4, 5, 6, 7, 1, 0] rfl)
        exact lp20 _ (2) (0) ((by omega)) ((by omega)) (zc_0) ((by omega)) (Nat.lt_succ_self _) F_66 _ _ hw (f_67) (fun q k0 => (fr_68 q k0)) ls (lv_sub hl [2, 3, 4, 5, 6, 1, 0] rfl)
  exact lp8 _ (2) ((by omega)) ((by omega)) (Nat.lt_succ_self _) F_64 _ _ hw (hp_65.1.trans (congrArg (rw7 G) (m_actp_0 u v))) (fun q k0 => (hp_65.2 q k0)) ls (lv_sub hl [1, 2, 3, 4, 0] rfl)
theorem m_mulS_0 (u v : Nat → ZP) (p : Nat) : zc 0 = m_mulS u v p 0 := zc_0.trans (by simp only [m_mulS])
abbrev rm_X1_multiply : Room := { frames := 0, cells := 0, slots := 0, locals := 0 }
set_option maxHeartbeats 4000000 in
set_option maxRecDepth 100000 in
theorem c_X1_multiply (l : Launch) (G : Gl) (L : List Nat) (F : Nat → va_E) (a b o cu : Nat) (u v w : Nat → ZP) (ma : a ∈ L) (fa : F a = rw7 G u) (mb : b ∈ L) (fb : F b = rw7 G v) (mo : o ∈ L) (fo : F o = rw7 G w) (nao : a ≠ o) (nbo : b ≠ o) (hc : cu ≤ 6) : CV l yX1_multiply cX1_multiply 8 none rm_X1_multiply G L F [.ref a, .ref b, .int (nI (cu)), .ref o] (fun F1 => F1 o = rw7 G ((m_upto (m_mulc u v) w (cu + 1))) ∧ ∀ q, q ≠ o → F1 q = F q) := by
  refine CG_of (by decide) (Nat.le_of_ble_eq_true rfl) rfl ?_
  intro p e s m args below meth c Q C0 hr hlk hnm hQ hw ls hl
  have hx := C0.x
  have hb := C0.b
  refine lv_iconst (v := nI 0) hx hb dX1_multiply_0 (by decide) ?_
  refine lv_istore (lv' := [(4, .int (nI (0))), (0, .ref a), (1, .ref b), (2, .int (nI (cu))), (3, .ref o)]) hx hb dX1_multiply_1 hl (by decide) rfl (fun ls hl => ?_)
  have lp3 : ∀ (n : Nat) (i : Nat), 0 ≤ i → i ≤ cu + 1 → (cu + 1) + 1 - i < n → ∀ (F_81 : Nat → va_E) (H : Heap) (locs : List Loc), wD G L F_81 s H locs → F_81 o = rw7 G (m_upto (m_mulc u v) w i) → (∀ q, q ≠ o → F_81 q = F q) → ∀ ls : Array Slot, lv_has ls 8 [(0, .ref a), (1, .ref b), (2, .int (nI (cu))), (3, .ref o), (4, .int (nI (i)))] → W p l e rm_X1_multiply s m args below meth c H locs 0 0 Q (F0 m 3 ls []) := by
    intro n
    induction n with
    | zero => intro i hlo hhi hm; exact absurd hm (Nat.not_lt_zero _)
    | succ n ih_3 =>
      intro i hlo hhi hm F_81 H locs hw f_82 fr_83 ls hl
      refine lv_iload hx hb dX1_multiply_3 (lv_at hl 4 rfl) ?_
      refine lv_iload_n hx hb dX1_multiply_5 rfl (lv_at hl 2 rfl) ?_
      refine n_icmp_gt (tgt := 64) hx hb dX1_multiply_6 (by decide) (by omega) (by omega) (fun c_6 => ?_) (fun c_6 => ?_)
      · skip
        obtain rfl : i = cu + 1 := by omega
        exact r_v C0 hr hlk hw ⟨f_82, (fun q k0 => (fr_83 q k0))⟩ (Nat.le_refl _) (Nat.le_refl _) dX1_multiply_64 hQ
      · skip
        refine lv_lconst (v := lN 0) hx hb dX1_multiply_9 (by decide) ?_
        refine lv_lstore (lv' := [(5, .long (lN (0))), (0, .ref a), (1, .ref b), (2, .int (nI (cu))), (3, .ref o), (4, .int (nI (i)))]) hx hb dX1_multiply_10 hl (by decide) rfl (fun ls hl => ?_)
        refine lv_iconst (v := nI 0) hx hb dX1_multiply_12 (by decide) ?_
        refine lv_istore (lv' := [(7, .int (nI (0))), (5, .long (lN (0))), (0, .ref a), (1, .ref b), (2, .int (nI (cu))), (3, .ref o), (4, .int (nI (i)))]) hx hb dX1_multiply_13 hl (by decide) rfl (fun ls hl => ?_)
        have lp15 : ∀ (n : Nat) (j : Nat) (t : Nat), 0 ≤ j → j ≤ i + 1 → zc t = m_mulS u v i j → t ≤ j * 700000000 → (i + 1) + 1 - j < n → ∀ (F_84 : Nat → va_E) (H : Heap) (locs : List Loc), wD G L F_84 s H locs → F_84 o = rw7 G (m_upto (m_mulc u v) w i) → (∀ q, q ≠ o → F_84 q = F q) → ∀ ls : Array Slot, lv_has ls 8 [(0, .ref a), (1, .ref b), (2, .int (nI (cu))), (3, .ref o), (4, .int (nI (i))), (5, .long (lN (t))), (7, .int (nI (j)))] → W p l e rm_X1_multiply s m args below meth c H locs 0 0 Q (F0 m 15 ls []) := by
          intro n
          induction n with
          | zero => intro j t hlo hhi ht hb9 hm; exact absurd hm (Nat.not_lt_zero _)
          | succ n ih_15 =>
            intro j t hlo hhi ht hb9 hm F_84 H locs hw f_85 fr_86 ls hl
            refine lv_iload hx hb dX1_multiply_15 (lv_at hl 6 rfl) ?_
            refine lv_iload hx hb dX1_multiply_17 (lv_at hl 4 rfl) ?_
            refine n_icmp_gt (tgt := 47) hx hb dX1_multiply_19 (by decide) (by omega) (by omega) (fun c_19 => ?_) (fun c_19 => ?_)
            · skip
              obtain rfl : j = i + 1 := by omega
              refine lv_aload_n hx hb dX1_multiply_47 rfl (lv_at hl 3 rfl) ?_
              refine lv_iload hx hb dX1_multiply_48 (lv_at hl 4 rfl) ?_
              refine lv_lload hx hb dX1_multiply_50 (lv_at hl 5 rfl) ?_
              refine lv_ldc2 (v := lN (10007)) hx hb C0.ow (C0.ts _ kw_X1_54) dX1_multiply_52 ?_
              refine n_lremP hx hb (by omega) dX1_multiply_55 ?_
              refine n_l2i hx hb dX1_multiply_56 ?_
              refine q_rst C0 hw mo f_85 (i) (by omega) (z := zc (t)) dX1_multiply_57 (fun F_87 H locs hw f_88 o_89 => ?_)
              refine lv_iinc (v := nI (i + 1)) (lv' := [(4, .int (nI (i + 1))), (0, .ref a), (1, .ref b), (2, .int (nI (cu))), (3, .ref o), (5, .long (lN (t))), (7, .int (nI ((i + 1))))]) hx hb dX1_multiply_58 hl (k := 4) rfl (nI_add _ _) (by decide) rfl (fun ls hl => ?_)
              refine lv_goto (tgt := 3) hx hb dX1_multiply_61 (by decide) ?_
              exact ih_3 (i + 1) ((by omega)) ((by omega)) (by omega) F_87 _ _ hw (f_88.trans (congrArg (rw7 G) (m_upto_s _ w i ht))) (fun q k0 => ((o_89 q k0).trans (fr_86 q k0))) ls (lv_sub hl [1, 2, 3, 4, 0] rfl)
            · skip
              refine lv_lload hx hb dX1_multiply_22 (lv_at hl 5 rfl) ?_
              refine lv_aload_n hx hb dX1_multiply_24 rfl (lv_at hl 0 rfl) ?_
              refine lv_iload hx hb dX1_multiply_25 (lv_at hl 6 rfl) ?_
              have f_90 : F_84 a = rw7 G u := (fr_86 a (nao)).trans fa
              refine q_rld C0 hw ma f_90 (j) (by omega) dX1_multiply_27 (fun z_91 => ?_)
              refine n_i2l hx hb (by omega) dX1_multiply_28 ?_
              refine lv_aload_n hx hb dX1_multiply_29 rfl (lv_at hl 1 rfl) ?_
              refine lv_iload hx hb dX1_multiply_30 (lv_at hl 4 rfl) ?_
              refine lv_iload hx hb dX1_multiply_32 (lv_at hl 6 rfl) ?_
              refine n_isub hx hb (by omega) dX1_multiply_34 ?_
              have f_92 : F_84 b = rw7 G v := (fr_86 b (nbo)).trans fb
              refine q_rld C0 hw mb f_92 (i - j) (by omega) dX1_multiply_35 (fun z_93 => ?_)
              refine n_i2l hx hb (by omega) dX1_multiply_36 ?_
              refine n_lmul hx hb dX1_multiply_37 ?_
              have m_94 := mul2_le (a := (u (j)).val) (b := (v (i - j)).val) (by omega) (by omega)
              refine n_ladd hx hb dX1_multiply_38 ?_
              refine lv_lstore (lv' := [(5, .long (lN (t + (((u (j)).val) * ((v (i - j)).val))))), (0, .ref a), (1, .ref b), (2, .int (nI (cu))), (3, .ref o), (4, .int (nI (i))), (7, .int (nI (j)))]) hx hb dX1_multiply_39 hl (by decide) rfl (fun ls hl => ?_)
              refine lv_iinc (v := nI (j + 1)) (lv' := [(7, .int (nI (j + 1))), (5, .long (lN (t + (((u (j)).val) * ((v (i - j)).val))))), (0, .ref a), (1, .ref b), (2, .int (nI (cu))), (3, .ref o), (4, .int (nI (i)))]) hx hb dX1_multiply_41 hl (k := 6) rfl (nI_add _ _) (by decide) rfl (fun ls hl => ?_)
              refine lv_goto (tgt := 15) hx hb dX1_multiply_44 (by decide) ?_
              exact ih_15 (j + 1) (t + (((u (j)).val) * ((v (i - j)).val))) ((by omega)) ((by omega)) ((m_mulS_s u v i ht)) ((by omega)) (by omega) F_84 _ _ hw (f_85) (fun q k0 => (fr_86 q k0)) ls (lv_sub hl [2, 3, 4, 5, 6, 1, 0] rfl)
        exact lp15 _ (0) (0) ((by omega)) ((by omega)) ((m_mulS_0 u v i)) ((Nat.zero_le _)) (Nat.lt_succ_self _) F_81 _ _ hw (f_82) (fun q k0 => (fr_83 q k0)) ls (lv_sub hl [2, 3, 4, 5, 6, 1, 0] rfl)
  exact lp3 _ (0) ((by omega)) ((by omega)) (Nat.lt_succ_self _) F _ _ hw (fo.trans (congrArg (rw7 G) (m_upto_0 _ w).symm)) (fun q k0 => rfl) ls (lv_sub hl [1, 2, 3, 4, 0] rfl)
