theorem m_low_ext {b : Nat → Bool} {i : Nat} (h : ∀ j, 2 ≤ j → j < i → b j = false) (hi : b i = false) : ∀ j, 2 ≤ j → j < i + 1 → b j = false := by
  intro j h1 h2
  rcases Nat.lt_or_ge j i with h3 | h3
  · exact h j h1 h3
  · obtain rfl : j = i := by omega
    exact hi
abbrev rm_X1_lowestPower : Room := { frames := 0, cells := 0, slots := 0, locals := 0 }
set_option maxHeartbeats 4000000 in
set_option maxRecDepth 100000 in
theorem c_X1_lowestPower (l : Launch) (G : Gl) (L : List Nat) (F : Nat → va_E) (a : Nat) (u : Nat → ZP) (ma : a ∈ L) (fa : F a = rw7 G u) : CI l yX1_lowestPower cX1_lowestPower 2 (some .int) rm_X1_lowestPower G L F [.ref a] (fun r F1 => r = m_low (fun k => decide (u k ≠ 0)) ∧ ∀ q, F1 q = F q) := by
  refine CG_of (by decide) (Nat.le_of_ble_eq_true rfl) rfl ?_
  intro p e s m args below meth c Q C0 hr hlk hnm hQ hw ls hl
  have hx := C0.x
  have hb := C0.b
  refine lv_iconst (v := nI 2) hx hb dX1_lowestPower_0 (by decide) ?_
  refine lv_istore_n (lv' := [(1, .int (nI (2))), (0, .ref a)]) hx hb dX1_lowestPower_1 rfl hl (by decide) rfl (fun ls hl => ?_)
  have lp2 : ∀ (n : Nat) (i : Nat), 2 ≤ i → i ≤ 7 → (∀ j, 2 ≤ j → j < i → (fun k => decide (u k ≠ 0)) j = false) → 7 + 1 - i < n → ∀ (F_95 : Nat → va_E) (H : Heap) (locs : List Loc), wD G L F_95 s H locs → (∀ q, F_95 q = F q) → ∀ ls : Array Slot, lv_has ls 2 [(0, .ref a), (1, .int (nI (i)))] → W p l e rm_X1_lowestPower s m args below meth c H locs 0 0 Q (F0 m 2 ls []) := by
    intro n
    induction n with
    | zero => intro i hlo hhi hall hm; exact absurd hm (Nat.not_lt_zero _)
    | succ n ih_2 =>
      intro i hlo hhi hall hm F_95 H locs hw  fr_96 ls hl
      refine lv_iload_n hx hb dX1_lowestPower_2 rfl (lv_at hl 1 rfl) ?_
      refine lv_bipush (v := nI 6) hx hb dX1_lowestPower_3 (by decide) ?_
      refine n_icmp_gt (tgt := 22) hx hb dX1_lowestPower_5 (by decide) (by omega) (by decide) (fun c_5 => ?_) (fun c_5 => ?_)
      · skip
        obtain rfl : i = 7 := by omega
        refine lv_iconst (v := (-1)) hx hb dX1_lowestPower_22 (by decide) ?_
        exact r_i C0 hr hlk hw (v := ((-1))) rfl ⟨(m_low_no hall).symm, (fun q  => (fr_96 q ))⟩ (Nat.le_refl _) (Nat.le_refl _) dX1_lowestPower_23 hQ
      · skip
        refine lv_aload_n hx hb dX1_lowestPower_8 rfl (lv_at hl 0 rfl) ?_
        refine lv_iload_n hx hb dX1_lowestPower_9 rfl (lv_at hl 1 rfl) ?_
        have f_97 : F_95 a = rw7 G u := (fr_96 a ).trans fa
        refine q_rld C0 hw ma f_97 (i) (by omega) dX1_lowestPower_10 (fun z_98 => ?_)
        refine n_if_eq (tgt := 16) hx hb dX1_lowestPower_11 (by decide) (by omega) (fun c_11 => ?_) (fun c_11 => ?_)
        · skip
          refine lv_iinc (v := nI (i + 1)) (lv' := [(1, .int (nI (i + 1))), (0, .ref a)]) hx hb dX1_lowestPower_16 hl (k := 1) rfl (nI_add _ _) (by decide) rfl (fun ls hl => ?_)
          refine lv_goto (tgt := 2) hx hb dX1_lowestPower_19 (by decide) ?_
          exact ih_2 (i + 1) ((by omega)) ((by omega)) ((m_low_ext hall (by simp only [decide_eq_false_iff_not, Decidable.not_not]; exact Fin.ext c_11))) (by omega) F_95 _ _ hw  (fun q  => (fr_96 q )) ls (lv_sub hl [1, 0] rfl)
        · skip
          refine lv_iload_n hx hb dX1_lowestPower_14 rfl (lv_at hl 1 rfl) ?_
          exact r_i C0 hr hlk hw (v := nI (i)) rfl ⟨(m_low_at (by omega) (by omega) hall (by simp only [decide_eq_true_eq]; intro h9; exact c_11 (by rw [h9]; rfl))).symm, (fun q  => (fr_96 q ))⟩ (Nat.le_refl _) (Nat.le_refl _) dX1_lowestPower_15 hQ
  exact lp2 _ (2) ((by omega)) ((by omega)) ((fun j h1 h2 => absurd h1 (by omega))) (Nat.lt_succ_self _) F _ _ hw  (fun q  => rfl) ls (lv_sub hl [1, 0] rfl)
abbrev rm_X1_lowestDifference : Room := { frames := 0, cells := 0, slots := 0, locals := 0 }
set_option maxHeartbeats 4000000 in
set_option maxRecDepth 100000 in
theorem c_X1_lowestDifference (l : Launch) (G : Gl) (L : List Nat) (F : Nat → va_E) (a b : Nat) (u v : Nat → ZP) (ma : a ∈ L) (fa : F a = rw7 G u) (mb : b ∈ L) (fb : F b = rw7 G v) : CI l yX1_lowestDifference cX1_lowestDifference 3 (some .int) rm_X1_lowestDifference G L F [.ref a, .ref b] (fun r F1 => r = m_low (fun k => decide (u k ≠ v k)) ∧ ∀ q, F1 q = F q) := by
  refine CG_of (by decide) (Nat.le_of_ble_eq_true rfl) rfl ?_
  intro p e s m args below meth c Q C0 hr hlk hnm hQ hw ls hl
  have hx := C0.x
  have hb := C0.b
  refine lv_iconst (v := nI 2) hx hb dX1_lowestDifference_0 (by decide) ?_
  refine lv_istore_n (lv' := [(2, .int (nI (2))), (0, .ref a), (1, .ref b)]) hx hb dX1_lowestDifference_1 rfl hl (by decide) rfl (fun ls hl => ?_)
  have lp2 : ∀ (n : Nat) (i : Nat), 2 ≤ i → i ≤ 7 → (∀ j, 2 ≤ j → j < i → (fun k => decide (u k ≠ v k)) j = false) → 7 + 1 - i < n → ∀ (F_99 : Nat → va_E) (H : Heap) (locs : List Loc), wD G L F_99 s H locs → (∀ q, F_99 q = F q) → ∀ ls : Array Slot, lv_has ls 3 [(0, .ref a), (1, .ref b), (2, .int (nI (i)))] → W p l e rm_X1_lowestDifference s m args below meth c H locs 0 0 Q (F0 m 2 ls []) := by
    intro n
    induction n with
    | zero => intro i hlo hhi hall hm; exact absurd hm (Nat.not_lt_zero _)
    | succ n ih_2 =>
      intro i hlo hhi hall hm F_99 H locs hw  fr_100 ls hl
      refine lv_iload_n hx hb dX1_lowestDifference_2 rfl (lv_at hl 2 rfl) ?_
      refine lv_bipush (v := nI 6) hx hb dX1_lowestDifference_3 (by decide) ?_
      refine n_icmp_gt (tgt := 25) hx hb dX1_lowestDifference_5 (by decide) (by omega) (by decide) (fun c_5 => ?_) (fun c_5 => ?_)
      · skip
        obtain rfl : i = 7 := by omega
        refine lv_iconst (v := (-1)) hx hb dX1_lowestDifference_25 (by decide) ?_
        exact r_i C0 hr hlk hw (v := ((-1))) rfl ⟨(m_low_no hall).symm, (fun q  => (fr_100 q ))⟩ (Nat.le_refl _) (Nat.le_refl _) dX1_lowestDifference_26 hQ
      · skip
        refine lv_aload_n hx hb dX1_lowestDifference_8 rfl (lv_at hl 0 rfl) ?_
        refine lv_iload_n hx hb dX1_lowestDifference_9 rfl (lv_at hl 2 rfl) ?_
        have f_101 : F_99 a = rw7 G u := (fr_100 a ).trans fa
        refine q_rld C0 hw ma f_101 (i) (by omega) dX1_lowestDifference_10 (fun z_102 => ?_)
        refine lv_aload_n hx hb dX1_lowestDifference_11 rfl (lv_at hl 1 rfl) ?_
        refine lv_iload_n hx hb dX1_lowestDifference_12 rfl (lv_at hl 2 rfl) ?_
        have f_103 : F_99 b = rw7 G v := (fr_100 b ).trans fb
        refine q_rld C0 hw mb f_103 (i) (by omega) dX1_lowestDifference_13 (fun z_104 => ?_)
        refine n_icmp_eq (tgt := 19) hx hb dX1_lowestDifference_14 (by decide) (by omega) (by omega) (fun c_14 => ?_) (fun c_14 => ?_)
        · skip
          refine lv_iinc (v := nI (i + 1)) (lv' := [(2, .int (nI (i + 1))), (0, .ref a), (1, .ref b)]) hx hb dX1_lowestDifference_19 hl (k := 2) rfl (nI_add _ _) (by decide) rfl (fun ls hl => ?_)
          refine lv_goto (tgt := 2) hx hb dX1_lowestDifference_22 (by decide) ?_
          exact ih_2 (i + 1) ((by omega)) ((by omega)) ((m_low_ext hall (by simp only [decide_eq_false_iff_not, Decidable.not_not]; exact Fin.ext c_14))) (by omega) F_99 _ _ hw  (fun q  => (fr_100 q )) ls (lv_sub hl [1, 2, 0] rfl)
        · skip
          refine lv_iload_n hx hb dX1_lowestDifference_17 rfl (lv_at hl 2 rfl) ?_
          exact r_i C0 hr hlk hw (v := nI (i)) rfl ⟨(m_low_at (by omega) (by omega) hall (by simp only [decide_eq_true_eq]; intro h9; exact c_14 (by rw [h9]))).symm, (fun q  => (fr_100 q ))⟩ (Nat.le_refl _) (Nat.le_refl _) dX1_lowestDifference_18 hQ
  exact lp2 _ (2) ((by omega)) ((by omega)) ((fun j h1 h2 => absurd h1 (by omega))) (Nat.lt_succ_self _) F _ _ hw  (fun q  => rfl) ls (lv_sub hl [1, 2, 0] rfl)
theorem m_hv_s (u : Nat → ZP) (x : ZP) {r : Nat} (h : r + 1 ≤ 7) : zc ((m_hv u x (7 - (r + 1))).val * x.val + (u r).val) = m_hv u x (7 - r) := by
  rw [zc_add, zc_mul, zc_z, zc_z, zc_z, show 7 - r = (7 - (r + 1)) + 1 by omega]
  show _ = m_hv u x (7 - (r + 1)) * x + u (6 - (7 - (r + 1)))
  rw [show 6 - (7 - (r + 1)) = r by omega]
abbrev rm_X1_valueAt : Room := { frames := 0, cells := 0, slots := 0, locals := 0 }
set_option maxHeartbeats 4000000 in
set_option maxRecDepth 100000 in
theorem c_X1_valueAt (l : Launch) (G : Gl) (L : List Nat) (F : Nat → va_E) (a : Nat) (u : Nat → ZP) (x : ZP) (ma : a ∈ L) (fa : F a = rw7 G u) : CI l yX1_valueAt cX1_valueAt 5 (some .int) rm_X1_valueAt G L F [.ref a, .int (nI (x.val))] (fun r F1 => r = nI (m_val u x).val ∧ ∀ q, F1 q = F q) := by
  refine CG_of (by decide) (Nat.le_of_ble_eq_true rfl) rfl ?_
  intro p e s m args below meth c Q C0 hr hlk hnm hQ hw ls hl
  have hx := C0.x
  have hb := C0.b
  have hxx := x.isLt
  refine lv_lconst (v := lN 0) hx hb dX1_valueAt_0 (by decide) ?_
  refine lv_lstore_n (lv' := [(2, .long (lN (0))), (0, .ref a), (1, .int (nI (x.val)))]) hx hb dX1_valueAt_1 rfl hl (by decide) rfl (fun ls hl => ?_)
  refine lv_bipush (v := nI 6) hx hb dX1_valueAt_2 (by decide) ?_
  refine lv_istore (lv' := [(4, .int (nI (6))), (2, .long (lN (0))), (0, .ref a), (1, .int (nI (x.val)))]) hx hb dX1_valueAt_4 hl (by decide) rfl (fun ls hl => ?_)
  have lp6 : ∀ (n : Nat) (r : Nat) (t : ZP), r ≤ 7 → t = m_hv u x (7 - r) → r < n → ∀ (F_105 : Nat → va_E) (H : Heap) (locs : List Loc), wD G L F_105 s H locs → (∀ q, F_105 q = F q) → ∀ ls : Array Slot, lv_has ls 5 [(0, .ref a), (1, .int (nI (x.val))), (2, .long (lN (t.val))), (4, .int (nI (r) + (-1)))] → W p l e rm_X1_valueAt s m args below meth c H locs 0 0 Q (F0 m 6 ls []) := by
    intro n
    induction n with
    | zero => intro r t h7 ht hm; exact absurd hm (Nat.not_lt_zero _)
    | succ n ih_6 =>
      intro r t h7 ht hm F_105 H locs hw  fr_106 ls hl
      rcases r with _ | r
      · skip
        have hl : lv_has ls 5 [(0, .ref a), (1, .int (nI (x.val))), (2, .long (lN (t.val))), (4, .int ((-1)))] := hl
        refine lv_iload hx hb dX1_valueAt_6 (lv_at hl 3 rfl) ?_
        refine lv_if_lt (tgt := 32) hx hb dX1_valueAt_8 (by decide) (fun c_8 => ?_) (fun c_8 => ?_)
        · skip
          refine lv_lload_n hx hb dX1_valueAt_32 rfl (lv_at hl 2 rfl) ?_
          refine n_l2i hx hb dX1_valueAt_33 ?_
          exact r_i C0 hr hlk hw (v := nI (t.val)) rfl ⟨by rw [ht]; rfl, (fun q  => (fr_106 q ))⟩ (Nat.le_refl _) (Nat.le_refl _) dX1_valueAt_34 hQ
        · skip
          exact absurd (by decide) c_8
      · skip
        have hl : lv_has ls 5 [(0, .ref a), (1, .int (nI (x.val))), (2, .long (lN (t.val))), (4, .int (nI (r)))] := (by rw [pk_m1] at hl; exact hl)
        refine lv_iload hx hb dX1_valueAt_6 (lv_at hl 3 rfl) ?_
        refine n_if_lt (tgt := 32) hx hb dX1_valueAt_8 (by decide) (by omega) ?_
        refine lv_lload_n hx hb dX1_valueAt_11 rfl (lv_at hl 2 rfl) ?_
        refine lv_iload_n hx hb dX1_valueAt_12 rfl (lv_at hl 1 rfl) ?_
        refine n_i2l hx hb (by omega) dX1_valueAt_13 ?_
        refine n_lmul hx hb dX1_valueAt_14 ?_
        have m_107 := mul2_le (a := t.val) (b := x.val) (by omega) (by omega)
        refine lv_aload_n hx hb dX1_valueAt_15 rfl (lv_at hl 0 rfl) ?_
        refine lv_iload hx hb dX1_valueAt_16 (lv_at hl 3 rfl) ?_
        have f_108 : F_105 a = rw7 G u := (fr_106 a ).trans fa
        refine q_rld C0 hw ma f_108 (r) (by omega) dX1_valueAt_18 (fun z_109 => ?_)
        refine n_i2l hx hb (by omega) dX1_valueAt_19 ?_
        refine n_ladd hx hb dX1_valueAt_20 ?_
        refine lv_ldc2 (v := lN (10007)) hx hb C0.ow (C0.ts _ kw_X1_54) dX1_valueAt_21 ?_
        refine n_lremP hx hb (by omega) dX1_valueAt_24 ?_
        refine lv_lstore_n (lv' := [(2, .long (lN ((zc (t.val * x.val + ((u (r)).val))).val))), (0, .ref a), (1, .int (nI (x.val))), (4, .int (nI (r)))]) hx hb dX1_valueAt_25 rfl hl (by decide) rfl (fun ls hl => ?_)
        refine lv_iinc (v := nI (r) + (-1)) (lv' := [(4, .int (nI (r) + (-1))), (2, .long (lN ((zc (t.val * x.val + ((u (r)).val))).val))), (0, .ref a), (1, .int (nI (x.val)))]) hx hb dX1_valueAt_26 hl (k := 3) rfl rfl (by decide) rfl (fun ls hl => ?_)
        refine lv_goto (tgt := 6) hx hb dX1_valueAt_29 (by decide) ?_
        exact ih_6 (r) (zc (t.val * x.val + ((u (r)).val))) ((by omega)) ((by rw [ht]; exact m_hv_s u x h7)) (by omega) F_105 _ _ hw  (fun q  => (fr_106 q )) ls (lv_sub hl [2, 3, 1, 0] rfl)
  exact lp6 _ (7) (0) ((by omega)) (rfl) (Nat.lt_succ_self _) F _ _ hw  (fun q  => rfl) ls (lv_sub hl [2, 3, 1, 0] rfl)
