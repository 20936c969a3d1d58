theorem m_low_ext {b : Nat → Bool} {i : Nat} (h : ∀ j, 2 ≤ j → j < i → b j = false) (hi : b i = false) : ∀ j, 2 ≤ j → j < i + 1 → b j = false := by
  intro j h1 h2
  rcases Nat.lt_or_ge j i with h3 | h3
  · exact h j h1 h3
  · obtain rfl : j = i := by omega
    exact hi
abbrev rm_X1_lowestPower : Room := { frames := 0, cells := 0, slots := 0, locals := 0 }
set_option maxHeartbeats 4000000 in
set_option maxRecDepth 100000 in
theorem c_X1_lowestPower (l : Launch) (G : Gl) (L : List Nat) (F : Nat → va_E) (a : Nat) (u : Nat → ZP) (ma : a ∈ L) (fa : F a = rw7 G u) : CI l yX1_lowestPower cX1_lowestPower 2 (some .int) rm_X1_lowestPower G L F [.ref a] (fun r F1 => r = m_low (fun k => decide (u k ≠ 0)) ∧ ∀ q, F1 q = F q) := by
  refine CG_of (by decide) (Nat.le_of_ble_eq_true rfl) rfl ?_
  intro p e s m args below meth c Q C0 hr hlk hnm hQ hw ls hl
  have hx := C0.x
  have hb := C0.b
  refine lv_iconst (v := nI 2) hx hb dX1_lowestPower_0 (by decide) ?_
  refine lv_istore_n (lv' := [(1, .int (nI (2))), (0, .ref a)]) hx hb dX1_lowestPower_1 rfl hl (by decide) rfl (fun ls hl => ?_)
  have lp2 : ∀ (n : Nat) (i : Nat), 2 ≤ i → i ≤ 7 → (∀ j, 2 ≤ j → j < i → (fun k => decide (u k ≠ 0)) j = false) → 7 + 1 - i < n → ∀ (F_95 : Nat → va_E) (H : Heap) (locs : List Loc), wD G L F_95 s H locs → (∀ q, F_95 q = F q) → ∀ ls : Array Slot, lv_has ls 2 [(0, .ref a), (1, .int (nI (i)))] → W p l e rm_X1_lowestPower s m args below meth c H locs 0 0 Q (F0 m 2 ls []) := by
    intro n
    induction n with
    | zero => intro i hlo hhi hall hm; exact absurd hm (Nat.not_lt_zero _)
    | succ n ih_2 =>
      intro i hlo hhi hall hm F_95 H locs hw  fr_96 ls hl
      refine lv_iload_n hx hb dX1_lowestPower_2 rfl (lv_at hl 1 rfl) ?_
      refine lv_bipush (v := nI 6) hx hb dX1_lowestPower_3 (by decide) ?_
      refine n_icmp_gt (tgt := 22) hx hb dX1_lowestPower_5 (by decide) (by omega) (by decide) (fun c_5 => ?_) (fun c_5 => ?_)
      · skip
        obtain rfl : i = 7 := by omega
        refine lv_iconst (v := (-1)) hx hb dX1_lowestPower_22 (by decide) ?_
        exact r_i C0 hr hlk hw (v := (-1)) rfl ⟨(m_low_no hall).symm, (fun q  => (fr_96 q ))⟩ (Nat.le_refl _) (Nat.le_refl _) dX1_lowestPower_23 hQ
      · skip
        refine lv_aload_n hx hb dX1_lowestPower_8 rfl (lv_at hl 0 rfl) ?_
        refine lv_iload_n hx hb dX1_lowestPower_9 rfl (lv_at hl 1 rfl) ?_
        have f_97 : F_95 a = rw7 G u := (fr_96 a ).trans fa
        refine q_rld C0 hw ma f_97 (i) (by omega) dX1_lowestPower_10 (fun z_98 => ?_)
        refine n_if_eq (tgt := 16) hx hb dX1_lowestPower_11 (by decide) (by omega) (fun c_11 => ?_) (fun c_11 => ?_)
        · skip
          refine lv_iinc (v := nI (i + 1)) (lv' := [(1, .int (nI (i + 1))), (0, .ref a)]) hx hb dX1_lowestPower_16 hl (k := 1) rfl (nI_add _ _) (by decide) rfl (fun ls hl => ?_)
          refine lv_goto (tgt := 2) hx hb dX1_lowestPower_19 (by decide) ?_
          exact ih_2 (i + 1) ((by omega)) ((by omega)) ((m_low_ext hall (by simp only [decide_eq_false_iff_not, Decidable.not_not]; exact Fin.ext c_11))) (by omega) F_95 _ _ hw  (fun q  => (fr_96 q )) ls (lv_sub hl [1, 0] rfl)
        · skip
          refine lv_iload_n hx hb dX1_lowestPower_14 rfl (lv_at hl 1 rfl) ?_
          exact r_i C0 hr hlk hw (v := nI (i)) rfl ⟨(m_low_at (by omega) (by omega) hall (by simp only [decide_eq_true_eq]; intro h9; exact c_11 (by rw [h9]; rfl))).symm, (fun q  => (fr_96 q ))⟩ (Nat.le_refl _) (Nat.le_refl _) dX1_lowestPower_15 hQ
  exact lp2 _ (2) ((by omega)) ((by omega)) ((fun j h1 h2 => absurd h1 (by omega))) (Nat.lt_succ_self _) F _ _ hw  (fun q  => rfl) ls (lv_sub hl [1, 0] rfl)
theorem m_hv_s (u : Nat → ZP) (x : ZP) {r : Nat} (h : r + 1 ≤ 7) : zc ((m_hv u x (7 - (r + 1))).val * x.val + (u r).val) = m_hv u x (7 - r) := by
  rw [zc_add, zc_mul, zc_z, zc_z, zc_z, show 7 - r = (7 - (r + 1)) + 1 by omega]
  show _ = m_hv u x (7 - (r + 1)) * x + u (6 - (7 - (r + 1)))
  rw [show 6 - (7 - (r + 1)) = r by omega]
