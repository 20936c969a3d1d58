abbrev inR (v : Int32) (lo hi : Nat) : Prop := nI lo ≤ v ∧ v ≤ nI hi
theorem bool_t {c : Prop} [Decidable c] (h : c) : nI 1 = (if c then nI 1 else nI 0) := (if_pos h).symm
theorem bool_f {c : Prop} [Decidable c] (h : ¬ c) : nI 0 = (if c then nI 1 else nI 0) := (if_neg h).symm
abbrev rm_X6_within : Room := { frames := 0, cells := 0, slots := 0, locals := 0 }
set_option maxHeartbeats 4000000 in
set_option maxRecDepth 100000 in
theorem c_X6_within (l : Launch) (G : Gl) (L : List Nat) (F : Nat → va_E) (v : Int32) (lo hi : Nat) : CI l yX6_within cX6_within 3 (some .boolean) rm_X6_within G L F [.int (v), .int (nI (lo)), .int (nI (hi))] (fun r F1 => r = (if inR v lo hi then nI 1 else nI 0) ∧ ∀ q, F1 q = F q) := by
  refine CG_of (by decide) (Nat.le_of_ble_eq_true rfl) rfl ?_
  intro p e s m args below meth c Q C0 hr hlk hnm hQ hw ls hl
  have hx := C0.x
  have hb := C0.b
  refine lv_iload_n hx hb dX6_within_0 rfl (lv_at hl 0 rfl) ?_
  refine lv_iload_n hx hb dX6_within_1 rfl (lv_at hl 1 rfl) ?_
  refine lv_icmp_lt (tgt := 14) hx hb dX6_within_2 (by decide) (fun c_2 => ?_) (fun c_2 => ?_)
  · skip
    refine lv_iconst (v := nI 0) hx hb dX6_within_14 (by decide) ?_
    exact r_i C0 hr hlk hw (v := nI 0) rfl ⟨bool_f (fun h9 => absurd h9.1 (Int32.not_le.mpr c_2)), (fun q  => rfl)⟩ (Nat.le_refl _) (Nat.le_refl _) dX6_within_15 hQ
  · skip
    refine lv_iload_n hx hb dX6_within_5 rfl (lv_at hl 0 rfl) ?_
    refine lv_iload_n hx hb dX6_within_6 rfl (lv_at hl 2 rfl) ?_
    refine lv_icmp_gt (tgt := 14) hx hb dX6_within_7 (by decide) (fun c_7 => ?_) (fun c_7 => ?_)
    · skip
      refine lv_iconst (v := nI 0) hx hb dX6_within_14 (by decide) ?_
      exact r_i C0 hr hlk hw (v := nI 0) rfl ⟨bool_f (fun h9 => absurd h9.2 (Int32.not_le.mpr c_7)), (fun q  => rfl)⟩ (Nat.le_refl _) (Nat.le_refl _) dX6_within_15 hQ
    · skip
      refine lv_iconst (v := nI 1) hx hb dX6_within_10 (by decide) ?_
      refine lv_goto (tgt := 15) hx hb dX6_within_11 (by decide) ?_
      exact r_i C0 hr hlk hw (v := nI 1) rfl ⟨bool_t ⟨Int32.not_lt.mp c_2, Int32.not_lt.mp c_7⟩, (fun q  => rfl)⟩ (Nat.le_refl _) (Nat.le_refl _) dX6_within_15 hQ
abbrev rm_X6_isSlot : Room := { frames := 1, cells := 0, slots := 0, locals := 22 }
set_option maxHeartbeats 4000000 in
set_option maxRecDepth 100000 in
theorem c_X6_isSlot (l : Launch) (G : Gl) (L : List Nat) (F : Nat → va_E) (v : Int32) : CI l yX6_isSlot cX6_isSlot 1 (some .boolean) rm_X6_isSlot G L F [.int (v)] (fun r F1 => r = (if inR v 0 5 then nI 1 else nI 0) ∧ ∀ q, F1 q = F q) := by
  refine CG_of (by decide) (Nat.le_of_ble_eq_true rfl) rfl ?_
  intro p e s m args below meth c Q C0 hr hlk hnm hQ hw ls hl
  have hx := C0.x
  have hb := C0.b
  refine lv_iload_n hx hb dX6_isSlot_0 rfl (lv_at hl 0 rfl) ?_
  refine lv_iconst (v := nI 0) hx hb dX6_isSlot_1 (by decide) ?_
  refine lv_iconst (v := nI 5) hx hb dX6_isSlot_2 (by decide) ?_
  refine q_calli hw (q_runS (As := [.int (v), .int (nI (0)), .int (nI (5))]) (c_X6_within l G L F v 0 5) C0 hw sw_X6_38 rfl hl.1 rfl (by decide) dX6_isSlot_3 ⟨by decide, by decide⟩ ⟨by decide, by decide⟩) rfl rfl (fun r_470 F_468 H locs hw hp_469 => ?_)
  obtain ⟨he_471, o_472⟩ := hp_469
  by_cases hb_473 : inR v 0 5
  · skip
    rw [if_pos hb_473] at he_471
    subst he_471
    exact r_i C0 hr hlk hw (v := nI 1) rfl ⟨bool_t hb_473, (fun q  => (o_472 q ))⟩ (Nat.le_refl _) (Nat.le_refl _) dX6_isSlot_6 hQ
  · skip
    rw [if_neg hb_473] at he_471
    subst he_471
    exact r_i C0 hr hlk hw (v := nI 0) rfl ⟨bool_f hb_473, (fun q  => (o_472 q ))⟩ (Nat.le_refl _) (Nat.le_refl _) dX6_isSlot_6 hQ
abbrev rm_X6_areSlots : Room := { frames := 2, cells := 0, slots := 0, locals := 42 }
set_option maxHeartbeats 4000000 in
set_option maxRecDepth 100000 in
theorem c_X6_areSlots (l : Launch) (G : Gl) (L : List Nat) (F : Nat → va_E) (v u : Int32) : CI l yX6_areSlots cX6_areSlots 2 (some .boolean) rm_X6_areSlots G L F [.int (v), .int (u)] (fun r F1 => r = (if inR v 0 5 ∧ inR u 0 5 then nI 1 else nI 0) ∧ ∀ q, F1 q = F q) := by
  refine CG_of (by decide) (Nat.le_of_ble_eq_true rfl) rfl ?_
  intro p e s m args below meth c Q C0 hr hlk hnm hQ hw ls hl
  have hx := C0.x
  have hb := C0.b
  refine lv_iload_n hx hb dX6_areSlots_0 rfl (lv_at hl 0 rfl) ?_
  refine q_calli hw (q_runS (As := [.int (v)]) (c_X6_isSlot l G L F v) C0 hw sw_X6_42 rfl hl.1 rfl (by decide) dX6_areSlots_1 ⟨by decide, by decide⟩ ⟨by decide, by decide⟩) rfl rfl (fun r_476 F_474 H locs hw hp_475 => ?_)
  obtain ⟨he_477, o_478⟩ := hp_475
  by_cases hb_479 : inR v 0 5
  · skip
    rw [if_pos hb_479] at he_477
    subst he_477
    refine n_if_eq (tgt := 18) hx hb dX6_areSlots_4 (by decide) (by decide) (fun c_4 => ?_) (fun c_4 => ?_)
    · skip
      exact absurd c_4 (by omega)
    · skip
      refine lv_iload_n hx hb dX6_areSlots_7 rfl (lv_at hl 1 rfl) ?_
      refine q_calli hw (q_runS (As := [.int (u)]) (c_X6_isSlot l G L F_474 u) C0 hw sw_X6_42 rfl hl.1 rfl (by decide) dX6_areSlots_8 ⟨by decide, by decide⟩ ⟨by decide, by decide⟩) rfl rfl (fun r_482 F_480 H locs hw hp_481 => ?_)
      obtain ⟨he_483, o_484⟩ := hp_481
      by_cases hb_485 : inR u 0 5
      · skip
        rw [if_pos hb_485] at he_483
        subst he_483
        refine n_if_eq (tgt := 18) hx hb dX6_areSlots_11 (by decide) (by decide) (fun c_11 => ?_) (fun c_11 => ?_)
        · skip
          exact absurd c_11 (by omega)
        · skip
          refine lv_iconst (v := nI 1) hx hb dX6_areSlots_14 (by decide) ?_
          refine lv_goto (tgt := 19) hx hb dX6_areSlots_15 (by decide) ?_
          exact r_i C0 hr hlk hw (v := nI 1) rfl ⟨bool_t ⟨hb_479, hb_485⟩, (fun q  => ((o_484 q ).trans (o_478 q )))⟩ (Nat.le_refl _) (Nat.le_refl _) dX6_areSlots_19 hQ
      · skip
        rw [if_neg hb_485] at he_483
        subst he_483
        refine n_if_eq (tgt := 18) hx hb dX6_areSlots_11 (by decide) (by decide) (fun c_11 => ?_) (fun c_11 => ?_)
        · skip
          refine lv_iconst (v := nI 0) hx hb dX6_areSlots_18 (by decide) ?_
          exact r_i C0 hr hlk hw (v := nI 0) rfl ⟨bool_f (fun h9 => hb_485 h9.2), (fun q  => ((o_484 q ).trans (o_478 q )))⟩ (Nat.le_refl _) (Nat.le_refl _) dX6_areSlots_19 hQ
        · skip
          exact absurd c_11 (by omega)
  · skip
    rw [if_neg hb_479] at he_477
    subst he_477
    refine n_if_eq (tgt := 18) hx hb dX6_areSlots_4 (by decide) (by decide) (fun c_4 => ?_) (fun c_4 => ?_)
    · skip
      refine lv_iconst (v := nI 0) hx hb dX6_areSlots_18 (by decide) ?_
      exact r_i C0 hr hlk hw (v := nI 0) rfl ⟨bool_f (fun h9 => hb_479 h9.1), (fun q  => (o_478 q ))⟩ (Nat.le_refl _) (Nat.le_refl _) dX6_areSlots_19 hQ
    · skip
      exact absurd c_4 (by omega)
theorem mo_A {x : Int32} (h : 0 ≤ x - x / nI 10007 * nI 10007) : x - x / nI 10007 * nI 10007 = nI (zi x).val := zi_eq (by
  rw [Int32.le_iff_toInt_le] at h
  have h3 : (0 : Int32).toInt = 0 := rfl
  rw [rem_toInt, fm_c, h3] at h
  rw [rem_toInt, fm_c]
  rcases Int.lt_or_le x.toInt 0 with h1 | h1
  · rw [fm_t _ h1] at h ⊢
    omega
  · rw [Int.tmod_eq_emod_of_nonneg h1])
theorem mo_B {x : Int32} (h : ¬ 0 ≤ x - x / nI 10007 * nI 10007) : x - x / nI 10007 * nI 10007 + nI 10007 = nI (zi x).val := zi_eq (by
  rw [Int32.le_iff_toInt_le] at h
  have h3 : (0 : Int32).toInt = 0 := rfl
  rw [rem_toInt, fm_c, h3] at h
  rw [Int32.toInt_add, rem_toInt, fm_c]
  rcases Int.lt_or_le x.toInt 0 with h1 | h1
  · rw [fm_t _ h1] at h ⊢
    rw [Int.bmod_eq_of_le (by omega) (by omega)]
    omega
  · rw [Int.tmod_eq_emod_of_nonneg h1] at h
    omega)
theorem inv_dig : ∀ i, i ≤ 14 → (10005 / 2 ^ i = 0 ↔ i = 14) := by decide
abbrev rm_X6_modulo : Room := { frames := 0, cells := 0, slots := 0, locals := 0 }
set_option maxHeartbeats 4000000 in
set_option maxRecDepth 100000 in
theorem c_X6_modulo (l : Launch) (G : Gl) (L : List Nat) (F : Nat → va_E) (x : Int32) : CI l yX6_modulo cX6_modulo 1 (some .int) rm_X6_modulo G L F [.int (x)] (fun r F1 => r = nI (zi x).val ∧ ∀ q, F1 q = F q) := by
  refine CG_of (by decide) (Nat.le_of_ble_eq_true rfl) rfl ?_
  intro p e s m args below meth c Q C0 hr hlk hnm hQ hw ls hl
  have hx := C0.x
  have hb := C0.b
  refine lv_iload_n hx hb dX6_modulo_0 rfl (lv_at hl 0 rfl) ?_
  refine lv_sipush (v := nI 10007) hx hb dX6_modulo_1 (by decide) ?_
  refine lv_irem hx hb dX6_modulo_4 (by decide) ?_
  refine lv_if_ge (tgt := 20) hx hb dX6_modulo_5 (by decide) (fun c_5 => ?_) (fun c_5 => ?_)
  · skip
    refine lv_iload_n hx hb dX6_modulo_20 rfl (lv_at hl 0 rfl) ?_
    refine lv_sipush (v := nI 10007) hx hb dX6_modulo_21 (by decide) ?_
    refine lv_irem hx hb dX6_modulo_24 (by decide) ?_
    exact r_i C0 hr hlk hw (v := (x - x / nI 10007 * nI 10007)) rfl ⟨mo_A c_5, (fun q  => rfl)⟩ (Nat.le_refl _) (Nat.le_refl _) dX6_modulo_25 hQ
  · skip
    refine lv_iload_n hx hb dX6_modulo_8 rfl (lv_at hl 0 rfl) ?_
    refine lv_sipush (v := nI 10007) hx hb dX6_modulo_9 (by decide) ?_
    refine lv_irem hx hb dX6_modulo_12 (by decide) ?_
    refine lv_sipush (v := nI 10007) hx hb dX6_modulo_13 (by decide) ?_
    refine lv_iadd hx hb dX6_modulo_16 ?_
    refine lv_goto (tgt := 25) hx hb dX6_modulo_17 (by decide) ?_
    exact r_i C0 hr hlk hw (v := ((x - x / nI 10007 * nI 10007) + nI 10007)) rfl ⟨mo_B c_5, (fun q  => rfl)⟩ (Nat.le_refl _) (Nat.le_refl _) dX6_modulo_25 hQ
abbrev rm_X6_inverse : Room := { frames := 0, cells := 0, slots := 0, locals := 0 }
set_option maxHeartbeats 4000000 in
set_option maxRecDepth 100000 in
theorem c_X6_inverse (l : Launch) (G : Gl) (L : List Nat) (F : Nat → va_E) (n : Nat) (hn : n < 10007) : CI l yX6_inverse cX6_inverse 4 (some .int) rm_X6_inverse G L F [.int (nI (n))] (fun r F1 => r = nI (m_finv (zc n)).val ∧ ∀ q, F1 q = F q) := by
  obtain ⟨z, rfl⟩ : ∃ z : ZP, n = z.val := ⟨⟨n, hn⟩, rfl⟩
  refine CG_of (by decide) (Nat.le_of_ble_eq_true rfl) rfl ?_
  intro p e s m args below meth c Q C0 hr hlk hnm hQ hw ls hl
  have hx := C0.x
  have hb := C0.b
  refine lv_iconst (v := nI 1) hx hb dX6_inverse_0 (by decide) ?_
  refine lv_istore_n (lv' := [(1, .int (nI (1))), (0, .int (nI (z.val)))]) hx hb dX6_inverse_1 rfl hl (by decide) rfl (fun ls hl => ?_)
  refine lv_iload_n hx hb dX6_inverse_2 rfl (lv_at hl 1 rfl) ?_
  refine lv_istore_n (lv' := [(2, .int (nI (z.val))), (1, .int (nI (1))), (0, .int (nI (z.val)))]) hx hb dX6_inverse_3 rfl hl (by decide) rfl (fun ls hl => ?_)
  refine lv_sipush (v := nI 10005) hx hb dX6_inverse_4 (by decide) ?_
  refine lv_istore_n (lv' := [(3, .int (nI (10005))), (2, .int (nI (z.val))), (1, .int (nI (1))), (0, .int (nI (z.val)))]) hx hb dX6_inverse_7 rfl hl (by decide) rfl (fun ls hl => ?_)
  have lp8 : ∀ (n : Nat) (i : Nat) (a : ZP) (b9 : ZP), i ≤ 14 → a = (m_ivI z i).1 → b9 = (m_ivI z i).2 → 15 - i < n → ∀ (F_486 : Nat → va_E) (H : Heap) (locs : List Loc), wD G L F_486 s H locs → (∀ q, F_486 q = F q) → ∀ ls : Array Slot, lv_has ls 4 [(1, .int (nI (a.val))), (2, .int (nI (b9.val))), (3, .int (nI (10005 / 2 ^ i)))] → W p l e rm_X6_inverse s m args below meth c H locs 0 0 Q (F0 m 8 ls []) := by
    intro n
    induction n with
    | zero => intro i a b9 hhi ha hb2 hm; exact absurd hm (Nat.not_lt_zero _)
    | succ n ih_8 =>
      intro i a b9 hhi ha hb2 hm F_486 H locs hw  fr_487 ls hl
      refine lv_iload_n hx hb dX6_inverse_8 rfl (lv_at hl 2 rfl) ?_
      refine n_if_le (tgt := 46) hx hb dX6_inverse_9 (by decide) (by have := Nat.div_le_self 10005 (2 ^ i); omega) (fun c_9 => ?_) (fun c_9 => ?_)
      · skip
        obtain rfl : i = 14 := (inv_dig i hhi).mp c_9
        refine lv_iload_n hx hb dX6_inverse_46 rfl (lv_at hl 0 rfl) ?_
        exact r_i C0 hr hlk hw (v := nI (a.val)) rfl ⟨by rw [zc_z, ha]; rfl, (fun q  => (fr_487 q ))⟩ (Nat.le_refl _) (Nat.le_refl _) dX6_inverse_47 hQ
      · skip
        have hi14 : ¬ i = 14 := fun z9 => c_9 ((inv_dig i hhi).mpr z9)
        have hza := a.isLt
        have hzb := b9.isLt
        have e9 : 10005 / 2 ^ i / 2 = 10005 / 2 ^ (i + 1) := by rw [Nat.pow_succ, Nat.div_div_eq_div_mul]
        refine lv_iload_n hx hb dX6_inverse_12 rfl (lv_at hl 2 rfl) ?_
        refine lv_iconst (v := nI 2) hx hb dX6_inverse_13 (by decide) ?_
        refine n_irem hx hb (by have := Nat.div_le_self 10005 (2 ^ i); omega) (by decide) (by decide) dX6_inverse_14 ?_
        refine lv_iconst (v := nI 1) hx hb dX6_inverse_15 (by decide) ?_
        refine n_icmp_ne (tgt := 29) hx hb dX6_inverse_16 (by decide) (by omega) (by decide) (fun c_16 => ?_) (fun c_16 => ?_)
        · skip
          refine lv_iload_n hx hb dX6_inverse_29 rfl (lv_at hl 0 rfl) ?_
          refine lv_istore_n (lv' := [(1, .int (nI (a.val))), (2, .int (nI (b9.val))), (3, .int (nI (10005 / 2 ^ i)))]) hx hb dX6_inverse_30 rfl hl (by decide) rfl (fun ls hl => ?_)
          refine lv_iload_n hx hb dX6_inverse_31 rfl (lv_at hl 1 rfl) ?_
          refine lv_iload_n hx hb dX6_inverse_32 rfl (lv_at hl 1 rfl) ?_
          refine n_imul hx hb dX6_inverse_33 ?_
          have m_488 := mul2_le (a := b9.val) (b := b9.val) (by omega) (by omega)
          refine lv_sipush (v := nI 10007) hx hb dX6_inverse_34 (by decide) ?_
          refine n_iremP hx hb (by omega) dX6_inverse_37 ?_
          refine lv_istore_n (lv' := [(2, .int (nI ((zc (b9.val * b9.val)).val))), (1, .int (nI (a.val))), (3, .int (nI (10005 / 2 ^ i)))]) hx hb dX6_inverse_38 rfl hl (by decide) rfl (fun ls hl => ?_)
          refine lv_iload_n hx hb dX6_inverse_39 rfl (lv_at hl 2 rfl) ?_
          refine lv_iconst (v := nI 2) hx hb dX6_inverse_40 (by decide) ?_
          refine n_idiv hx hb (by have := Nat.div_le_self 10005 (2 ^ i); omega) (by decide) (by decide) dX6_inverse_41 ?_
          refine lv_istore_n (lv' := [(3, .int (nI ((10005 / 2 ^ i) / 2))), (2, .int (nI ((zc (b9.val * b9.val)).val))), (1, .int (nI (a.val)))]) hx hb dX6_inverse_42 rfl hl (by decide) rfl (fun ls hl => ?_)
          refine lv_goto (tgt := 8) hx hb dX6_inverse_43 (by decide) ?_
          rw [e9] at hl
          have hl : lv_has ls 4 [(3, .int (nI (10005 / 2 ^ (i + 1)))), (2, .int (nI ((zc (b9.val * b9.val)).val))), (1, .int (nI (a.val)))] := hl
          exact ih_8 (i + 1) (a) (zc (b9.val * b9.val)) ((by omega)) ((by first | (simp only [m_ivI, zc_mul, zc_z, ha, hb2]; rw [if_pos c_16]; done) | (simp only [m_ivI, ha]; rw [if_neg c_16]; done))) ((by simp only [m_ivI, zc_mul, zc_z, hb2])) (by omega) F_486 _ _ hw  (fun q  => (fr_487 q )) ls (lv_sub hl [2, 1, 0] rfl)
        · skip
          refine lv_iload_n hx hb dX6_inverse_19 rfl (lv_at hl 0 rfl) ?_
          refine lv_iload_n hx hb dX6_inverse_20 rfl (lv_at hl 1 rfl) ?_
          refine n_imul hx hb dX6_inverse_21 ?_
          have m_489 := mul2_le (a := a.val) (b := b9.val) (by omega) (by omega)
          refine lv_sipush (v := nI 10007) hx hb dX6_inverse_22 (by decide) ?_
          refine n_iremP hx hb (by omega) dX6_inverse_25 ?_
          refine lv_goto (tgt := 30) hx hb dX6_inverse_26 (by decide) ?_
          refine lv_istore_n (lv' := [(1, .int (nI ((zc (a.val * b9.val)).val))), (2, .int (nI (b9.val))), (3, .int (nI (10005 / 2 ^ i)))]) hx hb dX6_inverse_30 rfl hl (by decide) rfl (fun ls hl => ?_)
          refine lv_iload_n hx hb dX6_inverse_31 rfl (lv_at hl 1 rfl) ?_
          refine lv_iload_n hx hb dX6_inverse_32 rfl (lv_at hl 1 rfl) ?_
          refine n_imul hx hb dX6_inverse_33 ?_
          have m_490 := mul2_le (a := b9.val) (b := b9.val) (by omega) (by omega)
          refine lv_sipush (v := nI 10007) hx hb dX6_inverse_34 (by decide) ?_
          refine n_iremP hx hb (by omega) dX6_inverse_37 ?_
          refine lv_istore_n (lv' := [(2, .int (nI ((zc (b9.val * b9.val)).val))), (1, .int (nI ((zc (a.val * b9.val)).val))), (3, .int (nI (10005 / 2 ^ i)))]) hx hb dX6_inverse_38 rfl hl (by decide) rfl (fun ls hl => ?_)
          refine lv_iload_n hx hb dX6_inverse_39 rfl (lv_at hl 2 rfl) ?_
          refine lv_iconst (v := nI 2) hx hb dX6_inverse_40 (by decide) ?_
          refine n_idiv hx hb (by have := Nat.div_le_self 10005 (2 ^ i); omega) (by decide) (by decide) dX6_inverse_41 ?_
          refine lv_istore_n (lv' := [(3, .int (nI ((10005 / 2 ^ i) / 2))), (2, .int (nI ((zc (b9.val * b9.val)).val))), (1, .int (nI ((zc (a.val * b9.val)).val)))]) hx hb dX6_inverse_42 rfl hl (by decide) rfl (fun ls hl => ?_)
          refine lv_goto (tgt := 8) hx hb dX6_inverse_43 (by decide) ?_
          rw [e9] at hl
          have hl : lv_has ls 4 [(3, .int (nI (10005 / 2 ^ (i + 1)))), (2, .int (nI ((zc (b9.val * b9.val)).val))), (1, .int (nI ((zc (a.val * b9.val)).val)))] := hl
          exact ih_8 (i + 1) (zc (a.val * b9.val)) (zc (b9.val * b9.val)) ((by omega)) ((by first | (simp only [m_ivI, zc_mul, zc_z, ha, hb2]; rw [if_pos c_16]; done) | (simp only [m_ivI, ha]; rw [if_neg c_16]; done))) ((by simp only [m_ivI, zc_mul, zc_z, hb2])) (by omega) F_486 _ _ hw  (fun q  => (fr_487 q )) ls (lv_sub hl [2, 1, 0] rfl)
  exact lp8 _ (0) (1) (z) ((by omega)) (rfl) (rfl) (Nat.lt_succ_self _) F _ _ hw  (fun q  => rfl) ls (lv_sub hl [2, 1, 0] rfl)
abbrev rm_X6_at : Room := { frames := 0, cells := 0, slots := 0, locals := 0 }
set_option maxHeartbeats 4000000 in
set_option maxRecDepth 100000 in
theorem c_X6_at (l : Launch) (G : Gl) (L : List Nat) (F : Nat → va_E) (b : Nat) (ma : Nat → Nat) (mi : Nat → Int32) (hh : Int64) (pl : Nat → Nat → ZP) (zf : Nat → Int32) (cu : Nat) (p9 k : Nat) (mb : b ∈ L) (fb : F b = mO ma mi hh) (hma : ∀ i, i < 7 → ma i ∈ L) (fp : F (ma 4) = pcE G pl) (fz : F (ma 0) = .inl (G.2 0, 89, .inl zf)) (hz0 : zf 0 = nI cu) (hc : cu ≤ 6) (hc2 : 2 ≤ cu) (hp9 : p9 < 20) (hk : k < 7) : CI l yX6_at cX6_at 3 (some .int) rm_X6_at G L F [.ref b, .int (nI (p9)), .int (nI (k))] (fun r F1 => r = nI (pl p9 k).val ∧ ∀ q, F1 q = F q) := by
  refine CG_of (by decide) (Nat.le_of_ble_eq_true rfl) rfl ?_
  intro p e s m args below meth c Q C0 hr hlk hnm hQ hw ls hl
  have hx := C0.x
  have hb := C0.b
  refine lv_aload_n hx hb dX6_at_0 rfl (lv_at hl 0 rfl) ?_
  refine q_get C0 hw mb fb fw_X6_22 rfl dX6_at_1 ?_
  refine lv_bipush (v := nI 7) hx hb dX6_at_4 (by decide) ?_
  refine lv_iload_n hx hb dX6_at_6 rfl (lv_at hl 1 rfl) ?_
  refine n_imul hx hb dX6_at_7 ?_
  refine lv_iload_n hx hb dX6_at_8 rfl (lv_at hl 2 rfl) ?_
  refine n_iadd hx hb dX6_at_9 ?_
  refine q_iald C0 hw ((hma 4 (by decide))) fp (7 * p9 + k) (by omega) (by decide) (v := nI ((pl p9 k).val)) (pc_at pl p9 k (by omega)) dX6_at_10 ?_
  exact r_i C0 hr hlk hw (v := nI ((pl p9 k).val)) rfl ⟨rfl, (fun q  => rfl)⟩ (Nat.le_refl _) (Nat.le_refl _) dX6_at_11 hQ
abbrev rm_X6_setAt : Room := { frames := 0, cells := 0, slots := 0, locals := 0 }
set_option maxHeartbeats 4000000 in
set_option maxRecDepth 100000 in
theorem c_X6_setAt (l : Launch) (G : Gl) (L : List Nat) (F : Nat → va_E) (b : Nat) (ma : Nat → Nat) (mi : Nat → Int32) (hh : Int64) (pl : Nat → Nat → ZP) (zf : Nat → Int32) (cu : Nat) (p9 k n : Nat) (mb : b ∈ L) (fb : F b = mO ma mi hh) (hma : ∀ i, i < 7 → ma i ∈ L) (fp : F (ma 4) = pcE G pl) (fz : F (ma 0) = .inl (G.2 0, 89, .inl zf)) (hz0 : zf 0 = nI cu) (hc : cu ≤ 6) (hc2 : 2 ≤ cu) (hp9 : p9 < 20) (hk : k < 7) (hn : n < 2147483648) : CV l yX6_setAt cX6_setAt 4 none rm_X6_setAt G L F [.ref b, .int (nI (p9)), .int (nI (k)), .int (nI (n))] (fun F1 => F1 (ma 4) = pcE G (va_up pl p9 (va_up (pl p9) k (zc n))) ∧ ∀ q, q ≠ ma 4 → F1 q = F q) := by
  refine CG_of (by decide) (Nat.le_of_ble_eq_true rfl) rfl ?_
  intro p e s m args below meth c Q C0 hr hlk hnm hQ hw ls hl
  have hx := C0.x
  have hb := C0.b
  refine lv_aload_n hx hb dX6_setAt_0 rfl (lv_at hl 0 rfl) ?_
  refine q_get C0 hw mb fb fw_X6_22 rfl dX6_setAt_1 ?_
  refine lv_bipush (v := nI 7) hx hb dX6_setAt_4 (by decide) ?_
  refine lv_iload_n hx hb dX6_setAt_6 rfl (lv_at hl 1 rfl) ?_
  refine n_imul hx hb dX6_setAt_7 ?_
  refine lv_iload_n hx hb dX6_setAt_8 rfl (lv_at hl 2 rfl) ?_
  refine n_iadd hx hb dX6_setAt_9 ?_
  refine lv_iload_n hx hb dX6_setAt_10 rfl (lv_at hl 3 rfl) ?_
  refine lv_sipush (v := nI 10007) hx hb dX6_setAt_11 (by decide) ?_
  refine n_iremP hx hb (by omega) dX6_setAt_14 ?_
  refine q_pst C0 hw ((hma 4 (by decide))) fp p9 k (by omega) (by omega) (z := zc (n)) dX6_setAt_15 (fun F_491 H locs hw f_492 o_493 => ?_)
  exact r_v C0 hr hlk hw ⟨f_492, (fun q k0 => (o_493 q k0))⟩ (Nat.le_refl _) (Nat.le_refl _) dX6_setAt_16 hQ
