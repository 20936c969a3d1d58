def md1 (x : Int32) : Int32 := x - x / nI 10007 * nI 10007
def md2 (x : Int32) : Nat := ((md1 x).toInt + 10007).toNat
theorem md_b (x : Int32) : -10007 < (md1 x).toInt ∧ (md1 x).toInt < 10007 ∧ (md1 x).toInt % 10007 = x.toInt % 10007 := by
  have h : (md1 x).toInt = x.toInt.tmod 10007 := by unfold md1; rw [rem_toInt, fm_c]
  rw [h]
  rcases Int.le_total 0 x.toInt with h0 | h0
  · rw [Int.tmod_eq_emod_of_nonneg h0]
    omega
  · rcases Int.lt_or_eq_of_le h0 with h1 | h1
    · rw [fm_t _ h1]
      omega
    · rw [h1]
      decide
theorem md_2 (x : Int32) : md1 x + nI 10007 = nI (md2 x) := by
  have hb := md_b x
  apply Int32.toInt_inj.mp
  unfold md2
  rw [Int32.toInt_add, fm_c, nI_toInt (by omega), Int.bmod_eq_of_le (by omega) (by omega)]
  omega
theorem md2_lt (x : Int32) : md2 x < 20014 := by
  have hb := md_b x
  unfold md2
  omega
theorem md_3 (x : Int32) : zc (md2 x) = zi x := by
  have hb := md_b x
  refine Fin.ext ?_
  have h1 := zi_toInt x
  show md2 x % 10007 = (zi x).val
  unfold md2
  omega
theorem at_u (x : Int32) : (x.toUInt32 >>> ((nI 1).toUInt32 &&& Int32.toUInt32 31)).toInt32 = nI (x.toBitVec.toNat / 2) := by
  have h := pk_ushr x (nI 1) 1 (by decide)
  apply Int32.toBitVec_inj.mp
  apply BitVec.eq_of_toNat_eq
  rw [h]
  show _ = (x.toBitVec.toNat / 2 ^ 1) % 2 ^ 32
  have := x.toBitVec.isLt
  omega
theorem at_lt (x : Int32) : x.toBitVec.toNat / 2 < 2 ^ 31 := by
  have := x.toBitVec.isLt
  omega
abbrev rm_L_mod : Room := { frames := 0, cells := 0, slots := 0, locals := 0 }
set_option maxHeartbeats 4000000 in
set_option maxRecDepth 100000 in
theorem c_L_mod (l : Launch) (G : Gl) (L : List Nat) (F : Nat → va_E) (x : Int32) : CI l yL_mod cL_mod 1 (some .int) rm_L_mod G L F [.int (x)] (fun r F1 => r = nI (zi x).val ∧ ∀ q, F1 q = F q) := by
  refine CG_of (by decide) (Nat.le_of_ble_eq_true rfl) rfl ?_
  intro p e s m args below meth c Q C0 hr hlk hnm hQ hw ls hl
  have hx := C0.x
  have hb := C0.b
  refine lv_iload_n hx hb dL_mod_0 rfl (lv_at hl 0 rfl) ?_
  refine lv_sipush (v := nI 10007) hx hb dL_mod_1 (by decide) ?_
  refine lv_irem hx hb dL_mod_4 (by decide) ?_
  refine lv_sipush (v := nI 10007) hx hb dL_mod_5 (by decide) ?_
  refine lv_iadd hx hb dL_mod_8 ?_
  refine n_top (y := .int (nI (md2 x))) (congrArg Value.int (md_2 x)) ?_
  have hmd := md2_lt x
  refine lv_sipush (v := nI 10007) hx hb dL_mod_9 (by decide) ?_
  refine n_iremP hx hb (by omega) dL_mod_12 ?_
  exact r_i C0 hr hlk hw (v := nI ((zc (md2 x)).val)) rfl ⟨by rw [md_3], (fun q  => rfl)⟩ (Nat.le_refl _) (Nat.le_refl _) dL_mod_13 hQ
abbrev rm_L_over : Room := { frames := 1, cells := 0, slots := 0, locals := 20 }
set_option maxHeartbeats 4000000 in
set_option maxRecDepth 100000 in
theorem c_L_over (l : Launch) (G : Gl) (L : List Nat) (F : Nat → va_E) (z : ZP) (d : Nat) (h1 : 1 ≤ d) (h2 : d ≤ 24) : CI l yL_over cL_over 3 (some .int) rm_L_over G L F [.int (nI (z.val)), .int (nI (d))] (fun r F1 => r = nI (z * m_finv (zc d)).val ∧ ∀ q, F1 q = F q) := by
  refine CG_of (by decide) (Nat.le_of_ble_eq_true rfl) rfl ?_
  intro p e s m args below meth c Q C0 hr hlk hnm hQ hw ls hl
  have hx := C0.x
  have hb := C0.b
  have hz := z.isLt
  refine lv_iload_n hx hb dL_over_0 rfl (lv_at hl 0 rfl) ?_
  refine q_calli hw (q_runS (As := [.int (nI (z.val))]) (c_L_mod l G L F (nI (z.val))) C0 hw sw_L_8 rfl hl.1 rfl (Nat.le_of_ble_eq_true rfl) dL_over_1 ⟨by decide, by decide⟩ ⟨by decide, by decide⟩) rfl rfl (fun r_4210 F_4208 H locs hw hp_4209 => ?_)
  obtain ⟨he_4211, o_4212⟩ := hp_4209
  rw [zi_nI (by omega)] at he_4211
  subst he_4211
  refine n_top (show _ = .int (nI (z.val + 10007 * 0)) by rw [zc_z, Nat.mul_zero, Nat.add_zero]) ?_
  refine lv_istore_n (lv' := [(2, .int (nI (z.val + 10007 * 0))), (0, .int (nI (z.val))), (1, .int (nI (d)))]) hx hb dL_over_4 rfl hl (by decide) rfl (fun ls hl => ?_)
  have lp5 : ∀ (n : Nat) (j : Nat), (∃ i, j ≤ i ∧ i < d ∧ (z.val + 10007 * i) % d = 0) → d - j < n → ∀ (F_4213 : Nat → va_E) (H : Heap) (locs : List Loc), wD G L F_4213 s H locs → (∀ q, F_4213 q = F q) → ∀ ls : Array Slot, lv_has ls 3 [(0, .int (nI (z.val))), (1, .int (nI (d))), (2, .int (nI (z.val + 10007 * j)))] → W p l e rm_L_over s m args below meth c H locs 0 0 Q (F0 m 5 ls []) := by
    intro n
    induction n with
    | zero => intro j hex hm; exact absurd hm (Nat.not_lt_zero _)
    | succ n ih_5 =>
      intro j hex hm F_4213 H locs hw  fr_4214 ls hl
      obtain ⟨i9, hi1, hi2, hi3⟩ := hex
      refine lv_iload_n hx hb dL_over_5 rfl (lv_at hl 2 rfl) ?_
      refine lv_iload_n hx hb dL_over_6 rfl (lv_at hl 1 rfl) ?_
      have ml_4215 := Nat.mod_lt (z.val + 10007 * j) (show 0 < d by omega)
      refine n_irem hx hb (by omega) (by omega) (by omega) dL_over_7 ?_
      refine n_if_eq (tgt := 20) hx hb dL_over_8 (by decide) (by omega) (fun c_8 => ?_) (fun c_8 => ?_)
      · skip
        refine lv_iload_n hx hb dL_over_20 rfl (lv_at hl 2 rfl) ?_
        refine lv_iload_n hx hb dL_over_21 rfl (lv_at hl 1 rfl) ?_
        refine n_idiv hx hb (by omega) (by omega) (by omega) dL_over_22 ?_
        exact r_i C0 hr hlk hw (v := nI ((z.val + 10007 * j) / d)) rfl ⟨ov_out h1 h2 (by omega) c_8, (fun q  => (fr_4214 q ))⟩ (Nat.le_refl _) (Nat.le_refl _) dL_over_23 hQ
      · skip
        refine lv_iincW (v := nI (z.val + 10007 * j + 10007)) (lv' := [(2, .int (nI (z.val + 10007 * j + 10007))), (0, .int (nI (z.val))), (1, .int (nI (d)))]) hx hb dL_over_11 hl (k := 2) rfl (nI_add _ _) (by decide) rfl (fun ls hl => ?_)
        refine lv_goto (tgt := 5) hx hb dL_over_17 (by decide) ?_
        have hij : i9 ≠ j := fun h9 => c_8 (h9 ▸ hi3)
        have hl : lv_has ls 3 [(2, .int (nI (z.val + 10007 * (j + 1)))), (0, .int (nI (z.val))), (1, .int (nI (d)))] := (by rw [show z.val + 10007 * (j + 1) = z.val + 10007 * j + 10007 by omega]; exact hl)
        exact ih_5 (j + 1) (⟨i9, by omega, hi2, hi3⟩) (by omega) F_4213 _ _ hw  (fun q  => (fr_4214 q )) ls (lv_sub hl [1, 2, 0] rfl)
  exact lp5 _ (0) (ov_in h1 h2) (Nat.lt_succ_self _) F_4208 _ _ hw  (fun q  => (o_4212 q )) ls (lv_sub hl [1, 2, 0] rfl)
abbrev rm_L_at : Room := { frames := 0, cells := 0, slots := 0, locals := 0 }
set_option maxHeartbeats 4000000 in
set_option maxRecDepth 100000 in
theorem c_L_at (l : Launch) (G : Gl) (L : List Nat) (F : Nat → va_E) (x : Int32) (d : Nat) (h1 : 1 ≤ d) (h2 : d < 2 ^ 31) : CI l yL_at cL_at 2 (some .int) rm_L_at G L F [.int (x), .int (nI (d))] (fun r F1 => (∃ z, z < d ∧ r = nI z) ∧ ∀ q, F1 q = F q) := by
  refine CG_of (by decide) (Nat.le_of_ble_eq_true rfl) rfl ?_
  intro p e s m args below meth c Q C0 hr hlk hnm hQ hw ls hl
  have hx := C0.x
  have hb := C0.b
  refine lv_iload_n hx hb dL_at_0 rfl (lv_at hl 0 rfl) ?_
  refine lv_iconst (v := nI 1) hx hb dL_at_1 (by decide) ?_
  refine lv_iushr (v := nI (x.toBitVec.toNat / 2)) hx hb dL_at_2 (at_u x) ?_
  have hau := at_lt x
  refine lv_iload_n hx hb dL_at_3 rfl (lv_at hl 1 rfl) ?_
  refine n_irem hx hb hau (by omega) h2 dL_at_4 ?_
  exact r_i C0 hr hlk hw (v := nI ((x.toBitVec.toNat / 2) % d)) rfl ⟨⟨_, Nat.mod_lt _ h1, rfl⟩, (fun q  => rfl)⟩ (Nat.le_refl _) (Nat.le_refl _) dL_at_5 hQ
