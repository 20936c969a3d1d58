abbrev rm_X6_thrown : Room := { frames := 0, cells := 0, slots := 0, locals := 0 }
set_option maxHeartbeats 4000000 in
set_option maxRecDepth 100000 in
theorem c_X6_thrown (l : Launch) (G : Gl) (L : List Nat) (F : Nat → va_E) (b : Nat) (ma : Nat → Nat) (mi : Nat → Int32) (hh : Int64) (zf : Nat → Int32) (mb : b ∈ L) (fb : F b = mO ma mi hh) (hma : ∀ i, i < 7 → ma i ∈ L) (fz : F (ma 0) = .inl (G.2 0, 89, .inl zf)) : CI l yX6_thrown cX6_thrown 1 (some .int) rm_X6_thrown G L F [.ref b] (fun r F1 => r = mi 2 ∧ ∀ q, F1 q = F q) := by
  refine CG_of (by decide) (Nat.le_of_ble_eq_true rfl) rfl ?_
  intro p e s m args below meth c Q C0 hr hlk hnm hQ hw ls hl
  have hx := C0.x
  have hb := C0.b
  refine lv_aload_n hx hb dX6_thrown_0 rfl (lv_at hl 0 rfl) ?_
  refine q_get C0 hw mb fb fw_X6_31 rfl dX6_thrown_1 ?_
  exact r_i C0 hr hlk hw (v := (mi 2)) rfl ⟨rfl, (fun q  => rfl)⟩ (Nat.le_refl _) (Nat.le_refl _) dX6_thrown_4 hQ
abbrev rm_X6_fieldAt : Room := { frames := 0, cells := 0, slots := 0, locals := 0 }
set_option maxHeartbeats 4000000 in
set_option maxRecDepth 100000 in
theorem c_X6_fieldAt (l : Launch) (G : Gl) (L : List Nat) (F : Nat → va_E) (s9 : Nat) (hs9 : s9 < 100) : CI l yX6_fieldAt cX6_fieldAt 1 (some .int) rm_X6_fieldAt G L F [.int (nI (s9))] (fun r F1 => r = nI (5 + 7 * s9) ∧ ∀ q, F1 q = F q) := by
  refine CG_of (by decide) (Nat.le_of_ble_eq_true rfl) rfl ?_
  intro p e s m args below meth c Q C0 hr hlk hnm hQ hw ls hl
  have hx := C0.x
  have hb := C0.b
  refine lv_iconst (v := nI 5) hx hb dX6_fieldAt_0 (by decide) ?_
  refine lv_bipush (v := nI 7) hx hb dX6_fieldAt_1 (by decide) ?_
  refine lv_iload_n hx hb dX6_fieldAt_3 rfl (lv_at hl 0 rfl) ?_
  refine n_imul hx hb dX6_fieldAt_4 ?_
  refine n_iadd hx hb dX6_fieldAt_5 ?_
  exact r_i C0 hr hlk hw (v := nI (5 + (7 * s9))) rfl ⟨rfl, (fun q  => rfl)⟩ (Nat.le_refl _) (Nat.le_refl _) dX6_fieldAt_6 hQ
abbrev rm_X6_flowAt : Room := { frames := 0, cells := 0, slots := 0, locals := 0 }
set_option maxHeartbeats 4000000 in
set_option maxRecDepth 100000 in
theorem c_X6_flowAt (l : Launch) (G : Gl) (L : List Nat) (F : Nat → va_E) (s9 : Nat) (hs9 : s9 < 100) : CI l yX6_flowAt cX6_flowAt 1 (some .int) rm_X6_flowAt G L F [.int (nI (s9))] (fun r F1 => r = nI (47 + 7 * s9) ∧ ∀ q, F1 q = F q) := by
  refine CG_of (by decide) (Nat.le_of_ble_eq_true rfl) rfl ?_
  intro p e s m args below meth c Q C0 hr hlk hnm hQ hw ls hl
  have hx := C0.x
  have hb := C0.b
  refine lv_bipush (v := nI 47) hx hb dX6_flowAt_0 (by decide) ?_
  refine lv_bipush (v := nI 7) hx hb dX6_flowAt_2 (by decide) ?_
  refine lv_iload_n hx hb dX6_flowAt_4 rfl (lv_at hl 0 rfl) ?_
  refine n_imul hx hb dX6_flowAt_5 ?_
  refine n_iadd hx hb dX6_flowAt_6 ?_
  exact r_i C0 hr hlk hw (v := nI (47 + (7 * s9))) rfl ⟨rfl, (fun q  => rfl)⟩ (Nat.le_refl _) (Nat.le_refl _) dX6_flowAt_7 hQ
abbrev rm_X6_isPower : Room := { frames := 1, cells := 0, slots := 0, locals := 22 }
set_option maxHeartbeats 4000000 in
set_option maxRecDepth 100000 in
theorem c_X6_isPower (l : Launch) (G : Gl) (L : List Nat) (F : Nat → va_E) (b : Nat) (ma : Nat → Nat) (mi : Nat → Int32) (hh : Int64) (zf : Nat → Int32) (x9 : Int32) (cu : Nat) (mb : b ∈ L) (fb : F b = mO ma mi hh) (hma : ∀ i, i < 7 → ma i ∈ L) (fz : F (ma 0) = .inl (G.2 0, 89, .inl zf)) (hz0 : zf 0 = nI cu) : CI l yX6_isPower cX6_isPower 2 (some .boolean) rm_X6_isPower G L F [.ref b, .int (x9)] (fun r F1 => r = (if inR x9 2 cu then nI 1 else nI 0) ∧ ∀ q, F1 q = F q) := by
  refine CG_of (by decide) (Nat.le_of_ble_eq_true rfl) rfl ?_
  intro p e s m args below meth c Q C0 hr hlk hnm hQ hw ls hl
  have hx := C0.x
  have hb := C0.b
  refine lv_iload_n hx hb dX6_isPower_0 rfl (lv_at hl 1 rfl) ?_
  refine lv_iconst (v := nI 2) hx hb dX6_isPower_1 (by decide) ?_
  refine lv_aload_n hx hb dX6_isPower_2 rfl (lv_at hl 0 rfl) ?_
  refine q_get C0 hw mb fb fw_X6_7 rfl dX6_isPower_3 ?_
  refine lv_iconst (v := nI 0) hx hb dX6_isPower_6 (by decide) ?_
  refine q_iald C0 hw ((hma 0 (by decide))) fz (0) (by omega) (by decide) (v := nI (cu)) hz0 dX6_isPower_7 ?_
  refine q_calli hw (q_runS (As := [.int (x9), .int (nI (2)), .int (nI (cu))]) (c_X6_within l G L F x9 2 cu) C0 hw sw_X6_38 rfl hl.1 rfl (Nat.le_of_ble_eq_true rfl) dX6_isPower_8 ⟨by decide, by decide⟩ ⟨by decide, by decide⟩) rfl rfl (fun r_4987 F_4985 H locs hw hp_4986 => ?_)
  obtain ⟨he_4988, o_4989⟩ := hp_4986
  by_cases hb_4990 : inR x9 2 cu
  · skip
    rw [if_pos hb_4990] at he_4988
    subst he_4988
    exact r_i C0 hr hlk hw (v := nI 1) rfl ⟨bool_t hb_4990, (fun q  => (o_4989 q ))⟩ (Nat.le_refl _) (Nat.le_refl _) dX6_isPower_11 hQ
  · skip
    rw [if_neg hb_4990] at he_4988
    subst he_4988
    exact r_i C0 hr hlk hw (v := nI 0) rfl ⟨bool_f hb_4990, (fun q  => (o_4989 q ))⟩ (Nat.le_refl _) (Nat.le_refl _) dX6_isPower_11 hQ
abbrev rm_X6_isSnapshot : Room := { frames := 1, cells := 0, slots := 0, locals := 22 }
set_option maxHeartbeats 4000000 in
set_option maxRecDepth 100000 in
theorem c_X6_isSnapshot (l : Launch) (G : Gl) (L : List Nat) (F : Nat → va_E) (x9 : Int32) : CI l yX6_isSnapshot cX6_isSnapshot 1 (some .boolean) rm_X6_isSnapshot G L F [.int (x9)] (fun r F1 => r = (if inR x9 0 1 then nI 1 else nI 0) ∧ ∀ q, F1 q = F q) := by
  refine CG_of (by decide) (Nat.le_of_ble_eq_true rfl) rfl ?_
  intro p e s m args below meth c Q C0 hr hlk hnm hQ hw ls hl
  have hx := C0.x
  have hb := C0.b
  refine lv_iload_n hx hb dX6_isSnapshot_0 rfl (lv_at hl 0 rfl) ?_
  refine lv_iconst (v := nI 0) hx hb dX6_isSnapshot_1 (by decide) ?_
  refine lv_iconst (v := nI 1) hx hb dX6_isSnapshot_2 (by decide) ?_
  refine q_calli hw (q_runS (As := [.int (x9), .int (nI (0)), .int (nI (1))]) (c_X6_within l G L F x9 0 1) C0 hw sw_X6_38 rfl hl.1 rfl (Nat.le_of_ble_eq_true rfl) dX6_isSnapshot_3 ⟨by decide, by decide⟩ ⟨by decide, by decide⟩) rfl rfl (fun r_4993 F_4991 H locs hw hp_4992 => ?_)
  obtain ⟨he_4994, o_4995⟩ := hp_4992
  by_cases hb_4996 : inR x9 0 1
  · skip
    rw [if_pos hb_4996] at he_4994
    subst he_4994
    exact r_i C0 hr hlk hw (v := nI 1) rfl ⟨bool_t hb_4996, (fun q  => (o_4995 q ))⟩ (Nat.le_refl _) (Nat.le_refl _) dX6_isSnapshot_6 hQ
  · skip
    rw [if_neg hb_4996] at he_4994
    subst he_4994
    exact r_i C0 hr hlk hw (v := nI 0) rfl ⟨bool_f hb_4996, (fun q  => (o_4995 q ))⟩ (Nat.le_refl _) (Nat.le_refl _) dX6_isSnapshot_6 hQ
abbrev rm_X6_canPay : Room := { frames := 0, cells := 0, slots := 0, locals := 0 }
set_option maxHeartbeats 4000000 in
set_option maxRecDepth 100000 in
theorem c_X6_canPay (l : Launch) (G : Gl) (L : List Nat) (F : Nat → va_E) (b : Nat) (ma : Nat → Nat) (mi : Nat → Int32) (hh : Int64) (zf : Nat → Int32) (un cu pu : Nat) (mb : b ∈ L) (fb : F b = mO ma mi hh) (hma : ∀ i, i < 7 → ma i ∈ L) (fz : F (ma 0) = .inl (G.2 0, 89, .inl zf)) (hz0 : zf 0 = nI cu) (hz1 : zf 1 = nI pu) (hcu : cu ≤ 6) (hun : un ≤ 100) (hpu : pu ≤ 100000) (hm : cu * un < 2 ^ 30) : CI l yX6_canPay cX6_canPay 2 (some .boolean) rm_X6_canPay G L F [.ref b, .int (nI (un))] (fun r F1 => r = (if cu * un ≤ pu then nI 1 else nI 0) ∧ ∀ q, F1 q = F q) := by
  refine CG_of (by decide) (Nat.le_of_ble_eq_true rfl) rfl ?_
  intro p e s m args below meth c Q C0 hr hlk hnm hQ hw ls hl
  have hx := C0.x
  have hb := C0.b
  refine lv_aload_n hx hb dX6_canPay_0 rfl (lv_at hl 0 rfl) ?_
  refine q_get C0 hw mb fb fw_X6_7 rfl dX6_canPay_1 ?_
  refine lv_iconst (v := nI 1) hx hb dX6_canPay_4 (by decide) ?_
  refine q_iald C0 hw ((hma 0 (by decide))) fz (1) (by omega) (by decide) (v := nI (pu)) hz1 dX6_canPay_5 ?_
  refine lv_aload_n hx hb dX6_canPay_6 rfl (lv_at hl 0 rfl) ?_
  refine q_get C0 hw mb fb fw_X6_7 rfl dX6_canPay_7 ?_
  refine lv_iconst (v := nI 0) hx hb dX6_canPay_10 (by decide) ?_
  refine q_iald C0 hw ((hma 0 (by decide))) fz (0) (by omega) (by decide) (v := nI (cu)) hz0 dX6_canPay_11 ?_
  refine lv_iload_n hx hb dX6_canPay_12 rfl (lv_at hl 1 rfl) ?_
  refine n_imul hx hb dX6_canPay_13 ?_
  refine n_icmp_lt (tgt := 21) hx hb dX6_canPay_14 (by decide) (by omega) (by omega) (fun c_14 => ?_) (fun c_14 => ?_)
  · skip
    refine lv_iconst (v := nI 0) hx hb dX6_canPay_21 (by decide) ?_
    exact r_i C0 hr hlk hw (v := nI 0) rfl ⟨bool_f (by omega), (fun q  => rfl)⟩ (Nat.le_refl _) (Nat.le_refl _) dX6_canPay_22 hQ
  · skip
    refine lv_iconst (v := nI 1) hx hb dX6_canPay_17 (by decide) ?_
    refine lv_goto (tgt := 22) hx hb dX6_canPay_18 (by decide) ?_
    exact r_i C0 hr hlk hw (v := nI 1) rfl ⟨bool_t (by omega), (fun q  => rfl)⟩ (Nat.le_refl _) (Nat.le_refl _) dX6_canPay_22 hQ
