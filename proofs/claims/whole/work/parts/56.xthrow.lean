theorem xk_IAE : Cond.classLink RX5 55 "java/lang/IllegalArgumentException" ∈ TB := tb_t 247 (by decide +kernel) rfl
theorem xi_IAE : Cond.initialized "java/lang/IllegalArgumentException" ∈ TB := tb_t 11 (by decide +kernel) rfl
set_option maxRecDepth 100000 in
theorem xa_IAE : ∀ w ∈ vx_atS RX5 59 "java/lang/IllegalArgumentException" ["java/lang/RuntimeException", "java/lang/Exception"], w ∈ TB ∨ w ∈ g_xw := by decide +kernel
theorem xk_IOB : Cond.classLink RX5 278 "java/lang/IndexOutOfBoundsException" ∈ TB := tb_t 329 (by decide +kernel) rfl
theorem xi_IOB : Cond.initialized "java/lang/IndexOutOfBoundsException" ∈ TB := tb_t 13 (by decide +kernel) rfl
set_option maxRecDepth 100000 in
theorem xa_IOB : ∀ w ∈ vx_atS RX5 282 "java/lang/IndexOutOfBoundsException" ["java/lang/RuntimeException", "java/lang/Exception"], w ∈ TB ∨ w ∈ g_xw := by decide +kernel
theorem xk_ISE : Cond.classLink RX5 102 "java/lang/IllegalStateException" ∈ TB := tb_t 494 (by decide +kernel) rfl
theorem xi_ISE : Cond.initialized "java/lang/IllegalStateException" ∈ TB := tb_t 15 (by decide +kernel) rfl
set_option maxRecDepth 100000 in
theorem xa_ISE : ∀ w ∈ vx_atS RX5 106 "java/lang/IllegalStateException" ["java/lang/RuntimeException", "java/lang/Exception"], w ∈ TB ∨ w ∈ g_xw := by decide +kernel
theorem le_5 {x : Int32} {k : Nat} (hk : k < 2 ^ 30) (h : x < nI (k + 1)) : x ≤ nI k := by
  rw [Int32.lt_iff_toInt_lt, nI_toInt (by omega)] at h
  rw [Int32.le_iff_toInt_le, nI_toInt (by omega)]
  omega
abbrev rx_X5_needSlot : Room := { frames := 6, cells := 1, slots := 6, locals := 90 }
set_option maxHeartbeats 4000000 in
set_option maxRecDepth 100000 in
theorem x_X5_needSlot (l : Launch) (G : Gl) (L : List Nat) (F : Nat → va_E) (x9 : Int32) (h9 : ¬ inR x9 0 5) (hst : l.stackTraces = false) : XG l yX5_needSlot cX5_needSlot 1 none rx_X5_needSlot G L F [.int (x9)] "java/lang/IndexOutOfBoundsException" := by
  refine XG_of (by decide) (Nat.le_of_ble_eq_true rfl) rfl ?_
  intro p e s m args below meth c Q C0 hXw hlk ht hQ hw ls hl
  have hx := C0.x
  have hb := C0.b
  refine lv_iload_n hx hb dX5_needSlot_0 rfl (lv_at hl 0 rfl) ?_
  refine lv_if_lt (tgt := 10) hx hb dX5_needSlot_1 (by decide) (fun c_1 => ?_) (fun c_1 => ?_)
  · skip
    exact x_throwW C0 hXw hst ht hw (text := "a slot is 0 to 5") (names := ["java/lang/RuntimeException", "java/lang/Exception"]) (by decide) (by decide) xk_IOB xi_IOB xa_IOB (by decide) hl.1 dX5_needSlot_10 dX5_needSlot_13 dX5_needSlot_14 dX5_needSlot_17 dX5_needSlot_20 hlk (by decide) (by decide) (by decide) (by decide) (by decide) (by decide) hQ
  · skip
    refine lv_iload_n hx hb dX5_needSlot_4 rfl (lv_at hl 0 rfl) ?_
    refine lv_bipush (v := nI 6) hx hb dX5_needSlot_5 (by decide) ?_
    refine lv_icmp_lt (tgt := 21) hx hb dX5_needSlot_7 (by decide) (fun c_7 => ?_) (fun c_7 => ?_)
    · skip
      exact absurd ⟨Int32.not_lt.mp c_1, le_5 (by decide) c_7⟩ h9
    · skip
      exact x_throwW C0 hXw hst ht hw (text := "a slot is 0 to 5") (names := ["java/lang/RuntimeException", "java/lang/Exception"]) (by decide) (by decide) xk_IOB xi_IOB xa_IOB (by decide) hl.1 dX5_needSlot_10 dX5_needSlot_13 dX5_needSlot_14 dX5_needSlot_17 dX5_needSlot_20 hlk (by decide) (by decide) (by decide) (by decide) (by decide) (by decide) hQ
abbrev rx_X5_needSnapshot : Room := { frames := 6, cells := 1, slots := 6, locals := 90 }
set_option maxHeartbeats 4000000 in
set_option maxRecDepth 100000 in
theorem x_X5_needSnapshot (l : Launch) (G : Gl) (L : List Nat) (F : Nat → va_E) (x9 : Int32) (h9 : ¬ inR x9 0 1) (hst : l.stackTraces = false) : XG l yX5_needSnapshot cX5_needSnapshot 1 none rx_X5_needSnapshot G L F [.int (x9)] "java/lang/IndexOutOfBoundsException" := by
  refine XG_of (by decide) (Nat.le_of_ble_eq_true rfl) rfl ?_
  intro p e s m args below meth c Q C0 hXw hlk ht hQ hw ls hl
  have hx := C0.x
  have hb := C0.b
  refine lv_iload_n hx hb dX5_needSnapshot_0 rfl (lv_at hl 0 rfl) ?_
  refine lv_if_lt (tgt := 9) hx hb dX5_needSnapshot_1 (by decide) (fun c_1 => ?_) (fun c_1 => ?_)
  · skip
    exact x_throwW C0 hXw hst ht hw (text := "a snapshot is 0 or 1") (names := ["java/lang/RuntimeException", "java/lang/Exception"]) (by decide) (by decide) xk_IOB xi_IOB xa_IOB (by decide) hl.1 dX5_needSnapshot_9 dX5_needSnapshot_12 dX5_needSnapshot_13 dX5_needSnapshot_16 dX5_needSnapshot_19 hlk (by decide) (by decide) (by decide) (by decide) (by decide) (by decide) hQ
  · skip
    refine lv_iload_n hx hb dX5_needSnapshot_4 rfl (lv_at hl 0 rfl) ?_
    refine lv_iconst (v := nI 2) hx hb dX5_needSnapshot_5 (by decide) ?_
    refine lv_icmp_lt (tgt := 20) hx hb dX5_needSnapshot_6 (by decide) (fun c_6 => ?_) (fun c_6 => ?_)
    · skip
      exact absurd ⟨Int32.not_lt.mp c_1, le_5 (by decide) c_6⟩ h9
    · skip
      exact x_throwW C0 hXw hst ht hw (text := "a snapshot is 0 or 1") (names := ["java/lang/RuntimeException", "java/lang/Exception"]) (by decide) (by decide) xk_IOB xi_IOB xa_IOB (by decide) hl.1 dX5_needSnapshot_9 dX5_needSnapshot_12 dX5_needSnapshot_13 dX5_needSnapshot_16 dX5_needSnapshot_19 hlk (by decide) (by decide) (by decide) (by decide) (by decide) (by decide) hQ
abbrev rx_X5_needPower : Room := { frames := 6, cells := 1, slots := 6, locals := 90 }
set_option maxHeartbeats 4000000 in
set_option maxRecDepth 100000 in
theorem x_X5_needPower (l : Launch) (G : Gl) (L : List Nat) (F : Nat → va_E) (x9 : Int32) (lo hi : Nat) (h9 : ¬ inR x9 lo hi) (hst : l.stackTraces = false) : XG l yX5_needPower cX5_needPower 3 none rx_X5_needPower G L F [.int (x9), .int (nI (lo)), .int (nI (hi))] "java/lang/IndexOutOfBoundsException" := by
  refine XG_of (by decide) (Nat.le_of_ble_eq_true rfl) rfl ?_
  intro p e s m args below meth c Q C0 hXw hlk ht hQ hw ls hl
  have hx := C0.x
  have hb := C0.b
  refine lv_iload_n hx hb dX5_needPower_0 rfl (lv_at hl 0 rfl) ?_
  refine lv_iload_n hx hb dX5_needPower_1 rfl (lv_at hl 1 rfl) ?_
  refine lv_icmp_lt (tgt := 10) hx hb dX5_needPower_2 (by decide) (fun c_2 => ?_) (fun c_2 => ?_)
  · skip
    exact x_throwW C0 hXw hst ht hw (text := "the power is out of range") (names := ["java/lang/RuntimeException", "java/lang/Exception"]) (by decide) (by decide) xk_IOB xi_IOB xa_IOB (by decide) hl.1 dX5_needPower_10 dX5_needPower_13 dX5_needPower_14 dX5_needPower_17 dX5_needPower_20 hlk (by decide) (by decide) (by decide) (by decide) (by decide) (by decide) hQ
  · skip
    refine lv_iload_n hx hb dX5_needPower_5 rfl (lv_at hl 0 rfl) ?_
    refine lv_iload_n hx hb dX5_needPower_6 rfl (lv_at hl 2 rfl) ?_
    refine lv_icmp_le (tgt := 21) hx hb dX5_needPower_7 (by decide) (fun c_7 => ?_) (fun c_7 => ?_)
    · skip
      exact absurd ⟨Int32.not_lt.mp c_2, c_7⟩ h9
    · skip
      exact x_throwW C0 hXw hst ht hw (text := "the power is out of range") (names := ["java/lang/RuntimeException", "java/lang/Exception"]) (by decide) (by decide) xk_IOB xi_IOB xa_IOB (by decide) hl.1 dX5_needPower_10 dX5_needPower_13 dX5_needPower_14 dX5_needPower_17 dX5_needPower_20 hlk (by decide) (by decide) (by decide) (by decide) (by decide) (by decide) hQ
abbrev rx_X5_needMoney : Room := { frames := 6, cells := 1, slots := 6, locals := 90 }
set_option maxHeartbeats 4000000 in
set_option maxRecDepth 100000 in
theorem x_X5_needMoney (l : Launch) (G : Gl) (L : List Nat) (F : Nat → va_E) (ad : Nat → Nat) (hL : ∀ i, i < 166 → ad i ∈ L) (hin : ∀ i j, i < 166 → j < 166 → i ≠ j → ad i ≠ ad j) (un : Nat) (st : Sta) (fx : F (ad 0) = xO ad) (hn : sta G F ad 22 st) (h9 : st.2.1 < un * st.1) (hpu : st.2.1 ≤ 100000) (hun : un ≤ 100) (hc : st.1 ≤ 6) (hu2 : un * st.1 < 2 ^ 30) (hst : l.stackTraces = false) : XG l yX5_needMoney cX5_needMoney 2 none rx_X5_needMoney G L F [.ref (ad 0), .int (nI (un))] "java/lang/IllegalStateException" := by
  refine XG_of (by decide) (Nat.le_of_ble_eq_true rfl) rfl ?_
  intro p e s m args below meth c Q C0 hXw hlk ht hQ hw ls hl
  have hx := C0.x
  have hb := C0.b
  refine lv_aload_n hx hb dX5_needMoney_0 rfl (lv_at hl 0 rfl) ?_
  refine q_get C0 hw ((hL 0 (by omega))) fx fw_X5_12 rfl dX5_needMoney_1 ?_
  refine q_get C0 hw ((hL 22 (by omega))) hn.1 fw_X5_98 rfl dX5_needMoney_4 ?_
  refine lv_aload_n hx hb dX5_needMoney_7 rfl (lv_at hl 0 rfl) ?_
  refine lv_iload_n hx hb dX5_needMoney_8 rfl (lv_at hl 1 rfl) ?_
  refine q_calli hw (q_runV (As := [.int (nI (un))]) (c_X5_costOf l G L F ad hL hin un st fx hn) C0 hw vw_X5_228 ((hL 0 (by omega))) fx rfl rfl rfl hl.1 rfl (Nat.le_of_ble_eq_true rfl) dX5_needMoney_9 ⟨by decide, by decide⟩ ⟨by decide, by decide⟩) rfl rfl (fun r_4747 F_4745 H locs hw hp_4746 => ?_)
  obtain ⟨he_4748, o_4749⟩ := hp_4746
  subst he_4748
  refine n_icmp_ge (tgt := 26) hx hb dX5_needMoney_12 (by decide) (by omega) (by omega) (fun c_12 => ?_) (fun c_12 => ?_)
  · skip
    exact absurd c_12 (by omega)
  · skip
    have e9 : F = F_4745 := (funext (fun q  => (o_4749 q ))).symm
    subst e9
    exact x_throwW C0 hXw hst ht hw (text := "the purse has less than it costs") (names := ["java/lang/RuntimeException", "java/lang/Exception"]) (by decide) (by decide) xk_ISE xi_ISE xa_ISE (by decide) hl.1 dX5_needMoney_15 dX5_needMoney_18 dX5_needMoney_19 dX5_needMoney_22 dX5_needMoney_25 hlk (by decide) (by decide) (by decide) (by decide) (by decide) (by decide) hQ
abbrev rx_X5_cut : Room := { frames := 6, cells := 1, slots := 6, locals := 90 }
set_option maxHeartbeats 4000000 in
set_option maxRecDepth 100000 in
theorem x_X5_cut (l : Launch) (G : Gl) (L : List Nat) (F : Nat → va_E) (ad : Nat → Nat) (hL : ∀ i, i < 166 → ad i ∈ L) (hin : ∀ i j, i < 166 → j < 166 → i ≠ j → ad i ≠ ad j) (A : AB) (x9 : Int32) (h9 : ¬ inR x9 2 6) (hX : XW G F ad A) (hA : okA A) (hst : l.stackTraces = false) : XG l yX5_cut cX5_cut 3 (some .int) rx_X5_cut G L F [.ref (ad 0), .int (x9)] "java/lang/IllegalArgumentException" := by
  obtain ⟨fx, hn, hh, hsn, htx, hrk, ⟨u9, h134⟩, ⟨v9, h150⟩⟩ := hX
  obtain ⟨⟨hc2, hc, hpu, hok⟩, ⟨hh6, hho⟩, hso, hl60, hco⟩ := id hA
  refine XG_of (by decide) (Nat.le_of_ble_eq_true rfl) rfl ?_
  intro p e s m args below meth c Q C0 hXw hlk ht hQ hw ls hl
  have hx := C0.x
  have hb := C0.b
  refine lv_iload_n hx hb dX5_cut_0 rfl (lv_at hl 1 rfl) ?_
  refine lv_iconst (v := nI 2) hx hb dX5_cut_1 (by decide) ?_
  refine lv_icmp_lt (tgt := 11) hx hb dX5_cut_2 (by decide) (fun c_2 => ?_) (fun c_2 => ?_)
  · skip
    exact x_throw C0 hXw hst ht hw (text := "the cut is 2 to 6") (names := ["java/lang/RuntimeException", "java/lang/Exception"]) (by decide) (by decide) xk_IAE xi_IAE xa_IAE (by decide) hl.1 dX5_cut_11 dX5_cut_14 dX5_cut_15 dX5_cut_17 dX5_cut_20 hlk (by decide) (by decide) (by decide) (by decide) (by decide) (by decide) hQ
  · skip
    refine lv_iload_n hx hb dX5_cut_5 rfl (lv_at hl 1 rfl) ?_
    refine lv_bipush (v := nI 6) hx hb dX5_cut_6 (by decide) ?_
    refine lv_icmp_le (tgt := 21) hx hb dX5_cut_8 (by decide) (fun c_8 => ?_) (fun c_8 => ?_)
    · skip
      exact absurd ⟨Int32.not_lt.mp c_2, c_8⟩ h9
    · skip
      exact x_throw C0 hXw hst ht hw (text := "the cut is 2 to 6") (names := ["java/lang/RuntimeException", "java/lang/Exception"]) (by decide) (by decide) xk_IAE xi_IAE xa_IAE (by decide) hl.1 dX5_cut_11 dX5_cut_14 dX5_cut_15 dX5_cut_17 dX5_cut_20 hlk (by decide) (by decide) (by decide) (by decide) (by decide) (by decide) hQ
