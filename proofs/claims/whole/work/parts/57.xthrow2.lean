theorem le_1 {x : Int32} (h : ¬ x < nI 1) : nI 1 ≤ x := Int32.not_lt.mp h
abbrev rx_X5_setField : Room := { frames := 7, cells := 1, slots := 6, locals := 112 }
set_option maxHeartbeats 4000000 in
set_option maxRecDepth 100000 in
theorem x_X5_setField_s (l : Launch) (G : Gl) (L : List Nat) (F : Nat → va_E) (ad : Nat → Nat) (hL : ∀ i, i < 166 → ad i ∈ L) (hin : ∀ i j, i < 166 → j < 166 → i ≠ j → ad i ≠ ad j) (A : AB) (x9 : Int32) (y9 z9 : Int32) (h9 : ¬ inR x9 0 5) (hX : XW G F ad A) (hA : okA A) (hst : l.stackTraces = false) : XG l yX5_setField cX5_setField 4 (some .int) rx_X5_setField G L F [.ref (ad 0), .int (x9), .int (y9), .int (z9)] "java/lang/IndexOutOfBoundsException" := by
  obtain ⟨fx, hn, hh, hsn, htx, hrk, ⟨u9, h134⟩, ⟨v9, h150⟩⟩ := hX
  obtain ⟨⟨hc2, hc, hpu, hok⟩, ⟨hh6, hho⟩, hso, hl60, hco⟩ := id hA
  refine XG_of (by decide) (Nat.le_of_ble_eq_true rfl) rfl ?_
  intro p e s m args below meth c Q C0 hXw hlk ht hQ hw ls hl
  have hx := C0.x
  have hb := C0.b
  refine lv_iload_n hx hb dX5_setField_0 rfl (lv_at hl 1 rfl) ?_
  exact x_pass C0 ht hw hlk (x_runS (As := [.int (x9)]) (x_X5_needSlot l G L F (x9) h9 hst) C0 hXw hw sw_X5_78 rfl hl.1 rfl (Nat.le_of_ble_eq_true rfl) dX5_setField_1 ⟨by decide, by decide⟩ ⟨by decide, by decide⟩) (funext (fun q  => rfl)) (by decide) (by decide) hQ
set_option maxHeartbeats 4000000 in
set_option maxRecDepth 100000 in
theorem x_X5_setField_p (l : Launch) (G : Gl) (L : List Nat) (F : Nat → va_E) (ad : Nat → Nat) (hL : ∀ i, i < 166 → ad i ∈ L) (hin : ∀ i j, i < 166 → j < 166 → i ≠ j → ad i ≠ ad j) (A : AB) (f9 : Nat) (hf9 : f9 < 6) (x9 : Int32) (z9 : Int32) (h9 : ¬ inR x9 2 A.1.1) (hX : XW G F ad A) (hA : okA A) (hst : l.stackTraces = false) : XG l yX5_setField cX5_setField 4 (some .int) rx_X5_setField G L F [.ref (ad 0), .int (nI (f9)), .int (x9), .int (z9)] "java/lang/IndexOutOfBoundsException" := by
  obtain ⟨fx, hn, hh, hsn, htx, hrk, ⟨u9, h134⟩, ⟨v9, h150⟩⟩ := hX
  obtain ⟨⟨hc2, hc, hpu, hok⟩, ⟨hh6, hho⟩, hso, hl60, hco⟩ := id hA
  refine XG_of (by decide) (Nat.le_of_ble_eq_true rfl) rfl ?_
  intro p e s m args below meth c Q C0 hXw hlk ht hQ hw ls hl
  have hx := C0.x
  have hb := C0.b
  refine lv_iload_n hx hb dX5_setField_0 rfl (lv_at hl 1 rfl) ?_
  refine q_callv hw (q_runS (As := [.int (nI (f9))]) (c_X5_needSlot l G L F f9 (by omega)) C0 hw sw_X5_78 rfl hl.1 rfl (Nat.le_of_ble_eq_true rfl) dX5_setField_1 ⟨by decide, by decide⟩ ⟨by decide, by decide⟩) rfl rfl (fun F_4750 H locs hw hp_4751 => ?_)
  refine lv_iload_n hx hb dX5_setField_4 rfl (lv_at hl 2 rfl) ?_
  refine lv_iconst (v := nI 2) hx hb dX5_setField_5 (by decide) ?_
  refine lv_aload_n hx hb dX5_setField_6 rfl (lv_at hl 0 rfl) ?_
  have f_4752 : F_4750 (ad 0) = xO ad := (hp_4751 (ad 0) ).trans fx
  refine q_get C0 hw ((hL 0 (by omega))) f_4752 fw_X5_12 rfl dX5_setField_7 ?_
  have f_4753 : F_4750 (ad 22) = .inr (3, [.ref (ad 23), .int (nI (A.1.2.1)), .int (nI (A.1.2.2.1)), .int (nI (A.1.2.2.2.1)), .int (nI (A.1.2.2.2.2.1))]) := (hp_4751 (ad 22) ).trans hn.1
  refine q_get C0 hw ((hL 22 (by omega))) f_4753 fw_X5_66 rfl dX5_setField_10 ?_
  have f_4754 : F_4750 (ad 23) = .inr (2, [.int (nI (A.1.1)), .ref (ad 24), .ref (ad 25)]) := (hp_4751 (ad 23) ).trans hn.2.1
  refine q_get C0 hw ((hL 23 (by omega))) f_4754 fw_X5_70 rfl dX5_setField_13 ?_
  exact x_pass C0 ht hw hlk (x_runS (As := [.int (x9), .int (nI (2)), .int (nI (A.1.1))]) (x_X5_needPower l G L F_4750 (x9) 2 A.1.1 h9 hst) C0 hXw hw sw_X5_81 rfl hl.1 rfl (Nat.le_of_ble_eq_true rfl) dX5_setField_16 ⟨by decide, by decide⟩ ⟨by decide, by decide⟩) (funext (fun q  => (hp_4751 q ))) (by decide) (by decide) hQ
abbrev rx_X5_setFlow : Room := { frames := 7, cells := 1, slots := 6, locals := 112 }
set_option maxHeartbeats 4000000 in
set_option maxRecDepth 100000 in
theorem x_X5_setFlow_s (l : Launch) (G : Gl) (L : List Nat) (F : Nat → va_E) (ad : Nat → Nat) (hL : ∀ i, i < 166 → ad i ∈ L) (hin : ∀ i j, i < 166 → j < 166 → i ≠ j → ad i ≠ ad j) (A : AB) (x9 : Int32) (y9 z9 : Int32) (h9 : ¬ inR x9 0 5) (hX : XW G F ad A) (hA : okA A) (hst : l.stackTraces = false) : XG l yX5_setFlow cX5_setFlow 4 (some .int) rx_X5_setFlow G L F [.ref (ad 0), .int (x9), .int (y9), .int (z9)] "java/lang/IndexOutOfBoundsException" := by
  obtain ⟨fx, hn, hh, hsn, htx, hrk, ⟨u9, h134⟩, ⟨v9, h150⟩⟩ := hX
  obtain ⟨⟨hc2, hc, hpu, hok⟩, ⟨hh6, hho⟩, hso, hl60, hco⟩ := id hA
  refine XG_of (by decide) (Nat.le_of_ble_eq_true rfl) rfl ?_
  intro p e s m args below meth c Q C0 hXw hlk ht hQ hw ls hl
  have hx := C0.x
  have hb := C0.b
  refine lv_iload_n hx hb dX5_setFlow_0 rfl (lv_at hl 1 rfl) ?_
  exact x_pass C0 ht hw hlk (x_runS (As := [.int (x9)]) (x_X5_needSlot l G L F (x9) h9 hst) C0 hXw hw sw_X5_78 rfl hl.1 rfl (Nat.le_of_ble_eq_true rfl) dX5_setFlow_1 ⟨by decide, by decide⟩ ⟨by decide, by decide⟩) (funext (fun q  => rfl)) (by decide) (by decide) hQ
set_option maxHeartbeats 4000000 in
set_option maxRecDepth 100000 in
theorem x_X5_setFlow_p (l : Launch) (G : Gl) (L : List Nat) (F : Nat → va_E) (ad : Nat → Nat) (hL : ∀ i, i < 166 → ad i ∈ L) (hin : ∀ i j, i < 166 → j < 166 → i ≠ j → ad i ≠ ad j) (A : AB) (f9 : Nat) (hf9 : f9 < 6) (x9 : Int32) (z9 : Int32) (h9 : ¬ inR x9 2 A.1.1) (hX : XW G F ad A) (hA : okA A) (hst : l.stackTraces = false) : XG l yX5_setFlow cX5_setFlow 4 (some .int) rx_X5_setFlow G L F [.ref (ad 0), .int (nI (f9)), .int (x9), .int (z9)] "java/lang/IndexOutOfBoundsException" := by
  obtain ⟨fx, hn, hh, hsn, htx, hrk, ⟨u9, h134⟩, ⟨v9, h150⟩⟩ := hX
  obtain ⟨⟨hc2, hc, hpu, hok⟩, ⟨hh6, hho⟩, hso, hl60, hco⟩ := id hA
  refine XG_of (by decide) (Nat.le_of_ble_eq_true rfl) rfl ?_
  intro p e s m args below meth c Q C0 hXw hlk ht hQ hw ls hl
  have hx := C0.x
  have hb := C0.b
  refine lv_iload_n hx hb dX5_setFlow_0 rfl (lv_at hl 1 rfl) ?_
  refine q_callv hw (q_runS (As := [.int (nI (f9))]) (c_X5_needSlot l G L F f9 (by omega)) C0 hw sw_X5_78 rfl hl.1 rfl (Nat.le_of_ble_eq_true rfl) dX5_setFlow_1 ⟨by decide, by decide⟩ ⟨by decide, by decide⟩) rfl rfl (fun F_4755 H locs hw hp_4756 => ?_)
  refine lv_iload_n hx hb dX5_setFlow_4 rfl (lv_at hl 2 rfl) ?_
  refine lv_iconst (v := nI 2) hx hb dX5_setFlow_5 (by decide) ?_
  refine lv_aload_n hx hb dX5_setFlow_6 rfl (lv_at hl 0 rfl) ?_
  have f_4757 : F_4755 (ad 0) = xO ad := (hp_4756 (ad 0) ).trans fx
  refine q_get C0 hw ((hL 0 (by omega))) f_4757 fw_X5_12 rfl dX5_setFlow_7 ?_
  have f_4758 : F_4755 (ad 22) = .inr (3, [.ref (ad 23), .int (nI (A.1.2.1)), .int (nI (A.1.2.2.1)), .int (nI (A.1.2.2.2.1)), .int (nI (A.1.2.2.2.2.1))]) := (hp_4756 (ad 22) ).trans hn.1
  refine q_get C0 hw ((hL 22 (by omega))) f_4758 fw_X5_66 rfl dX5_setFlow_10 ?_
  have f_4759 : F_4755 (ad 23) = .inr (2, [.int (nI (A.1.1)), .ref (ad 24), .ref (ad 25)]) := (hp_4756 (ad 23) ).trans hn.2.1
  refine q_get C0 hw ((hL 23 (by omega))) f_4759 fw_X5_70 rfl dX5_setFlow_13 ?_
  exact x_pass C0 ht hw hlk (x_runS (As := [.int (x9), .int (nI (2)), .int (nI (A.1.1))]) (x_X5_needPower l G L F_4755 (x9) 2 A.1.1 h9 hst) C0 hXw hw sw_X5_81 rfl hl.1 rfl (Nat.le_of_ble_eq_true rfl) dX5_setFlow_16 ⟨by decide, by decide⟩ ⟨by decide, by decide⟩) (funext (fun q  => (hp_4756 q ))) (by decide) (by decide) hQ
abbrev rx_X5_field : Room := { frames := 7, cells := 1, slots := 6, locals := 112 }
set_option maxHeartbeats 4000000 in
set_option maxRecDepth 100000 in
theorem x_X5_field_s (l : Launch) (G : Gl) (L : List Nat) (F : Nat → va_E) (ad : Nat → Nat) (hL : ∀ i, i < 166 → ad i ∈ L) (hin : ∀ i j, i < 166 → j < 166 → i ≠ j → ad i ≠ ad j) (A : AB) (x9 : Int32) (y9 : Int32) (h9 : ¬ inR x9 0 5) (hX : XW G F ad A) (hA : okA A) (hst : l.stackTraces = false) : XG l yX5_field cX5_field 3 (some .int) rx_X5_field G L F [.ref (ad 0), .int (x9), .int (y9)] "java/lang/IndexOutOfBoundsException" := by
  obtain ⟨fx, hn, hh, hsn, htx, hrk, ⟨u9, h134⟩, ⟨v9, h150⟩⟩ := hX
  obtain ⟨⟨hc2, hc, hpu, hok⟩, ⟨hh6, hho⟩, hso, hl60, hco⟩ := id hA
  refine XG_of (by decide) (Nat.le_of_ble_eq_true rfl) rfl ?_
  intro p e s m args below meth c Q C0 hXw hlk ht hQ hw ls hl
  have hx := C0.x
  have hb := C0.b
  refine lv_iload_n hx hb dX5_field_0 rfl (lv_at hl 1 rfl) ?_
  exact x_pass C0 ht hw hlk (x_runS (As := [.int (x9)]) (x_X5_needSlot l G L F (x9) h9 hst) C0 hXw hw sw_X5_78 rfl hl.1 rfl (Nat.le_of_ble_eq_true rfl) dX5_field_1 ⟨by decide, by decide⟩ ⟨by decide, by decide⟩) (funext (fun q  => rfl)) (by decide) (by decide) hQ
set_option maxHeartbeats 4000000 in
set_option maxRecDepth 100000 in
theorem x_X5_field_p (l : Launch) (G : Gl) (L : List Nat) (F : Nat → va_E) (ad : Nat → Nat) (hL : ∀ i, i < 166 → ad i ∈ L) (hin : ∀ i j, i < 166 → j < 166 → i ≠ j → ad i ≠ ad j) (A : AB) (f9 : Nat) (hf9 : f9 < 6) (x9 : Int32) (h9 : ¬ inR x9 0 6) (hX : XW G F ad A) (hA : okA A) (hst : l.stackTraces = false) : XG l yX5_field cX5_field 3 (some .int) rx_X5_field G L F [.ref (ad 0), .int (nI (f9)), .int (x9)] "java/lang/IndexOutOfBoundsException" := by
  obtain ⟨fx, hn, hh, hsn, htx, hrk, ⟨u9, h134⟩, ⟨v9, h150⟩⟩ := hX
  obtain ⟨⟨hc2, hc, hpu, hok⟩, ⟨hh6, hho⟩, hso, hl60, hco⟩ := id hA
  refine XG_of (by decide) (Nat.le_of_ble_eq_true rfl) rfl ?_
  intro p e s m args below meth c Q C0 hXw hlk ht hQ hw ls hl
  have hx := C0.x
  have hb := C0.b
  refine lv_iload_n hx hb dX5_field_0 rfl (lv_at hl 1 rfl) ?_
  refine q_callv hw (q_runS (As := [.int (nI (f9))]) (c_X5_needSlot l G L F f9 (by omega)) C0 hw sw_X5_78 rfl hl.1 rfl (Nat.le_of_ble_eq_true rfl) dX5_field_1 ⟨by decide, by decide⟩ ⟨by decide, by decide⟩) rfl rfl (fun F_4760 H locs hw hp_4761 => ?_)
  refine lv_iload_n hx hb dX5_field_4 rfl (lv_at hl 2 rfl) ?_
  refine lv_iconst (v := nI 0) hx hb dX5_field_5 (by decide) ?_
  refine lv_bipush (v := nI 6) hx hb dX5_field_6 (by decide) ?_
  exact x_pass C0 ht hw hlk (x_runS (As := [.int (x9), .int (nI (0)), .int (nI (6))]) (x_X5_needPower l G L F_4760 (x9) 0 6 h9 hst) C0 hXw hw sw_X5_81 rfl hl.1 rfl (Nat.le_of_ble_eq_true rfl) dX5_field_8 ⟨by decide, by decide⟩ ⟨by decide, by decide⟩) (funext (fun q  => (hp_4761 q ))) (by decide) (by decide) hQ
abbrev rx_X5_flow : Room := { frames := 7, cells := 1, slots := 6, locals := 112 }
set_option maxHeartbeats 4000000 in
set_option maxRecDepth 100000 in
theorem x_X5_flow_s (l : Launch) (G : Gl) (L : List Nat) (F : Nat → va_E) (ad : Nat → Nat) (hL : ∀ i, i < 166 → ad i ∈ L) (hin : ∀ i j, i < 166 → j < 166 → i ≠ j → ad i ≠ ad j) (A : AB) (x9 : Int32) (y9 : Int32) (h9 : ¬ inR x9 0 5) (hX : XW G F ad A) (hA : okA A) (hst : l.stackTraces = false) : XG l yX5_flow cX5_flow 3 (some .int) rx_X5_flow G L F [.ref (ad 0), .int (x9), .int (y9)] "java/lang/IndexOutOfBoundsException" := by
  obtain ⟨fx, hn, hh, hsn, htx, hrk, ⟨u9, h134⟩, ⟨v9, h150⟩⟩ := hX
  obtain ⟨⟨hc2, hc, hpu, hok⟩, ⟨hh6, hho⟩, hso, hl60, hco⟩ := id hA
  refine XG_of (by decide) (Nat.le_of_ble_eq_true rfl) rfl ?_
  intro p e s m args below meth c Q C0 hXw hlk ht hQ hw ls hl
  have hx := C0.x
  have hb := C0.b
  refine lv_iload_n hx hb dX5_flow_0 rfl (lv_at hl 1 rfl) ?_
  exact x_pass C0 ht hw hlk (x_runS (As := [.int (x9)]) (x_X5_needSlot l G L F (x9) h9 hst) C0 hXw hw sw_X5_78 rfl hl.1 rfl (Nat.le_of_ble_eq_true rfl) dX5_flow_1 ⟨by decide, by decide⟩ ⟨by decide, by decide⟩) (funext (fun q  => rfl)) (by decide) (by decide) hQ
set_option maxHeartbeats 4000000 in
set_option maxRecDepth 100000 in
theorem x_X5_flow_p (l : Launch) (G : Gl) (L : List Nat) (F : Nat → va_E) (ad : Nat → Nat) (hL : ∀ i, i < 166 → ad i ∈ L) (hin : ∀ i j, i < 166 → j < 166 → i ≠ j → ad i ≠ ad j) (A : AB) (f9 : Nat) (hf9 : f9 < 6) (x9 : Int32) (h9 : ¬ inR x9 0 6) (hX : XW G F ad A) (hA : okA A) (hst : l.stackTraces = false) : XG l yX5_flow cX5_flow 3 (some .int) rx_X5_flow G L F [.ref (ad 0), .int (nI (f9)), .int (x9)] "java/lang/IndexOutOfBoundsException" := by
  obtain ⟨fx, hn, hh, hsn, htx, hrk, ⟨u9, h134⟩, ⟨v9, h150⟩⟩ := hX
  obtain ⟨⟨hc2, hc, hpu, hok⟩, ⟨hh6, hho⟩, hso, hl60, hco⟩ := id hA
  refine XG_of (by decide) (Nat.le_of_ble_eq_true rfl) rfl ?_
  intro p e s m args below meth c Q C0 hXw hlk ht hQ hw ls hl
  have hx := C0.x
  have hb := C0.b
  refine lv_iload_n hx hb dX5_flow_0 rfl (lv_at hl 1 rfl) ?_
  refine q_callv hw (q_runS (As := [.int (nI (f9))]) (c_X5_needSlot l G L F f9 (by omega)) C0 hw sw_X5_78 rfl hl.1 rfl (Nat.le_of_ble_eq_true rfl) dX5_flow_1 ⟨by decide, by decide⟩ ⟨by decide, by decide⟩) rfl rfl (fun F_4762 H locs hw hp_4763 => ?_)
  refine lv_iload_n hx hb dX5_flow_4 rfl (lv_at hl 2 rfl) ?_
  refine lv_iconst (v := nI 0) hx hb dX5_flow_5 (by decide) ?_
  refine lv_bipush (v := nI 6) hx hb dX5_flow_6 (by decide) ?_
  exact x_pass C0 ht hw hlk (x_runS (As := [.int (x9), .int (nI (0)), .int (nI (6))]) (x_X5_needPower l G L F_4762 (x9) 0 6 h9 hst) C0 hXw hw sw_X5_81 rfl hl.1 rfl (Nat.le_of_ble_eq_true rfl) dX5_flow_8 ⟨by decide, by decide⟩ ⟨by decide, by decide⟩) (funext (fun q  => (hp_4763 q ))) (by decide) (by decide) hQ
abbrev rx_X5_earn : Room := { frames := 6, cells := 1, slots := 6, locals := 90 }
set_option maxHeartbeats 4000000 in
set_option maxRecDepth 100000 in
theorem x_X5_earn_a (l : Launch) (G : Gl) (L : List Nat) (F : Nat → va_E) (ad : Nat → Nat) (hL : ∀ i, i < 166 → ad i ∈ L) (hin : ∀ i j, i < 166 → j < 166 → i ≠ j → ad i ≠ ad j) (A : AB) (x9 : Int32) (h9 : ¬ inR x9 1 1000) (hX : XW G F ad A) (hA : okA A) (hst : l.stackTraces = false) : XG l yX5_earn cX5_earn 2 (some .int) rx_X5_earn G L F [.ref (ad 0), .int (x9)] "java/lang/IllegalArgumentException" := by
  obtain ⟨fx, hn, hh, hsn, htx, hrk, ⟨u9, h134⟩, ⟨v9, h150⟩⟩ := hX
  obtain ⟨⟨hc2, hc, hpu, hok⟩, ⟨hh6, hho⟩, hso, hl60, hco⟩ := id hA
  refine XG_of (by decide) (Nat.le_of_ble_eq_true rfl) rfl ?_
  intro p e s m args below meth c Q C0 hXw hlk ht hQ hw ls hl
  have hx := C0.x
  have hb := C0.b
  refine lv_iload_n hx hb dX5_earn_0 rfl (lv_at hl 1 rfl) ?_
  refine lv_iconst (v := nI 1) hx hb dX5_earn_1 (by decide) ?_
  refine lv_icmp_lt (tgt := 12) hx hb dX5_earn_2 (by decide) (fun c_2 => ?_) (fun c_2 => ?_)
  · skip
    exact x_throw C0 hXw hst ht hw (text := "money is 1 to 1000") (names := ["java/lang/RuntimeException", "java/lang/Exception"]) (by decide) (by decide) xk_IAE xi_IAE xa_IAE (by decide) hl.1 dX5_earn_12 dX5_earn_15 dX5_earn_16 dX5_earn_18 dX5_earn_21 hlk (by decide) (by decide) (by decide) (by decide) (by decide) (by decide) hQ
  · skip
    refine lv_iload_n hx hb dX5_earn_5 rfl (lv_at hl 1 rfl) ?_
    refine lv_sipush (v := nI 1000) hx hb dX5_earn_6 (by decide) ?_
    refine lv_icmp_le (tgt := 22) hx hb dX5_earn_9 (by decide) (fun c_9 => ?_) (fun c_9 => ?_)
    · skip
      exact absurd ⟨le_1 c_2, c_9⟩ h9
    · skip
      exact x_throw C0 hXw hst ht hw (text := "money is 1 to 1000") (names := ["java/lang/RuntimeException", "java/lang/Exception"]) (by decide) (by decide) xk_IAE xi_IAE xa_IAE (by decide) hl.1 dX5_earn_12 dX5_earn_15 dX5_earn_16 dX5_earn_18 dX5_earn_21 hlk (by decide) (by decide) (by decide) (by decide) (by decide) (by decide) hQ
set_option maxHeartbeats 4000000 in
set_option maxRecDepth 100000 in
theorem x_X5_earn_b (l : Launch) (G : Gl) (L : List Nat) (F : Nat → va_E) (ad : Nat → Nat) (hL : ∀ i, i < 166 → ad i ∈ L) (hin : ∀ i j, i < 166 → j < 166 → i ≠ j → ad i ≠ ad j) (A : AB) (m9 : Nat) (hm1 : 1 ≤ m9) (hm2 : m9 ≤ 1000) (h9 : 100000 < A.1.2.1 + m9) (hX : XW G F ad A) (hA : okA A) (hst : l.stackTraces = false) : XG l yX5_earn cX5_earn 2 (some .int) rx_X5_earn G L F [.ref (ad 0), .int (nI (m9))] "java/lang/IllegalStateException" := by
  obtain ⟨fx, hn, hh, hsn, htx, hrk, ⟨u9, h134⟩, ⟨v9, h150⟩⟩ := hX
  obtain ⟨⟨hc2, hc, hpu, hok⟩, ⟨hh6, hho⟩, hso, hl60, hco⟩ := id hA
  refine XG_of (by decide) (Nat.le_of_ble_eq_true rfl) rfl ?_
  intro p e s m args below meth c Q C0 hXw hlk ht hQ hw ls hl
  have hx := C0.x
  have hb := C0.b
  refine lv_iload_n hx hb dX5_earn_0 rfl (lv_at hl 1 rfl) ?_
  refine lv_iconst (v := nI 1) hx hb dX5_earn_1 (by decide) ?_
  refine n_icmp_lt (tgt := 12) hx hb dX5_earn_2 (by decide) (by omega) (by decide) (fun c_2 => ?_) (fun c_2 => ?_)
  · skip
    exact absurd c_2 (by omega)
  · skip
    refine lv_iload_n hx hb dX5_earn_5 rfl (lv_at hl 1 rfl) ?_
    refine lv_sipush (v := nI 1000) hx hb dX5_earn_6 (by decide) ?_
    refine n_icmp_le (tgt := 22) hx hb dX5_earn_9 (by decide) (by omega) (by decide) (fun c_9 => ?_) (fun c_9 => ?_)
    · skip
      refine lv_aload_n hx hb dX5_earn_22 rfl (lv_at hl 0 rfl) ?_
      refine q_get C0 hw ((hL 0 (by omega))) fx fw_X5_12 rfl dX5_earn_23 ?_
      refine q_get C0 hw ((hL 22 (by omega))) hn.1 fw_X5_98 rfl dX5_earn_26 ?_
      refine lv_ldc (v := nI (100000)) hx hb C0.ow (C0.ts _ kw_X5_101) dX5_earn_29 ?_
      refine lv_iload_n hx hb dX5_earn_31 rfl (lv_at hl 1 rfl) ?_
      refine n_isub hx hb (by omega) dX5_earn_32 ?_
      refine n_icmp_le (tgt := 46) hx hb dX5_earn_33 (by decide) (by omega) (by omega) (fun c_33 => ?_) (fun c_33 => ?_)
      · skip
        exact absurd c_33 (by omega)
      · skip
        exact x_throw C0 hXw hst ht hw (text := "the purse holds at most 100000") (names := ["java/lang/RuntimeException", "java/lang/Exception"]) (by decide) (by decide) xk_ISE xi_ISE xa_ISE (by decide) hl.1 dX5_earn_36 dX5_earn_39 dX5_earn_40 dX5_earn_42 dX5_earn_45 hlk (by decide) (by decide) (by decide) (by decide) (by decide) (by decide) hQ
    · skip
      exact absurd c_9 (by omega)
abbrev rx_X5_orderAlone : Room := { frames := 7, cells := 1, slots := 6, locals := 111 }
set_option maxHeartbeats 4000000 in
set_option maxRecDepth 100000 in
theorem x_X5_orderAlone_1 (l : Launch) (G : Gl) (L : List Nat) (F : Nat → va_E) (ad : Nat → Nat) (hL : ∀ i, i < 166 → ad i ∈ L) (hin : ∀ i j, i < 166 → j < 166 → i ≠ j → ad i ≠ ad j) (A : AB) (x9 : Int32) (l9 y9 z9 : Int32) (h9 : ¬ inR x9 0 5) (hX : XW G F ad A) (hA : okA A) (hst : l.stackTraces = false) : XG l yX5_orderAlone cX5_orderAlone 5 (some .int) rx_X5_orderAlone G L F [.ref (ad 0), .int (l9), .int (x9), .int (y9), .int (z9)] "java/lang/IndexOutOfBoundsException" := by
  obtain ⟨fx, hn, hh, hsn, htx, hrk, ⟨u9, h134⟩, ⟨v9, h150⟩⟩ := hX
  obtain ⟨⟨hc2, hc, hpu, hok⟩, ⟨hh6, hho⟩, hso, hl60, hco⟩ := id hA
  refine XG_of (by decide) (Nat.le_of_ble_eq_true rfl) rfl ?_
  intro p e s m args below meth c Q C0 hXw hlk ht hQ hw ls hl
  have hx := C0.x
  have hb := C0.b
  refine lv_iload_n hx hb dX5_orderAlone_0 rfl (lv_at hl 2 rfl) ?_
  exact x_pass C0 ht hw hlk (x_runS (As := [.int (x9)]) (x_X5_needSlot l G L F (x9) h9 hst) C0 hXw hw sw_X5_78 rfl hl.1 rfl (Nat.le_of_ble_eq_true rfl) dX5_orderAlone_1 ⟨by decide, by decide⟩ ⟨by decide, by decide⟩) (funext (fun q  => rfl)) (by decide) (by decide) hQ
set_option maxHeartbeats 4000000 in
set_option maxRecDepth 100000 in
theorem x_X5_orderAlone_2 (l : Launch) (G : Gl) (L : List Nat) (F : Nat → va_E) (ad : Nat → Nat) (hL : ∀ i, i < 166 → ad i ∈ L) (hin : ∀ i j, i < 166 → j < 166 → i ≠ j → ad i ≠ ad j) (A : AB) (f9 : Nat) (hf9 : f9 < 6) (x9 : Int32) (l9 z9 : Int32) (h9 : ¬ inR x9 0 5) (hX : XW G F ad A) (hA : okA A) (hst : l.stackTraces = false) : XG l yX5_orderAlone cX5_orderAlone 5 (some .int) rx_X5_orderAlone G L F [.ref (ad 0), .int (l9), .int (nI (f9)), .int (x9), .int (z9)] "java/lang/IndexOutOfBoundsException" := by
  obtain ⟨fx, hn, hh, hsn, htx, hrk, ⟨u9, h134⟩, ⟨v9, h150⟩⟩ := hX
  obtain ⟨⟨hc2, hc, hpu, hok⟩, ⟨hh6, hho⟩, hso, hl60, hco⟩ := id hA
  refine XG_of (by decide) (Nat.le_of_ble_eq_true rfl) rfl ?_
  intro p e s m args below meth c Q C0 hXw hlk ht hQ hw ls hl
  have hx := C0.x
  have hb := C0.b
  refine lv_iload_n hx hb dX5_orderAlone_0 rfl (lv_at hl 2 rfl) ?_
  refine q_callv hw (q_runS (As := [.int (nI (f9))]) (c_X5_needSlot l G L F f9 (by omega)) C0 hw sw_X5_78 rfl hl.1 rfl (Nat.le_of_ble_eq_true rfl) dX5_orderAlone_1 ⟨by decide, by decide⟩ ⟨by decide, by decide⟩) rfl rfl (fun F_4764 H locs hw hp_4765 => ?_)
  refine lv_iload_n hx hb dX5_orderAlone_4 rfl (lv_at hl 3 rfl) ?_
  exact x_pass C0 ht hw hlk (x_runS (As := [.int (x9)]) (x_X5_needSlot l G L F_4764 (x9) h9 hst) C0 hXw hw sw_X5_78 rfl hl.1 rfl (Nat.le_of_ble_eq_true rfl) dX5_orderAlone_5 ⟨by decide, by decide⟩ ⟨by decide, by decide⟩) (funext (fun q  => (hp_4765 q ))) (by decide) (by decide) hQ
set_option maxHeartbeats 4000000 in
set_option maxRecDepth 100000 in
theorem x_X5_orderAlone_3 (l : Launch) (G : Gl) (L : List Nat) (F : Nat → va_E) (ad : Nat → Nat) (hL : ∀ i, i < 166 → ad i ∈ L) (hin : ∀ i j, i < 166 → j < 166 → i ≠ j → ad i ≠ ad j) (A : AB) (f9 g9 : Nat) (hf9 : f9 < 6) (hg9 : g9 < 6) (x9 : Int32) (l9 : Int32) (h9 : ¬ inR x9 0 5) (hX : XW G F ad A) (hA : okA A) (hst : l.stackTraces = false) : XG l yX5_orderAlone cX5_orderAlone 5 (some .int) rx_X5_orderAlone G L F [.ref (ad 0), .int (l9), .int (nI (f9)), .int (nI (g9)), .int (x9)] "java/lang/IndexOutOfBoundsException" := by
  obtain ⟨fx, hn, hh, hsn, htx, hrk, ⟨u9, h134⟩, ⟨v9, h150⟩⟩ := hX
  obtain ⟨⟨hc2, hc, hpu, hok⟩, ⟨hh6, hho⟩, hso, hl60, hco⟩ := id hA
  refine XG_of (by decide) (Nat.le_of_ble_eq_true rfl) rfl ?_
  intro p e s m args below meth c Q C0 hXw hlk ht hQ hw ls hl
  have hx := C0.x
  have hb := C0.b
  refine lv_iload_n hx hb dX5_orderAlone_0 rfl (lv_at hl 2 rfl) ?_
  refine q_callv hw (q_runS (As := [.int (nI (f9))]) (c_X5_needSlot l G L F f9 (by omega)) C0 hw sw_X5_78 rfl hl.1 rfl (Nat.le_of_ble_eq_true rfl) dX5_orderAlone_1 ⟨by decide, by decide⟩ ⟨by decide, by decide⟩) rfl rfl (fun F_4766 H locs hw hp_4767 => ?_)
  refine lv_iload_n hx hb dX5_orderAlone_4 rfl (lv_at hl 3 rfl) ?_
  refine q_callv hw (q_runS (As := [.int (nI (g9))]) (c_X5_needSlot l G L F_4766 g9 (by omega)) C0 hw sw_X5_78 rfl hl.1 rfl (Nat.le_of_ble_eq_true rfl) dX5_orderAlone_5 ⟨by decide, by decide⟩ ⟨by decide, by decide⟩) rfl rfl (fun F_4768 H locs hw hp_4769 => ?_)
  refine lv_iload hx hb dX5_orderAlone_8 (lv_at hl 4 rfl) ?_
  exact x_pass C0 ht hw hlk (x_runS (As := [.int (x9)]) (x_X5_needSlot l G L F_4768 (x9) h9 hst) C0 hXw hw sw_X5_78 rfl hl.1 rfl (Nat.le_of_ble_eq_true rfl) dX5_orderAlone_10 ⟨by decide, by decide⟩ ⟨by decide, by decide⟩) (funext (fun q  => ((hp_4769 q ).trans (hp_4767 q )))) (by decide) (by decide) hQ
set_option maxHeartbeats 4000000 in
set_option maxRecDepth 100000 in
theorem x_X5_orderAlone_m98 (l : Launch) (G : Gl) (L : List Nat) (F : Nat → va_E) (ad : Nat → Nat) (hL : ∀ i, i < 166 → ad i ∈ L) (hin : ∀ i j, i < 166 → j < 166 → i ≠ j → ad i ≠ ad j) (A : AB) (f9 g9 t9 : Nat) (hf9 : f9 < 6) (hg9 : g9 < 6) (ht9 : t9 < 6) (h9 : A.1.2.1 < 2 * A.1.1) (hX : XW G F ad A) (hA : okA A) (hst : l.stackTraces = false) : XG l yX5_orderAlone cX5_orderAlone 5 (some .int) rx_X5_orderAlone G L F [.ref (ad 0), .int (nI (98)), .int (nI (f9)), .int (nI (g9)), .int (nI (t9))] "java/lang/IllegalStateException" := by
  obtain ⟨fx, hn, hh, hsn, htx, hrk, ⟨u9, h134⟩, ⟨v9, h150⟩⟩ := hX
  obtain ⟨⟨hc2, hc, hpu, hok⟩, ⟨hh6, hho⟩, hso, hl60, hco⟩ := id hA
  refine XG_of (by decide) (Nat.le_of_ble_eq_true rfl) rfl ?_
  intro p e s m args below meth c Q C0 hXw hlk ht hQ hw ls hl
  have hx := C0.x
  have hb := C0.b
  refine lv_iload_n hx hb dX5_orderAlone_0 rfl (lv_at hl 2 rfl) ?_
  refine q_callv hw (q_runS (As := [.int (nI (f9))]) (c_X5_needSlot l G L F f9 (by omega)) C0 hw sw_X5_78 rfl hl.1 rfl (Nat.le_of_ble_eq_true rfl) dX5_orderAlone_1 ⟨by decide, by decide⟩ ⟨by decide, by decide⟩) rfl rfl (fun F_4770 H locs hw hp_4771 => ?_)
  refine lv_iload_n hx hb dX5_orderAlone_4 rfl (lv_at hl 3 rfl) ?_
  refine q_callv hw (q_runS (As := [.int (nI (g9))]) (c_X5_needSlot l G L F_4770 g9 (by omega)) C0 hw sw_X5_78 rfl hl.1 rfl (Nat.le_of_ble_eq_true rfl) dX5_orderAlone_5 ⟨by decide, by decide⟩ ⟨by decide, by decide⟩) rfl rfl (fun F_4772 H locs hw hp_4773 => ?_)
  refine lv_iload hx hb dX5_orderAlone_8 (lv_at hl 4 rfl) ?_
  refine q_callv hw (q_runS (As := [.int (nI (t9))]) (c_X5_needSlot l G L F_4772 t9 (by omega)) C0 hw sw_X5_78 rfl hl.1 rfl (Nat.le_of_ble_eq_true rfl) dX5_orderAlone_10 ⟨by decide, by decide⟩ ⟨by decide, by decide⟩) rfl rfl (fun F_4774 H locs hw hp_4775 => ?_)
  refine lv_aload_n hx hb dX5_orderAlone_13 rfl (lv_at hl 0 rfl) ?_
  refine lv_iload_n hx hb dX5_orderAlone_14 rfl (lv_at hl 1 rfl) ?_
  refine q_calli hw (q_runS (As := [.int (nI (98))]) (c_X5_unitsOf_98 l G L F_4774 ) C0 hw sw_X5_225 rfl hl.1 rfl (Nat.le_of_ble_eq_true rfl) dX5_orderAlone_15 ⟨by decide, by decide⟩ ⟨by decide, by decide⟩) rfl rfl (fun r_4778 F_4776 H locs hw hp_4777 => ?_)
  obtain ⟨he_4779, o_4780⟩ := hp_4777
  subst he_4779
  have f_4781 : F_4770 (ad 0) = xO ad := (hp_4771 (ad 0) ).trans fx
  have f_4782 : F_4772 (ad 0) = xO ad := (hp_4773 (ad 0) ).trans f_4781
  have f_4783 : F_4774 (ad 0) = xO ad := (hp_4775 (ad 0) ).trans f_4782
  have f_4784 : F_4776 (ad 0) = xO ad := (o_4780 (ad 0) ).trans f_4783
  exact x_pass C0 ht hw hlk (x_runV (As := [.int (nI (2))]) (x_X5_needMoney l G L F_4776 ad hL hin 2 A.1 f_4784 (hn.keep (fun i0 hi => ((o_4780 (ad (i0)) )).trans (((hp_4775 (ad (i0)) )).trans (((hp_4773 (ad (i0)) )).trans ((hp_4771 (ad (i0)) )))))) h9 hpu (by omega) hc (by omega) hst) C0 hXw hw vw_X5_111 ((hL 0 (by omega))) f_4784 rfl rfl rfl hl.1 rfl (Nat.le_of_ble_eq_true rfl) dX5_orderAlone_18 ⟨by decide, by decide⟩ ⟨by decide, by decide⟩) (funext (fun q  => ((o_4780 q ).trans ((hp_4775 q ).trans ((hp_4773 q ).trans (hp_4771 q )))))) (by decide) (by decide) hQ
set_option maxHeartbeats 4000000 in
set_option maxRecDepth 100000 in
theorem x_X5_orderAlone_m115 (l : Launch) (G : Gl) (L : List Nat) (F : Nat → va_E) (ad : Nat → Nat) (hL : ∀ i, i < 166 → ad i ∈ L) (hin : ∀ i j, i < 166 → j < 166 → i ≠ j → ad i ≠ ad j) (A : AB) (f9 g9 t9 : Nat) (hf9 : f9 < 6) (hg9 : g9 < 6) (ht9 : t9 < 6) (h9 : A.1.2.1 < 1 * A.1.1) (hX : XW G F ad A) (hA : okA A) (hst : l.stackTraces = false) : XG l yX5_orderAlone cX5_orderAlone 5 (some .int) rx_X5_orderAlone G L F [.ref (ad 0), .int (nI (115)), .int (nI (f9)), .int (nI (g9)), .int (nI (t9))] "java/lang/IllegalStateException" := by
  obtain ⟨fx, hn, hh, hsn, htx, hrk, ⟨u9, h134⟩, ⟨v9, h150⟩⟩ := hX
  obtain ⟨⟨hc2, hc, hpu, hok⟩, ⟨hh6, hho⟩, hso, hl60, hco⟩ := id hA
  refine XG_of (by decide) (Nat.le_of_ble_eq_true rfl) rfl ?_
  intro p e s m args below meth c Q C0 hXw hlk ht hQ hw ls hl
  have hx := C0.x
  have hb := C0.b
  refine lv_iload_n hx hb dX5_orderAlone_0 rfl (lv_at hl 2 rfl) ?_
  refine q_callv hw (q_runS (As := [.int (nI (f9))]) (c_X5_needSlot l G L F f9 (by omega)) C0 hw sw_X5_78 rfl hl.1 rfl (Nat.le_of_ble_eq_true rfl) dX5_orderAlone_1 ⟨by decide, by decide⟩ ⟨by decide, by decide⟩) rfl rfl (fun F_4785 H locs hw hp_4786 => ?_)
  refine lv_iload_n hx hb dX5_orderAlone_4 rfl (lv_at hl 3 rfl) ?_
  refine q_callv hw (q_runS (As := [.int (nI (g9))]) (c_X5_needSlot l G L F_4785 g9 (by omega)) C0 hw sw_X5_78 rfl hl.1 rfl (Nat.le_of_ble_eq_true rfl) dX5_orderAlone_5 ⟨by decide, by decide⟩ ⟨by decide, by decide⟩) rfl rfl (fun F_4787 H locs hw hp_4788 => ?_)
  refine lv_iload hx hb dX5_orderAlone_8 (lv_at hl 4 rfl) ?_
  refine q_callv hw (q_runS (As := [.int (nI (t9))]) (c_X5_needSlot l G L F_4787 t9 (by omega)) C0 hw sw_X5_78 rfl hl.1 rfl (Nat.le_of_ble_eq_true rfl) dX5_orderAlone_10 ⟨by decide, by decide⟩ ⟨by decide, by decide⟩) rfl rfl (fun F_4789 H locs hw hp_4790 => ?_)
  refine lv_aload_n hx hb dX5_orderAlone_13 rfl (lv_at hl 0 rfl) ?_
  refine lv_iload_n hx hb dX5_orderAlone_14 rfl (lv_at hl 1 rfl) ?_
  refine q_calli hw (q_runS (As := [.int (nI (115))]) (c_X5_unitsOf_115 l G L F_4789 ) C0 hw sw_X5_225 rfl hl.1 rfl (Nat.le_of_ble_eq_true rfl) dX5_orderAlone_15 ⟨by decide, by decide⟩ ⟨by decide, by decide⟩) rfl rfl (fun r_4793 F_4791 H locs hw hp_4792 => ?_)
  obtain ⟨he_4794, o_4795⟩ := hp_4792
  subst he_4794
  have f_4796 : F_4785 (ad 0) = xO ad := (hp_4786 (ad 0) ).trans fx
  have f_4797 : F_4787 (ad 0) = xO ad := (hp_4788 (ad 0) ).trans f_4796
  have f_4798 : F_4789 (ad 0) = xO ad := (hp_4790 (ad 0) ).trans f_4797
  have f_4799 : F_4791 (ad 0) = xO ad := (o_4795 (ad 0) ).trans f_4798
  exact x_pass C0 ht hw hlk (x_runV (As := [.int (nI (1))]) (x_X5_needMoney l G L F_4791 ad hL hin 1 A.1 f_4799 (hn.keep (fun i0 hi => ((o_4795 (ad (i0)) )).trans (((hp_4790 (ad (i0)) )).trans (((hp_4788 (ad (i0)) )).trans ((hp_4786 (ad (i0)) )))))) h9 hpu (by omega) hc (by omega) hst) C0 hXw hw vw_X5_111 ((hL 0 (by omega))) f_4799 rfl rfl rfl hl.1 rfl (Nat.le_of_ble_eq_true rfl) dX5_orderAlone_18 ⟨by decide, by decide⟩ ⟨by decide, by decide⟩) (funext (fun q  => ((o_4795 q ).trans ((hp_4790 q ).trans ((hp_4788 q ).trans (hp_4786 q )))))) (by decide) (by decide) hQ
set_option maxHeartbeats 4000000 in
set_option maxRecDepth 100000 in
theorem x_X5_orderAlone_m119 (l : Launch) (G : Gl) (L : List Nat) (F : Nat → va_E) (ad : Nat → Nat) (hL : ∀ i, i < 166 → ad i ∈ L) (hin : ∀ i j, i < 166 → j < 166 → i ≠ j → ad i ≠ ad j) (A : AB) (f9 g9 t9 : Nat) (hf9 : f9 < 6) (hg9 : g9 < 6) (ht9 : t9 < 6) (h9 : A.1.2.1 < 20 * A.1.1) (hX : XW G F ad A) (hA : okA A) (hst : l.stackTraces = false) : XG l yX5_orderAlone cX5_orderAlone 5 (some .int) rx_X5_orderAlone G L F [.ref (ad 0), .int (nI (119)), .int (nI (f9)), .int (nI (g9)), .int (nI (t9))] "java/lang/IllegalStateException" := by
  obtain ⟨fx, hn, hh, hsn, htx, hrk, ⟨u9, h134⟩, ⟨v9, h150⟩⟩ := hX
  obtain ⟨⟨hc2, hc, hpu, hok⟩, ⟨hh6, hho⟩, hso, hl60, hco⟩ := id hA
  refine XG_of (by decide) (Nat.le_of_ble_eq_true rfl) rfl ?_
  intro p e s m args below meth c Q C0 hXw hlk ht hQ hw ls hl
  have hx := C0.x
  have hb := C0.b
  refine lv_iload_n hx hb dX5_orderAlone_0 rfl (lv_at hl 2 rfl) ?_
  refine q_callv hw (q_runS (As := [.int (nI (f9))]) (c_X5_needSlot l G L F f9 (by omega)) C0 hw sw_X5_78 rfl hl.1 rfl (Nat.le_of_ble_eq_true rfl) dX5_orderAlone_1 ⟨by decide, by decide⟩ ⟨by decide, by decide⟩) rfl rfl (fun F_4800 H locs hw hp_4801 => ?_)
  refine lv_iload_n hx hb dX5_orderAlone_4 rfl (lv_at hl 3 rfl) ?_
  refine q_callv hw (q_runS (As := [.int (nI (g9))]) (c_X5_needSlot l G L F_4800 g9 (by omega)) C0 hw sw_X5_78 rfl hl.1 rfl (Nat.le_of_ble_eq_true rfl) dX5_orderAlone_5 ⟨by decide, by decide⟩ ⟨by decide, by decide⟩) rfl rfl (fun F_4802 H locs hw hp_4803 => ?_)
  refine lv_iload hx hb dX5_orderAlone_8 (lv_at hl 4 rfl) ?_
  refine q_callv hw (q_runS (As := [.int (nI (t9))]) (c_X5_needSlot l G L F_4802 t9 (by omega)) C0 hw sw_X5_78 rfl hl.1 rfl (Nat.le_of_ble_eq_true rfl) dX5_orderAlone_10 ⟨by decide, by decide⟩ ⟨by decide, by decide⟩) rfl rfl (fun F_4804 H locs hw hp_4805 => ?_)
  refine lv_aload_n hx hb dX5_orderAlone_13 rfl (lv_at hl 0 rfl) ?_
  refine lv_iload_n hx hb dX5_orderAlone_14 rfl (lv_at hl 1 rfl) ?_
  refine q_calli hw (q_runS (As := [.int (nI (119))]) (c_X5_unitsOf_119 l G L F_4804 ) C0 hw sw_X5_225 rfl hl.1 rfl (Nat.le_of_ble_eq_true rfl) dX5_orderAlone_15 ⟨by decide, by decide⟩ ⟨by decide, by decide⟩) rfl rfl (fun r_4808 F_4806 H locs hw hp_4807 => ?_)
  obtain ⟨he_4809, o_4810⟩ := hp_4807
  subst he_4809
  have f_4811 : F_4800 (ad 0) = xO ad := (hp_4801 (ad 0) ).trans fx
  have f_4812 : F_4802 (ad 0) = xO ad := (hp_4803 (ad 0) ).trans f_4811
  have f_4813 : F_4804 (ad 0) = xO ad := (hp_4805 (ad 0) ).trans f_4812
  have f_4814 : F_4806 (ad 0) = xO ad := (o_4810 (ad 0) ).trans f_4813
  exact x_pass C0 ht hw hlk (x_runV (As := [.int (nI (20))]) (x_X5_needMoney l G L F_4806 ad hL hin 20 A.1 f_4814 (hn.keep (fun i0 hi => ((o_4810 (ad (i0)) )).trans (((hp_4805 (ad (i0)) )).trans (((hp_4803 (ad (i0)) )).trans ((hp_4801 (ad (i0)) )))))) h9 hpu (by omega) hc (by omega) hst) C0 hXw hw vw_X5_111 ((hL 0 (by omega))) f_4814 rfl rfl rfl hl.1 rfl (Nat.le_of_ble_eq_true rfl) dX5_orderAlone_18 ⟨by decide, by decide⟩ ⟨by decide, by decide⟩) (funext (fun q  => ((o_4810 q ).trans ((hp_4805 q ).trans ((hp_4803 q ).trans (hp_4801 q )))))) (by decide) (by decide) hQ
set_option maxHeartbeats 4000000 in
set_option maxRecDepth 100000 in
theorem x_X5_orderAlone_m112 (l : Launch) (G : Gl) (L : List Nat) (F : Nat → va_E) (ad : Nat → Nat) (hL : ∀ i, i < 166 → ad i ∈ L) (hin : ∀ i j, i < 166 → j < 166 → i ≠ j → ad i ≠ ad j) (A : AB) (f9 g9 t9 : Nat) (hf9 : f9 < 6) (hg9 : g9 < 6) (ht9 : t9 < 6) (h9 : A.1.2.1 < 6 * A.1.1) (hX : XW G F ad A) (hA : okA A) (hst : l.stackTraces = false) : XG l yX5_orderAlone cX5_orderAlone 5 (some .int) rx_X5_orderAlone G L F [.ref (ad 0), .int (nI (112)), .int (nI (f9)), .int (nI (g9)), .int (nI (t9))] "java/lang/IllegalStateException" := by
  obtain ⟨fx, hn, hh, hsn, htx, hrk, ⟨u9, h134⟩, ⟨v9, h150⟩⟩ := hX
  obtain ⟨⟨hc2, hc, hpu, hok⟩, ⟨hh6, hho⟩, hso, hl60, hco⟩ := id hA
  refine XG_of (by decide) (Nat.le_of_ble_eq_true rfl) rfl ?_
  intro p e s m args below meth c Q C0 hXw hlk ht hQ hw ls hl
  have hx := C0.x
  have hb := C0.b
  refine lv_iload_n hx hb dX5_orderAlone_0 rfl (lv_at hl 2 rfl) ?_
  refine q_callv hw (q_runS (As := [.int (nI (f9))]) (c_X5_needSlot l G L F f9 (by omega)) C0 hw sw_X5_78 rfl hl.1 rfl (Nat.le_of_ble_eq_true rfl) dX5_orderAlone_1 ⟨by decide, by decide⟩ ⟨by decide, by decide⟩) rfl rfl (fun F_4815 H locs hw hp_4816 => ?_)
  refine lv_iload_n hx hb dX5_orderAlone_4 rfl (lv_at hl 3 rfl) ?_
  refine q_callv hw (q_runS (As := [.int (nI (g9))]) (c_X5_needSlot l G L F_4815 g9 (by omega)) C0 hw sw_X5_78 rfl hl.1 rfl (Nat.le_of_ble_eq_true rfl) dX5_orderAlone_5 ⟨by decide, by decide⟩ ⟨by decide, by decide⟩) rfl rfl (fun F_4817 H locs hw hp_4818 => ?_)
  refine lv_iload hx hb dX5_orderAlone_8 (lv_at hl 4 rfl) ?_
  refine q_callv hw (q_runS (As := [.int (nI (t9))]) (c_X5_needSlot l G L F_4817 t9 (by omega)) C0 hw sw_X5_78 rfl hl.1 rfl (Nat.le_of_ble_eq_true rfl) dX5_orderAlone_10 ⟨by decide, by decide⟩ ⟨by decide, by decide⟩) rfl rfl (fun F_4819 H locs hw hp_4820 => ?_)
  refine lv_aload_n hx hb dX5_orderAlone_13 rfl (lv_at hl 0 rfl) ?_
  refine lv_iload_n hx hb dX5_orderAlone_14 rfl (lv_at hl 1 rfl) ?_
  refine q_calli hw (q_runS (As := [.int (nI (112))]) (c_X5_unitsOf_112 l G L F_4819 ) C0 hw sw_X5_225 rfl hl.1 rfl (Nat.le_of_ble_eq_true rfl) dX5_orderAlone_15 ⟨by decide, by decide⟩ ⟨by decide, by decide⟩) rfl rfl (fun r_4823 F_4821 H locs hw hp_4822 => ?_)
  obtain ⟨he_4824, o_4825⟩ := hp_4822
  subst he_4824
  have f_4826 : F_4815 (ad 0) = xO ad := (hp_4816 (ad 0) ).trans fx
  have f_4827 : F_4817 (ad 0) = xO ad := (hp_4818 (ad 0) ).trans f_4826
  have f_4828 : F_4819 (ad 0) = xO ad := (hp_4820 (ad 0) ).trans f_4827
  have f_4829 : F_4821 (ad 0) = xO ad := (o_4825 (ad 0) ).trans f_4828
  exact x_pass C0 ht hw hlk (x_runV (As := [.int (nI (6))]) (x_X5_needMoney l G L F_4821 ad hL hin 6 A.1 f_4829 (hn.keep (fun i0 hi => ((o_4825 (ad (i0)) )).trans (((hp_4820 (ad (i0)) )).trans (((hp_4818 (ad (i0)) )).trans ((hp_4816 (ad (i0)) )))))) h9 hpu (by omega) hc (by omega) hst) C0 hXw hw vw_X5_111 ((hL 0 (by omega))) f_4829 rfl rfl rfl hl.1 rfl (Nat.le_of_ble_eq_true rfl) dX5_orderAlone_18 ⟨by decide, by decide⟩ ⟨by decide, by decide⟩) (funext (fun q  => ((o_4825 q ).trans ((hp_4820 q ).trans ((hp_4818 q ).trans (hp_4816 q )))))) (by decide) (by decide) hQ
set_option maxHeartbeats 4000000 in
set_option maxRecDepth 100000 in
theorem x_X5_orderAlone_m108 (l : Launch) (G : Gl) (L : List Nat) (F : Nat → va_E) (ad : Nat → Nat) (hL : ∀ i, i < 166 → ad i ∈ L) (hin : ∀ i j, i < 166 → j < 166 → i ≠ j → ad i ≠ ad j) (A : AB) (f9 g9 t9 : Nat) (hf9 : f9 < 6) (hg9 : g9 < 6) (ht9 : t9 < 6) (h9 : A.1.2.1 < 6 * A.1.1) (hX : XW G F ad A) (hA : okA A) (hst : l.stackTraces = false) : XG l yX5_orderAlone cX5_orderAlone 5 (some .int) rx_X5_orderAlone G L F [.ref (ad 0), .int (nI (108)), .int (nI (f9)), .int (nI (g9)), .int (nI (t9))] "java/lang/IllegalStateException" := by
  obtain ⟨fx, hn, hh, hsn, htx, hrk, ⟨u9, h134⟩, ⟨v9, h150⟩⟩ := hX
  obtain ⟨⟨hc2, hc, hpu, hok⟩, ⟨hh6, hho⟩, hso, hl60, hco⟩ := id hA
  refine XG_of (by decide) (Nat.le_of_ble_eq_true rfl) rfl ?_
  intro p e s m args below meth c Q C0 hXw hlk ht hQ hw ls hl
  have hx := C0.x
  have hb := C0.b
  refine lv_iload_n hx hb dX5_orderAlone_0 rfl (lv_at hl 2 rfl) ?_
  refine q_callv hw (q_runS (As := [.int (nI (f9))]) (c_X5_needSlot l G L F f9 (by omega)) C0 hw sw_X5_78 rfl hl.1 rfl (Nat.le_of_ble_eq_true rfl) dX5_orderAlone_1 ⟨by decide, by decide⟩ ⟨by decide, by decide⟩) rfl rfl (fun F_4830 H locs hw hp_4831 => ?_)
  refine lv_iload_n hx hb dX5_orderAlone_4 rfl (lv_at hl 3 rfl) ?_
  refine q_callv hw (q_runS (As := [.int (nI (g9))]) (c_X5_needSlot l G L F_4830 g9 (by omega)) C0 hw sw_X5_78 rfl hl.1 rfl (Nat.le_of_ble_eq_true rfl) dX5_orderAlone_5 ⟨by decide, by decide⟩ ⟨by decide, by decide⟩) rfl rfl (fun F_4832 H locs hw hp_4833 => ?_)
  refine lv_iload hx hb dX5_orderAlone_8 (lv_at hl 4 rfl) ?_
  refine q_callv hw (q_runS (As := [.int (nI (t9))]) (c_X5_needSlot l G L F_4832 t9 (by omega)) C0 hw sw_X5_78 rfl hl.1 rfl (Nat.le_of_ble_eq_true rfl) dX5_orderAlone_10 ⟨by decide, by decide⟩ ⟨by decide, by decide⟩) rfl rfl (fun F_4834 H locs hw hp_4835 => ?_)
  refine lv_aload_n hx hb dX5_orderAlone_13 rfl (lv_at hl 0 rfl) ?_
  refine lv_iload_n hx hb dX5_orderAlone_14 rfl (lv_at hl 1 rfl) ?_
  refine q_calli hw (q_runS (As := [.int (nI (108))]) (c_X5_unitsOf_108 l G L F_4834 ) C0 hw sw_X5_225 rfl hl.1 rfl (Nat.le_of_ble_eq_true rfl) dX5_orderAlone_15 ⟨by decide, by decide⟩ ⟨by decide, by decide⟩) rfl rfl (fun r_4838 F_4836 H locs hw hp_4837 => ?_)
  obtain ⟨he_4839, o_4840⟩ := hp_4837
  subst he_4839
  have f_4841 : F_4830 (ad 0) = xO ad := (hp_4831 (ad 0) ).trans fx
  have f_4842 : F_4832 (ad 0) = xO ad := (hp_4833 (ad 0) ).trans f_4841
  have f_4843 : F_4834 (ad 0) = xO ad := (hp_4835 (ad 0) ).trans f_4842
  have f_4844 : F_4836 (ad 0) = xO ad := (o_4840 (ad 0) ).trans f_4843
  exact x_pass C0 ht hw hlk (x_runV (As := [.int (nI (6))]) (x_X5_needMoney l G L F_4836 ad hL hin 6 A.1 f_4844 (hn.keep (fun i0 hi => ((o_4840 (ad (i0)) )).trans (((hp_4835 (ad (i0)) )).trans (((hp_4833 (ad (i0)) )).trans ((hp_4831 (ad (i0)) )))))) h9 hpu (by omega) hc (by omega) hst) C0 hXw hw vw_X5_111 ((hL 0 (by omega))) f_4844 rfl rfl rfl hl.1 rfl (Nat.le_of_ble_eq_true rfl) dX5_orderAlone_18 ⟨by decide, by decide⟩ ⟨by decide, by decide⟩) (funext (fun q  => ((o_4840 q ).trans ((hp_4835 q ).trans ((hp_4833 q ).trans (hp_4831 q )))))) (by decide) (by decide) hQ
set_option maxHeartbeats 4000000 in
set_option maxRecDepth 100000 in
theorem x_X5_orderAlone_m101 (l : Launch) (G : Gl) (L : List Nat) (F : Nat → va_E) (ad : Nat → Nat) (hL : ∀ i, i < 166 → ad i ∈ L) (hin : ∀ i j, i < 166 → j < 166 → i ≠ j → ad i ≠ ad j) (A : AB) (f9 g9 t9 : Nat) (hf9 : f9 < 6) (hg9 : g9 < 6) (ht9 : t9 < 6) (h9 : A.1.2.1 < 5 * A.1.1) (hX : XW G F ad A) (hA : okA A) (hst : l.stackTraces = false) : XG l yX5_orderAlone cX5_orderAlone 5 (some .int) rx_X5_orderAlone G L F [.ref (ad 0), .int (nI (101)), .int (nI (f9)), .int (nI (g9)), .int (nI (t9))] "java/lang/IllegalStateException" := by
  obtain ⟨fx, hn, hh, hsn, htx, hrk, ⟨u9, h134⟩, ⟨v9, h150⟩⟩ := hX
  obtain ⟨⟨hc2, hc, hpu, hok⟩, ⟨hh6, hho⟩, hso, hl60, hco⟩ := id hA
  refine XG_of (by decide) (Nat.le_of_ble_eq_true rfl) rfl ?_
  intro p e s m args below meth c Q C0 hXw hlk ht hQ hw ls hl
  have hx := C0.x
  have hb := C0.b
  refine lv_iload_n hx hb dX5_orderAlone_0 rfl (lv_at hl 2 rfl) ?_
  refine q_callv hw (q_runS (As := [.int (nI (f9))]) (c_X5_needSlot l G L F f9 (by omega)) C0 hw sw_X5_78 rfl hl.1 rfl (Nat.le_of_ble_eq_true rfl) dX5_orderAlone_1 ⟨by decide, by decide⟩ ⟨by decide, by decide⟩) rfl rfl (fun F_4845 H locs hw hp_4846 => ?_)
  refine lv_iload_n hx hb dX5_orderAlone_4 rfl (lv_at hl 3 rfl) ?_
  refine q_callv hw (q_runS (As := [.int (nI (g9))]) (c_X5_needSlot l G L F_4845 g9 (by omega)) C0 hw sw_X5_78 rfl hl.1 rfl (Nat.le_of_ble_eq_true rfl) dX5_orderAlone_5 ⟨by decide, by decide⟩ ⟨by decide, by decide⟩) rfl rfl (fun F_4847 H locs hw hp_4848 => ?_)
  refine lv_iload hx hb dX5_orderAlone_8 (lv_at hl 4 rfl) ?_
  refine q_callv hw (q_runS (As := [.int (nI (t9))]) (c_X5_needSlot l G L F_4847 t9 (by omega)) C0 hw sw_X5_78 rfl hl.1 rfl (Nat.le_of_ble_eq_true rfl) dX5_orderAlone_10 ⟨by decide, by decide⟩ ⟨by decide, by decide⟩) rfl rfl (fun F_4849 H locs hw hp_4850 => ?_)
  refine lv_aload_n hx hb dX5_orderAlone_13 rfl (lv_at hl 0 rfl) ?_
  refine lv_iload_n hx hb dX5_orderAlone_14 rfl (lv_at hl 1 rfl) ?_
  refine q_calli hw (q_runS (As := [.int (nI (101))]) (c_X5_unitsOf_101 l G L F_4849 ) C0 hw sw_X5_225 rfl hl.1 rfl (Nat.le_of_ble_eq_true rfl) dX5_orderAlone_15 ⟨by decide, by decide⟩ ⟨by decide, by decide⟩) rfl rfl (fun r_4853 F_4851 H locs hw hp_4852 => ?_)
  obtain ⟨he_4854, o_4855⟩ := hp_4852
  subst he_4854
  have f_4856 : F_4845 (ad 0) = xO ad := (hp_4846 (ad 0) ).trans fx
  have f_4857 : F_4847 (ad 0) = xO ad := (hp_4848 (ad 0) ).trans f_4856
  have f_4858 : F_4849 (ad 0) = xO ad := (hp_4850 (ad 0) ).trans f_4857
  have f_4859 : F_4851 (ad 0) = xO ad := (o_4855 (ad 0) ).trans f_4858
  exact x_pass C0 ht hw hlk (x_runV (As := [.int (nI (5))]) (x_X5_needMoney l G L F_4851 ad hL hin 5 A.1 f_4859 (hn.keep (fun i0 hi => ((o_4855 (ad (i0)) )).trans (((hp_4850 (ad (i0)) )).trans (((hp_4848 (ad (i0)) )).trans ((hp_4846 (ad (i0)) )))))) h9 hpu (by omega) hc (by omega) hst) C0 hXw hw vw_X5_111 ((hL 0 (by omega))) f_4859 rfl rfl rfl hl.1 rfl (Nat.le_of_ble_eq_true rfl) dX5_orderAlone_18 ⟨by decide, by decide⟩ ⟨by decide, by decide⟩) (funext (fun q  => ((o_4855 q ).trans ((hp_4850 q ).trans ((hp_4848 q ).trans (hp_4846 q )))))) (by decide) (by decide) hQ
set_option maxHeartbeats 4000000 in
set_option maxRecDepth 100000 in
theorem x_X5_orderAlone_m99 (l : Launch) (G : Gl) (L : List Nat) (F : Nat → va_E) (ad : Nat → Nat) (hL : ∀ i, i < 166 → ad i ∈ L) (hin : ∀ i j, i < 166 → j < 166 → i ≠ j → ad i ≠ ad j) (A : AB) (f9 g9 t9 : Nat) (hf9 : f9 < 6) (hg9 : g9 < 6) (ht9 : t9 < 6) (h9 : A.1.2.1 < 4 * A.1.1) (hX : XW G F ad A) (hA : okA A) (hst : l.stackTraces = false) : XG l yX5_orderAlone cX5_orderAlone 5 (some .int) rx_X5_orderAlone G L F [.ref (ad 0), .int (nI (99)), .int (nI (f9)), .int (nI (g9)), .int (nI (t9))] "java/lang/IllegalStateException" := by
  obtain ⟨fx, hn, hh, hsn, htx, hrk, ⟨u9, h134⟩, ⟨v9, h150⟩⟩ := hX
  obtain ⟨⟨hc2, hc, hpu, hok⟩, ⟨hh6, hho⟩, hso, hl60, hco⟩ := id hA
  refine XG_of (by decide) (Nat.le_of_ble_eq_true rfl) rfl ?_
  intro p e s m args below meth c Q C0 hXw hlk ht hQ hw ls hl
  have hx := C0.x
  have hb := C0.b
  refine lv_iload_n hx hb dX5_orderAlone_0 rfl (lv_at hl 2 rfl) ?_
  refine q_callv hw (q_runS (As := [.int (nI (f9))]) (c_X5_needSlot l G L F f9 (by omega)) C0 hw sw_X5_78 rfl hl.1 rfl (Nat.le_of_ble_eq_true rfl) dX5_orderAlone_1 ⟨by decide, by decide⟩ ⟨by decide, by decide⟩) rfl rfl (fun F_4860 H locs hw hp_4861 => ?_)
  refine lv_iload_n hx hb dX5_orderAlone_4 rfl (lv_at hl 3 rfl) ?_
  refine q_callv hw (q_runS (As := [.int (nI (g9))]) (c_X5_needSlot l G L F_4860 g9 (by omega)) C0 hw sw_X5_78 rfl hl.1 rfl (Nat.le_of_ble_eq_true rfl) dX5_orderAlone_5 ⟨by decide, by decide⟩ ⟨by decide, by decide⟩) rfl rfl (fun F_4862 H locs hw hp_4863 => ?_)
  refine lv_iload hx hb dX5_orderAlone_8 (lv_at hl 4 rfl) ?_
  refine q_callv hw (q_runS (As := [.int (nI (t9))]) (c_X5_needSlot l G L F_4862 t9 (by omega)) C0 hw sw_X5_78 rfl hl.1 rfl (Nat.le_of_ble_eq_true rfl) dX5_orderAlone_10 ⟨by decide, by decide⟩ ⟨by decide, by decide⟩) rfl rfl (fun F_4864 H locs hw hp_4865 => ?_)
  refine lv_aload_n hx hb dX5_orderAlone_13 rfl (lv_at hl 0 rfl) ?_
  refine lv_iload_n hx hb dX5_orderAlone_14 rfl (lv_at hl 1 rfl) ?_
  refine q_calli hw (q_runS (As := [.int (nI (99))]) (c_X5_unitsOf_99 l G L F_4864 ) C0 hw sw_X5_225 rfl hl.1 rfl (Nat.le_of_ble_eq_true rfl) dX5_orderAlone_15 ⟨by decide, by decide⟩ ⟨by decide, by decide⟩) rfl rfl (fun r_4868 F_4866 H locs hw hp_4867 => ?_)
  obtain ⟨he_4869, o_4870⟩ := hp_4867
  subst he_4869
  have f_4871 : F_4860 (ad 0) = xO ad := (hp_4861 (ad 0) ).trans fx
  have f_4872 : F_4862 (ad 0) = xO ad := (hp_4863 (ad 0) ).trans f_4871
  have f_4873 : F_4864 (ad 0) = xO ad := (hp_4865 (ad 0) ).trans f_4872
  have f_4874 : F_4866 (ad 0) = xO ad := (o_4870 (ad 0) ).trans f_4873
  exact x_pass C0 ht hw hlk (x_runV (As := [.int (nI (4))]) (x_X5_needMoney l G L F_4866 ad hL hin 4 A.1 f_4874 (hn.keep (fun i0 hi => ((o_4870 (ad (i0)) )).trans (((hp_4865 (ad (i0)) )).trans (((hp_4863 (ad (i0)) )).trans ((hp_4861 (ad (i0)) )))))) h9 hpu (by omega) hc (by omega) hst) C0 hXw hw vw_X5_111 ((hL 0 (by omega))) f_4874 rfl rfl rfl hl.1 rfl (Nat.le_of_ble_eq_true rfl) dX5_orderAlone_18 ⟨by decide, by decide⟩ ⟨by decide, by decide⟩) (funext (fun q  => ((o_4870 q ).trans ((hp_4865 q ).trans ((hp_4863 q ).trans (hp_4861 q )))))) (by decide) (by decide) hQ
set_option maxHeartbeats 4000000 in
set_option maxRecDepth 100000 in
theorem x_X5_orderAlone_m105 (l : Launch) (G : Gl) (L : List Nat) (F : Nat → va_E) (ad : Nat → Nat) (hL : ∀ i, i < 166 → ad i ∈ L) (hin : ∀ i j, i < 166 → j < 166 → i ≠ j → ad i ≠ ad j) (A : AB) (f9 g9 t9 : Nat) (hf9 : f9 < 6) (hg9 : g9 < 6) (ht9 : t9 < 6) (h9 : A.1.2.1 < 4 * A.1.1) (hX : XW G F ad A) (hA : okA A) (hst : l.stackTraces = false) : XG l yX5_orderAlone cX5_orderAlone 5 (some .int) rx_X5_orderAlone G L F [.ref (ad 0), .int (nI (105)), .int (nI (f9)), .int (nI (g9)), .int (nI (t9))] "java/lang/IllegalStateException" := by
  obtain ⟨fx, hn, hh, hsn, htx, hrk, ⟨u9, h134⟩, ⟨v9, h150⟩⟩ := hX
  obtain ⟨⟨hc2, hc, hpu, hok⟩, ⟨hh6, hho⟩, hso, hl60, hco⟩ := id hA
  refine XG_of (by decide) (Nat.le_of_ble_eq_true rfl) rfl ?_
  intro p e s m args below meth c Q C0 hXw hlk ht hQ hw ls hl
  have hx := C0.x
  have hb := C0.b
  refine lv_iload_n hx hb dX5_orderAlone_0 rfl (lv_at hl 2 rfl) ?_
  refine q_callv hw (q_runS (As := [.int (nI (f9))]) (c_X5_needSlot l G L F f9 (by omega)) C0 hw sw_X5_78 rfl hl.1 rfl (Nat.le_of_ble_eq_true rfl) dX5_orderAlone_1 ⟨by decide, by decide⟩ ⟨by decide, by decide⟩) rfl rfl (fun F_4875 H locs hw hp_4876 => ?_)
  refine lv_iload_n hx hb dX5_orderAlone_4 rfl (lv_at hl 3 rfl) ?_
  refine q_callv hw (q_runS (As := [.int (nI (g9))]) (c_X5_needSlot l G L F_4875 g9 (by omega)) C0 hw sw_X5_78 rfl hl.1 rfl (Nat.le_of_ble_eq_true rfl) dX5_orderAlone_5 ⟨by decide, by decide⟩ ⟨by decide, by decide⟩) rfl rfl (fun F_4877 H locs hw hp_4878 => ?_)
  refine lv_iload hx hb dX5_orderAlone_8 (lv_at hl 4 rfl) ?_
  refine q_callv hw (q_runS (As := [.int (nI (t9))]) (c_X5_needSlot l G L F_4877 t9 (by omega)) C0 hw sw_X5_78 rfl hl.1 rfl (Nat.le_of_ble_eq_true rfl) dX5_orderAlone_10 ⟨by decide, by decide⟩ ⟨by decide, by decide⟩) rfl rfl (fun F_4879 H locs hw hp_4880 => ?_)
  refine lv_aload_n hx hb dX5_orderAlone_13 rfl (lv_at hl 0 rfl) ?_
  refine lv_iload_n hx hb dX5_orderAlone_14 rfl (lv_at hl 1 rfl) ?_
  refine q_calli hw (q_runS (As := [.int (nI (105))]) (c_X5_unitsOf_105 l G L F_4879 ) C0 hw sw_X5_225 rfl hl.1 rfl (Nat.le_of_ble_eq_true rfl) dX5_orderAlone_15 ⟨by decide, by decide⟩ ⟨by decide, by decide⟩) rfl rfl (fun r_4883 F_4881 H locs hw hp_4882 => ?_)
  obtain ⟨he_4884, o_4885⟩ := hp_4882
  subst he_4884
  have f_4886 : F_4875 (ad 0) = xO ad := (hp_4876 (ad 0) ).trans fx
  have f_4887 : F_4877 (ad 0) = xO ad := (hp_4878 (ad 0) ).trans f_4886
  have f_4888 : F_4879 (ad 0) = xO ad := (hp_4880 (ad 0) ).trans f_4887
  have f_4889 : F_4881 (ad 0) = xO ad := (o_4885 (ad 0) ).trans f_4888
  exact x_pass C0 ht hw hlk (x_runV (As := [.int (nI (4))]) (x_X5_needMoney l G L F_4881 ad hL hin 4 A.1 f_4889 (hn.keep (fun i0 hi => ((o_4885 (ad (i0)) )).trans (((hp_4880 (ad (i0)) )).trans (((hp_4878 (ad (i0)) )).trans ((hp_4876 (ad (i0)) )))))) h9 hpu (by omega) hc (by omega) hst) C0 hXw hw vw_X5_111 ((hL 0 (by omega))) f_4889 rfl rfl rfl hl.1 rfl (Nat.le_of_ble_eq_true rfl) dX5_orderAlone_18 ⟨by decide, by decide⟩ ⟨by decide, by decide⟩) (funext (fun q  => ((o_4885 q ).trans ((hp_4880 q ).trans ((hp_4878 q ).trans (hp_4876 q )))))) (by decide) (by decide) hQ
abbrev rx_X5_bracket : Room := { frames := 8, cells := 1, slots := 6, locals := 135 }
set_option maxHeartbeats 4000000 in
set_option maxRecDepth 100000 in
theorem x_X5_bracket_1 (l : Launch) (G : Gl) (L : List Nat) (F : Nat → va_E) (ad : Nat → Nat) (hL : ∀ i, i < 166 → ad i ∈ L) (hin : ∀ i j, i < 166 → j < 166 → i ≠ j → ad i ≠ ad j) (A : AB) (x9 : Int32) (y9 z9 : Int32) (h9 : ¬ inR x9 0 5) (hX : XW G F ad A) (hA : okA A) (hst : l.stackTraces = false) : XG l yX5_bracket cX5_bracket 4 (some .int) rx_X5_bracket G L F [.ref (ad 0), .int (x9), .int (y9), .int (z9)] "java/lang/IndexOutOfBoundsException" := by
  have hX9 := hX
  obtain ⟨fx, hn, hh, hsn, htx, hrk, ⟨u9, h134⟩, ⟨v9, h150⟩⟩ := hX
  obtain ⟨⟨hc2, hc, hpu, hok⟩, ⟨hh6, hho⟩, hso, hl60, hco⟩ := id hA
  refine XG_of (by decide) (Nat.le_of_ble_eq_true rfl) rfl ?_
  intro p e s m args below meth c Q C0 hXw hlk ht hQ hw ls hl
  have hx := C0.x
  have hb := C0.b
  refine lv_aload_n hx hb dX5_bracket_0 rfl (lv_at hl 0 rfl) ?_
  refine lv_bipush (v := nI 98) hx hb dX5_bracket_1 (by decide) ?_
  refine lv_iload_n hx hb dX5_bracket_3 rfl (lv_at hl 1 rfl) ?_
  refine lv_iload_n hx hb dX5_bracket_4 rfl (lv_at hl 2 rfl) ?_
  refine lv_iload_n hx hb dX5_bracket_5 rfl (lv_at hl 3 rfl) ?_
  exact x_pass C0 ht hw hlk (x_runV (As := [.int (nI (98)), .int (x9), .int (y9), .int (z9)]) (x_X5_orderAlone_1 l G L F ad hL hin A (x9) (nI 98) (y9) (z9) h9 hX9 hA hst) C0 hXw hw vw_X5_107 ((hL 0 (by omega))) fx rfl rfl rfl hl.1 rfl (Nat.le_of_ble_eq_true rfl) dX5_bracket_6 ⟨by decide, by decide⟩ ⟨by decide, by decide⟩) (funext (fun q  => rfl)) (by decide) (by decide) hQ
set_option maxHeartbeats 4000000 in
set_option maxRecDepth 100000 in
theorem x_X5_bracket_2 (l : Launch) (G : Gl) (L : List Nat) (F : Nat → va_E) (ad : Nat → Nat) (hL : ∀ i, i < 166 → ad i ∈ L) (hin : ∀ i j, i < 166 → j < 166 → i ≠ j → ad i ≠ ad j) (A : AB) (f9 : Nat) (hf9 : f9 < 6) (x9 : Int32) (z9 : Int32) (h9 : ¬ inR x9 0 5) (hX : XW G F ad A) (hA : okA A) (hst : l.stackTraces = false) : XG l yX5_bracket cX5_bracket 4 (some .int) rx_X5_bracket G L F [.ref (ad 0), .int (nI (f9)), .int (x9), .int (z9)] "java/lang/IndexOutOfBoundsException" := by
  have hX9 := hX
  obtain ⟨fx, hn, hh, hsn, htx, hrk, ⟨u9, h134⟩, ⟨v9, h150⟩⟩ := hX
  obtain ⟨⟨hc2, hc, hpu, hok⟩, ⟨hh6, hho⟩, hso, hl60, hco⟩ := id hA
  refine XG_of (by decide) (Nat.le_of_ble_eq_true rfl) rfl ?_
  intro p e s m args below meth c Q C0 hXw hlk ht hQ hw ls hl
  have hx := C0.x
  have hb := C0.b
  refine lv_aload_n hx hb dX5_bracket_0 rfl (lv_at hl 0 rfl) ?_
  refine lv_bipush (v := nI 98) hx hb dX5_bracket_1 (by decide) ?_
  refine lv_iload_n hx hb dX5_bracket_3 rfl (lv_at hl 1 rfl) ?_
  refine lv_iload_n hx hb dX5_bracket_4 rfl (lv_at hl 2 rfl) ?_
  refine lv_iload_n hx hb dX5_bracket_5 rfl (lv_at hl 3 rfl) ?_
  exact x_pass C0 ht hw hlk (x_runV (As := [.int (nI (98)), .int (nI (f9)), .int (x9), .int (z9)]) (x_X5_orderAlone_2 l G L F ad hL hin A f9 hf9 (x9) (nI 98) (z9) h9 hX9 hA hst) C0 hXw hw vw_X5_107 ((hL 0 (by omega))) fx rfl rfl rfl hl.1 rfl (Nat.le_of_ble_eq_true rfl) dX5_bracket_6 ⟨by decide, by decide⟩ ⟨by decide, by decide⟩) (funext (fun q  => rfl)) (by decide) (by decide) hQ
set_option maxHeartbeats 4000000 in
set_option maxRecDepth 100000 in
theorem x_X5_bracket_3 (l : Launch) (G : Gl) (L : List Nat) (F : Nat → va_E) (ad : Nat → Nat) (hL : ∀ i, i < 166 → ad i ∈ L) (hin : ∀ i j, i < 166 → j < 166 → i ≠ j → ad i ≠ ad j) (A : AB) (f9 g9 : Nat) (hf9 : f9 < 6) (hg9 : g9 < 6) (x9 : Int32) (h9 : ¬ inR x9 0 5) (hX : XW G F ad A) (hA : okA A) (hst : l.stackTraces = false) : XG l yX5_bracket cX5_bracket 4 (some .int) rx_X5_bracket G L F [.ref (ad 0), .int (nI (f9)), .int (nI (g9)), .int (x9)] "java/lang/IndexOutOfBoundsException" := by
  have hX9 := hX
  obtain ⟨fx, hn, hh, hsn, htx, hrk, ⟨u9, h134⟩, ⟨v9, h150⟩⟩ := hX
  obtain ⟨⟨hc2, hc, hpu, hok⟩, ⟨hh6, hho⟩, hso, hl60, hco⟩ := id hA
  refine XG_of (by decide) (Nat.le_of_ble_eq_true rfl) rfl ?_
  intro p e s m args below meth c Q C0 hXw hlk ht hQ hw ls hl
  have hx := C0.x
  have hb := C0.b
  refine lv_aload_n hx hb dX5_bracket_0 rfl (lv_at hl 0 rfl) ?_
  refine lv_bipush (v := nI 98) hx hb dX5_bracket_1 (by decide) ?_
  refine lv_iload_n hx hb dX5_bracket_3 rfl (lv_at hl 1 rfl) ?_
  refine lv_iload_n hx hb dX5_bracket_4 rfl (lv_at hl 2 rfl) ?_
  refine lv_iload_n hx hb dX5_bracket_5 rfl (lv_at hl 3 rfl) ?_
  exact x_pass C0 ht hw hlk (x_runV (As := [.int (nI (98)), .int (nI (f9)), .int (nI (g9)), .int (x9)]) (x_X5_orderAlone_3 l G L F ad hL hin A f9 g9 hf9 hg9 (x9) (nI 98) h9 hX9 hA hst) C0 hXw hw vw_X5_107 ((hL 0 (by omega))) fx rfl rfl rfl hl.1 rfl (Nat.le_of_ble_eq_true rfl) dX5_bracket_6 ⟨by decide, by decide⟩ ⟨by decide, by decide⟩) (funext (fun q  => rfl)) (by decide) (by decide) hQ
set_option maxHeartbeats 4000000 in
set_option maxRecDepth 100000 in
theorem x_X5_bracket_m (l : Launch) (G : Gl) (L : List Nat) (F : Nat → va_E) (ad : Nat → Nat) (hL : ∀ i, i < 166 → ad i ∈ L) (hin : ∀ i j, i < 166 → j < 166 → i ≠ j → ad i ≠ ad j) (A : AB) (f9 g9 t9 : Nat) (hf9 : f9 < 6) (hg9 : g9 < 6) (ht9 : t9 < 6) (h9 : A.1.2.1 < 2 * A.1.1) (hX : XW G F ad A) (hA : okA A) (hst : l.stackTraces = false) : XG l yX5_bracket cX5_bracket 4 (some .int) rx_X5_bracket G L F [.ref (ad 0), .int (nI (f9)), .int (nI (g9)), .int (nI (t9))] "java/lang/IllegalStateException" := by
  have hX9 := hX
  obtain ⟨fx, hn, hh, hsn, htx, hrk, ⟨u9, h134⟩, ⟨v9, h150⟩⟩ := hX
  obtain ⟨⟨hc2, hc, hpu, hok⟩, ⟨hh6, hho⟩, hso, hl60, hco⟩ := id hA
  refine XG_of (by decide) (Nat.le_of_ble_eq_true rfl) rfl ?_
  intro p e s m args below meth c Q C0 hXw hlk ht hQ hw ls hl
  have hx := C0.x
  have hb := C0.b
  refine lv_aload_n hx hb dX5_bracket_0 rfl (lv_at hl 0 rfl) ?_
  refine lv_bipush (v := nI 98) hx hb dX5_bracket_1 (by decide) ?_
  refine lv_iload_n hx hb dX5_bracket_3 rfl (lv_at hl 1 rfl) ?_
  refine lv_iload_n hx hb dX5_bracket_4 rfl (lv_at hl 2 rfl) ?_
  refine lv_iload_n hx hb dX5_bracket_5 rfl (lv_at hl 3 rfl) ?_
  exact x_pass C0 ht hw hlk (x_runV (As := [.int (nI (98)), .int (nI (f9)), .int (nI (g9)), .int (nI (t9))]) (x_X5_orderAlone_m98 l G L F ad hL hin A f9 g9 t9 hf9 hg9 ht9 h9 hX9 hA hst) C0 hXw hw vw_X5_107 ((hL 0 (by omega))) fx rfl rfl rfl hl.1 rfl (Nat.le_of_ble_eq_true rfl) dX5_bracket_6 ⟨by decide, by decide⟩ ⟨by decide, by decide⟩) (funext (fun q  => rfl)) (by decide) (by decide) hQ
abbrev rx_X5_sum : Room := { frames := 8, cells := 1, slots := 6, locals := 135 }
set_option maxHeartbeats 4000000 in
set_option maxRecDepth 100000 in
theorem x_X5_sum_1 (l : Launch) (G : Gl) (L : List Nat) (F : Nat → va_E) (ad : Nat → Nat) (hL : ∀ i, i < 166 → ad i ∈ L) (hin : ∀ i j, i < 166 → j < 166 → i ≠ j → ad i ≠ ad j) (A : AB) (x9 : Int32) (y9 z9 : Int32) (h9 : ¬ inR x9 0 5) (hX : XW G F ad A) (hA : okA A) (hst : l.stackTraces = false) : XG l yX5_sum cX5_sum 4 (some .int) rx_X5_sum G L F [.ref (ad 0), .int (x9), .int (y9), .int (z9)] "java/lang/IndexOutOfBoundsException" := by
  have hX9 := hX
  obtain ⟨fx, hn, hh, hsn, htx, hrk, ⟨u9, h134⟩, ⟨v9, h150⟩⟩ := hX
  obtain ⟨⟨hc2, hc, hpu, hok⟩, ⟨hh6, hho⟩, hso, hl60, hco⟩ := id hA
  refine XG_of (by decide) (Nat.le_of_ble_eq_true rfl) rfl ?_
  intro p e s m args below meth c Q C0 hXw hlk ht hQ hw ls hl
  have hx := C0.x
  have hb := C0.b
  refine lv_aload_n hx hb dX5_sum_0 rfl (lv_at hl 0 rfl) ?_
  refine lv_bipush (v := nI 115) hx hb dX5_sum_1 (by decide) ?_
  refine lv_iload_n hx hb dX5_sum_3 rfl (lv_at hl 1 rfl) ?_
  refine lv_iload_n hx hb dX5_sum_4 rfl (lv_at hl 2 rfl) ?_
  refine lv_iload_n hx hb dX5_sum_5 rfl (lv_at hl 3 rfl) ?_
  exact x_pass C0 ht hw hlk (x_runV (As := [.int (nI (115)), .int (x9), .int (y9), .int (z9)]) (x_X5_orderAlone_1 l G L F ad hL hin A (x9) (nI 115) (y9) (z9) h9 hX9 hA hst) C0 hXw hw vw_X5_107 ((hL 0 (by omega))) fx rfl rfl rfl hl.1 rfl (Nat.le_of_ble_eq_true rfl) dX5_sum_6 ⟨by decide, by decide⟩ ⟨by decide, by decide⟩) (funext (fun q  => rfl)) (by decide) (by decide) hQ
set_option maxHeartbeats 4000000 in
set_option maxRecDepth 100000 in
theorem x_X5_sum_2 (l : Launch) (G : Gl) (L : List Nat) (F : Nat → va_E) (ad : Nat → Nat) (hL : ∀ i, i < 166 → ad i ∈ L) (hin : ∀ i j, i < 166 → j < 166 → i ≠ j → ad i ≠ ad j) (A : AB) (f9 : Nat) (hf9 : f9 < 6) (x9 : Int32) (z9 : Int32) (h9 : ¬ inR x9 0 5) (hX : XW G F ad A) (hA : okA A) (hst : l.stackTraces = false) : XG l yX5_sum cX5_sum 4 (some .int) rx_X5_sum G L F [.ref (ad 0), .int (nI (f9)), .int (x9), .int (z9)] "java/lang/IndexOutOfBoundsException" := by
  have hX9 := hX
  obtain ⟨fx, hn, hh, hsn, htx, hrk, ⟨u9, h134⟩, ⟨v9, h150⟩⟩ := hX
  obtain ⟨⟨hc2, hc, hpu, hok⟩, ⟨hh6, hho⟩, hso, hl60, hco⟩ := id hA
  refine XG_of (by decide) (Nat.le_of_ble_eq_true rfl) rfl ?_
  intro p e s m args below meth c Q C0 hXw hlk ht hQ hw ls hl
  have hx := C0.x
  have hb := C0.b
  refine lv_aload_n hx hb dX5_sum_0 rfl (lv_at hl 0 rfl) ?_
  refine lv_bipush (v := nI 115) hx hb dX5_sum_1 (by decide) ?_
  refine lv_iload_n hx hb dX5_sum_3 rfl (lv_at hl 1 rfl) ?_
  refine lv_iload_n hx hb dX5_sum_4 rfl (lv_at hl 2 rfl) ?_
  refine lv_iload_n hx hb dX5_sum_5 rfl (lv_at hl 3 rfl) ?_
  exact x_pass C0 ht hw hlk (x_runV (As := [.int (nI (115)), .int (nI (f9)), .int (x9), .int (z9)]) (x_X5_orderAlone_2 l G L F ad hL hin A f9 hf9 (x9) (nI 115) (z9) h9 hX9 hA hst) C0 hXw hw vw_X5_107 ((hL 0 (by omega))) fx rfl rfl rfl hl.1 rfl (Nat.le_of_ble_eq_true rfl) dX5_sum_6 ⟨by decide, by decide⟩ ⟨by decide, by decide⟩) (funext (fun q  => rfl)) (by decide) (by decide) hQ
set_option maxHeartbeats 4000000 in
set_option maxRecDepth 100000 in
theorem x_X5_sum_3 (l : Launch) (G : Gl) (L : List Nat) (F : Nat → va_E) (ad : Nat → Nat) (hL : ∀ i, i < 166 → ad i ∈ L) (hin : ∀ i j, i < 166 → j < 166 → i ≠ j → ad i ≠ ad j) (A : AB) (f9 g9 : Nat) (hf9 : f9 < 6) (hg9 : g9 < 6) (x9 : Int32) (h9 : ¬ inR x9 0 5) (hX : XW G F ad A) (hA : okA A) (hst : l.stackTraces = false) : XG l yX5_sum cX5_sum 4 (some .int) rx_X5_sum G L F [.ref (ad 0), .int (nI (f9)), .int (nI (g9)), .int (x9)] "java/lang/IndexOutOfBoundsException" := by
  have hX9 := hX
  obtain ⟨fx, hn, hh, hsn, htx, hrk, ⟨u9, h134⟩, ⟨v9, h150⟩⟩ := hX
  obtain ⟨⟨hc2, hc, hpu, hok⟩, ⟨hh6, hho⟩, hso, hl60, hco⟩ := id hA
  refine XG_of (by decide) (Nat.le_of_ble_eq_true rfl) rfl ?_
  intro p e s m args below meth c Q C0 hXw hlk ht hQ hw ls hl
  have hx := C0.x
  have hb := C0.b
  refine lv_aload_n hx hb dX5_sum_0 rfl (lv_at hl 0 rfl) ?_
  refine lv_bipush (v := nI 115) hx hb dX5_sum_1 (by decide) ?_
  refine lv_iload_n hx hb dX5_sum_3 rfl (lv_at hl 1 rfl) ?_
  refine lv_iload_n hx hb dX5_sum_4 rfl (lv_at hl 2 rfl) ?_
  refine lv_iload_n hx hb dX5_sum_5 rfl (lv_at hl 3 rfl) ?_
  exact x_pass C0 ht hw hlk (x_runV (As := [.int (nI (115)), .int (nI (f9)), .int (nI (g9)), .int (x9)]) (x_X5_orderAlone_3 l G L F ad hL hin A f9 g9 hf9 hg9 (x9) (nI 115) h9 hX9 hA hst) C0 hXw hw vw_X5_107 ((hL 0 (by omega))) fx rfl rfl rfl hl.1 rfl (Nat.le_of_ble_eq_true rfl) dX5_sum_6 ⟨by decide, by decide⟩ ⟨by decide, by decide⟩) (funext (fun q  => rfl)) (by decide) (by decide) hQ
set_option maxHeartbeats 4000000 in
set_option maxRecDepth 100000 in
theorem x_X5_sum_m (l : Launch) (G : Gl) (L : List Nat) (F : Nat → va_E) (ad : Nat → Nat) (hL : ∀ i, i < 166 → ad i ∈ L) (hin : ∀ i j, i < 166 → j < 166 → i ≠ j → ad i ≠ ad j) (A : AB) (f9 g9 t9 : Nat) (hf9 : f9 < 6) (hg9 : g9 < 6) (ht9 : t9 < 6) (h9 : A.1.2.1 < 1 * A.1.1) (hX : XW G F ad A) (hA : okA A) (hst : l.stackTraces = false) : XG l yX5_sum cX5_sum 4 (some .int) rx_X5_sum G L F [.ref (ad 0), .int (nI (f9)), .int (nI (g9)), .int (nI (t9))] "java/lang/IllegalStateException" := by
  have hX9 := hX
  obtain ⟨fx, hn, hh, hsn, htx, hrk, ⟨u9, h134⟩, ⟨v9, h150⟩⟩ := hX
  obtain ⟨⟨hc2, hc, hpu, hok⟩, ⟨hh6, hho⟩, hso, hl60, hco⟩ := id hA
  refine XG_of (by decide) (Nat.le_of_ble_eq_true rfl) rfl ?_
  intro p e s m args below meth c Q C0 hXw hlk ht hQ hw ls hl
  have hx := C0.x
  have hb := C0.b
  refine lv_aload_n hx hb dX5_sum_0 rfl (lv_at hl 0 rfl) ?_
  refine lv_bipush (v := nI 115) hx hb dX5_sum_1 (by decide) ?_
  refine lv_iload_n hx hb dX5_sum_3 rfl (lv_at hl 1 rfl) ?_
  refine lv_iload_n hx hb dX5_sum_4 rfl (lv_at hl 2 rfl) ?_
  refine lv_iload_n hx hb dX5_sum_5 rfl (lv_at hl 3 rfl) ?_
  exact x_pass C0 ht hw hlk (x_runV (As := [.int (nI (115)), .int (nI (f9)), .int (nI (g9)), .int (nI (t9))]) (x_X5_orderAlone_m115 l G L F ad hL hin A f9 g9 t9 hf9 hg9 ht9 h9 hX9 hA hst) C0 hXw hw vw_X5_107 ((hL 0 (by omega))) fx rfl rfl rfl hl.1 rfl (Nat.le_of_ble_eq_true rfl) dX5_sum_6 ⟨by decide, by decide⟩ ⟨by decide, by decide⟩) (funext (fun q  => rfl)) (by decide) (by decide) hQ
abbrev rx_X5_byBrackets : Room := { frames := 8, cells := 1, slots := 6, locals := 135 }
set_option maxHeartbeats 4000000 in
set_option maxRecDepth 100000 in
theorem x_X5_byBrackets_1 (l : Launch) (G : Gl) (L : List Nat) (F : Nat → va_E) (ad : Nat → Nat) (hL : ∀ i, i < 166 → ad i ∈ L) (hin : ∀ i j, i < 166 → j < 166 → i ≠ j → ad i ≠ ad j) (A : AB) (x9 : Int32) (y9 z9 : Int32) (h9 : ¬ inR x9 0 5) (hX : XW G F ad A) (hA : okA A) (hst : l.stackTraces = false) : XG l yX5_byBrackets cX5_byBrackets 4 (some .int) rx_X5_byBrackets G L F [.ref (ad 0), .int (x9), .int (y9), .int (z9)] "java/lang/IndexOutOfBoundsException" := by
  have hX9 := hX
  obtain ⟨fx, hn, hh, hsn, htx, hrk, ⟨u9, h134⟩, ⟨v9, h150⟩⟩ := hX
  obtain ⟨⟨hc2, hc, hpu, hok⟩, ⟨hh6, hho⟩, hso, hl60, hco⟩ := id hA
  refine XG_of (by decide) (Nat.le_of_ble_eq_true rfl) rfl ?_
  intro p e s m args below meth c Q C0 hXw hlk ht hQ hw ls hl
  have hx := C0.x
  have hb := C0.b
  refine lv_aload_n hx hb dX5_byBrackets_0 rfl (lv_at hl 0 rfl) ?_
  refine lv_bipush (v := nI 119) hx hb dX5_byBrackets_1 (by decide) ?_
  refine lv_iload_n hx hb dX5_byBrackets_3 rfl (lv_at hl 1 rfl) ?_
  refine lv_iload_n hx hb dX5_byBrackets_4 rfl (lv_at hl 2 rfl) ?_
  refine lv_iload_n hx hb dX5_byBrackets_5 rfl (lv_at hl 3 rfl) ?_
  exact x_pass C0 ht hw hlk (x_runV (As := [.int (nI (119)), .int (x9), .int (y9), .int (z9)]) (x_X5_orderAlone_1 l G L F ad hL hin A (x9) (nI 119) (y9) (z9) h9 hX9 hA hst) C0 hXw hw vw_X5_107 ((hL 0 (by omega))) fx rfl rfl rfl hl.1 rfl (Nat.le_of_ble_eq_true rfl) dX5_byBrackets_6 ⟨by decide, by decide⟩ ⟨by decide, by decide⟩) (funext (fun q  => rfl)) (by decide) (by decide) hQ
set_option maxHeartbeats 4000000 in
set_option maxRecDepth 100000 in
theorem x_X5_byBrackets_2 (l : Launch) (G : Gl) (L : List Nat) (F : Nat → va_E) (ad : Nat → Nat) (hL : ∀ i, i < 166 → ad i ∈ L) (hin : ∀ i j, i < 166 → j < 166 → i ≠ j → ad i ≠ ad j) (A : AB) (f9 : Nat) (hf9 : f9 < 6) (x9 : Int32) (z9 : Int32) (h9 : ¬ inR x9 0 5) (hX : XW G F ad A) (hA : okA A) (hst : l.stackTraces = false) : XG l yX5_byBrackets cX5_byBrackets 4 (some .int) rx_X5_byBrackets G L F [.ref (ad 0), .int (nI (f9)), .int (x9), .int (z9)] "java/lang/IndexOutOfBoundsException" := by
  have hX9 := hX
  obtain ⟨fx, hn, hh, hsn, htx, hrk, ⟨u9, h134⟩, ⟨v9, h150⟩⟩ := hX
  obtain ⟨⟨hc2, hc, hpu, hok⟩, ⟨hh6, hho⟩, hso, hl60, hco⟩ := id hA
  refine XG_of (by decide) (Nat.le_of_ble_eq_true rfl) rfl ?_
  intro p e s m args below meth c Q C0 hXw hlk ht hQ hw ls hl
  have hx := C0.x
  have hb := C0.b
  refine lv_aload_n hx hb dX5_byBrackets_0 rfl (lv_at hl 0 rfl) ?_
  refine lv_bipush (v := nI 119) hx hb dX5_byBrackets_1 (by decide) ?_
  refine lv_iload_n hx hb dX5_byBrackets_3 rfl (lv_at hl 1 rfl) ?_
  refine lv_iload_n hx hb dX5_byBrackets_4 rfl (lv_at hl 2 rfl) ?_
  refine lv_iload_n hx hb dX5_byBrackets_5 rfl (lv_at hl 3 rfl) ?_
  exact x_pass C0 ht hw hlk (x_runV (As := [.int (nI (119)), .int (nI (f9)), .int (x9), .int (z9)]) (x_X5_orderAlone_2 l G L F ad hL hin A f9 hf9 (x9) (nI 119) (z9) h9 hX9 hA hst) C0 hXw hw vw_X5_107 ((hL 0 (by omega))) fx rfl rfl rfl hl.1 rfl (Nat.le_of_ble_eq_true rfl) dX5_byBrackets_6 ⟨by decide, by decide⟩ ⟨by decide, by decide⟩) (funext (fun q  => rfl)) (by decide) (by decide) hQ
set_option maxHeartbeats 4000000 in
set_option maxRecDepth 100000 in
theorem x_X5_byBrackets_3 (l : Launch) (G : Gl) (L : List Nat) (F : Nat → va_E) (ad : Nat → Nat) (hL : ∀ i, i < 166 → ad i ∈ L) (hin : ∀ i j, i < 166 → j < 166 → i ≠ j → ad i ≠ ad j) (A : AB) (f9 g9 : Nat) (hf9 : f9 < 6) (hg9 : g9 < 6) (x9 : Int32) (h9 : ¬ inR x9 0 5) (hX : XW G F ad A) (hA : okA A) (hst : l.stackTraces = false) : XG l yX5_byBrackets cX5_byBrackets 4 (some .int) rx_X5_byBrackets G L F [.ref (ad 0), .int (nI (f9)), .int (nI (g9)), .int (x9)] "java/lang/IndexOutOfBoundsException" := by
  have hX9 := hX
  obtain ⟨fx, hn, hh, hsn, htx, hrk, ⟨u9, h134⟩, ⟨v9, h150⟩⟩ := hX
  obtain ⟨⟨hc2, hc, hpu, hok⟩, ⟨hh6, hho⟩, hso, hl60, hco⟩ := id hA
  refine XG_of (by decide) (Nat.le_of_ble_eq_true rfl) rfl ?_
  intro p e s m args below meth c Q C0 hXw hlk ht hQ hw ls hl
  have hx := C0.x
  have hb := C0.b
  refine lv_aload_n hx hb dX5_byBrackets_0 rfl (lv_at hl 0 rfl) ?_
  refine lv_bipush (v := nI 119) hx hb dX5_byBrackets_1 (by decide) ?_
  refine lv_iload_n hx hb dX5_byBrackets_3 rfl (lv_at hl 1 rfl) ?_
  refine lv_iload_n hx hb dX5_byBrackets_4 rfl (lv_at hl 2 rfl) ?_
  refine lv_iload_n hx hb dX5_byBrackets_5 rfl (lv_at hl 3 rfl) ?_
  exact x_pass C0 ht hw hlk (x_runV (As := [.int (nI (119)), .int (nI (f9)), .int (nI (g9)), .int (x9)]) (x_X5_orderAlone_3 l G L F ad hL hin A f9 g9 hf9 hg9 (x9) (nI 119) h9 hX9 hA hst) C0 hXw hw vw_X5_107 ((hL 0 (by omega))) fx rfl rfl rfl hl.1 rfl (Nat.le_of_ble_eq_true rfl) dX5_byBrackets_6 ⟨by decide, by decide⟩ ⟨by decide, by decide⟩) (funext (fun q  => rfl)) (by decide) (by decide) hQ
set_option maxHeartbeats 4000000 in
set_option maxRecDepth 100000 in
theorem x_X5_byBrackets_m (l : Launch) (G : Gl) (L : List Nat) (F : Nat → va_E) (ad : Nat → Nat) (hL : ∀ i, i < 166 → ad i ∈ L) (hin : ∀ i j, i < 166 → j < 166 → i ≠ j → ad i ≠ ad j) (A : AB) (f9 g9 t9 : Nat) (hf9 : f9 < 6) (hg9 : g9 < 6) (ht9 : t9 < 6) (h9 : A.1.2.1 < 20 * A.1.1) (hX : XW G F ad A) (hA : okA A) (hst : l.stackTraces = false) : XG l yX5_byBrackets cX5_byBrackets 4 (some .int) rx_X5_byBrackets G L F [.ref (ad 0), .int (nI (f9)), .int (nI (g9)), .int (nI (t9))] "java/lang/IllegalStateException" := by
  have hX9 := hX
  obtain ⟨fx, hn, hh, hsn, htx, hrk, ⟨u9, h134⟩, ⟨v9, h150⟩⟩ := hX
  obtain ⟨⟨hc2, hc, hpu, hok⟩, ⟨hh6, hho⟩, hso, hl60, hco⟩ := id hA
  refine XG_of (by decide) (Nat.le_of_ble_eq_true rfl) rfl ?_
  intro p e s m args below meth c Q C0 hXw hlk ht hQ hw ls hl
  have hx := C0.x
  have hb := C0.b
  refine lv_aload_n hx hb dX5_byBrackets_0 rfl (lv_at hl 0 rfl) ?_
  refine lv_bipush (v := nI 119) hx hb dX5_byBrackets_1 (by decide) ?_
  refine lv_iload_n hx hb dX5_byBrackets_3 rfl (lv_at hl 1 rfl) ?_
  refine lv_iload_n hx hb dX5_byBrackets_4 rfl (lv_at hl 2 rfl) ?_
  refine lv_iload_n hx hb dX5_byBrackets_5 rfl (lv_at hl 3 rfl) ?_
  exact x_pass C0 ht hw hlk (x_runV (As := [.int (nI (119)), .int (nI (f9)), .int (nI (g9)), .int (nI (t9))]) (x_X5_orderAlone_m119 l G L F ad hL hin A f9 g9 t9 hf9 hg9 ht9 h9 hX9 hA hst) C0 hXw hw vw_X5_107 ((hL 0 (by omega))) fx rfl rfl rfl hl.1 rfl (Nat.le_of_ble_eq_true rfl) dX5_byBrackets_6 ⟨by decide, by decide⟩ ⟨by decide, by decide⟩) (funext (fun q  => rfl)) (by decide) (by decide) hQ
abbrev rx_X5_push : Room := { frames := 8, cells := 1, slots := 6, locals := 135 }
set_option maxHeartbeats 4000000 in
set_option maxRecDepth 100000 in
theorem x_X5_push_1 (l : Launch) (G : Gl) (L : List Nat) (F : Nat → va_E) (ad : Nat → Nat) (hL : ∀ i, i < 166 → ad i ∈ L) (hin : ∀ i j, i < 166 → j < 166 → i ≠ j → ad i ≠ ad j) (A : AB) (x9 : Int32) (y9 z9 : Int32) (h9 : ¬ inR x9 0 5) (hX : XW G F ad A) (hA : okA A) (hst : l.stackTraces = false) : XG l yX5_push cX5_push 4 (some .int) rx_X5_push G L F [.ref (ad 0), .int (x9), .int (y9), .int (z9)] "java/lang/IndexOutOfBoundsException" := by
  have hX9 := hX
  obtain ⟨fx, hn, hh, hsn, htx, hrk, ⟨u9, h134⟩, ⟨v9, h150⟩⟩ := hX
  obtain ⟨⟨hc2, hc, hpu, hok⟩, ⟨hh6, hho⟩, hso, hl60, hco⟩ := id hA
  refine XG_of (by decide) (Nat.le_of_ble_eq_true rfl) rfl ?_
  intro p e s m args below meth c Q C0 hXw hlk ht hQ hw ls hl
  have hx := C0.x
  have hb := C0.b
  refine lv_aload_n hx hb dX5_push_0 rfl (lv_at hl 0 rfl) ?_
  refine lv_bipush (v := nI 112) hx hb dX5_push_1 (by decide) ?_
  refine lv_iload_n hx hb dX5_push_3 rfl (lv_at hl 1 rfl) ?_
  refine lv_iload_n hx hb dX5_push_4 rfl (lv_at hl 2 rfl) ?_
  refine lv_iload_n hx hb dX5_push_5 rfl (lv_at hl 3 rfl) ?_
  exact x_pass C0 ht hw hlk (x_runV (As := [.int (nI (112)), .int (x9), .int (y9), .int (z9)]) (x_X5_orderAlone_1 l G L F ad hL hin A (x9) (nI 112) (y9) (z9) h9 hX9 hA hst) C0 hXw hw vw_X5_107 ((hL 0 (by omega))) fx rfl rfl rfl hl.1 rfl (Nat.le_of_ble_eq_true rfl) dX5_push_6 ⟨by decide, by decide⟩ ⟨by decide, by decide⟩) (funext (fun q  => rfl)) (by decide) (by decide) hQ
set_option maxHeartbeats 4000000 in
set_option maxRecDepth 100000 in
theorem x_X5_push_2 (l : Launch) (G : Gl) (L : List Nat) (F : Nat → va_E) (ad : Nat → Nat) (hL : ∀ i, i < 166 → ad i ∈ L) (hin : ∀ i j, i < 166 → j < 166 → i ≠ j → ad i ≠ ad j) (A : AB) (f9 : Nat) (hf9 : f9 < 6) (x9 : Int32) (z9 : Int32) (h9 : ¬ inR x9 0 5) (hX : XW G F ad A) (hA : okA A) (hst : l.stackTraces = false) : XG l yX5_push cX5_push 4 (some .int) rx_X5_push G L F [.ref (ad 0), .int (nI (f9)), .int (x9), .int (z9)] "java/lang/IndexOutOfBoundsException" := by
  have hX9 := hX
  obtain ⟨fx, hn, hh, hsn, htx, hrk, ⟨u9, h134⟩, ⟨v9, h150⟩⟩ := hX
  obtain ⟨⟨hc2, hc, hpu, hok⟩, ⟨hh6, hho⟩, hso, hl60, hco⟩ := id hA
  refine XG_of (by decide) (Nat.le_of_ble_eq_true rfl) rfl ?_
  intro p e s m args below meth c Q C0 hXw hlk ht hQ hw ls hl
  have hx := C0.x
  have hb := C0.b
  refine lv_aload_n hx hb dX5_push_0 rfl (lv_at hl 0 rfl) ?_
  refine lv_bipush (v := nI 112) hx hb dX5_push_1 (by decide) ?_
  refine lv_iload_n hx hb dX5_push_3 rfl (lv_at hl 1 rfl) ?_
  refine lv_iload_n hx hb dX5_push_4 rfl (lv_at hl 2 rfl) ?_
  refine lv_iload_n hx hb dX5_push_5 rfl (lv_at hl 3 rfl) ?_
  exact x_pass C0 ht hw hlk (x_runV (As := [.int (nI (112)), .int (nI (f9)), .int (x9), .int (z9)]) (x_X5_orderAlone_2 l G L F ad hL hin A f9 hf9 (x9) (nI 112) (z9) h9 hX9 hA hst) C0 hXw hw vw_X5_107 ((hL 0 (by omega))) fx rfl rfl rfl hl.1 rfl (Nat.le_of_ble_eq_true rfl) dX5_push_6 ⟨by decide, by decide⟩ ⟨by decide, by decide⟩) (funext (fun q  => rfl)) (by decide) (by decide) hQ
set_option maxHeartbeats 4000000 in
set_option maxRecDepth 100000 in
theorem x_X5_push_3 (l : Launch) (G : Gl) (L : List Nat) (F : Nat → va_E) (ad : Nat → Nat) (hL : ∀ i, i < 166 → ad i ∈ L) (hin : ∀ i j, i < 166 → j < 166 → i ≠ j → ad i ≠ ad j) (A : AB) (f9 g9 : Nat) (hf9 : f9 < 6) (hg9 : g9 < 6) (x9 : Int32) (h9 : ¬ inR x9 0 5) (hX : XW G F ad A) (hA : okA A) (hst : l.stackTraces = false) : XG l yX5_push cX5_push 4 (some .int) rx_X5_push G L F [.ref (ad 0), .int (nI (f9)), .int (nI (g9)), .int (x9)] "java/lang/IndexOutOfBoundsException" := by
  have hX9 := hX
  obtain ⟨fx, hn, hh, hsn, htx, hrk, ⟨u9, h134⟩, ⟨v9, h150⟩⟩ := hX
  obtain ⟨⟨hc2, hc, hpu, hok⟩, ⟨hh6, hho⟩, hso, hl60, hco⟩ := id hA
  refine XG_of (by decide) (Nat.le_of_ble_eq_true rfl) rfl ?_
  intro p e s m args below meth c Q C0 hXw hlk ht hQ hw ls hl
  have hx := C0.x
  have hb := C0.b
  refine lv_aload_n hx hb dX5_push_0 rfl (lv_at hl 0 rfl) ?_
  refine lv_bipush (v := nI 112) hx hb dX5_push_1 (by decide) ?_
  refine lv_iload_n hx hb dX5_push_3 rfl (lv_at hl 1 rfl) ?_
  refine lv_iload_n hx hb dX5_push_4 rfl (lv_at hl 2 rfl) ?_
  refine lv_iload_n hx hb dX5_push_5 rfl (lv_at hl 3 rfl) ?_
  exact x_pass C0 ht hw hlk (x_runV (As := [.int (nI (112)), .int (nI (f9)), .int (nI (g9)), .int (x9)]) (x_X5_orderAlone_3 l G L F ad hL hin A f9 g9 hf9 hg9 (x9) (nI 112) h9 hX9 hA hst) C0 hXw hw vw_X5_107 ((hL 0 (by omega))) fx rfl rfl rfl hl.1 rfl (Nat.le_of_ble_eq_true rfl) dX5_push_6 ⟨by decide, by decide⟩ ⟨by decide, by decide⟩) (funext (fun q  => rfl)) (by decide) (by decide) hQ
set_option maxHeartbeats 4000000 in
set_option maxRecDepth 100000 in
theorem x_X5_push_m (l : Launch) (G : Gl) (L : List Nat) (F : Nat → va_E) (ad : Nat → Nat) (hL : ∀ i, i < 166 → ad i ∈ L) (hin : ∀ i j, i < 166 → j < 166 → i ≠ j → ad i ≠ ad j) (A : AB) (f9 g9 t9 : Nat) (hf9 : f9 < 6) (hg9 : g9 < 6) (ht9 : t9 < 6) (h9 : A.1.2.1 < 6 * A.1.1) (hX : XW G F ad A) (hA : okA A) (hst : l.stackTraces = false) : XG l yX5_push cX5_push 4 (some .int) rx_X5_push G L F [.ref (ad 0), .int (nI (f9)), .int (nI (g9)), .int (nI (t9))] "java/lang/IllegalStateException" := by
  have hX9 := hX
  obtain ⟨fx, hn, hh, hsn, htx, hrk, ⟨u9, h134⟩, ⟨v9, h150⟩⟩ := hX
  obtain ⟨⟨hc2, hc, hpu, hok⟩, ⟨hh6, hho⟩, hso, hl60, hco⟩ := id hA
  refine XG_of (by decide) (Nat.le_of_ble_eq_true rfl) rfl ?_
  intro p e s m args below meth c Q C0 hXw hlk ht hQ hw ls hl
  have hx := C0.x
  have hb := C0.b
  refine lv_aload_n hx hb dX5_push_0 rfl (lv_at hl 0 rfl) ?_
  refine lv_bipush (v := nI 112) hx hb dX5_push_1 (by decide) ?_
  refine lv_iload_n hx hb dX5_push_3 rfl (lv_at hl 1 rfl) ?_
  refine lv_iload_n hx hb dX5_push_4 rfl (lv_at hl 2 rfl) ?_
  refine lv_iload_n hx hb dX5_push_5 rfl (lv_at hl 3 rfl) ?_
  exact x_pass C0 ht hw hlk (x_runV (As := [.int (nI (112)), .int (nI (f9)), .int (nI (g9)), .int (nI (t9))]) (x_X5_orderAlone_m112 l G L F ad hL hin A f9 g9 t9 hf9 hg9 ht9 h9 hX9 hA hst) C0 hXw hw vw_X5_107 ((hL 0 (by omega))) fx rfl rfl rfl hl.1 rfl (Nat.le_of_ble_eq_true rfl) dX5_push_6 ⟨by decide, by decide⟩ ⟨by decide, by decide⟩) (funext (fun q  => rfl)) (by decide) (by decide) hQ
abbrev rx_X5_log : Room := { frames := 8, cells := 1, slots := 6, locals := 135 }
set_option maxHeartbeats 4000000 in
set_option maxRecDepth 100000 in
theorem x_X5_log_1 (l : Launch) (G : Gl) (L : List Nat) (F : Nat → va_E) (ad : Nat → Nat) (hL : ∀ i, i < 166 → ad i ∈ L) (hin : ∀ i j, i < 166 → j < 166 → i ≠ j → ad i ≠ ad j) (A : AB) (x9 : Int32) (z9 : Int32) (h9 : ¬ inR x9 0 5) (hX : XW G F ad A) (hA : okA A) (hst : l.stackTraces = false) : XG l yX5_log cX5_log 3 (some .int) rx_X5_log G L F [.ref (ad 0), .int (x9), .int (z9)] "java/lang/IndexOutOfBoundsException" := by
  have hX9 := hX
  obtain ⟨fx, hn, hh, hsn, htx, hrk, ⟨u9, h134⟩, ⟨v9, h150⟩⟩ := hX
  obtain ⟨⟨hc2, hc, hpu, hok⟩, ⟨hh6, hho⟩, hso, hl60, hco⟩ := id hA
  refine XG_of (by decide) (Nat.le_of_ble_eq_true rfl) rfl ?_
  intro p e s m args below meth c Q C0 hXw hlk ht hQ hw ls hl
  have hx := C0.x
  have hb := C0.b
  refine lv_aload_n hx hb dX5_log_0 rfl (lv_at hl 0 rfl) ?_
  refine lv_bipush (v := nI 108) hx hb dX5_log_1 (by decide) ?_
  refine lv_iload_n hx hb dX5_log_3 rfl (lv_at hl 1 rfl) ?_
  refine lv_iload_n hx hb dX5_log_4 rfl (lv_at hl 1 rfl) ?_
  refine lv_iload_n hx hb dX5_log_5 rfl (lv_at hl 2 rfl) ?_
  exact x_pass C0 ht hw hlk (x_runV (As := [.int (nI (108)), .int (x9), .int (x9), .int (z9)]) (x_X5_orderAlone_1 l G L F ad hL hin A (x9) (nI 108) (x9) (z9) h9 hX9 hA hst) C0 hXw hw vw_X5_107 ((hL 0 (by omega))) fx rfl rfl rfl hl.1 rfl (Nat.le_of_ble_eq_true rfl) dX5_log_6 ⟨by decide, by decide⟩ ⟨by decide, by decide⟩) (funext (fun q  => rfl)) (by decide) (by decide) hQ
set_option maxHeartbeats 4000000 in
set_option maxRecDepth 100000 in
theorem x_X5_log_3 (l : Launch) (G : Gl) (L : List Nat) (F : Nat → va_E) (ad : Nat → Nat) (hL : ∀ i, i < 166 → ad i ∈ L) (hin : ∀ i j, i < 166 → j < 166 → i ≠ j → ad i ≠ ad j) (A : AB) (f9 : Nat) (hf9 : f9 < 6) (x9 : Int32) (h9 : ¬ inR x9 0 5) (hX : XW G F ad A) (hA : okA A) (hst : l.stackTraces = false) : XG l yX5_log cX5_log 3 (some .int) rx_X5_log G L F [.ref (ad 0), .int (nI (f9)), .int (x9)] "java/lang/IndexOutOfBoundsException" := by
  have hX9 := hX
  obtain ⟨fx, hn, hh, hsn, htx, hrk, ⟨u9, h134⟩, ⟨v9, h150⟩⟩ := hX
  obtain ⟨⟨hc2, hc, hpu, hok⟩, ⟨hh6, hho⟩, hso, hl60, hco⟩ := id hA
  refine XG_of (by decide) (Nat.le_of_ble_eq_true rfl) rfl ?_
  intro p e s m args below meth c Q C0 hXw hlk ht hQ hw ls hl
  have hx := C0.x
  have hb := C0.b
  refine lv_aload_n hx hb dX5_log_0 rfl (lv_at hl 0 rfl) ?_
  refine lv_bipush (v := nI 108) hx hb dX5_log_1 (by decide) ?_
  refine lv_iload_n hx hb dX5_log_3 rfl (lv_at hl 1 rfl) ?_
  refine lv_iload_n hx hb dX5_log_4 rfl (lv_at hl 1 rfl) ?_
  refine lv_iload_n hx hb dX5_log_5 rfl (lv_at hl 2 rfl) ?_
  exact x_pass C0 ht hw hlk (x_runV (As := [.int (nI (108)), .int (nI (f9)), .int (nI (f9)), .int (x9)]) (x_X5_orderAlone_3 l G L F ad hL hin A f9 f9 hf9 hf9 (x9) (nI 108) h9 hX9 hA hst) C0 hXw hw vw_X5_107 ((hL 0 (by omega))) fx rfl rfl rfl hl.1 rfl (Nat.le_of_ble_eq_true rfl) dX5_log_6 ⟨by decide, by decide⟩ ⟨by decide, by decide⟩) (funext (fun q  => rfl)) (by decide) (by decide) hQ
set_option maxHeartbeats 4000000 in
set_option maxRecDepth 100000 in
theorem x_X5_log_m (l : Launch) (G : Gl) (L : List Nat) (F : Nat → va_E) (ad : Nat → Nat) (hL : ∀ i, i < 166 → ad i ∈ L) (hin : ∀ i j, i < 166 → j < 166 → i ≠ j → ad i ≠ ad j) (A : AB) (f9 t9 : Nat) (hf9 : f9 < 6) (ht9 : t9 < 6) (h9 : A.1.2.1 < 6 * A.1.1) (hX : XW G F ad A) (hA : okA A) (hst : l.stackTraces = false) : XG l yX5_log cX5_log 3 (some .int) rx_X5_log G L F [.ref (ad 0), .int (nI (f9)), .int (nI (t9))] "java/lang/IllegalStateException" := by
  have hX9 := hX
  obtain ⟨fx, hn, hh, hsn, htx, hrk, ⟨u9, h134⟩, ⟨v9, h150⟩⟩ := hX
  obtain ⟨⟨hc2, hc, hpu, hok⟩, ⟨hh6, hho⟩, hso, hl60, hco⟩ := id hA
  refine XG_of (by decide) (Nat.le_of_ble_eq_true rfl) rfl ?_
  intro p e s m args below meth c Q C0 hXw hlk ht hQ hw ls hl
  have hx := C0.x
  have hb := C0.b
  refine lv_aload_n hx hb dX5_log_0 rfl (lv_at hl 0 rfl) ?_
  refine lv_bipush (v := nI 108) hx hb dX5_log_1 (by decide) ?_
  refine lv_iload_n hx hb dX5_log_3 rfl (lv_at hl 1 rfl) ?_
  refine lv_iload_n hx hb dX5_log_4 rfl (lv_at hl 1 rfl) ?_
  refine lv_iload_n hx hb dX5_log_5 rfl (lv_at hl 2 rfl) ?_
  exact x_pass C0 ht hw hlk (x_runV (As := [.int (nI (108)), .int (nI (f9)), .int (nI (f9)), .int (nI (t9))]) (x_X5_orderAlone_m108 l G L F ad hL hin A f9 f9 t9 hf9 hf9 ht9 h9 hX9 hA hst) C0 hXw hw vw_X5_107 ((hL 0 (by omega))) fx rfl rfl rfl hl.1 rfl (Nat.le_of_ble_eq_true rfl) dX5_log_6 ⟨by decide, by decide⟩ ⟨by decide, by decide⟩) (funext (fun q  => rfl)) (by decide) (by decide) hQ
abbrev rx_X5_exp : Room := { frames := 8, cells := 1, slots := 6, locals := 135 }
set_option maxHeartbeats 4000000 in
set_option maxRecDepth 100000 in
theorem x_X5_exp_1 (l : Launch) (G : Gl) (L : List Nat) (F : Nat → va_E) (ad : Nat → Nat) (hL : ∀ i, i < 166 → ad i ∈ L) (hin : ∀ i j, i < 166 → j < 166 → i ≠ j → ad i ≠ ad j) (A : AB) (x9 : Int32) (z9 : Int32) (h9 : ¬ inR x9 0 5) (hX : XW G F ad A) (hA : okA A) (hst : l.stackTraces = false) : XG l yX5_exp cX5_exp 3 (some .int) rx_X5_exp G L F [.ref (ad 0), .int (x9), .int (z9)] "java/lang/IndexOutOfBoundsException" := by
  have hX9 := hX
  obtain ⟨fx, hn, hh, hsn, htx, hrk, ⟨u9, h134⟩, ⟨v9, h150⟩⟩ := hX
  obtain ⟨⟨hc2, hc, hpu, hok⟩, ⟨hh6, hho⟩, hso, hl60, hco⟩ := id hA
  refine XG_of (by decide) (Nat.le_of_ble_eq_true rfl) rfl ?_
  intro p e s m args below meth c Q C0 hXw hlk ht hQ hw ls hl
  have hx := C0.x
  have hb := C0.b
  refine lv_aload_n hx hb dX5_exp_0 rfl (lv_at hl 0 rfl) ?_
  refine lv_bipush (v := nI 101) hx hb dX5_exp_1 (by decide) ?_
  refine lv_iload_n hx hb dX5_exp_3 rfl (lv_at hl 1 rfl) ?_
  refine lv_iload_n hx hb dX5_exp_4 rfl (lv_at hl 1 rfl) ?_
  refine lv_iload_n hx hb dX5_exp_5 rfl (lv_at hl 2 rfl) ?_
  exact x_pass C0 ht hw hlk (x_runV (As := [.int (nI (101)), .int (x9), .int (x9), .int (z9)]) (x_X5_orderAlone_1 l G L F ad hL hin A (x9) (nI 101) (x9) (z9) h9 hX9 hA hst) C0 hXw hw vw_X5_107 ((hL 0 (by omega))) fx rfl rfl rfl hl.1 rfl (Nat.le_of_ble_eq_true rfl) dX5_exp_6 ⟨by decide, by decide⟩ ⟨by decide, by decide⟩) (funext (fun q  => rfl)) (by decide) (by decide) hQ
set_option maxHeartbeats 4000000 in
set_option maxRecDepth 100000 in
theorem x_X5_exp_3 (l : Launch) (G : Gl) (L : List Nat) (F : Nat → va_E) (ad : Nat → Nat) (hL : ∀ i, i < 166 → ad i ∈ L) (hin : ∀ i j, i < 166 → j < 166 → i ≠ j → ad i ≠ ad j) (A : AB) (f9 : Nat) (hf9 : f9 < 6) (x9 : Int32) (h9 : ¬ inR x9 0 5) (hX : XW G F ad A) (hA : okA A) (hst : l.stackTraces = false) : XG l yX5_exp cX5_exp 3 (some .int) rx_X5_exp G L F [.ref (ad 0), .int (nI (f9)), .int (x9)] "java/lang/IndexOutOfBoundsException" := by
  have hX9 := hX
  obtain ⟨fx, hn, hh, hsn, htx, hrk, ⟨u9, h134⟩, ⟨v9, h150⟩⟩ := hX
  obtain ⟨⟨hc2, hc, hpu, hok⟩, ⟨hh6, hho⟩, hso, hl60, hco⟩ := id hA
  refine XG_of (by decide) (Nat.le_of_ble_eq_true rfl) rfl ?_
  intro p e s m args below meth c Q C0 hXw hlk ht hQ hw ls hl
  have hx := C0.x
  have hb := C0.b
  refine lv_aload_n hx hb dX5_exp_0 rfl (lv_at hl 0 rfl) ?_
  refine lv_bipush (v := nI 101) hx hb dX5_exp_1 (by decide) ?_
  refine lv_iload_n hx hb dX5_exp_3 rfl (lv_at hl 1 rfl) ?_
  refine lv_iload_n hx hb dX5_exp_4 rfl (lv_at hl 1 rfl) ?_
  refine lv_iload_n hx hb dX5_exp_5 rfl (lv_at hl 2 rfl) ?_
  exact x_pass C0 ht hw hlk (x_runV (As := [.int (nI (101)), .int (nI (f9)), .int (nI (f9)), .int (x9)]) (x_X5_orderAlone_3 l G L F ad hL hin A f9 f9 hf9 hf9 (x9) (nI 101) h9 hX9 hA hst) C0 hXw hw vw_X5_107 ((hL 0 (by omega))) fx rfl rfl rfl hl.1 rfl (Nat.le_of_ble_eq_true rfl) dX5_exp_6 ⟨by decide, by decide⟩ ⟨by decide, by decide⟩) (funext (fun q  => rfl)) (by decide) (by decide) hQ
set_option maxHeartbeats 4000000 in
set_option maxRecDepth 100000 in
theorem x_X5_exp_m (l : Launch) (G : Gl) (L : List Nat) (F : Nat → va_E) (ad : Nat → Nat) (hL : ∀ i, i < 166 → ad i ∈ L) (hin : ∀ i j, i < 166 → j < 166 → i ≠ j → ad i ≠ ad j) (A : AB) (f9 t9 : Nat) (hf9 : f9 < 6) (ht9 : t9 < 6) (h9 : A.1.2.1 < 5 * A.1.1) (hX : XW G F ad A) (hA : okA A) (hst : l.stackTraces = false) : XG l yX5_exp cX5_exp 3 (some .int) rx_X5_exp G L F [.ref (ad 0), .int (nI (f9)), .int (nI (t9))] "java/lang/IllegalStateException" := by
  have hX9 := hX
  obtain ⟨fx, hn, hh, hsn, htx, hrk, ⟨u9, h134⟩, ⟨v9, h150⟩⟩ := hX
  obtain ⟨⟨hc2, hc, hpu, hok⟩, ⟨hh6, hho⟩, hso, hl60, hco⟩ := id hA
  refine XG_of (by decide) (Nat.le_of_ble_eq_true rfl) rfl ?_
  intro p e s m args below meth c Q C0 hXw hlk ht hQ hw ls hl
  have hx := C0.x
  have hb := C0.b
  refine lv_aload_n hx hb dX5_exp_0 rfl (lv_at hl 0 rfl) ?_
  refine lv_bipush (v := nI 101) hx hb dX5_exp_1 (by decide) ?_
  refine lv_iload_n hx hb dX5_exp_3 rfl (lv_at hl 1 rfl) ?_
  refine lv_iload_n hx hb dX5_exp_4 rfl (lv_at hl 1 rfl) ?_
  refine lv_iload_n hx hb dX5_exp_5 rfl (lv_at hl 2 rfl) ?_
  exact x_pass C0 ht hw hlk (x_runV (As := [.int (nI (101)), .int (nI (f9)), .int (nI (f9)), .int (nI (t9))]) (x_X5_orderAlone_m101 l G L F ad hL hin A f9 f9 t9 hf9 hf9 ht9 h9 hX9 hA hst) C0 hXw hw vw_X5_107 ((hL 0 (by omega))) fx rfl rfl rfl hl.1 rfl (Nat.le_of_ble_eq_true rfl) dX5_exp_6 ⟨by decide, by decide⟩ ⟨by decide, by decide⟩) (funext (fun q  => rfl)) (by decide) (by decide) hQ
abbrev rx_X5_compose : Room := { frames := 8, cells := 1, slots := 6, locals := 135 }
set_option maxHeartbeats 4000000 in
set_option maxRecDepth 100000 in
theorem x_X5_compose_1 (l : Launch) (G : Gl) (L : List Nat) (F : Nat → va_E) (ad : Nat → Nat) (hL : ∀ i, i < 166 → ad i ∈ L) (hin : ∀ i j, i < 166 → j < 166 → i ≠ j → ad i ≠ ad j) (A : AB) (x9 : Int32) (y9 z9 : Int32) (h9 : ¬ inR x9 0 5) (hX : XW G F ad A) (hA : okA A) (hst : l.stackTraces = false) : XG l yX5_compose cX5_compose 4 (some .int) rx_X5_compose G L F [.ref (ad 0), .int (x9), .int (y9), .int (z9)] "java/lang/IndexOutOfBoundsException" := by
  have hX9 := hX
  obtain ⟨fx, hn, hh, hsn, htx, hrk, ⟨u9, h134⟩, ⟨v9, h150⟩⟩ := hX
  obtain ⟨⟨hc2, hc, hpu, hok⟩, ⟨hh6, hho⟩, hso, hl60, hco⟩ := id hA
  refine XG_of (by decide) (Nat.le_of_ble_eq_true rfl) rfl ?_
  intro p e s m args below meth c Q C0 hXw hlk ht hQ hw ls hl
  have hx := C0.x
  have hb := C0.b
  refine lv_aload_n hx hb dX5_compose_0 rfl (lv_at hl 0 rfl) ?_
  refine lv_bipush (v := nI 99) hx hb dX5_compose_1 (by decide) ?_
  refine lv_iload_n hx hb dX5_compose_3 rfl (lv_at hl 1 rfl) ?_
  refine lv_iload_n hx hb dX5_compose_4 rfl (lv_at hl 2 rfl) ?_
  refine lv_iload_n hx hb dX5_compose_5 rfl (lv_at hl 3 rfl) ?_
  exact x_pass C0 ht hw hlk (x_runV (As := [.int (nI (99)), .int (x9), .int (y9), .int (z9)]) (x_X5_orderAlone_1 l G L F ad hL hin A (x9) (nI 99) (y9) (z9) h9 hX9 hA hst) C0 hXw hw vw_X5_107 ((hL 0 (by omega))) fx rfl rfl rfl hl.1 rfl (Nat.le_of_ble_eq_true rfl) dX5_compose_6 ⟨by decide, by decide⟩ ⟨by decide, by decide⟩) (funext (fun q  => rfl)) (by decide) (by decide) hQ
set_option maxHeartbeats 4000000 in
set_option maxRecDepth 100000 in
theorem x_X5_compose_2 (l : Launch) (G : Gl) (L : List Nat) (F : Nat → va_E) (ad : Nat → Nat) (hL : ∀ i, i < 166 → ad i ∈ L) (hin : ∀ i j, i < 166 → j < 166 → i ≠ j → ad i ≠ ad j) (A : AB) (f9 : Nat) (hf9 : f9 < 6) (x9 : Int32) (z9 : Int32) (h9 : ¬ inR x9 0 5) (hX : XW G F ad A) (hA : okA A) (hst : l.stackTraces = false) : XG l yX5_compose cX5_compose 4 (some .int) rx_X5_compose G L F [.ref (ad 0), .int (nI (f9)), .int (x9), .int (z9)] "java/lang/IndexOutOfBoundsException" := by
  have hX9 := hX
  obtain ⟨fx, hn, hh, hsn, htx, hrk, ⟨u9, h134⟩, ⟨v9, h150⟩⟩ := hX
  obtain ⟨⟨hc2, hc, hpu, hok⟩, ⟨hh6, hho⟩, hso, hl60, hco⟩ := id hA
  refine XG_of (by decide) (Nat.le_of_ble_eq_true rfl) rfl ?_
  intro p e s m args below meth c Q C0 hXw hlk ht hQ hw ls hl
  have hx := C0.x
  have hb := C0.b
  refine lv_aload_n hx hb dX5_compose_0 rfl (lv_at hl 0 rfl) ?_
  refine lv_bipush (v := nI 99) hx hb dX5_compose_1 (by decide) ?_
  refine lv_iload_n hx hb dX5_compose_3 rfl (lv_at hl 1 rfl) ?_
  refine lv_iload_n hx hb dX5_compose_4 rfl (lv_at hl 2 rfl) ?_
  refine lv_iload_n hx hb dX5_compose_5 rfl (lv_at hl 3 rfl) ?_
  exact x_pass C0 ht hw hlk (x_runV (As := [.int (nI (99)), .int (nI (f9)), .int (x9), .int (z9)]) (x_X5_orderAlone_2 l G L F ad hL hin A f9 hf9 (x9) (nI 99) (z9) h9 hX9 hA hst) C0 hXw hw vw_X5_107 ((hL 0 (by omega))) fx rfl rfl rfl hl.1 rfl (Nat.le_of_ble_eq_true rfl) dX5_compose_6 ⟨by decide, by decide⟩ ⟨by decide, by decide⟩) (funext (fun q  => rfl)) (by decide) (by decide) hQ
set_option maxHeartbeats 4000000 in
set_option maxRecDepth 100000 in
theorem x_X5_compose_3 (l : Launch) (G : Gl) (L : List Nat) (F : Nat → va_E) (ad : Nat → Nat) (hL : ∀ i, i < 166 → ad i ∈ L) (hin : ∀ i j, i < 166 → j < 166 → i ≠ j → ad i ≠ ad j) (A : AB) (f9 g9 : Nat) (hf9 : f9 < 6) (hg9 : g9 < 6) (x9 : Int32) (h9 : ¬ inR x9 0 5) (hX : XW G F ad A) (hA : okA A) (hst : l.stackTraces = false) : XG l yX5_compose cX5_compose 4 (some .int) rx_X5_compose G L F [.ref (ad 0), .int (nI (f9)), .int (nI (g9)), .int (x9)] "java/lang/IndexOutOfBoundsException" := by
  have hX9 := hX
  obtain ⟨fx, hn, hh, hsn, htx, hrk, ⟨u9, h134⟩, ⟨v9, h150⟩⟩ := hX
  obtain ⟨⟨hc2, hc, hpu, hok⟩, ⟨hh6, hho⟩, hso, hl60, hco⟩ := id hA
  refine XG_of (by decide) (Nat.le_of_ble_eq_true rfl) rfl ?_
  intro p e s m args below meth c Q C0 hXw hlk ht hQ hw ls hl
  have hx := C0.x
  have hb := C0.b
  refine lv_aload_n hx hb dX5_compose_0 rfl (lv_at hl 0 rfl) ?_
  refine lv_bipush (v := nI 99) hx hb dX5_compose_1 (by decide) ?_
  refine lv_iload_n hx hb dX5_compose_3 rfl (lv_at hl 1 rfl) ?_
  refine lv_iload_n hx hb dX5_compose_4 rfl (lv_at hl 2 rfl) ?_
  refine lv_iload_n hx hb dX5_compose_5 rfl (lv_at hl 3 rfl) ?_
  exact x_pass C0 ht hw hlk (x_runV (As := [.int (nI (99)), .int (nI (f9)), .int (nI (g9)), .int (x9)]) (x_X5_orderAlone_3 l G L F ad hL hin A f9 g9 hf9 hg9 (x9) (nI 99) h9 hX9 hA hst) C0 hXw hw vw_X5_107 ((hL 0 (by omega))) fx rfl rfl rfl hl.1 rfl (Nat.le_of_ble_eq_true rfl) dX5_compose_6 ⟨by decide, by decide⟩ ⟨by decide, by decide⟩) (funext (fun q  => rfl)) (by decide) (by decide) hQ
set_option maxHeartbeats 4000000 in
set_option maxRecDepth 100000 in
theorem x_X5_compose_m (l : Launch) (G : Gl) (L : List Nat) (F : Nat → va_E) (ad : Nat → Nat) (hL : ∀ i, i < 166 → ad i ∈ L) (hin : ∀ i j, i < 166 → j < 166 → i ≠ j → ad i ≠ ad j) (A : AB) (f9 g9 t9 : Nat) (hf9 : f9 < 6) (hg9 : g9 < 6) (ht9 : t9 < 6) (h9 : A.1.2.1 < 4 * A.1.1) (hX : XW G F ad A) (hA : okA A) (hst : l.stackTraces = false) : XG l yX5_compose cX5_compose 4 (some .int) rx_X5_compose G L F [.ref (ad 0), .int (nI (f9)), .int (nI (g9)), .int (nI (t9))] "java/lang/IllegalStateException" := by
  have hX9 := hX
  obtain ⟨fx, hn, hh, hsn, htx, hrk, ⟨u9, h134⟩, ⟨v9, h150⟩⟩ := hX
  obtain ⟨⟨hc2, hc, hpu, hok⟩, ⟨hh6, hho⟩, hso, hl60, hco⟩ := id hA
  refine XG_of (by decide) (Nat.le_of_ble_eq_true rfl) rfl ?_
  intro p e s m args below meth c Q C0 hXw hlk ht hQ hw ls hl
  have hx := C0.x
  have hb := C0.b
  refine lv_aload_n hx hb dX5_compose_0 rfl (lv_at hl 0 rfl) ?_
  refine lv_bipush (v := nI 99) hx hb dX5_compose_1 (by decide) ?_
  refine lv_iload_n hx hb dX5_compose_3 rfl (lv_at hl 1 rfl) ?_
  refine lv_iload_n hx hb dX5_compose_4 rfl (lv_at hl 2 rfl) ?_
  refine lv_iload_n hx hb dX5_compose_5 rfl (lv_at hl 3 rfl) ?_
  exact x_pass C0 ht hw hlk (x_runV (As := [.int (nI (99)), .int (nI (f9)), .int (nI (g9)), .int (nI (t9))]) (x_X5_orderAlone_m99 l G L F ad hL hin A f9 g9 t9 hf9 hg9 ht9 h9 hX9 hA hst) C0 hXw hw vw_X5_107 ((hL 0 (by omega))) fx rfl rfl rfl hl.1 rfl (Nat.le_of_ble_eq_true rfl) dX5_compose_6 ⟨by decide, by decide⟩ ⟨by decide, by decide⟩) (funext (fun q  => rfl)) (by decide) (by decide) hQ
abbrev rx_X5_invert : Room := { frames := 8, cells := 1, slots := 6, locals := 135 }
set_option maxHeartbeats 4000000 in
set_option maxRecDepth 100000 in
theorem x_X5_invert_1 (l : Launch) (G : Gl) (L : List Nat) (F : Nat → va_E) (ad : Nat → Nat) (hL : ∀ i, i < 166 → ad i ∈ L) (hin : ∀ i j, i < 166 → j < 166 → i ≠ j → ad i ≠ ad j) (A : AB) (x9 : Int32) (z9 : Int32) (h9 : ¬ inR x9 0 5) (hX : XW G F ad A) (hA : okA A) (hst : l.stackTraces = false) : XG l yX5_invert cX5_invert 3 (some .int) rx_X5_invert G L F [.ref (ad 0), .int (x9), .int (z9)] "java/lang/IndexOutOfBoundsException" := by
  have hX9 := hX
  obtain ⟨fx, hn, hh, hsn, htx, hrk, ⟨u9, h134⟩, ⟨v9, h150⟩⟩ := hX
  obtain ⟨⟨hc2, hc, hpu, hok⟩, ⟨hh6, hho⟩, hso, hl60, hco⟩ := id hA
  refine XG_of (by decide) (Nat.le_of_ble_eq_true rfl) rfl ?_
  intro p e s m args below meth c Q C0 hXw hlk ht hQ hw ls hl
  have hx := C0.x
  have hb := C0.b
  refine lv_aload_n hx hb dX5_invert_0 rfl (lv_at hl 0 rfl) ?_
  refine lv_bipush (v := nI 105) hx hb dX5_invert_1 (by decide) ?_
  refine lv_iload_n hx hb dX5_invert_3 rfl (lv_at hl 1 rfl) ?_
  refine lv_iload_n hx hb dX5_invert_4 rfl (lv_at hl 1 rfl) ?_
  refine lv_iload_n hx hb dX5_invert_5 rfl (lv_at hl 2 rfl) ?_
  exact x_pass C0 ht hw hlk (x_runV (As := [.int (nI (105)), .int (x9), .int (x9), .int (z9)]) (x_X5_orderAlone_1 l G L F ad hL hin A (x9) (nI 105) (x9) (z9) h9 hX9 hA hst) C0 hXw hw vw_X5_107 ((hL 0 (by omega))) fx rfl rfl rfl hl.1 rfl (Nat.le_of_ble_eq_true rfl) dX5_invert_6 ⟨by decide, by decide⟩ ⟨by decide, by decide⟩) (funext (fun q  => rfl)) (by decide) (by decide) hQ
set_option maxHeartbeats 4000000 in
set_option maxRecDepth 100000 in
theorem x_X5_invert_3 (l : Launch) (G : Gl) (L : List Nat) (F : Nat → va_E) (ad : Nat → Nat) (hL : ∀ i, i < 166 → ad i ∈ L) (hin : ∀ i j, i < 166 → j < 166 → i ≠ j → ad i ≠ ad j) (A : AB) (f9 : Nat) (hf9 : f9 < 6) (x9 : Int32) (h9 : ¬ inR x9 0 5) (hX : XW G F ad A) (hA : okA A) (hst : l.stackTraces = false) : XG l yX5_invert cX5_invert 3 (some .int) rx_X5_invert G L F [.ref (ad 0), .int (nI (f9)), .int (x9)] "java/lang/IndexOutOfBoundsException" := by
  have hX9 := hX
  obtain ⟨fx, hn, hh, hsn, htx, hrk, ⟨u9, h134⟩, ⟨v9, h150⟩⟩ := hX
  obtain ⟨⟨hc2, hc, hpu, hok⟩, ⟨hh6, hho⟩, hso, hl60, hco⟩ := id hA
  refine XG_of (by decide) (Nat.le_of_ble_eq_true rfl) rfl ?_
  intro p e s m args below meth c Q C0 hXw hlk ht hQ hw ls hl
  have hx := C0.x
  have hb := C0.b
  refine lv_aload_n hx hb dX5_invert_0 rfl (lv_at hl 0 rfl) ?_
  refine lv_bipush (v := nI 105) hx hb dX5_invert_1 (by decide) ?_
  refine lv_iload_n hx hb dX5_invert_3 rfl (lv_at hl 1 rfl) ?_
  refine lv_iload_n hx hb dX5_invert_4 rfl (lv_at hl 1 rfl) ?_
  refine lv_iload_n hx hb dX5_invert_5 rfl (lv_at hl 2 rfl) ?_
  exact x_pass C0 ht hw hlk (x_runV (As := [.int (nI (105)), .int (nI (f9)), .int (nI (f9)), .int (x9)]) (x_X5_orderAlone_3 l G L F ad hL hin A f9 f9 hf9 hf9 (x9) (nI 105) h9 hX9 hA hst) C0 hXw hw vw_X5_107 ((hL 0 (by omega))) fx rfl rfl rfl hl.1 rfl (Nat.le_of_ble_eq_true rfl) dX5_invert_6 ⟨by decide, by decide⟩ ⟨by decide, by decide⟩) (funext (fun q  => rfl)) (by decide) (by decide) hQ
set_option maxHeartbeats 4000000 in
set_option maxRecDepth 100000 in
theorem x_X5_invert_m (l : Launch) (G : Gl) (L : List Nat) (F : Nat → va_E) (ad : Nat → Nat) (hL : ∀ i, i < 166 → ad i ∈ L) (hin : ∀ i j, i < 166 → j < 166 → i ≠ j → ad i ≠ ad j) (A : AB) (f9 t9 : Nat) (hf9 : f9 < 6) (ht9 : t9 < 6) (h9 : A.1.2.1 < 4 * A.1.1) (hX : XW G F ad A) (hA : okA A) (hst : l.stackTraces = false) : XG l yX5_invert cX5_invert 3 (some .int) rx_X5_invert G L F [.ref (ad 0), .int (nI (f9)), .int (nI (t9))] "java/lang/IllegalStateException" := by
  have hX9 := hX
  obtain ⟨fx, hn, hh, hsn, htx, hrk, ⟨u9, h134⟩, ⟨v9, h150⟩⟩ := hX
  obtain ⟨⟨hc2, hc, hpu, hok⟩, ⟨hh6, hho⟩, hso, hl60, hco⟩ := id hA
  refine XG_of (by decide) (Nat.le_of_ble_eq_true rfl) rfl ?_
  intro p e s m args below meth c Q C0 hXw hlk ht hQ hw ls hl
  have hx := C0.x
  have hb := C0.b
  refine lv_aload_n hx hb dX5_invert_0 rfl (lv_at hl 0 rfl) ?_
  refine lv_bipush (v := nI 105) hx hb dX5_invert_1 (by decide) ?_
  refine lv_iload_n hx hb dX5_invert_3 rfl (lv_at hl 1 rfl) ?_
  refine lv_iload_n hx hb dX5_invert_4 rfl (lv_at hl 1 rfl) ?_
  refine lv_iload_n hx hb dX5_invert_5 rfl (lv_at hl 2 rfl) ?_
  exact x_pass C0 ht hw hlk (x_runV (As := [.int (nI (105)), .int (nI (f9)), .int (nI (f9)), .int (nI (t9))]) (x_X5_orderAlone_m105 l G L F ad hL hin A f9 f9 t9 hf9 hf9 ht9 h9 hX9 hA hst) C0 hXw hw vw_X5_107 ((hL 0 (by omega))) fx rfl rfl rfl hl.1 rfl (Nat.le_of_ble_eq_true rfl) dX5_invert_6 ⟨by decide, by decide⟩ ⟨by decide, by decide⟩) (funext (fun q  => rfl)) (by decide) (by decide) hQ
abbrev rx_X5_clash : Room := { frames := 7, cells := 1, slots := 6, locals := 110 }
set_option maxHeartbeats 4000000 in
set_option maxRecDepth 100000 in
theorem x_X5_clash_1 (l : Launch) (G : Gl) (L : List Nat) (F : Nat → va_E) (ad : Nat → Nat) (hL : ∀ i, i < 166 → ad i ∈ L) (hin : ∀ i j, i < 166 → j < 166 → i ≠ j → ad i ≠ ad j) (A : AB) (x9 : Int32) (y9 : Int32) (h9 : ¬ inR x9 0 5) (hX : XW G F ad A) (hA : okA A) (hst : l.stackTraces = false) : XG l yX5_clash cX5_clash 3 (some .int) rx_X5_clash G L F [.ref (ad 0), .int (x9), .int (y9)] "java/lang/IndexOutOfBoundsException" := by
  obtain ⟨fx, hn, hh, hsn, htx, hrk, ⟨u9, h134⟩, ⟨v9, h150⟩⟩ := hX
  obtain ⟨⟨hc2, hc, hpu, hok⟩, ⟨hh6, hho⟩, hso, hl60, hco⟩ := id hA
  refine XG_of (by decide) (Nat.le_of_ble_eq_true rfl) rfl ?_
  intro p e s m args below meth c Q C0 hXw hlk ht hQ hw ls hl
  have hx := C0.x
  have hb := C0.b
  refine lv_iload_n hx hb dX5_clash_0 rfl (lv_at hl 1 rfl) ?_
  exact x_pass C0 ht hw hlk (x_runS (As := [.int (x9)]) (x_X5_needSlot l G L F (x9) h9 hst) C0 hXw hw sw_X5_78 rfl hl.1 rfl (Nat.le_of_ble_eq_true rfl) dX5_clash_1 ⟨by decide, by decide⟩ ⟨by decide, by decide⟩) (funext (fun q  => rfl)) (by decide) (by decide) hQ
set_option maxHeartbeats 4000000 in
set_option maxRecDepth 100000 in
theorem x_X5_clash_2 (l : Launch) (G : Gl) (L : List Nat) (F : Nat → va_E) (ad : Nat → Nat) (hL : ∀ i, i < 166 → ad i ∈ L) (hin : ∀ i j, i < 166 → j < 166 → i ≠ j → ad i ≠ ad j) (A : AB) (f9 : Nat) (hf9 : f9 < 6) (x9 : Int32) (h9 : ¬ inR x9 0 5) (hX : XW G F ad A) (hA : okA A) (hst : l.stackTraces = false) : XG l yX5_clash cX5_clash 3 (some .int) rx_X5_clash G L F [.ref (ad 0), .int (nI (f9)), .int (x9)] "java/lang/IndexOutOfBoundsException" := by
  obtain ⟨fx, hn, hh, hsn, htx, hrk, ⟨u9, h134⟩, ⟨v9, h150⟩⟩ := hX
  obtain ⟨⟨hc2, hc, hpu, hok⟩, ⟨hh6, hho⟩, hso, hl60, hco⟩ := id hA
  refine XG_of (by decide) (Nat.le_of_ble_eq_true rfl) rfl ?_
  intro p e s m args below meth c Q C0 hXw hlk ht hQ hw ls hl
  have hx := C0.x
  have hb := C0.b
  refine lv_iload_n hx hb dX5_clash_0 rfl (lv_at hl 1 rfl) ?_
  refine q_callv hw (q_runS (As := [.int (nI (f9))]) (c_X5_needSlot l G L F f9 (by omega)) C0 hw sw_X5_78 rfl hl.1 rfl (Nat.le_of_ble_eq_true rfl) dX5_clash_1 ⟨by decide, by decide⟩ ⟨by decide, by decide⟩) rfl rfl (fun F_4890 H locs hw hp_4891 => ?_)
  refine lv_iload_n hx hb dX5_clash_4 rfl (lv_at hl 2 rfl) ?_
  exact x_pass C0 ht hw hlk (x_runS (As := [.int (x9)]) (x_X5_needSlot l G L F_4890 (x9) h9 hst) C0 hXw hw sw_X5_78 rfl hl.1 rfl (Nat.le_of_ble_eq_true rfl) dX5_clash_5 ⟨by decide, by decide⟩ ⟨by decide, by decide⟩) (funext (fun q  => (hp_4891 q ))) (by decide) (by decide) hQ
abbrev rx_X5_apart : Room := { frames := 7, cells := 1, slots := 6, locals := 110 }
set_option maxHeartbeats 4000000 in
set_option maxRecDepth 100000 in
theorem x_X5_apart_1 (l : Launch) (G : Gl) (L : List Nat) (F : Nat → va_E) (ad : Nat → Nat) (hL : ∀ i, i < 166 → ad i ∈ L) (hin : ∀ i j, i < 166 → j < 166 → i ≠ j → ad i ≠ ad j) (A : AB) (x9 : Int32) (y9 : Int32) (h9 : ¬ inR x9 0 5) (hX : XW G F ad A) (hA : okA A) (hst : l.stackTraces = false) : XG l yX5_apart cX5_apart 3 (some .int) rx_X5_apart G L F [.ref (ad 0), .int (x9), .int (y9)] "java/lang/IndexOutOfBoundsException" := by
  obtain ⟨fx, hn, hh, hsn, htx, hrk, ⟨u9, h134⟩, ⟨v9, h150⟩⟩ := hX
  obtain ⟨⟨hc2, hc, hpu, hok⟩, ⟨hh6, hho⟩, hso, hl60, hco⟩ := id hA
  refine XG_of (by decide) (Nat.le_of_ble_eq_true rfl) rfl ?_
  intro p e s m args below meth c Q C0 hXw hlk ht hQ hw ls hl
  have hx := C0.x
  have hb := C0.b
  refine lv_iload_n hx hb dX5_apart_0 rfl (lv_at hl 1 rfl) ?_
  exact x_pass C0 ht hw hlk (x_runS (As := [.int (x9)]) (x_X5_needSlot l G L F (x9) h9 hst) C0 hXw hw sw_X5_78 rfl hl.1 rfl (Nat.le_of_ble_eq_true rfl) dX5_apart_1 ⟨by decide, by decide⟩ ⟨by decide, by decide⟩) (funext (fun q  => rfl)) (by decide) (by decide) hQ
set_option maxHeartbeats 4000000 in
set_option maxRecDepth 100000 in
theorem x_X5_apart_2 (l : Launch) (G : Gl) (L : List Nat) (F : Nat → va_E) (ad : Nat → Nat) (hL : ∀ i, i < 166 → ad i ∈ L) (hin : ∀ i j, i < 166 → j < 166 → i ≠ j → ad i ≠ ad j) (A : AB) (f9 : Nat) (hf9 : f9 < 6) (x9 : Int32) (h9 : ¬ inR x9 0 5) (hX : XW G F ad A) (hA : okA A) (hst : l.stackTraces = false) : XG l yX5_apart cX5_apart 3 (some .int) rx_X5_apart G L F [.ref (ad 0), .int (nI (f9)), .int (x9)] "java/lang/IndexOutOfBoundsException" := by
  obtain ⟨fx, hn, hh, hsn, htx, hrk, ⟨u9, h134⟩, ⟨v9, h150⟩⟩ := hX
  obtain ⟨⟨hc2, hc, hpu, hok⟩, ⟨hh6, hho⟩, hso, hl60, hco⟩ := id hA
  refine XG_of (by decide) (Nat.le_of_ble_eq_true rfl) rfl ?_
  intro p e s m args below meth c Q C0 hXw hlk ht hQ hw ls hl
  have hx := C0.x
  have hb := C0.b
  refine lv_iload_n hx hb dX5_apart_0 rfl (lv_at hl 1 rfl) ?_
  refine q_callv hw (q_runS (As := [.int (nI (f9))]) (c_X5_needSlot l G L F f9 (by omega)) C0 hw sw_X5_78 rfl hl.1 rfl (Nat.le_of_ble_eq_true rfl) dX5_apart_1 ⟨by decide, by decide⟩ ⟨by decide, by decide⟩) rfl rfl (fun F_4892 H locs hw hp_4893 => ?_)
  refine lv_iload_n hx hb dX5_apart_4 rfl (lv_at hl 2 rfl) ?_
  exact x_pass C0 ht hw hlk (x_runS (As := [.int (x9)]) (x_X5_needSlot l G L F_4892 (x9) h9 hst) C0 hXw hw sw_X5_78 rfl hl.1 rfl (Nat.le_of_ble_eq_true rfl) dX5_apart_5 ⟨by decide, by decide⟩ ⟨by decide, by decide⟩) (funext (fun q  => (hp_4893 q ))) (by decide) (by decide) hQ
abbrev rx_X5_differs : Room := { frames := 7, cells := 1, slots := 6, locals := 110 }
set_option maxHeartbeats 4000000 in
set_option maxRecDepth 100000 in
theorem x_X5_differs_1 (l : Launch) (G : Gl) (L : List Nat) (F : Nat → va_E) (ad : Nat → Nat) (hL : ∀ i, i < 166 → ad i ∈ L) (hin : ∀ i j, i < 166 → j < 166 → i ≠ j → ad i ≠ ad j) (A : AB) (x9 : Int32) (y9 z9 : Int32) (h9 : ¬ inR x9 0 5) (hX : XW G F ad A) (hA : okA A) (hst : l.stackTraces = false) : XG l yX5_differs cX5_differs 4 (some .int) rx_X5_differs G L F [.ref (ad 0), .int (x9), .int (y9), .int (z9)] "java/lang/IndexOutOfBoundsException" := by
  obtain ⟨fx, hn, hh, hsn, htx, hrk, ⟨u9, h134⟩, ⟨v9, h150⟩⟩ := hX
  obtain ⟨⟨hc2, hc, hpu, hok⟩, ⟨hh6, hho⟩, hso, hl60, hco⟩ := id hA
  refine XG_of (by decide) (Nat.le_of_ble_eq_true rfl) rfl ?_
  intro p e s m args below meth c Q C0 hXw hlk ht hQ hw ls hl
  have hx := C0.x
  have hb := C0.b
  refine lv_iload_n hx hb dX5_differs_0 rfl (lv_at hl 1 rfl) ?_
  exact x_pass C0 ht hw hlk (x_runS (As := [.int (x9)]) (x_X5_needSlot l G L F (x9) h9 hst) C0 hXw hw sw_X5_78 rfl hl.1 rfl (Nat.le_of_ble_eq_true rfl) dX5_differs_1 ⟨by decide, by decide⟩ ⟨by decide, by decide⟩) (funext (fun q  => rfl)) (by decide) (by decide) hQ
set_option maxHeartbeats 4000000 in
set_option maxRecDepth 100000 in
theorem x_X5_differs_2 (l : Launch) (G : Gl) (L : List Nat) (F : Nat → va_E) (ad : Nat → Nat) (hL : ∀ i, i < 166 → ad i ∈ L) (hin : ∀ i j, i < 166 → j < 166 → i ≠ j → ad i ≠ ad j) (A : AB) (f9 : Nat) (hf9 : f9 < 6) (x9 : Int32) (z9 : Int32) (h9 : ¬ inR x9 0 5) (hX : XW G F ad A) (hA : okA A) (hst : l.stackTraces = false) : XG l yX5_differs cX5_differs 4 (some .int) rx_X5_differs G L F [.ref (ad 0), .int (nI (f9)), .int (x9), .int (z9)] "java/lang/IndexOutOfBoundsException" := by
  obtain ⟨fx, hn, hh, hsn, htx, hrk, ⟨u9, h134⟩, ⟨v9, h150⟩⟩ := hX
  obtain ⟨⟨hc2, hc, hpu, hok⟩, ⟨hh6, hho⟩, hso, hl60, hco⟩ := id hA
  refine XG_of (by decide) (Nat.le_of_ble_eq_true rfl) rfl ?_
  intro p e s m args below meth c Q C0 hXw hlk ht hQ hw ls hl
  have hx := C0.x
  have hb := C0.b
  refine lv_iload_n hx hb dX5_differs_0 rfl (lv_at hl 1 rfl) ?_
  refine q_callv hw (q_runS (As := [.int (nI (f9))]) (c_X5_needSlot l G L F f9 (by omega)) C0 hw sw_X5_78 rfl hl.1 rfl (Nat.le_of_ble_eq_true rfl) dX5_differs_1 ⟨by decide, by decide⟩ ⟨by decide, by decide⟩) rfl rfl (fun F_4894 H locs hw hp_4895 => ?_)
  refine lv_iload_n hx hb dX5_differs_4 rfl (lv_at hl 2 rfl) ?_
  exact x_pass C0 ht hw hlk (x_runS (As := [.int (x9)]) (x_X5_needSlot l G L F_4894 (x9) h9 hst) C0 hXw hw sw_X5_78 rfl hl.1 rfl (Nat.le_of_ble_eq_true rfl) dX5_differs_5 ⟨by decide, by decide⟩ ⟨by decide, by decide⟩) (funext (fun q  => (hp_4895 q ))) (by decide) (by decide) hQ
set_option maxHeartbeats 4000000 in
set_option maxRecDepth 100000 in
theorem x_X5_differs_3 (l : Launch) (G : Gl) (L : List Nat) (F : Nat → va_E) (ad : Nat → Nat) (hL : ∀ i, i < 166 → ad i ∈ L) (hin : ∀ i j, i < 166 → j < 166 → i ≠ j → ad i ≠ ad j) (A : AB) (f9 g9 : Nat) (hf9 : f9 < 6) (hg9 : g9 < 6) (x9 : Int32) (h9 : ¬ inR x9 2 5) (hX : XW G F ad A) (hA : okA A) (hst : l.stackTraces = false) : XG l yX5_differs cX5_differs 4 (some .int) rx_X5_differs G L F [.ref (ad 0), .int (nI (f9)), .int (nI (g9)), .int (x9)] "java/lang/IllegalArgumentException" := by
  obtain ⟨fx, hn, hh, hsn, htx, hrk, ⟨u9, h134⟩, ⟨v9, h150⟩⟩ := hX
  obtain ⟨⟨hc2, hc, hpu, hok⟩, ⟨hh6, hho⟩, hso, hl60, hco⟩ := id hA
  refine XG_of (by decide) (Nat.le_of_ble_eq_true rfl) rfl ?_
  intro p e s m args below meth c Q C0 hXw hlk ht hQ hw ls hl
  have hx := C0.x
  have hb := C0.b
  refine lv_iload_n hx hb dX5_differs_0 rfl (lv_at hl 1 rfl) ?_
  refine q_callv hw (q_runS (As := [.int (nI (f9))]) (c_X5_needSlot l G L F f9 (by omega)) C0 hw sw_X5_78 rfl hl.1 rfl (Nat.le_of_ble_eq_true rfl) dX5_differs_1 ⟨by decide, by decide⟩ ⟨by decide, by decide⟩) rfl rfl (fun F_4896 H locs hw hp_4897 => ?_)
  refine lv_iload_n hx hb dX5_differs_4 rfl (lv_at hl 2 rfl) ?_
  refine q_callv hw (q_runS (As := [.int (nI (g9))]) (c_X5_needSlot l G L F_4896 g9 (by omega)) C0 hw sw_X5_78 rfl hl.1 rfl (Nat.le_of_ble_eq_true rfl) dX5_differs_5 ⟨by decide, by decide⟩ ⟨by decide, by decide⟩) rfl rfl (fun F_4898 H locs hw hp_4899 => ?_)
  refine lv_iload_n hx hb dX5_differs_8 rfl (lv_at hl 3 rfl) ?_
  refine lv_iconst (v := nI 2) hx hb dX5_differs_9 (by decide) ?_
  refine lv_icmp_lt (tgt := 18) hx hb dX5_differs_10 (by decide) (fun c_10 => ?_) (fun c_10 => ?_)
  · skip
    have e9 : F = F_4898 := (funext (fun q  => ((hp_4899 q ).trans (hp_4897 q )))).symm
    subst e9
    exact x_throw C0 hXw hst ht hw (text := "k is 2 to 5") (names := ["java/lang/RuntimeException", "java/lang/Exception"]) (by decide) (by decide) xk_IAE xi_IAE xa_IAE (by decide) hl.1 dX5_differs_18 dX5_differs_21 dX5_differs_22 dX5_differs_24 dX5_differs_27 hlk (by decide) (by decide) (by decide) (by decide) (by decide) (by decide) hQ
  · skip
    refine lv_iload_n hx hb dX5_differs_13 rfl (lv_at hl 3 rfl) ?_
    refine lv_iconst (v := nI 5) hx hb dX5_differs_14 (by decide) ?_
    refine lv_icmp_le (tgt := 28) hx hb dX5_differs_15 (by decide) (fun c_15 => ?_) (fun c_15 => ?_)
    · skip
      exact absurd ⟨Int32.not_lt.mp c_10, c_15⟩ h9
    · skip
      have e9 : F = F_4898 := (funext (fun q  => ((hp_4899 q ).trans (hp_4897 q )))).symm
      subst e9
      exact x_throw C0 hXw hst ht hw (text := "k is 2 to 5") (names := ["java/lang/RuntimeException", "java/lang/Exception"]) (by decide) (by decide) xk_IAE xi_IAE xa_IAE (by decide) hl.1 dX5_differs_18 dX5_differs_21 dX5_differs_22 dX5_differs_24 dX5_differs_27 hlk (by decide) (by decide) (by decide) (by decide) (by decide) (by decide) hQ
abbrev rx_X5_value : Room := { frames := 7, cells := 1, slots := 6, locals := 110 }
set_option maxHeartbeats 4000000 in
set_option maxRecDepth 100000 in
theorem x_X5_value_1 (l : Launch) (G : Gl) (L : List Nat) (F : Nat → va_E) (ad : Nat → Nat) (hL : ∀ i, i < 166 → ad i ∈ L) (hin : ∀ i j, i < 166 → j < 166 → i ≠ j → ad i ≠ ad j) (A : AB) (x9 : Int32) (y9 z9 : Int32) (h9 : ¬ inR x9 0 5) (hX : XW G F ad A) (hA : okA A) (hst : l.stackTraces = false) : XG l yX5_value cX5_value 5 (some .int) rx_X5_value G L F [.ref (ad 0), .int (y9), .int (x9), .int (z9)] "java/lang/IndexOutOfBoundsException" := by
  obtain ⟨fx, hn, hh, hsn, htx, hrk, ⟨u9, h134⟩, ⟨v9, h150⟩⟩ := hX
  obtain ⟨⟨hc2, hc, hpu, hok⟩, ⟨hh6, hho⟩, hso, hl60, hco⟩ := id hA
  refine XG_of (by decide) (Nat.le_of_ble_eq_true rfl) rfl ?_
  intro p e s m args below meth c Q C0 hXw hlk ht hQ hw ls hl
  have hx := C0.x
  have hb := C0.b
  refine lv_iload_n hx hb dX5_value_0 rfl (lv_at hl 2 rfl) ?_
  exact x_pass C0 ht hw hlk (x_runS (As := [.int (x9)]) (x_X5_needSlot l G L F (x9) h9 hst) C0 hXw hw sw_X5_78 rfl hl.1 rfl (Nat.le_of_ble_eq_true rfl) dX5_value_1 ⟨by decide, by decide⟩ ⟨by decide, by decide⟩) (funext (fun q  => rfl)) (by decide) (by decide) hQ
abbrev rx_X5_take : Room := { frames := 7, cells := 1, slots := 6, locals := 110 }
set_option maxHeartbeats 4000000 in
set_option maxRecDepth 100000 in
theorem x_X5_take (l : Launch) (G : Gl) (L : List Nat) (F : Nat → va_E) (ad : Nat → Nat) (hL : ∀ i, i < 166 → ad i ∈ L) (hin : ∀ i j, i < 166 → j < 166 → i ≠ j → ad i ≠ ad j) (A : AB) (x9 : Int32) (h9 : ¬ inR x9 0 1) (hX : XW G F ad A) (hA : okA A) (hst : l.stackTraces = false) : XG l yX5_take cX5_take 2 (some .int) rx_X5_take G L F [.ref (ad 0), .int (x9)] "java/lang/IndexOutOfBoundsException" := by
  obtain ⟨fx, hn, hh, hsn, htx, hrk, ⟨u9, h134⟩, ⟨v9, h150⟩⟩ := hX
  obtain ⟨⟨hc2, hc, hpu, hok⟩, ⟨hh6, hho⟩, hso, hl60, hco⟩ := id hA
  refine XG_of (by decide) (Nat.le_of_ble_eq_true rfl) rfl ?_
  intro p e s m args below meth c Q C0 hXw hlk ht hQ hw ls hl
  have hx := C0.x
  have hb := C0.b
  refine lv_iload_n hx hb dX5_take_0 rfl (lv_at hl 1 rfl) ?_
  exact x_pass C0 ht hw hlk (x_runS (As := [.int (x9)]) (x_X5_needSnapshot l G L F (x9) h9 hst) C0 hXw hw sw_X5_172 rfl hl.1 rfl (Nat.le_of_ble_eq_true rfl) dX5_take_1 ⟨by decide, by decide⟩ ⟨by decide, by decide⟩) (funext (fun q  => rfl)) (by decide) (by decide) hQ
abbrev rx_X5_restore : Room := { frames := 7, cells := 1, slots := 6, locals := 110 }
set_option maxHeartbeats 4000000 in
set_option maxRecDepth 100000 in
theorem x_X5_restore_s (l : Launch) (G : Gl) (L : List Nat) (F : Nat → va_E) (ad : Nat → Nat) (hL : ∀ i, i < 166 → ad i ∈ L) (hin : ∀ i j, i < 166 → j < 166 → i ≠ j → ad i ≠ ad j) (A : AB) (x9 : Int32) (h9 : ¬ inR x9 0 1) (hX : XW G F ad A) (hA : okA A) (hst : l.stackTraces = false) : XG l yX5_restore cX5_restore 2 (some .int) rx_X5_restore G L F [.ref (ad 0), .int (x9)] "java/lang/IndexOutOfBoundsException" := by
  obtain ⟨fx, hn, hh, hsn, htx, hrk, ⟨u9, h134⟩, ⟨v9, h150⟩⟩ := hX
  obtain ⟨⟨hc2, hc, hpu, hok⟩, ⟨hh6, hho⟩, hso, hl60, hco⟩ := id hA
  refine XG_of (by decide) (Nat.le_of_ble_eq_true rfl) rfl ?_
  intro p e s m args below meth c Q C0 hXw hlk ht hQ hw ls hl
  have hx := C0.x
  have hb := C0.b
  refine lv_iload_n hx hb dX5_restore_0 rfl (lv_at hl 1 rfl) ?_
  exact x_pass C0 ht hw hlk (x_runS (As := [.int (x9)]) (x_X5_needSnapshot l G L F (x9) h9 hst) C0 hXw hw sw_X5_172 rfl hl.1 rfl (Nat.le_of_ble_eq_true rfl) dX5_restore_1 ⟨by decide, by decide⟩ ⟨by decide, by decide⟩) (funext (fun q  => rfl)) (by decide) (by decide) hQ
abbrev rx_X5_lacks : Room := { frames := 6, cells := 1, slots := 6, locals := 90 }
set_option maxHeartbeats 4000000 in
set_option maxRecDepth 100000 in
theorem x_X5_lacks (l : Launch) (G : Gl) (L : List Nat) (F : Nat → va_E) (ad : Nat → Nat) (hL : ∀ i, i < 166 → ad i ∈ L) (hin : ∀ i j, i < 166 → j < 166 → i ≠ j → ad i ≠ ad j) (A : AB) (x9 : Int32) (h9 : digI x9 = 0) (hX : XW G F ad A) (hA : okA A) (hst : l.stackTraces = false) : XG l yX5_lacks cX5_lacks 2 (some .int) rx_X5_lacks G L F [.ref (ad 0), .int (x9)] "java/lang/IllegalArgumentException" := by
  obtain ⟨fx, hn, hh, hsn, htx, hrk, ⟨u9, h134⟩, ⟨v9, h150⟩⟩ := hX
  obtain ⟨⟨hc2, hc, hpu, hok⟩, ⟨hh6, hho⟩, hso, hl60, hco⟩ := id hA
  refine XG_of (by decide) (Nat.le_of_ble_eq_true rfl) rfl ?_
  intro p e s m args below meth c Q C0 hXw hlk ht hQ hw ls hl
  have hx := C0.x
  have hb := C0.b
  refine lv_iload_n hx hb dX5_lacks_0 rfl (lv_at hl 1 rfl) ?_
  refine q_calli hw (q_runS (As := [.int (x9)]) (c_X4_digitsOf l G L F (x9)) C0 hw sw_X5_220 rfl hl.1 rfl (Nat.le_of_ble_eq_true rfl) dX5_lacks_1 ⟨by decide, by decide⟩ ⟨by decide, by decide⟩) rfl rfl (fun r_4902 F_4900 H locs hw hp_4901 => ?_)
  obtain ⟨he_4903, o_4904⟩ := hp_4901
  subst he_4903
  have hd9 : digI x9 < 2 ^ 31 := by omega
  refine n_if_ne (tgt := 17) hx hb dX5_lacks_4 (by decide) (by omega) (fun c_4 => ?_) (fun c_4 => ?_)
  · skip
    exact absurd c_4 (by omega)
  · skip
    have e9 : F = F_4900 := (funext (fun q  => (o_4904 q ))).symm
    subst e9
    exact x_throw C0 hXw hst ht hw (text := "there is no such order") (names := ["java/lang/RuntimeException", "java/lang/Exception"]) (by decide) (by decide) xk_IAE xi_IAE xa_IAE (by decide) hl.1 dX5_lacks_7 dX5_lacks_10 dX5_lacks_11 dX5_lacks_13 dX5_lacks_16 hlk (by decide) (by decide) (by decide) (by decide) (by decide) (by decide) hQ
abbrev rx_X5_count : Room := { frames := 6, cells := 1, slots := 6, locals := 90 }
set_option maxHeartbeats 4000000 in
set_option maxRecDepth 100000 in
theorem x_X5_count (l : Launch) (G : Gl) (L : List Nat) (F : Nat → va_E) (ad : Nat → Nat) (hL : ∀ i, i < 166 → ad i ∈ L) (hin : ∀ i j, i < 166 → j < 166 → i ≠ j → ad i ≠ ad j) (A : AB) (x9 : Int32) (h9 : x9.toInt < 0 ∨ 8 < x9.toInt) (hX : XW G F ad A) (hA : okA A) (hst : l.stackTraces = false) : XG l yX5_count cX5_count 2 (some .int) rx_X5_count G L F [.ref (ad 0), .int (x9)] "java/lang/IllegalArgumentException" := by
  obtain ⟨fx, hn, hh, hsn, htx, hrk, ⟨u9, h134⟩, ⟨v9, h150⟩⟩ := hX
  obtain ⟨⟨hc2, hc, hpu, hok⟩, ⟨hh6, hho⟩, hso, hl60, hco⟩ := id hA
  refine XG_of (by decide) (Nat.le_of_ble_eq_true rfl) rfl ?_
  intro p e s m args below meth c Q C0 hXw hlk ht hQ hw ls hl
  have hx := C0.x
  have hb := C0.b
  refine lv_iload_n hx hb dX5_count_0 rfl (lv_at hl 1 rfl) ?_
  refine lv_tableOut (tgt := 155) hx hb dX5_count_1 h9 (by decide) ?_
  exact x_throw C0 hXw hst ht hw (text := "what is 0 to 8") (names := ["java/lang/RuntimeException", "java/lang/Exception"]) (by decide) (by decide) xk_IAE xi_IAE xa_IAE (by decide) hl.1 dX5_count_155 dX5_count_158 dX5_count_159 dX5_count_161 dX5_count_164 hlk (by decide) (by decide) (by decide) (by decide) (by decide) (by decide) hQ
