theorem le_1 {x : Int32} (h : ¬ x < nI 1) : nI 1 ≤ x := Int32.not_lt.mp h
abbrev rx_X5_setField : Room := { frames := 7, cells := 1, slots := 6, locals := 112 }
set_option maxHeartbeats 4000000 in
set_option maxRecDepth 100000 in
theorem x_X5_setField_s (l : Launch) (G : Gl) (L : List Nat) (F : Nat → va_E) (ad : Nat → Nat) (hL : ∀ i, i < 166 → ad i ∈ L) (hin : ∀ i j, i < 166 → j < 166 → i ≠ j → ad i ≠ ad j) (A : AB) (x9 : Int32) (y9 z9 : Int32) (h9 : ¬ inR x9 0 5) (hX : XW G F ad A) (hA : okA A) (hst : l.stackTraces = false) : XG l yX5_setField cX5_setField 4 (some .int) rx_X5_setField G L F [.ref (ad 0), .int (x9), .int (y9), .int (z9)] "java/lang/IndexOutOfBoundsException" := by
  obtain ⟨fx, hn, hh, hsn, htx, hrk, ⟨u9, h134⟩, ⟨v9, h150⟩⟩ := hX
  obtain ⟨⟨hc2, hc, hpu, hok⟩, ⟨hh6, hho⟩, hso, hl60, hco⟩ := id hA
  refine XG_of (by decide) (Nat.le_of_ble_eq_true rfl) rfl ?_
  intro p e s m args below meth c Q C0 hXw hlk ht hQ hw ls hl
  have hx := C0.x
  have hb := C0.b
  refine lv_iload_n hx hb dX5_setField_0 rfl (lv_at hl 1 rfl) ?_
  exact x_pass C0 ht hw hlk (x_runS (As := [.int (x9)]) (x_X5_needSlot l G L F (x9) h9 hst) C0 hXw hw sw_X5_78 rfl hl.1 rfl (Nat.le_of_ble_eq_true rfl) dX5_setField_1 ⟨by decide, by decide⟩ ⟨by decide, by decide⟩) (funext (fun q  => rfl)) (by decide) (by decide) hQ
set_option maxHeartbeats 4000000 in
set_option maxRecDepth 100000 in
theorem x_X5_setField_p (l : Launch) (G : Gl) (L : List Nat) (F : Nat → va_E) (ad : Nat → Nat) (hL : ∀ i, i < 166 → ad i ∈ L) (hin : ∀ i j, i < 166 → j < 166 → i ≠ j → ad i ≠ ad j) (A : AB) (f9 : Nat) (hf9 : f9 < 6) (x9 : Int32) (z9 : Int32) (h9 : ¬ inR x9 2 A.1.1) (hX : XW G F ad A) (hA : okA A) (hst : l.stackTraces = false) : XG l yX5_setField cX5_setField 4 (some .int) rx_X5_setField G L F [.ref (ad 0), .int (nI (f9)), .int (x9), .int (z9)] "java/lang/IndexOutOfBoundsException" := by
  obtain ⟨fx, hn, hh, hsn, htx, hrk, ⟨u9, h134⟩, ⟨v9, h150⟩⟩ := hX
  obtain ⟨⟨hc2, hc, hpu, hok⟩, ⟨hh6, hho⟩, hso, hl60, hco⟩ := id hA
  refine XG_of (by decide) (Nat.le_of_ble_eq_true rfl) rfl ?_
  intro p e s m args below meth c Q C0 hXw hlk ht hQ hw ls hl
  have hx := C0.x
  have hb := C0.b
  refine lv_iload_n hx hb dX5_setField_0 rfl (lv_at hl 1 rfl) ?_
  refine q_callv hw (q_runS (As := [.int (nI (f9))]) (c_X5_needSlot l G L F f9 (by omega)) C0 hw sw_X5_78 rfl hl.1 rfl (Nat.le_of_ble_eq_true rfl) dX5_setField_1 ⟨by decide, by decide⟩ ⟨by decide, by decide⟩) rfl rfl (fun F_4727 H locs hw hp_4728 => ?_)
  refine lv_iload_n hx hb dX5_setField_4 rfl (lv_at hl 2 rfl) ?_
  refine lv_iconst (v := nI 2) hx hb dX5_setField_5 (by decide) ?_
  refine lv_aload_n hx hb dX5_setField_6 rfl (lv_at hl 0 rfl) ?_
  have f_4729 : F_4727 (ad 0) = xO ad := (hp_4728 (ad 0) ).trans fx
  refine q_get C0 hw ((hL 0 (by omega))) f_4729 fw_X5_12 rfl dX5_setField_7 ?_
  have f_4730 : F_4727 (ad 22) = .inr (3, [.ref (ad 23), .int (nI (A.1.2.1)), .int (nI (A.1.2.2.1)), .int (nI (A.1.2.2.2.1)), .int (nI (A.1.2.2.2.2.1))]) := (hp_4728 (ad 22) ).trans hn.1
  refine q_get C0 hw ((hL 22 (by omega))) f_4730 fw_X5_66 rfl dX5_setField_10 ?_
  have f_4731 : F_4727 (ad 23) = .inr (2, [.int (nI (A.1.1)), .ref (ad 24), .ref (ad 25)]) := (hp_4728 (ad 23) ).trans hn.2.1
  refine q_get C0 hw ((hL 23 (by omega))) f_4731 fw_X5_70 rfl dX5_setField_13 ?_
  exact x_pass C0 ht hw hlk (x_runS (As := [.int (x9), .int (nI (2)), .int (nI (A.1.1))]) (x_X5_needPower l G L F_4727 (x9) 2 A.1.1 h9 hst) C0 hXw hw sw_X5_81 rfl hl.1 rfl (Nat.le_of_ble_eq_true rfl) dX5_setField_16 ⟨by decide, by decide⟩ ⟨by decide, by decide⟩) (funext (fun q  => (hp_4728 q ))) (by decide) (by decide) hQ
abbrev rx_X5_setFlow : Room := { frames := 7, cells := 1, slots := 6, locals := 112 }
set_option maxHeartbeats 4000000 in
set_option maxRecDepth 100000 in
theorem x_X5_setFlow_s (l : Launch) (G : Gl) (L : List Nat) (F : Nat → va_E) (ad : Nat → Nat) (hL : ∀ i, i < 166 → ad i ∈ L) (hin : ∀ i j, i < 166 → j < 166 → i ≠ j → ad i ≠ ad j) (A : AB) (x9 : Int32) (y9 z9 : Int32) (h9 : ¬ inR x9 0 5) (hX : XW G F ad A) (hA : okA A) (hst : l.stackTraces = false) : XG l yX5_setFlow cX5_setFlow 4 (some .int) rx_X5_setFlow G L F [.ref (ad 0), .int (x9), .int (y9), .int (z9)] "java/lang/IndexOutOfBoundsException" := by
  obtain ⟨fx, hn, hh, hsn, htx, hrk, ⟨u9, h134⟩, ⟨v9, h150⟩⟩ := hX
  obtain ⟨⟨hc2, hc, hpu, hok⟩, ⟨hh6, hho⟩, hso, hl60, hco⟩ := id hA
  refine XG_of (by decide) (Nat.le_of_ble_eq_true rfl) rfl ?_
  intro p e s m args below meth c Q C0 hXw hlk ht hQ hw ls hl
  have hx := C0.x
  have hb := C0.b
  refine lv_iload_n hx hb dX5_setFlow_0 rfl (lv_at hl 1 rfl) ?_
  exact x_pass C0 ht hw hlk (x_runS (As := [.int (x9)]) (x_X5_needSlot l G L F (x9) h9 hst) C0 hXw hw sw_X5_78 rfl hl.1 rfl (Nat.le_of_ble_eq_true rfl) dX5_setFlow_1 ⟨by decide, by decide⟩ ⟨by decide, by decide⟩) (funext (fun q  => rfl)) (by decide) (by decide) hQ
set_option maxHeartbeats 4000000 in
set_option maxRecDepth 100000 in
theorem x_X5_setFlow_p (l : Launch) (G : Gl) (L : List Nat) (F : Nat → va_E) (ad : Nat → Nat) (hL : ∀ i, i < 166 → ad i ∈ L) (hin : ∀ i j, i < 166 → j < 166 → i ≠ j → ad i ≠ ad j) (A : AB) (f9 : Nat) (hf9 : f9 < 6) (x9 : Int32) (z9 : Int32) (h9 : ¬ inR x9 2 A.1.1) (hX : XW G F ad A) (hA : okA A) (hst : l.stackTraces = false) : XG l yX5_setFlow cX5_setFlow 4 (some .int) rx_X5_setFlow G L F [.ref (ad 0), .int (nI (f9)), .int (x9), .int (z9)] "java/lang/IndexOutOfBoundsException" := by
  obtain ⟨fx, hn, hh, hsn, htx, hrk, ⟨u9, h134⟩, ⟨v9, h150⟩⟩ := hX
  obtain ⟨⟨hc2, hc, hpu, hok⟩, ⟨hh6, hho⟩, hso, hl60, hco⟩ := id hA
  refine XG_of (by decide) (Nat.le_of_ble_eq_true rfl) rfl ?_
  intro p e s m args below meth c Q C0 hXw hlk ht hQ hw ls hl
  have hx := C0.x
  have hb := C0.b
  refine lv_iload_n hx hb dX5_setFlow_0 rfl (lv_at hl 1 rfl) ?_
  refine q_callv hw (q_runS (As := [.int (nI (f9))]) (c_X5_needSlot l G L F f9 (by omega)) C0 hw sw_X5_78 rfl hl.1 rfl (Nat.le_of_ble_eq_true rfl) dX5_setFlow_1 ⟨by decide, by decide⟩ ⟨by decide, by decide⟩) rfl rfl (fun F_4732 H locs hw hp_4733 => ?_)
  refine lv_iload_n hx hb dX5_setFlow_4 rfl (lv_at hl 2 rfl) ?_
  refine lv_iconst (v := nI 2) hx hb dX5_setFlow_5 (by decide) ?_
  refine lv_aload_n hx hb dX5_setFlow_6 rfl (lv_at hl 0 rfl) ?_
  have f_4734 : F_4732 (ad 0) = xO ad := (hp_4733 (ad 0) ).trans fx
  refine q_get C0 hw ((hL 0 (by omega))) f_4734 fw_X5_12 rfl dX5_setFlow_7 ?_
  have f_4735 : F_4732 (ad 22) = .inr (3, [.ref (ad 23), .int (nI (A.1.2.1)), .int (nI (A.1.2.2.1)), .int (nI (A.1.2.2.2.1)), .int (nI (A.1.2.2.2.2.1))]) := (hp_4733 (ad 22) ).trans hn.1
  refine q_get C0 hw ((hL 22 (by omega))) f_4735 fw_X5_66 rfl dX5_setFlow_10 ?_
  have f_4736 : F_4732 (ad 23) = .inr (2, [.int (nI (A.1.1)), .ref (ad 24), .ref (ad 25)]) := (hp_4733 (ad 23) ).trans hn.2.1
  refine q_get C0 hw ((hL 23 (by omega))) f_4736 fw_X5_70 rfl dX5_setFlow_13 ?_
  exact x_pass C0 ht hw hlk (x_runS (As := [.int (x9), .int (nI (2)), .int (nI (A.1.1))]) (x_X5_needPower l G L F_4732 (x9) 2 A.1.1 h9 hst) C0 hXw hw sw_X5_81 rfl hl.1 rfl (Nat.le_of_ble_eq_true rfl) dX5_setFlow_16 ⟨by decide, by decide⟩ ⟨by decide, by decide⟩) (funext (fun q  => (hp_4733 q ))) (by decide) (by decide) hQ
abbrev rx_X5_field : Room := { frames := 7, cells := 1, slots := 6, locals := 112 }
set_option maxHeartbeats 4000000 in
set_option maxRecDepth 100000 in
theorem x_X5_field_s (l : Launch) (G : Gl) (L : List Nat) (F : Nat → va_E) (ad : Nat → Nat) (hL : ∀ i, i < 166 → ad i ∈ L) (hin : ∀ i j, i < 166 → j < 166 → i ≠ j → ad i ≠ ad j) (A : AB) (x9 : Int32) (y9 : Int32) (h9 : ¬ inR x9 0 5) (hX : XW G F ad A) (hA : okA A) (hst : l.stackTraces = false) : XG l yX5_field cX5_field 3 (some .int) rx_X5_field G L F [.ref (ad 0), .int (x9), .int (y9)] "java/lang/IndexOutOfBoundsException" := by
  obtain ⟨fx, hn, hh, hsn, htx, hrk, ⟨u9, h134⟩, ⟨v9, h150⟩⟩ := hX
  obtain ⟨⟨hc2, hc, hpu, hok⟩, ⟨hh6, hho⟩, hso, hl60, hco⟩ := id hA
  refine XG_of (by decide) (Nat.le_of_ble_eq_true rfl) rfl ?_
  intro p e s m args below meth c Q C0 hXw hlk ht hQ hw ls hl
  have hx := C0.x
  have hb := C0.b
  refine lv_iload_n hx hb dX5_field_0 rfl (lv_at hl 1 rfl) ?_
  exact x_pass C0 ht hw hlk (x_runS (As := [.int (x9)]) (x_X5_needSlot l G L F (x9) h9 hst) C0 hXw hw sw_X5_78 rfl hl.1 rfl (Nat.le_of_ble_eq_true rfl) dX5_field_1 ⟨by decide, by decide⟩ ⟨by decide, by decide⟩) (funext (fun q  => rfl)) (by decide) (by decide) hQ
set_option maxHeartbeats 4000000 in
set_option maxRecDepth 100000 in
theorem x_X5_field_p (l : Launch) (G : Gl) (L : List Nat) (F : Nat → va_E) (ad : Nat → Nat) (hL : ∀ i, i < 166 → ad i ∈ L) (hin : ∀ i j, i < 166 → j < 166 → i ≠ j → ad i ≠ ad j) (A : AB) (f9 : Nat) (hf9 : f9 < 6) (x9 : Int32) (h9 : ¬ inR x9 0 6) (hX : XW G F ad A) (hA : okA A) (hst : l.stackTraces = false) : XG l yX5_field cX5_field 3 (some .int) rx_X5_field G L F [.ref (ad 0), .int (nI (f9)), .int (x9)] "java/lang/IndexOutOfBoundsException" := by
  obtain ⟨fx, hn, hh, hsn, htx, hrk, ⟨u9, h134⟩, ⟨v9, h150⟩⟩ := hX
  obtain ⟨⟨hc2, hc, hpu, hok⟩, ⟨hh6, hho⟩, hso, hl60, hco⟩ := id hA
  refine XG_of (by decide) (Nat.le_of_ble_eq_true rfl) rfl ?_
  intro p e s m args below meth c Q C0 hXw hlk ht hQ hw ls hl
  have hx := C0.x
  have hb := C0.b
  refine lv_iload_n hx hb dX5_field_0 rfl (lv_at hl 1 rfl) ?_
  refine q_callv hw (q_runS (As := [.int (nI (f9))]) (c_X5_needSlot l G L F f9 (by omega)) C0 hw sw_X5_78 rfl hl.1 rfl (Nat.le_of_ble_eq_true rfl) dX5_field_1 ⟨by decide, by decide⟩ ⟨by decide, by decide⟩) rfl rfl (fun F_4737 H locs hw hp_4738 => ?_)
  refine lv_iload_n hx hb dX5_field_4 rfl (lv_at hl 2 rfl) ?_
  refine lv_iconst (v := nI 0) hx hb dX5_field_5 (by decide) ?_
  refine lv_bipush (v := nI 6) hx hb dX5_field_6 (by decide) ?_
  exact x_pass C0 ht hw hlk (x_runS (As := [.int (x9), .int (nI (0)), .int (nI (6))]) (x_X5_needPower l G L F_4737 (x9) 0 6 h9 hst) C0 hXw hw sw_X5_81 rfl hl.1 rfl (Nat.le_of_ble_eq_true rfl) dX5_field_8 ⟨by decide, by decide⟩ ⟨by decide, by decide⟩) (funext (fun q  => (hp_4738 q ))) (by decide) (by decide) hQ
abbrev rx_X5_flow : Room := { frames := 7, cells := 1, slots := 6, locals := 112 }
set_option maxHeartbeats 4000000 in
set_option maxRecDepth 100000 in
theorem x_X5_flow_s (l : Launch) (G : Gl) (L : List Nat) (F : Nat → va_E) (ad : Nat → Nat) (hL : ∀ i, i < 166 → ad i ∈ L) (hin : ∀ i j, i < 166 → j < 166 → i ≠ j → ad i ≠ ad j) (A : AB) (x9 : Int32) (y9 : Int32) (h9 : ¬ inR x9 0 5) (hX : XW G F ad A) (hA : okA A) (hst : l.stackTraces = false) : XG l yX5_flow cX5_flow 3 (some .int) rx_X5_flow G L F [.ref (ad 0), .int (x9), .int (y9)] "java/lang/IndexOutOfBoundsException" := by
  obtain ⟨fx, hn, hh, hsn, htx, hrk, ⟨u9, h134⟩, ⟨v9, h150⟩⟩ := hX
  obtain ⟨⟨hc2, hc, hpu, hok⟩, ⟨hh6, hho⟩, hso, hl60, hco⟩ := id hA
  refine XG_of (by decide) (Nat.le_of_ble_eq_true rfl) rfl ?_
  intro p e s m args below meth c Q C0 hXw hlk ht hQ hw ls hl
  have hx := C0.x
  have hb := C0.b
  refine lv_iload_n hx hb dX5_flow_0 rfl (lv_at hl 1 rfl) ?_
  exact x_pass C0 ht hw hlk (x_runS (As := [.int (x9)]) (x_X5_needSlot l G L F (x9) h9 hst) C0 hXw hw sw_X5_78 rfl hl.1 rfl (Nat.le_of_ble_eq_true rfl) dX5_flow_1 ⟨by decide, by decide⟩ ⟨by decide, by decide⟩) (funext (fun q  => rfl)) (by decide) (by decide) hQ
set_option maxHeartbeats 4000000 in
set_option maxRecDepth 100000 in
theorem x_X5_flow_p (l : Launch) (G : Gl) (L : List Nat) (F : Nat → va_E) (ad : Nat → Nat) (hL : ∀ i, i < 166 → ad i ∈ L) (hin : ∀ i j, i < 166 → j < 166 → i ≠ j → ad i ≠ ad j) (A : AB) (f9 : Nat) (hf9 : f9 < 6) (x9 : Int32) (h9 : ¬ inR x9 0 6) (hX : XW G F ad A) (hA : okA A) (hst : l.stackTraces = false) : XG l yX5_flow cX5_flow 3 (some .int) rx_X5_flow G L F [.ref (ad 0), .int (nI (f9)), .int (x9)] "java/lang/IndexOutOfBoundsException" := by
  obtain ⟨fx, hn, hh, hsn, htx, hrk, ⟨u9, h134⟩, ⟨v9, h150⟩⟩ := hX
  obtain ⟨⟨hc2, hc, hpu, hok⟩, ⟨hh6, hho⟩, hso, hl60, hco⟩ := id hA
  refine XG_of (by decide) (Nat.le_of_ble_eq_true rfl) rfl ?_
  intro p e s m args below meth c Q C0 hXw hlk ht hQ hw ls hl
  have hx := C0.x
  have hb := C0.b
  refine lv_iload_n hx hb dX5_flow_0 rfl (lv_at hl 1 rfl) ?_
  refine q_callv hw (q_runS (As := [.int (nI (f9))]) (c_X5_needSlot l G L F f9 (by omega)) C0 hw sw_X5_78 rfl hl.1 rfl (Nat.le_of_ble_eq_true rfl) dX5_flow_1 ⟨by decide, by decide⟩ ⟨by decide, by decide⟩) rfl rfl (fun F_4739 H locs hw hp_4740 => ?_)
  refine lv_iload_n hx hb dX5_flow_4 rfl (lv_at hl 2 rfl) ?_
  refine lv_iconst (v := nI 0) hx hb dX5_flow_5 (by decide) ?_
  refine lv_bipush (v := nI 6) hx hb dX5_flow_6 (by decide) ?_
  exact x_pass C0 ht hw hlk (x_runS (As := [.int (x9), .int (nI (0)), .int (nI (6))]) (x_X5_needPower l G L F_4739 (x9) 0 6 h9 hst) C0 hXw hw sw_X5_81 rfl hl.1 rfl (Nat.le_of_ble_eq_true rfl) dX5_flow_8 ⟨by decide, by decide⟩ ⟨by decide, by decide⟩) (funext (fun q  => (hp_4740 q ))) (by decide) (by decide) hQ
abbrev rx_X5_earn : Room := { frames := 6, cells := 1, slots := 6, locals := 90 }
set_option maxHeartbeats 4000000 in
set_option maxRecDepth 100000 in
theorem x_X5_earn_a (l : Launch) (G : Gl) (L : List Nat) (F : Nat → va_E) (ad : Nat → Nat) (hL : ∀ i, i < 166 → ad i ∈ L) (hin : ∀ i j, i < 166 → j < 166 → i ≠ j → ad i ≠ ad j) (A : AB) (x9 : Int32) (h9 : ¬ inR x9 1 1000) (hX : XW G F ad A) (hA : okA A) (hst : l.stackTraces = false) : XG l yX5_earn cX5_earn 2 (some .int) rx_X5_earn G L F [.ref (ad 0), .int (x9)] "java/lang/IllegalArgumentException" := by
  obtain ⟨fx, hn, hh, hsn, htx, hrk, ⟨u9, h134⟩, ⟨v9, h150⟩⟩ := hX
  obtain ⟨⟨hc2, hc, hpu, hok⟩, ⟨hh6, hho⟩, hso, hl60, hco⟩ := id hA
  refine XG_of (by decide) (Nat.le_of_ble_eq_true rfl) rfl ?_
  intro p e s m args below meth c Q C0 hXw hlk ht hQ hw ls hl
  have hx := C0.x
  have hb := C0.b
  refine lv_iload_n hx hb dX5_earn_0 rfl (lv_at hl 1 rfl) ?_
  refine lv_iconst (v := nI 1) hx hb dX5_earn_1 (by decide) ?_
  refine lv_icmp_lt (tgt := 12) hx hb dX5_earn_2 (by decide) (fun c_2 => ?_) (fun c_2 => ?_)
  · skip
    exact x_throw C0 hXw hst ht hw (text := "money is 1 to 1000") (names := ["java/lang/RuntimeException", "java/lang/Exception"]) (by decide) (by decide) xk_IAE xi_IAE xa_IAE (by decide) hl.1 dX5_earn_12 dX5_earn_15 dX5_earn_16 dX5_earn_18 dX5_earn_21 hlk (by decide) (by decide) (by decide) (by decide) (by decide) (by decide) hQ
  · skip
    refine lv_iload_n hx hb dX5_earn_5 rfl (lv_at hl 1 rfl) ?_
    refine lv_sipush (v := nI 1000) hx hb dX5_earn_6 (by decide) ?_
    refine lv_icmp_le (tgt := 22) hx hb dX5_earn_9 (by decide) (fun c_9 => ?_) (fun c_9 => ?_)
    · skip
      exact absurd ⟨le_1 c_2, c_9⟩ h9
    · skip
      exact x_throw C0 hXw hst ht hw (text := "money is 1 to 1000") (names := ["java/lang/RuntimeException", "java/lang/Exception"]) (by decide) (by decide) xk_IAE xi_IAE xa_IAE (by decide) hl.1 dX5_earn_12 dX5_earn_15 dX5_earn_16 dX5_earn_18 dX5_earn_21 hlk (by decide) (by decide) (by decide) (by decide) (by decide) (by decide) hQ
set_option maxHeartbeats 4000000 in
set_option maxRecDepth 100000 in
theorem x_X5_earn_b (l : Launch) (G : Gl) (L : List Nat) (F : Nat → va_E) (ad : Nat → Nat) (hL : ∀ i, i < 166 → ad i ∈ L) (hin : ∀ i j, i < 166 → j < 166 → i ≠ j → ad i ≠ ad j) (A : AB) (m9 : Nat) (hm1 : 1 ≤ m9) (hm2 : m9 ≤ 1000) (h9 : 100000 < A.1.2.1 + m9) (hX : XW G F ad A) (hA : okA A) (hst : l.stackTraces = false) : XG l yX5_earn cX5_earn 2 (some .int) rx_X5_earn G L F [.ref (ad 0), .int (nI (m9))] "java/lang/IllegalStateException" := by
  obtain ⟨fx, hn, hh, hsn, htx, hrk, ⟨u9, h134⟩, ⟨v9, h150⟩⟩ := hX
  obtain ⟨⟨hc2, hc, hpu, hok⟩, ⟨hh6, hho⟩, hso, hl60, hco⟩ := id hA
  refine XG_of (by decide) (Nat.le_of_ble_eq_true rfl) rfl ?_
  intro p e s m args below meth c Q C0 hXw hlk ht hQ hw ls hl
  have hx := C0.x
  have hb := C0.b
  refine lv_iload_n hx hb dX5_earn_0 rfl (lv_at hl 1 rfl) ?_
  refine lv_iconst (v := nI 1) hx hb dX5_earn_1 (by decide) ?_
  refine n_icmp_lt (tgt := 12) hx hb dX5_earn_2 (by decide) (by omega) (by decide) (fun c_2 => ?_) (fun c_2 => ?_)
  · skip
    exact absurd c_2 (by omega)
  · skip
    refine lv_iload_n hx hb dX5_earn_5 rfl (lv_at hl 1 rfl) ?_
    refine lv_sipush (v := nI 1000) hx hb dX5_earn_6 (by decide) ?_
    refine n_icmp_le (tgt := 22) hx hb dX5_earn_9 (by decide) (by omega) (by decide) (fun c_9 => ?_) (fun c_9 => ?_)
    · skip
      refine lv_aload_n hx hb dX5_earn_22 rfl (lv_at hl 0 rfl) ?_
      refine q_get C0 hw ((hL 0 (by omega))) fx fw_X5_12 rfl dX5_earn_23 ?_
      refine q_get C0 hw ((hL 22 (by omega))) hn.1 fw_X5_98 rfl dX5_earn_26 ?_
      refine lv_ldc (v := nI (100000)) hx hb C0.ow (C0.ts _ kw_X5_101) dX5_earn_29 ?_
      refine lv_iload_n hx hb dX5_earn_31 rfl (lv_at hl 1 rfl) ?_
      refine n_isub hx hb (by omega) dX5_earn_32 ?_
      refine n_icmp_le (tgt := 46) hx hb dX5_earn_33 (by decide) (by omega) (by omega) (fun c_33 => ?_) (fun c_33 => ?_)
      · skip
        exact absurd c_33 (by omega)
      · skip
        exact x_throw C0 hXw hst ht hw (text := "the purse holds at most 100000") (names := ["java/lang/RuntimeException", "java/lang/Exception"]) (by decide) (by decide) xk_ISE xi_ISE xa_ISE (by decide) hl.1 dX5_earn_36 dX5_earn_39 dX5_earn_40 dX5_earn_42 dX5_earn_45 hlk (by decide) (by decide) (by decide) (by decide) (by decide) (by decide) hQ
    · skip
      exact absurd c_9 (by omega)
abbrev rx_X5_orderAlone : Room := { frames := 7, cells := 1, slots := 6, locals := 111 }
set_option maxHeartbeats 4000000 in
set_option maxRecDepth 100000 in
theorem x_X5_orderAlone_1 (l : Launch) (G : Gl) (L : List Nat) (F : Nat → va_E) (ad : Nat → Nat) (hL : ∀ i, i < 166 → ad i ∈ L) (hin : ∀ i j, i < 166 → j < 166 → i ≠ j → ad i ≠ ad j) (A : AB) (x9 : Int32) (l9 y9 z9 : Int32) (h9 : ¬ inR x9 0 5) (hX : XW G F ad A) (hA : okA A) (hst : l.stackTraces = false) : XG l yX5_orderAlone cX5_orderAlone 5 (some .int) rx_X5_orderAlone G L F [.ref (ad 0), .int (l9), .int (x9), .int (y9), .int (z9)] "java/lang/IndexOutOfBoundsException" := by
  obtain ⟨fx, hn, hh, hsn, htx, hrk, ⟨u9, h134⟩, ⟨v9, h150⟩⟩ := hX
  obtain ⟨⟨hc2, hc, hpu, hok⟩, ⟨hh6, hho⟩, hso, hl60, hco⟩ := id hA
  refine XG_of (by decide) (Nat.le_of_ble_eq_true rfl) rfl ?_
  intro p e s m args below meth c Q C0 hXw hlk ht hQ hw ls hl
  have hx := C0.x
  have hb := C0.b
  refine lv_iload_n hx hb dX5_orderAlone_0 rfl (lv_at hl 2 rfl) ?_
  exact x_pass C0 ht hw hlk (x_runS (As := [.int (x9)]) (x_X5_needSlot l G L F (x9) h9 hst) C0 hXw hw sw_X5_78 rfl hl.1 rfl (Nat.le_of_ble_eq_true rfl) dX5_orderAlone_1 ⟨by decide, by decide⟩ ⟨by decide, by decide⟩) (funext (fun q  => rfl)) (by decide) (by decide) hQ
set_option maxHeartbeats 4000000 in
set_option maxRecDepth 100000 in
theorem x_X5_orderAlone_2 (l : Launch) (G : Gl) (L : List Nat) (F : Nat → va_E) (ad : Nat → Nat) (hL : ∀ i, i < 166 → ad i ∈ L) (hin : ∀ i j, i < 166 → j < 166 → i ≠ j → ad i ≠ ad j) (A : AB) (f9 : Nat) (hf9 : f9 < 6) (x9 : Int32) (l9 z9 : Int32) (h9 : ¬ inR x9 0 5) (hX : XW G F ad A) (hA : okA A) (hst : l.stackTraces = false) : XG l yX5_orderAlone cX5_orderAlone 5 (some .int) rx_X5_orderAlone G L F [.ref (ad 0), .int (l9), .int (nI (f9)), .int (x9), .int (z9)] "java/lang/IndexOutOfBoundsException" := by
  obtain ⟨fx, hn, hh, hsn, htx, hrk, ⟨u9, h134⟩, ⟨v9, h150⟩⟩ := hX
  obtain ⟨⟨hc2, hc, hpu, hok⟩, ⟨hh6, hho⟩, hso, hl60, hco⟩ := id hA
  refine XG_of (by decide) (Nat.le_of_ble_eq_true rfl) rfl ?_
  intro p e s m args below meth c Q C0 hXw hlk ht hQ hw ls hl
  have hx := C0.x
  have hb := C0.b
  refine lv_iload_n hx hb dX5_orderAlone_0 rfl (lv_at hl 2 rfl) ?_
  refine q_callv hw (q_runS (As := [.int (nI (f9))]) (c_X5_needSlot l G L F f9 (by omega)) C0 hw sw_X5_78 rfl hl.1 rfl (Nat.le_of_ble_eq_true rfl) dX5_orderAlone_1 ⟨by decide, by decide⟩ ⟨by decide, by decide⟩) rfl rfl (fun F_4741 H locs hw hp_4742 => ?_)
  refine lv_iload_n hx hb dX5_orderAlone_4 rfl (lv_at hl 3 rfl) ?_
  exact x_pass C0 ht hw hlk (x_runS (As := [.int (x9)]) (x_X5_needSlot l G L F_4741 (x9) h9 hst) C0 hXw hw sw_X5_78 rfl hl.1 rfl (Nat.le_of_ble_eq_true rfl) dX5_orderAlone_5 ⟨by decide, by decide⟩ ⟨by decide, by decide⟩) (funext (fun q  => (hp_4742 q ))) (by decide) (by decide) hQ
set_option maxHeartbeats 4000000 in
set_option maxRecDepth 100000 in
theorem x_X5_orderAlone_3 (l : Launch) (G : Gl) (L : List Nat) (F : Nat → va_E) (ad : Nat → Nat) (hL : ∀ i, i < 166 → ad i ∈ L) (hin : ∀ i j, i < 166 → j < 166 → i ≠ j → ad i ≠ ad j) (A : AB) (f9 g9 : Nat) (hf9 : f9 < 6) (hg9 : g9 < 6) (x9 : Int32) (l9 : Int32) (h9 : ¬ inR x9 0 5) (hX : XW G F ad A) (hA : okA A) (hst : l.stackTraces = false) : XG l yX5_orderAlone cX5_orderAlone 5 (some .int) rx_X5_orderAlone G L F [.ref (ad 0), .int (l9), .int (nI (f9)), .int (nI (g9)), .int (x9)] "java/lang/IndexOutOfBoundsException" := by
  obtain ⟨fx, hn, hh, hsn, htx, hrk, ⟨u9, h134⟩, ⟨v9, h150⟩⟩ := hX
  obtain ⟨⟨hc2, hc, hpu, hok⟩, ⟨hh6, hho⟩, hso, hl60, hco⟩ := id hA
  refine XG_of (by decide) (Nat.le_of_ble_eq_true rfl) rfl ?_
  intro p e s m args below meth c Q C0 hXw hlk ht hQ hw ls hl
  have hx := C0.x
  have hb := C0.b
  refine lv_iload_n hx hb dX5_orderAlone_0 rfl (lv_at hl 2 rfl) ?_
  refine q_callv hw (q_runS (As := [.int (nI (f9))]) (c_X5_needSlot l G L F f9 (by omega)) C0 hw sw_X5_78 rfl hl.1 rfl (Nat.le_of_ble_eq_true rfl) dX5_orderAlone_1 ⟨by decide, by decide⟩ ⟨by decide, by decide⟩) rfl rfl (fun F_4743 H locs hw hp_4744 => ?_)
  refine lv_iload_n hx hb dX5_orderAlone_4 rfl (lv_at hl 3 rfl) ?_
  refine q_callv hw (q_runS (As := [.int (nI (g9))]) (c_X5_needSlot l G L F_4743 g9 (by omega)) C0 hw sw_X5_78 rfl hl.1 rfl (Nat.le_of_ble_eq_true rfl) dX5_orderAlone_5 ⟨by decide, by decide⟩ ⟨by decide, by decide⟩) rfl rfl (fun F_4745 H locs hw hp_4746 => ?_)
  refine lv_iload hx hb dX5_orderAlone_8 (lv_at hl 4 rfl) ?_
  exact x_pass C0 ht hw hlk (x_runS (As := [.int (x9)]) (x_X5_needSlot l G L F_4745 (x9) h9 hst) C0 hXw hw sw_X5_78 rfl hl.1 rfl (Nat.le_of_ble_eq_true rfl) dX5_orderAlone_10 ⟨by decide, by decide⟩ ⟨by decide, by decide⟩) (funext (fun q  => ((hp_4746 q ).trans (hp_4744 q )))) (by decide) (by decide) hQ
set_option maxHeartbeats 4000000 in
set_option maxRecDepth 100000 in
theorem x_X5_orderAlone_m98 (l : Launch) (G : Gl) (L : List Nat) (F : Nat → va_E) (ad : Nat → Nat) (hL : ∀ i, i < 166 → ad i ∈ L) (hin : ∀ i j, i < 166 → j < 166 → i ≠ j → ad i ≠ ad j) (A : AB) (f9 g9 t9 : Nat) (hf9 : f9 < 6) (hg9 : g9 < 6) (ht9 : t9 < 6) (h9 : A.1.2.1 < 2 * A.1.1) (hX : XW G F ad A) (hA : okA A) (hst : l.stackTraces = false) : XG l yX5_orderAlone cX5_orderAlone 5 (some .int) rx_X5_orderAlone G L F [.ref (ad 0), .int (nI (98)), .int (nI (f9)), .int (nI (g9)), .int (nI (t9))] "java/lang/IllegalStateException" := by
  obtain ⟨fx, hn, hh, hsn, htx, hrk, ⟨u9, h134⟩, ⟨v9, h150⟩⟩ := hX
  obtain ⟨⟨hc2, hc, hpu, hok⟩, ⟨hh6, hho⟩, hso, hl60, hco⟩ := id hA
  refine XG_of (by decide) (Nat.le_of_ble_eq_true rfl) rfl ?_
  intro p e s m args below meth c Q C0 hXw hlk ht hQ hw ls hl
  have hx := C0.x
  have hb := C0.b
  refine lv_iload_n hx hb dX5_orderAlone_0 rfl (lv_at hl 2 rfl) ?_
  refine q_callv hw (q_runS (As := [.int (nI (f9))]) (c_X5_needSlot l G L F f9 (by omega)) C0 hw sw_X5_78 rfl hl.1 rfl (Nat.le_of_ble_eq_true rfl) dX5_orderAlone_1 ⟨by decide, by decide⟩ ⟨by decide, by decide⟩) rfl rfl (fun F_4747 H locs hw hp_4748 => ?_)
  refine lv_iload_n hx hb dX5_orderAlone_4 rfl (lv_at hl 3 rfl) ?_
  refine q_callv hw (q_runS (As := [.int (nI (g9))]) (c_X5_needSlot l G L F_4747 g9 (by omega)) C0 hw sw_X5_78 rfl hl.1 rfl (Nat.le_of_ble_eq_true rfl) dX5_orderAlone_5 ⟨by decide, by decide⟩ ⟨by decide, by decide⟩) rfl rfl (fun F_4749 H locs hw hp_4750 => ?_)
  refine lv_iload hx hb dX5_orderAlone_8 (lv_at hl 4 rfl) ?_
  refine q_callv hw (q_runS (As := [.int (nI (t9))]) (c_X5_needSlot l G L F_4749 t9 (by omega)) C0 hw sw_X5_78 rfl hl.1 rfl (Nat.le_of_ble_eq_true rfl) dX5_orderAlone_10 ⟨by decide, by decide⟩ ⟨by decide, by decide⟩) rfl rfl (fun F_4751 H locs hw hp_4752 => ?_)
  refine lv_aload_n hx hb dX5_orderAlone_13 rfl (lv_at hl 0 rfl) ?_
  refine lv_iload_n hx hb dX5_orderAlone_14 rfl (lv_at hl 1 rfl) ?_
  refine q_calli hw (q_runS (As := [.int (nI (98))]) (c_X5_unitsOf_98 l G L F_4751 ) C0 hw sw_X5_225 rfl hl.1 rfl (Nat.le_of_ble_eq_true rfl) dX5_orderAlone_15 ⟨by decide, by decide⟩ ⟨by decide, by decide⟩) rfl rfl (fun r_4755 F_4753 H locs hw hp_4754 => ?_)
  obtain ⟨he_4756, o_4757⟩ := hp_4754
  subst he_4756
  have f_4758 : F_4747 (ad 0) = xO ad := (hp_4748 (ad 0) ).trans fx
  have f_4759 : F_4749 (ad 0) = xO ad := (hp_4750 (ad 0) ).trans f_4758
  have f_4760 : F_4751 (ad 0) = xO ad := (hp_4752 (ad 0) ).trans f_4759
  have f_4761 : F_4753 (ad 0) = xO ad := (o_4757 (ad 0) ).trans f_4760
  exact x_pass C0 ht hw hlk (x_runV (As := [.int (nI (2))]) (x_X5_needMoney l G L F_4753 ad hL hin 2 A.1 f_4761 (hn.keep (fun i0 hi => ((o_4757 (ad (i0)) )).trans (((hp_4752 (ad (i0)) )).trans (((hp_4750 (ad (i0)) )).trans ((hp_4748 (ad (i0)) )))))) h9 hpu (by omega) hc (by omega) hst) C0 hXw hw vw_X5_111 ((hL 0 (by omega))) f_4761 rfl rfl rfl hl.1 rfl (Nat.le_of_ble_eq_true rfl) dX5_orderAlone_18 ⟨by decide, by decide⟩ ⟨by decide, by decide⟩) (funext (fun q  => ((o_4757 q ).trans ((hp_4752 q ).trans ((hp_4750 q ).trans (hp_4748 q )))))) (by decide) (by decide) hQ
set_option maxHeartbeats 4000000 in
set_option maxRecDepth 100000 in
theorem x_X5_orderAlone_m115 (l : Launch) (G : Gl) (L : List Nat) (F : Nat → va_E) (ad : Nat → Nat) (hL : ∀ i, i < 166 → ad i ∈ L) (hin : ∀ i j, i < 166 → j < 166 → i ≠ j → ad i ≠ ad j) (A : AB) (f9 g9 t9 : Nat) (hf9 : f9 < 6) (hg9 : g9 < 6) (ht9 : t9 < 6) (h9 : A.1.2.1 < 1 * A.1.1) (hX : XW G F ad A) (hA : okA A) (hst : l.stackTraces = false) : XG l yX5_orderAlone cX5_orderAlone 5 (some .int) rx_X5_orderAlone G L F [.ref (ad 0), .int (nI (115)), .int (nI (f9)), .int (nI (g9)), .int (nI (t9))] "java/lang/IllegalStateException" := by
  obtain ⟨fx, hn, hh, hsn, htx, hrk, ⟨u9, h134⟩, ⟨v9, h150⟩⟩ := hX
  obtain ⟨⟨hc2, hc, hpu, hok⟩, ⟨hh6, hho⟩, hso, hl60, hco⟩ := id hA
  refine XG_of (by decide) (Nat.le_of_ble_eq_true rfl) rfl ?_
  intro p e s m args below meth c Q C0 hXw hlk ht hQ hw ls hl
  have hx := C0.x
  have hb := C0.b
  refine lv_iload_n hx hb dX5_orderAlone_0 rfl (lv_at hl 2 rfl) ?_
  refine q_callv hw (q_runS (As := [.int (nI (f9))]) (c_X5_needSlot l G L F f9 (by omega)) C0 hw sw_X5_78 rfl hl.1 rfl (Nat.le_of_ble_eq_true rfl) dX5_orderAlone_1 ⟨by decide, by decide⟩ ⟨by decide, by decide⟩) rfl rfl (fun F_4762 H locs hw hp_4763 => ?_)
  refine lv_iload_n hx hb dX5_orderAlone_4 rfl (lv_at hl 3 rfl) ?_
  refine q_callv hw (q_runS (As := [.int (nI (g9))]) (c_X5_needSlot l G L F_4762 g9 (by omega)) C0 hw sw_X5_78 rfl hl.1 rfl (Nat.le_of_ble_eq_true rfl) dX5_orderAlone_5 ⟨by decide, by decide⟩ ⟨by decide, by decide⟩) rfl rfl (fun F_4764 H locs hw hp_4765 => ?_)
  refine lv_iload hx hb dX5_orderAlone_8 (lv_at hl 4 rfl) ?_
  refine q_callv hw (q_runS (As := [.int (nI (t9))]) (c_X5_needSlot l G L F_4764 t9 (by omega)) C0 hw sw_X5_78 rfl hl.1 rfl (Nat.le_of_ble_eq_true rfl) dX5_orderAlone_10 ⟨by decide, by decide⟩ ⟨by decide, by decide⟩) rfl rfl (fun F_4766 H locs hw hp_4767 => ?_)
  refine lv_aload_n hx hb dX5_orderAlone_13 rfl (lv_at hl 0 rfl) ?_
  refine lv_iload_n hx hb dX5_orderAlone_14 rfl (lv_at hl 1 rfl) ?_
  refine q_calli hw (q_runS (As := [.int (nI (115))]) (c_X5_unitsOf_115 l G L F_4766 ) C0 hw sw_X5_225 rfl hl.1 rfl (Nat.le_of_ble_eq_true rfl) dX5_orderAlone_15 ⟨by decide, by decide⟩ ⟨by decide, by decide⟩) rfl rfl (fun r_4770 F_4768 H locs hw hp_4769 => ?_)
  obtain ⟨he_4771, o_4772⟩ := hp_4769
  subst he_4771
  have f_4773 : F_4762 (ad 0) = xO ad := (hp_4763 (ad 0) ).trans fx
  have f_4774 : F_4764 (ad 0) = xO ad := (hp_4765 (ad 0) ).trans f_4773
  have f_4775 : F_4766 (ad 0) = xO ad := (hp_4767 (ad 0) ).trans f_4774
  have f_4776 : F_4768 (ad 0) = xO ad := (o_4772 (ad 0) ).trans f_4775
  exact x_pass C0 ht hw hlk (x_runV (As := [.int (nI (1))]) (x_X5_needMoney l G L F_4768 ad hL hin 1 A.1 f_4776 (hn.keep (fun i0 hi => ((o_4772 (ad (i0)) )).trans (((hp_4767 (ad (i0)) )).trans (((hp_4765 (ad (i0)) )).trans ((hp_4763 (ad (i0)) )))))) h9 hpu (by omega) hc (by omega) hst) C0 hXw hw vw_X5_111 ((hL 0 (by omega))) f_4776 rfl rfl rfl hl.1 rfl (Nat.le_of_ble_eq_true rfl) dX5_orderAlone_18 ⟨by decide, by decide⟩ ⟨by decide, by decide⟩) (funext (fun q  => ((o_4772 q ).trans ((hp_4767 q ).trans ((hp_4765 q ).trans (hp_4763 q )))))) (by decide) (by decide) hQ
set_option maxHeartbeats 4000000 in
set_option maxRecDepth 100000 in
theorem x_X5_orderAlone_m119 (l : Launch) (G : Gl) (L : List Nat) (F : Nat → va_E) (ad : Nat → Nat) (hL : ∀ i, i < 166 → ad i ∈ L) (hin : ∀ i j, i < 166 → j < 166 → i ≠ j → ad i ≠ ad j) (A : AB) (f9 g9 t9 : Nat) (hf9 : f9 < 6) (hg9 : g9 < 6) (ht9 : t9 < 6) (h9 : A.1.2.1 < 20 * A.1.1) (hX : XW G F ad A) (hA : okA A) (hst : l.stackTraces = false) : XG l yX5_orderAlone cX5_orderAlone 5 (some .int) rx_X5_orderAlone G L F [.ref (ad 0), .int (nI (119)), .int (nI (f9)), .int (nI (g9)), .int (nI (t9))] "java/lang/IllegalStateException" := by
  obtain ⟨fx, hn, hh, hsn, htx, hrk, ⟨u9, h134⟩, ⟨v9, h150⟩⟩ := hX
  obtain ⟨⟨hc2, hc, hpu, hok⟩, ⟨hh6, hho⟩, hso, hl60, hco⟩ := id hA
  refine XG_of (by decide) (Nat.le_of_ble_eq_true rfl) rfl ?_
  intro p e s m args below meth c Q C0 hXw hlk ht hQ hw ls hl
  have hx := C0.x
  have hb := C0.b
  refine lv_iload_n hx hb dX5_orderAlone_0 rfl (lv_at hl 2 rfl) ?_
  refine q_callv hw (q_runS (As := [.int (nI (f9))]) (c_X5_needSlot l G L F f9 (by omega)) C0 hw sw_X5_78 rfl hl.1 rfl (Nat.le_of_ble_eq_true rfl) dX5_orderAlone_1 ⟨by decide, by decide⟩ ⟨by decide, by decide⟩) rfl rfl (fun F_4777 H locs hw hp_4778 => ?_)
  refine lv_iload_n hx hb dX5_orderAlone_4 rfl (lv_at hl 3 rfl) ?_
  refine q_callv hw (q_runS (As := [.int (nI (g9))]) (c_X5_needSlot l G L F_4777 g9 (by omega)) C0 hw sw_X5_78 rfl hl.1 rfl (Nat.le_of_ble_eq_true rfl) dX5_orderAlone_5 ⟨by decide, by decide⟩ ⟨by decide, by decide⟩) rfl rfl (fun F_4779 H locs hw hp_4780 => ?_)
  refine lv_iload hx hb dX5_orderAlone_8 (lv_at hl 4 rfl) ?_
  refine q_callv hw (q_runS (As := [.int (nI (t9))]) (c_X5_needSlot l G L F_4779 t9 (by omega)) C0 hw sw_X5_78 rfl hl.1 rfl (Nat.le_of_ble_eq_true rfl) dX5_orderAlone_10 ⟨by decide, by decide⟩ ⟨by decide, by decide⟩) rfl rfl (fun F_4781 H locs hw hp_4782 => ?_)
  refine lv_aload_n hx hb dX5_orderAlone_13 rfl (lv_at hl 0 rfl) ?_
  refine lv_iload_n hx hb dX5_orderAlone_14 rfl (lv_at hl 1 rfl) ?_
  refine q_calli hw (q_runS (As := [.int (nI (119))]) (c_X5_unitsOf_119 l G L F_4781 ) C0 hw sw_X5_225 rfl hl.1 rfl (Nat.le_of_ble_eq_true rfl) dX5_orderAlone_15 ⟨by decide, by decide⟩ ⟨by decide, by decide⟩) rfl rfl (fun r_4785 F_4783 H locs hw hp_4784 => ?_)
  obtain ⟨he_4786, o_4787⟩ := hp_4784
  subst he_4786
  have f_4788 : F_4777 (ad 0) = xO ad := (hp_4778 (ad 0) ).trans fx
  have f_4789 : F_4779 (ad 0) = xO ad := (hp_4780 (ad 0) ).trans f_4788
  have f_4790 : F_4781 (ad 0) = xO ad := (hp_4782 (ad 0) ).trans f_4789
  have f_4791 : F_4783 (ad 0) = xO ad := (o_4787 (ad 0) ).trans f_4790
  exact x_pass C0 ht hw hlk (x_runV (As := [.int (nI (20))]) (x_X5_needMoney l G L F_4783 ad hL hin 20 A.1 f_4791 (hn.keep (fun i0 hi => ((o_4787 (ad (i0)) )).trans (((hp_4782 (ad (i0)) )).trans (((hp_4780 (ad (i0)) )).trans ((hp_4778 (ad (i0)) )))))) h9 hpu (by omega) hc (by omega) hst) C0 hXw hw vw_X5_111 ((hL 0 (by omega))) f_4791 rfl rfl rfl hl.1 rfl (Nat.le_of_ble_eq_true rfl) dX5_orderAlone_18 ⟨by decide, by decide⟩ ⟨by decide, by decide⟩) (funext (fun q  => ((o_4787 q ).trans ((hp_4782 q ).trans ((hp_4780 q ).trans (hp_4778 q )))))) (by decide) (by decide) hQ
set_option maxHeartbeats 4000000 in
set_option maxRecDepth 100000 in
theorem x_X5_orderAlone_m112 (l : Launch) (G : Gl) (L : List Nat) (F : Nat → va_E) (ad : Nat → Nat) (hL : ∀ i, i < 166 → ad i ∈ L) (hin : ∀ i j, i < 166 → j < 166 → i ≠ j → ad i ≠ ad j) (A : AB) (f9 g9 t9 : Nat) (hf9 : f9 < 6) (hg9 : g9 < 6) (ht9 : t9 < 6) (h9 : A.1.2.1 < 6 * A.1.1) (hX : XW G F ad A) (hA : okA A) (hst : l.stackTraces = false) : XG l yX5_orderAlone cX5_orderAlone 5 (some .int) rx_X5_orderAlone G L F [.ref (ad 0), .int (nI (112)), .int (nI (f9)), .int (nI (g9)), .int (nI (t9))] "java/lang/IllegalStateException" := by
  obtain ⟨fx, hn, hh, hsn, htx, hrk, ⟨u9, h134⟩, ⟨v9, h150⟩⟩ := hX
  obtain ⟨⟨hc2, hc, hpu, hok⟩, ⟨hh6, hho⟩, hso, hl60, hco⟩ := id hA
  refine XG_of (by decide) (Nat.le_of_ble_eq_true rfl) rfl ?_
  intro p e s m args below meth c Q C0 hXw hlk ht hQ hw ls hl
  have hx := C0.x
  have hb := C0.b
  refine lv_iload_n hx hb dX5_orderAlone_0 rfl (lv_at hl 2 rfl) ?_
  refine q_callv hw (q_runS (As := [.int (nI (f9))]) (c_X5_needSlot l G L F f9 (by omega)) C0 hw sw_X5_78 rfl hl.1 rfl (Nat.le_of_ble_eq_true rfl) dX5_orderAlone_1 ⟨by decide, by decide⟩ ⟨by decide, by decide⟩) rfl rfl (fun F_4792 H locs hw hp_4793 => ?_)
  refine lv_iload_n hx hb dX5_orderAlone_4 rfl (lv_at hl 3 rfl) ?_
  refine q_callv hw (q_runS (As := [.int (nI (g9))]) (c_X5_needSlot l G L F_4792 g9 (by omega)) C0 hw sw_X5_78 rfl hl.1 rfl (Nat.le_of_ble_eq_true rfl) dX5_orderAlone_5 ⟨by decide, by decide⟩ ⟨by decide, by decide⟩) rfl rfl (fun F_4794 H locs hw hp_4795 => ?_)
  refine lv_iload hx hb dX5_orderAlone_8 (lv_at hl 4 rfl) ?_
  refine q_callv hw (q_runS (As := [.int (nI (t9))]) (c_X5_needSlot l G L F_4794 t9 (by omega)) C0 hw sw_X5_78 rfl hl.1 rfl (Nat.le_of_ble_eq_true rfl) dX5_orderAlone_10 ⟨by decide, by decide⟩ ⟨by decide, by decide⟩) rfl rfl (fun F_4796 H locs hw hp_4797 => ?_)
  refine lv_aload_n hx hb dX5_orderAlone_13 rfl (lv_at hl 0 rfl) ?_
  refine lv_iload_n hx hb dX5_orderAlone_14 rfl (lv_at hl 1 rfl) ?_
  refine q_calli hw (q_runS (As := [.int (nI (112))]) (c_X5_unitsOf_112 l G L F_4796 ) C0 hw sw_X5_225 rfl hl.1 rfl (Nat.le_of_ble_eq_true rfl) dX5_orderAlone_15 ⟨by decide, by decide⟩ ⟨by decide, by decide⟩) rfl rfl (fun r_4800 F_4798 H locs hw hp_4799 => ?_)
  obtain ⟨he_4801, o_4802⟩ := hp_4799
  subst he_4801
  have f_4803 : F_4792 (ad 0) = xO ad := (hp_4793 (ad 0) ).trans fx
  have f_4804 : F_4794 (ad 0) = xO ad := (hp_4795 (ad 0) ).trans f_4803
  have f_4805 : F_4796 (ad 0) = xO ad := (hp_4797 (ad 0) ).trans f_4804
  have f_4806 : F_4798 (ad 0) = xO ad := (o_4802 (ad 0) ).trans f_4805
  exact x_pass C0 ht hw hlk (x_runV (As := [.int (nI (6))]) (x_X5_needMoney l G L F_4798 ad hL hin 6 A.1 f_4806 (hn.keep (fun i0 hi => ((o_4802 (ad (i0)) )).trans (((hp_4797 (ad (i0)) )).trans (((hp_4795 (ad (i0)) )).trans ((hp_4793 (ad (i0)) )))))) h9 hpu (by omega) hc (by omega) hst) C0 hXw hw vw_X5_111 ((hL 0 (by omega))) f_4806 rfl rfl rfl hl.1 rfl (Nat.le_of_ble_eq_true rfl) dX5_orderAlone_18 ⟨by decide, by decide⟩ ⟨by decide, by decide⟩) (funext (fun q  => ((o_4802 q ).trans ((hp_4797 q ).trans ((hp_4795 q ).trans (hp_4793 q )))))) (by decide) (by decide) hQ
set_option maxHeartbeats 4000000 in
set_option maxRecDepth 100000 in
theorem x_X5_orderAlone_m108 (l : Launch) (G : Gl) (L : List Nat) (F : Nat → va_E) (ad : Nat → Nat) (hL : ∀ i, i < 166 → ad i ∈ L) (hin : ∀ i j, i < 166 → j < 166 → i ≠ j → ad i ≠ ad j) (A : AB) (f9 g9 t9 : Nat) (hf9 : f9 < 6) (hg9 : g9 < 6) (ht9 : t9 < 6) (h9 : A.1.2.1 < 6 * A.1.1) (hX : XW G F ad A) (hA : okA A) (hst : l.stackTraces = false) : XG l yX5_orderAlone cX5_orderAlone 5 (some .int) rx_X5_orderAlone G L F [.ref (ad 0), .int (nI (108)), .int (nI (f9)), .int (nI (g9)), .int (nI (t9))] "java/lang/IllegalStateException" := by
  obtain ⟨fx, hn, hh, hsn, htx, hrk, ⟨u9, h134⟩, ⟨v9, h150⟩⟩ := hX
  obtain ⟨⟨hc2, hc, hpu, hok⟩, ⟨hh6, hho⟩, hso, hl60, hco⟩ := id hA
  refine XG_of (by decide) (Nat.le_of_ble_eq_true rfl) rfl ?_
  intro p e s m args below meth c Q C0 hXw hlk ht hQ hw ls hl
  have hx := C0.x
  have hb := C0.b
  refine lv_iload_n hx hb dX5_orderAlone_0 rfl (lv_at hl 2 rfl) ?_
  refine q_callv hw (q_runS (As := [.int (nI (f9))]) (c_X5_needSlot l G L F f9 (by omega)) C0 hw sw_X5_78 rfl hl.1 rfl (Nat.le_of_ble_eq_true rfl) dX5_orderAlone_1 ⟨by decide, by decide⟩ ⟨by decide, by decide⟩) rfl rfl (fun F_4807 H locs hw hp_4808 => ?_)
  refine lv_iload_n hx hb dX5_orderAlone_4 rfl (lv_at hl 3 rfl) ?_
  refine q_callv hw (q_runS (As := [.int (nI (g9))]) (c_X5_needSlot l G L F_4807 g9 (by omega)) C0 hw sw_X5_78 rfl hl.1 rfl (Nat.le_of_ble_eq_true rfl) dX5_orderAlone_5 ⟨by decide, by decide⟩ ⟨by decide, by decide⟩) rfl rfl (fun F_4809 H locs hw hp_4810 => ?_)
  refine lv_iload hx hb dX5_orderAlone_8 (lv_at hl 4 rfl) ?_
  refine q_callv hw (q_runS (As := [.int (nI (t9))]) (c_X5_needSlot l G L F_4809 t9 (by omega)) C0 hw sw_X5_78 rfl hl.1 rfl (Nat.le_of_ble_eq_true rfl) dX5_orderAlone_10 ⟨by decide, by decide⟩ ⟨by decide, by decide⟩) rfl rfl (fun F_4811 H locs hw hp_4812 => ?_)
  refine lv_aload_n hx hb dX5_orderAlone_13 rfl (lv_at hl 0 rfl) ?_
  refine lv_iload_n hx hb dX5_orderAlone_14 rfl (lv_at hl 1 rfl) ?_
  refine q_calli hw (q_runS (As := [.int (nI (108))]) (c_X5_unitsOf_108 l G L F_4811 ) C0 hw sw_X5_225 rfl hl.1 rfl (Nat.le_of_ble_eq_true rfl) dX5_orderAlone_15 ⟨by decide, by decide⟩ ⟨by decide, by decide⟩) rfl rfl (fun r_4815 F_4813 H locs hw hp_4814 => ?_)
  obtain ⟨he_4816, o_4817⟩ := hp_4814
  subst he_4816
  have f_4818 : F_4807 (ad 0) = xO ad := (hp_4808 (ad 0) ).trans fx
  have f_4819 : F_4809 (ad 0) = xO ad := (hp_4810 (ad 0) ).trans f_4818
  have f_4820 : F_4811 (ad 0) = xO ad := (hp_4812 (ad 0) ).trans f_4819
  have f_4821 : F_4813 (ad 0) = xO ad := (o_4817 (ad 0) ).trans f_4820
  exact x_pass C0 ht hw hlk (x_runV (As := [.int (nI (6))]) (x_X5_needMoney l G L F_4813 ad hL hin 6 A.1 f_4821 (hn.keep (fun i0 hi => ((o_4817 (ad (i0)) )).trans (((hp_4812 (ad (i0)) )).trans (((hp_4810 (ad (i0)) )).trans ((hp_4808 (ad (i0)) )))))) h9 hpu (by omega) hc (by omega) hst) C0 hXw hw vw_X5_111 ((hL 0 (by omega))) f_4821 rfl rfl rfl hl.1 rfl (Nat.le_of_ble_eq_true rfl) dX5_orderAlone_18 ⟨by decide, by decide⟩ ⟨by decide, by decide⟩) (funext (fun q  => ((o_4817 q ).trans ((hp_4812 q ).trans ((hp_4810 q ).trans (hp_4808 q )))))) (by decide) (by decide) hQ
set_option maxHeartbeats 4000000 in
set_option maxRecDepth 100000 in
theorem x_X5_orderAlone_m101 (l : Launch) (G : Gl) (L : List Nat) (F : Nat → va_E) (ad : Nat → Nat) (hL : ∀ i, i < 166 → ad i ∈ L) (hin : ∀ i j, i < 166 → j < 166 → i ≠ j → ad i ≠ ad j) (A : AB) (f9 g9 t9 : Nat) (hf9 : f9 < 6) (hg9 : g9 < 6) (ht9 : t9 < 6) (h9 : A.1.2.1 < 5 * A.1.1) (hX : XW G F ad A) (hA : okA A) (hst : l.stackTraces = false) : XG l yX5_orderAlone cX5_orderAlone 5 (some .int) rx_X5_orderAlone G L F [.ref (ad 0), .int (nI (101)), .int (nI (f9)), .int (nI (g9)), .int (nI (t9))] "java/lang/IllegalStateException" := by
  obtain ⟨fx, hn, hh, hsn, htx, hrk, ⟨u9, h134⟩, ⟨v9, h150⟩⟩ := hX
  obtain ⟨⟨hc2, hc, hpu, hok⟩, ⟨hh6, hho⟩, hso, hl60, hco⟩ := id hA
  refine XG_of (by decide) (Nat.le_of_ble_eq_true rfl) rfl ?_
  intro p e s m args below meth c Q C0 hXw hlk ht hQ hw ls hl
  have hx := C0.x
  have hb := C0.b
  refine lv_iload_n hx hb dX5_orderAlone_0 rfl (lv_at hl 2 rfl) ?_
  refine q_callv hw (q_runS (As := [.int (nI (f9))]) (c_X5_needSlot l G L F f9 (by omega)) C0 hw sw_X5_78 rfl hl.1 rfl (Nat.le_of_ble_eq_true rfl) dX5_orderAlone_1 ⟨by decide, by decide⟩ ⟨by decide, by decide⟩) rfl rfl (fun F_4822 H locs hw hp_4823 => ?_)
  refine lv_iload_n hx hb dX5_orderAlone_4 rfl (lv_at hl 3 rfl) ?_
  refine q_callv hw (q_runS (As := [.int (nI (g9))]) (c_X5_needSlot l G L F_4822 g9 (by omega)) C0 hw sw_X5_78 rfl hl.1 rfl (Nat.le_of_ble_eq_true rfl) dX5_orderAlone_5 ⟨by decide, by decide⟩ ⟨by decide, by decide⟩) rfl rfl (fun F_4824 H locs hw hp_4825 => ?_)
  refine lv_iload hx hb dX5_orderAlone_8 (lv_at hl 4 rfl) ?_
  refine q_callv hw (q_runS (As := [.int (nI (t9))]) (c_X5_needSlot l G L F_4824 t9 (by omega)) C0 hw sw_X5_78 rfl hl.1 rfl (Nat.le_of_ble_eq_true rfl) dX5_orderAlone_10 ⟨by decide, by decide⟩ ⟨by decide, by decide⟩) rfl rfl (fun F_4826 H locs hw hp_4827 => ?_)
  refine lv_aload_n hx hb dX5_orderAlone_13 rfl (lv_at hl 0 rfl) ?_
  refine lv_iload_n hx hb dX5_orderAlone_14 rfl (lv_at hl 1 rfl) ?_
  refine q_calli hw (q_runS (As := [.int (nI (101))]) (c_X5_unitsOf_101 l G L F_4826 ) C0 hw sw_X5_225 rfl hl.1 rfl (Nat.le_of_ble_eq_true rfl) dX5_orderAlone_15 ⟨by decide, by decide⟩ ⟨by decide, by decide⟩) rfl rfl (fun r_4830 F_4828 H locs hw hp_4829 => ?_)
  obtain ⟨he_4831, o_4832⟩ := hp_4829
  subst he_4831
  have f_4833 : F_4822 (ad 0) = xO ad := (hp_4823 (ad 0) ).trans fx
  have f_4834 : F_4824 (ad 0) = xO ad := (hp_4825 (ad 0) ).trans f_4833
  have f_4835 : F_4826 (ad 0) = xO ad := (hp_4827 (ad 0) ).trans f_4834
  have f_4836 : F_4828 (ad 0) = xO ad := (o_4832 (ad 0) ).trans f_4835
  exact x_pass C0 ht hw hlk (x_runV (As := [.int (nI (5))]) (x_X5_needMoney l G L F_4828 ad hL hin 5 A.1 f_4836 (hn.keep (fun i0 hi => ((o_4832 (ad (i0)) )).trans (((hp_4827 (ad (i0)) )).trans (((hp_4825 (ad (i0)) )).trans ((hp_4823 (ad (i0)) )))))) h9 hpu (by omega) hc (by omega) hst) C0 hXw hw vw_X5_111 ((hL 0 (by omega))) f_4836 rfl rfl rfl hl.1 rfl (Nat.le_of_ble_eq_true rfl) dX5_orderAlone_18 ⟨by decide, by decide⟩ ⟨by decide, by decide⟩) (funext (fun q  => ((o_4832 q ).trans ((hp_4827 q ).trans ((hp_4825 q ).trans (hp_4823 q )))))) (by decide) (by decide) hQ
set_option maxHeartbeats 4000000 in
set_option maxRecDepth 100000 in
theorem x_X5_orderAlone_m99 (l : Launch) (G : Gl) (L : List Nat) (F : Nat → va_E) (ad : Nat → Nat) (hL : ∀ i, i < 166 → ad i ∈ L) (hin : ∀ i j, i < 166 → j < 166 → i ≠ j → ad i ≠ ad j) (A : AB) (f9 g9 t9 : Nat) (hf9 : f9 < 6) (hg9 : g9 < 6) (ht9 : t9 < 6) (h9 : A.1.2.1 < 4 * A.1.1) (hX : XW G F ad A) (hA : okA A) (hst : l.stackTraces = false) : XG l yX5_orderAlone cX5_orderAlone 5 (some .int) rx_X5_orderAlone G L F [.ref (ad 0), .int (nI (99)), .int (nI (f9)), .int (nI (g9)), .int (nI (t9))] "java/lang/IllegalStateException" := by
  obtain ⟨fx, hn, hh, hsn, htx, hrk, ⟨u9, h134⟩, ⟨v9, h150⟩⟩ := hX
  obtain ⟨⟨hc2, hc, hpu, hok⟩, ⟨hh6, hho⟩, hso, hl60, hco⟩ := id hA
  refine XG_of (by decide) (Nat.le_of_ble_eq_true rfl) rfl ?_
  intro p e s m args below meth c Q C0 hXw hlk ht hQ hw ls hl
  have hx := C0.x
  have hb := C0.b
  refine lv_iload_n hx hb dX5_orderAlone_0 rfl (lv_at hl 2 rfl) ?_
  refine q_callv hw (q_runS (As := [.int (nI (f9))]) (c_X5_needSlot l G L F f9 (by omega)) C0 hw sw_X5_78 rfl hl.1 rfl (Nat.le_of_ble_eq_true rfl) dX5_orderAlone_1 ⟨by decide, by decide⟩ ⟨by decide, by decide⟩) rfl rfl (fun F_4837 H locs hw hp_4838 => ?_)
  refine lv_iload_n hx hb dX5_orderAlone_4 rfl (lv_at hl 3 rfl) ?_
  refine q_callv hw (q_runS (As := [.int (nI (g9))]) (c_X5_needSlot l G L F_4837 g9 (by omega)) C0 hw sw_X5_78 rfl hl.1 rfl (Nat.le_of_ble_eq_true rfl) dX5_orderAlone_5 ⟨by decide, by decide⟩ ⟨by decide, by decide⟩) rfl rfl (fun F_4839 H locs hw hp_4840 => ?_)
  refine lv_iload hx hb dX5_orderAlone_8 (lv_at hl 4 rfl) ?_
  refine q_callv hw (q_runS (As := [.int (nI (t9))]) (c_X5_needSlot l G L F_4839 t9 (by omega)) C0 hw sw_X5_78 rfl hl.1 rfl (Nat.le_of_ble_eq_true rfl) dX5_orderAlone_10 ⟨by decide, by decide⟩ ⟨by decide, by decide⟩) rfl rfl (fun F_4841 H locs hw hp_4842 => ?_)
  refine lv_aload_n hx hb dX5_orderAlone_13 rfl (lv_at hl 0 rfl) ?_
  refine lv_iload_n hx hb dX5_orderAlone_14 rfl (lv_at hl 1 rfl) ?_
  refine q_calli hw (q_runS (As := [.int (nI (99))]) (c_X5_unitsOf_99 l G L F_4841 ) C0 hw sw_X5_225 rfl hl.1 rfl (Nat.le_of_ble_eq_true rfl) dX5_orderAlone_15 ⟨by decide, by decide⟩ ⟨by decide, by decide⟩) rfl rfl (fun r_4845 F_4843 H locs hw hp_4844 => ?_)
  obtain ⟨he_4846, o_4847⟩ := hp_4844
  subst he_4846
  have f_4848 : F_4837 (ad 0) = xO ad := (hp_4838 (ad 0) ).trans fx
  have f_4849 : F_4839 (ad 0) = xO ad := (hp_4840 (ad 0) ).trans f_4848
  have f_4850 : F_4841 (ad 0) = xO ad := (hp_4842 (ad 0) ).trans f_4849
  have f_4851 : F_4843 (ad 0) = xO ad := (o_4847 (ad 0) ).trans f_4850
  exact x_pass C0 ht hw hlk (x_runV (As := [.int (nI (4))]) (x_X5_needMoney l G L F_4843 ad hL hin 4 A.1 f_4851 (hn.keep (fun i0 hi => ((o_4847 (ad (i0)) )).trans (((hp_4842 (ad (i0)) )).trans (((hp_4840 (ad (i0)) )).trans ((hp_4838 (ad (i0)) )))))) h9 hpu (by omega) hc (by omega) hst) C0 hXw hw vw_X5_111 ((hL 0 (by omega))) f_4851 rfl rfl rfl hl.1 rfl (Nat.le_of_ble_eq_true rfl) dX5_orderAlone_18 ⟨by decide, by decide⟩ ⟨by decide, by decide⟩) (funext (fun q  => ((o_4847 q ).trans ((hp_4842 q ).trans ((hp_4840 q ).trans (hp_4838 q )))))) (by decide) (by decide) hQ
set_option maxHeartbeats 4000000 in
set_option maxRecDepth 100000 in
theorem x_X5_orderAlone_m105 (l : Launch) (G : Gl) (L : List Nat) (F : Nat → va_E) (ad : Nat → Nat) (hL : ∀ i, i < 166 → ad i ∈ L) (hin : ∀ i j, i < 166 → j < 166 → i ≠ j → ad i ≠ ad j) (A : AB) (f9 g9 t9 : Nat) (hf9 : f9 < 6) (hg9 : g9 < 6) (ht9 : t9 < 6) (h9 : A.1.2.1 < 4 * A.1.1) (hX : XW G F ad A) (hA : okA A) (hst : l.stackTraces = false) : XG l yX5_orderAlone cX5_orderAlone 5 (some .int) rx_X5_orderAlone G L F [.ref (ad 0), .int (nI (105)), .int (nI (f9)), .int (nI (g9)), .int (nI (t9))] "java/lang/IllegalStateException" := by
  obtain ⟨fx, hn, hh, hsn, htx, hrk, ⟨u9, h134⟩, ⟨v9, h150⟩⟩ := hX
  obtain ⟨⟨hc2, hc, hpu, hok⟩, ⟨hh6, hho⟩, hso, hl60, hco⟩ := id hA
  refine XG_of (by decide) (Nat.le_of_ble_eq_true rfl) rfl ?_
  intro p e s m args below meth c Q C0 hXw hlk ht hQ hw ls hl
  have hx := C0.x
  have hb := C0.b
  refine lv_iload_n hx hb dX5_orderAlone_0 rfl (lv_at hl 2 rfl) ?_
  refine q_callv hw (q_runS (As := [.int (nI (f9))]) (c_X5_needSlot l G L F f9 (by omega)) C0 hw sw_X5_78 rfl hl.1 rfl (Nat.le_of_ble_eq_true rfl) dX5_orderAlone_1 ⟨by decide, by decide⟩ ⟨by decide, by decide⟩) rfl rfl (fun F_4852 H locs hw hp_4853 => ?_)
  refine lv_iload_n hx hb dX5_orderAlone_4 rfl (lv_at hl 3 rfl) ?_
  refine q_callv hw (q_runS (As := [.int (nI (g9))]) (c_X5_needSlot l G L F_4852 g9 (by omega)) C0 hw sw_X5_78 rfl hl.1 rfl (Nat.le_of_ble_eq_true rfl) dX5_orderAlone_5 ⟨by decide, by decide⟩ ⟨by decide, by decide⟩) rfl rfl (fun F_4854 H locs hw hp_4855 => ?_)
  refine lv_iload hx hb dX5_orderAlone_8 (lv_at hl 4 rfl) ?_
  refine q_callv hw (q_runS (As := [.int (nI (t9))]) (c_X5_needSlot l G L F_4854 t9 (by omega)) C0 hw sw_X5_78 rfl hl.1 rfl (Nat.le_of_ble_eq_true rfl) dX5_orderAlone_10 ⟨by decide, by decide⟩ ⟨by decide, by decide⟩) rfl rfl (fun F_4856 H locs hw hp_4857 => ?_)
  refine lv_aload_n hx hb dX5_orderAlone_13 rfl (lv_at hl 0 rfl) ?_
  refine lv_iload_n hx hb dX5_orderAlone_14 rfl (lv_at hl 1 rfl) ?_
  refine q_calli hw (q_runS (As := [.int (nI (105))]) (c_X5_unitsOf_105 l G L F_4856 ) C0 hw sw_X5_225 rfl hl.1 rfl (Nat.le_of_ble_eq_true rfl) dX5_orderAlone_15 ⟨by decide, by decide⟩ ⟨by decide, by decide⟩) rfl rfl (fun r_4860 F_4858 H locs hw hp_4859 => ?_)
  obtain ⟨he_4861, o_4862⟩ := hp_4859
  subst he_4861
  have f_4863 : F_4852 (ad 0) = xO ad := (hp_4853 (ad 0) ).trans fx
  have f_4864 : F_4854 (ad 0) = xO ad := (hp_4855 (ad 0) ).trans f_4863
  have f_4865 : F_4856 (ad 0) = xO ad := (hp_4857 (ad 0) ).trans f_4864
  have f_4866 : F_4858 (ad 0) = xO ad := (o_4862 (ad 0) ).trans f_4865
  exact x_pass C0 ht hw hlk (x_runV (As := [.int (nI (4))]) (x_X5_needMoney l G L F_4858 ad hL hin 4 A.1 f_4866 (hn.keep (fun i0 hi => ((o_4862 (ad (i0)) )).trans (((hp_4857 (ad (i0)) )).trans (((hp_4855 (ad (i0)) )).trans ((hp_4853 (ad (i0)) )))))) h9 hpu (by omega) hc (by omega) hst) C0 hXw hw vw_X5_111 ((hL 0 (by omega))) f_4866 rfl rfl rfl hl.1 rfl (Nat.le_of_ble_eq_true rfl) dX5_orderAlone_18 ⟨by decide, by decide⟩ ⟨by decide, by decide⟩) (funext (fun q  => ((o_4862 q ).trans ((hp_4857 q ).trans ((hp_4855 q ).trans (hp_4853 q )))))) (by decide) (by decide) hQ
abbrev rx_X5_bracket : Room := { frames := 8, cells := 1, slots := 6, locals := 135 }
set_option maxHeartbeats 4000000 in
set_option maxRecDepth 100000 in
theorem x_X5_bracket_1 (l : Launch) (G : Gl) (L : List Nat) (F : Nat → va_E) (ad : Nat → Nat) (hL : ∀ i, i < 166 → ad i ∈ L) (hin : ∀ i j, i < 166 → j < 166 → i ≠ j → ad i ≠ ad j) (A : AB) (x9 : Int32) (y9 z9 : Int32) (h9 : ¬ inR x9 0 5) (hX : XW G F ad A) (hA : okA A) (hst : l.stackTraces = false) : XG l yX5_bracket cX5_bracket 4 (some .int) rx_X5_bracket G L F [.ref (ad 0), .int (x9), .int (y9), .int (z9)] "java/lang/IndexOutOfBoundsException" := by
  have hX9 := hX
  obtain ⟨fx, hn, hh, hsn, htx, hrk, ⟨u9, h134⟩, ⟨v9, h150⟩⟩ := hX
  obtain ⟨⟨hc2, hc, hpu, hok⟩, ⟨hh6, hho⟩, hso, hl60, hco⟩ := id hA
  refine XG_of (by decide) (Nat.le_of_ble_eq_true rfl) rfl ?_
  intro p e s m args below meth c Q C0 hXw hlk ht hQ hw ls hl
  have hx := C0.x
  have hb := C0.b
  refine lv_aload_n hx hb dX5_bracket_0 rfl (lv_at hl 0 rfl) ?_
  refine lv_bipush (v := nI 98) hx hb dX5_bracket_1 (by decide) ?_
  refine lv_iload_n hx hb dX5_bracket_3 rfl (lv_at hl 1 rfl) ?_
  refine lv_iload_n hx hb dX5_bracket_4 rfl (lv_at hl 2 rfl) ?_
  refine lv_iload_n hx hb dX5_bracket_5 rfl (lv_at hl 3 rfl) ?_
  exact x_pass C0 ht hw hlk (x_runV (As := [.int (nI (98)), .int (x9), .int (y9), .int (z9)]) (x_X5_orderAlone_1 l G L F ad hL hin A (x9) (nI 98) (y9) (z9) h9 hX9 hA hst) C0 hXw hw vw_X5_107 ((hL 0 (by omega))) fx rfl rfl rfl hl.1 rfl (Nat.le_of_ble_eq_true rfl) dX5_bracket_6 ⟨by decide, by decide⟩ ⟨by decide, by decide⟩) (funext (fun q  => rfl)) (by decide) (by decide) hQ
set_option maxHeartbeats 4000000 in
set_option maxRecDepth 100000 in
theorem x_X5_bracket_2 (l : Launch) (G : Gl) (L : List Nat) (F : Nat → va_E) (ad : Nat → Nat) (hL : ∀ i, i < 166 → ad i ∈ L) (hin : ∀ i j, i < 166 → j < 166 → i ≠ j → ad i ≠ ad j) (A : AB) (f9 : Nat) (hf9 : f9 < 6) (x9 : Int32) (z9 : Int32) (h9 : ¬ inR x9 0 5) (hX : XW G F ad A) (hA : okA A) (hst : l.stackTraces = false) : XG l yX5_bracket cX5_bracket 4 (some .int) rx_X5_bracket G L F [.ref (ad 0), .int (nI (f9)), .int (x9), .int (z9)] "java/lang/IndexOutOfBoundsException" := by
  have hX9 := hX
  obtain ⟨fx, hn, hh, hsn, htx, hrk, ⟨u9, h134⟩, ⟨v9, h150⟩⟩ := hX
  obtain ⟨⟨hc2, hc, hpu, hok⟩, ⟨hh6, hho⟩, hso, hl60, hco⟩ := id hA
  refine XG_of (by decide) (Nat.le_of_ble_eq_true rfl) rfl ?_
  intro p e s m args below meth c Q C0 hXw hlk ht hQ hw ls hl
  have hx := C0.x
  have hb := C0.b
  refine lv_aload_n hx hb dX5_bracket_0 rfl (lv_at hl 0 rfl) ?_
  refine lv_bipush (v := nI 98) hx hb dX5_bracket_1 (by decide) ?_
  refine lv_iload_n hx hb dX5_bracket_3 rfl (lv_at hl 1 rfl) ?_
  refine lv_iload_n hx hb dX5_bracket_4 rfl (lv_at hl 2 rfl) ?_
  refine lv_iload_n hx hb dX5_bracket_5 rfl (lv_at hl 3 rfl) ?_
  exact x_pass C0 ht hw hlk (x_runV (As := [.int (nI (98)), .int (nI (f9)), .int (x9), .int (z9)]) (x_X5_orderAlone_2 l G L F ad hL hin A f9 hf9 (x9) (nI 98) (z9) h9 hX9 hA hst) C0 hXw hw vw_X5_107 ((hL 0 (by omega))) fx rfl rfl rfl hl.1 rfl (Nat.le_of_ble_eq_true rfl) dX5_bracket_6 ⟨by decide, by decide⟩ ⟨by decide, by decide⟩) (funext (fun q  => rfl)) (by decide) (by decide) hQ
set_option maxHeartbeats 4000000 in
set_option maxRecDepth 100000 in
theorem x_X5_bracket_3 (l : Launch) (G : Gl) (L : List Nat) (F : Nat → va_E) (ad : Nat → Nat) (hL : ∀ i, i < 166 → ad i ∈ L) (hin : ∀ i j, i < 166 → j < 166 → i ≠ j → ad i ≠ ad j) (A : AB) (f9 g9 : Nat) (hf9 : f9 < 6) (hg9 : g9 < 6) (x9 : Int32) (h9 : ¬ inR x9 0 5) (hX : XW G F ad A) (hA : okA A) (hst : l.stackTraces = false) : XG l yX5_bracket cX5_bracket 4 (some .int) rx_X5_bracket G L F [.ref (ad 0), .int (nI (f9)), .int (nI (g9)), .int (x9)] "java/lang/IndexOutOfBoundsException" := by
  have hX9 := hX
  obtain ⟨fx, hn, hh, hsn, htx, hrk, ⟨u9, h134⟩, ⟨v9, h150⟩⟩ := hX
  obtain ⟨⟨hc2, hc, hpu, hok⟩, ⟨hh6, hho⟩, hso, hl60, hco⟩ := id hA
  refine XG_of (by decide) (Nat.le_of_ble_eq_true rfl) rfl ?_
  intro p e s m args below meth c Q C0 hXw hlk ht hQ hw ls hl
  have hx := C0.x
  have hb := C0.b
  refine lv_aload_n hx hb dX5_bracket_0 rfl (lv_at hl 0 rfl) ?_
  refine lv_bipush (v := nI 98) hx hb dX5_bracket_1 (by decide) ?_
  refine lv_iload_n hx hb dX5_bracket_3 rfl (lv_at hl 1 rfl) ?_
  refine lv_iload_n hx hb dX5_bracket_4 rfl (lv_at hl 2 rfl) ?_
  refine lv_iload_n hx hb dX5_bracket_5 rfl (lv_at hl 3 rfl) ?_
  exact x_pass C0 ht hw hlk (x_runV (As := [.int (nI (98)), .int (nI (f9)), .int (nI (g9)), .int (x9)]) (x_X5_orderAlone_3 l G L F ad hL hin A f9 g9 hf9 hg9 (x9) (nI 98) h9 hX9 hA hst) C0 hXw hw vw_X5_107 ((hL 0 (by omega))) fx rfl rfl rfl hl.1 rfl (Nat.le_of_ble_eq_true rfl) dX5_bracket_6 ⟨by decide, by decide⟩ ⟨by decide, by decide⟩) (funext (fun q  => rfl)) (by decide) (by decide) hQ
set_option maxHeartbeats 4000000 in
set_option maxRecDepth 100000 in
theorem x_X5_bracket_m (l : Launch) (G : Gl) (L : List Nat) (F : Nat → va_E) (ad : Nat → Nat) (hL : ∀ i, i < 166 → ad i ∈ L) (hin : ∀ i j, i < 166 → j < 166 → i ≠ j → ad i ≠ ad j) (A : AB) (f9 g9 t9 : Nat) (hf9 : f9 < 6) (hg9 : g9 < 6) (ht9 : t9 < 6) (h9 : A.1.2.1 < 2 * A.1.1) (hX : XW G F ad A) (hA : okA A) (hst : l.stackTraces = false) : XG l yX5_bracket cX5_bracket 4 (some .int) rx_X5_bracket G L F [.ref (ad 0), .int (nI (f9)), .int (nI (g9)), .int (nI (t9))] "java/lang/IllegalStateException" := by
  have hX9 := hX
  obtain ⟨fx, hn, hh, hsn, htx, hrk, ⟨u9, h134⟩, ⟨v9, h150⟩⟩ := hX
  obtain ⟨⟨hc2, hc, hpu, hok⟩, ⟨hh6, hho⟩, hso, hl60, hco⟩ := id hA
  refine XG_of (by decide) (Nat.le_of_ble_eq_true rfl) rfl ?_
  intro p e s m args below meth c Q C0 hXw hlk ht hQ hw ls hl
  have hx := C0.x
  have hb := C0.b
  refine lv_aload_n hx hb dX5_bracket_0 rfl (lv_at hl 0 rfl) ?_
  refine lv_bipush (v := nI 98) hx hb dX5_bracket_1 (by decide) ?_
  refine lv_iload_n hx hb dX5_bracket_3 rfl (lv_at hl 1 rfl) ?_
  refine lv_iload_n hx hb dX5_bracket_4 rfl (lv_at hl 2 rfl) ?_
  refine lv_iload_n hx hb dX5_bracket_5 rfl (lv_at hl 3 rfl) ?_
  exact x_pass C0 ht hw hlk (x_runV (As := [.int (nI (98)), .int (nI (f9)), .int (nI (g9)), .int (nI (t9))]) (x_X5_orderAlone_m98 l G L F ad hL hin A f9 g9 t9 hf9 hg9 ht9 h9 hX9 hA hst) C0 hXw hw vw_X5_107 ((hL 0 (by omega))) fx rfl rfl rfl hl.1 rfl (Nat.le_of_ble_eq_true rfl) dX5_bracket_6 ⟨by decide, by decide⟩ ⟨by decide, by decide⟩) (funext (fun q  => rfl)) (by decide) (by decide) hQ
abbrev rx_X5_sum : Room := { frames := 8, cells := 1, slots := 6, locals := 135 }
set_option maxHeartbeats 4000000 in
set_option maxRecDepth 100000 in
theorem x_X5_sum_1 (l : Launch) (G : Gl) (L : List Nat) (F : Nat → va_E) (ad : Nat → Nat) (hL : ∀ i, i < 166 → ad i ∈ L) (hin : ∀ i j, i < 166 → j < 166 → i ≠ j → ad i ≠ ad j) (A : AB) (x9 : Int32) (y9 z9 : Int32) (h9 : ¬ inR x9 0 5) (hX : XW G F ad A) (hA : okA A) (hst : l.stackTraces = false) : XG l yX5_sum cX5_sum 4 (some .int) rx_X5_sum G L F [.ref (ad 0), .int (x9), .int (y9), .int (z9)] "java/lang/IndexOutOfBoundsException" := by
  have hX9 := hX
  obtain ⟨fx, hn, hh, hsn, htx, hrk, ⟨u9, h134⟩, ⟨v9, h150⟩⟩ := hX
  obtain ⟨⟨hc2, hc, hpu, hok⟩, ⟨hh6, hho⟩, hso, hl60, hco⟩ := id hA
  refine XG_of (by decide) (Nat.le_of_ble_eq_true rfl) rfl ?_
  intro p e s m args below meth c Q C0 hXw hlk ht hQ hw ls hl
  have hx := C0.x
  have hb := C0.b
  refine lv_aload_n hx hb dX5_sum_0 rfl (lv_at hl 0 rfl) ?_
  refine lv_bipush (v := nI 115) hx hb dX5_sum_1 (by decide) ?_
  refine lv_iload_n hx hb dX5_sum_3 rfl (lv_at hl 1 rfl) ?_
  refine lv_iload_n hx hb dX5_sum_4 rfl (lv_at hl 2 rfl) ?_
  refine lv_iload_n hx hb dX5_sum_5 rfl (lv_at hl 3 rfl) ?_
  exact x_pass C0 ht hw hlk (x_runV (As := [.int (nI (115)), .int (x9), .int (y9), .int (z9)]) (x_X5_orderAlone_1 l G L F ad hL hin A (x9) (nI 115) (y9) (z9) h9 hX9 hA hst) C0 hXw hw vw_X5_107 ((hL 0 (by omega))) fx rfl rfl rfl hl.1 rfl (Nat.le_of_ble_eq_true rfl) dX5_sum_6 ⟨by decide, by decide⟩ ⟨by decide, by decide⟩) (funext (fun q  => rfl)) (by decide) (by decide) hQ
set_option maxHeartbeats 4000000 in
set_option maxRecDepth 100000 in
theorem x_X5_sum_2 (l : Launch) (G : Gl) (L : List Nat) (F : Nat → va_E) (ad : Nat → Nat) (hL : ∀ i, i < 166 → ad i ∈ L) (hin : ∀ i j, i < 166 → j < 166 → i ≠ j → ad i ≠ ad j) (A : AB) (f9 : Nat) (hf9 : f9 < 6) (x9 : Int32) (z9 : Int32) (h9 : ¬ inR x9 0 5) (hX : XW G F ad A) (hA : okA A) (hst : l.stackTraces = false) : XG l yX5_sum cX5_sum 4 (some .int) rx_X5_sum G L F [.ref (ad 0), .int (nI (f9)), .int (x9), .int (z9)] "java/lang/IndexOutOfBoundsException" := by
  have hX9 := hX
  obtain ⟨fx, hn, hh, hsn, htx, hrk, ⟨u9, h134⟩, ⟨v9, h150⟩⟩ := hX
  obtain ⟨⟨hc2, hc, hpu, hok⟩, ⟨hh6, hho⟩, hso, hl60, hco⟩ := id hA
  refine XG_of (by decide) (Nat.le_of_ble_eq_true rfl) rfl ?_
  intro p e s m args below meth c Q C0 hXw hlk ht hQ hw ls hl
  have hx := C0.x
  have hb := C0.b
  refine lv_aload_n hx hb dX5_sum_0 rfl (lv_at hl 0 rfl) ?_
  refine lv_bipush (v := nI 115) hx hb dX5_sum_1 (by decide) ?_
  refine lv_iload_n hx hb dX5_sum_3 rfl (lv_at hl 1 rfl) ?_
  refine lv_iload_n hx hb dX5_sum_4 rfl (lv_at hl 2 rfl) ?_
  refine lv_iload_n hx hb dX5_sum_5 rfl (lv_at hl 3 rfl) ?_
  exact x_pass C0 ht hw hlk (x_runV (As := [.int (nI (115)), .int (nI (f9)), .int (x9), .int (z9)]) (x_X5_orderAlone_2 l G L F ad hL hin A f9 hf9 (x9) (nI 115) (z9) h9 hX9 hA hst) C0 hXw hw vw_X5_107 ((hL 0 (by omega))) fx rfl rfl rfl hl.1 rfl (Nat.le_of_ble_eq_true rfl) dX5_sum_6 ⟨by decide, by decide⟩ ⟨by decide, by decide⟩) (funext (fun q  => rfl)) (by decide) (by decide) hQ
set_option maxHeartbeats 4000000 in
set_option maxRecDepth 100000 in
theorem x_X5_sum_3 (l : Launch) (G : Gl) (L : List Nat) (F : Nat → va_E) (ad : Nat → Nat) (hL : ∀ i, i < 166 → ad i ∈ L) (hin : ∀ i j, i < 166 → j < 166 → i ≠ j → ad i ≠ ad j) (A : AB) (f9 g9 : Nat) (hf9 : f9 < 6) (hg9 : g9 < 6) (x9 : Int32) (h9 : ¬ inR x9 0 5) (hX : XW G F ad A) (hA : okA A) (hst : l.stackTraces = false) : XG l yX5_sum cX5_sum 4 (some .int) rx_X5_sum G L F [.ref (ad 0), .int (nI (f9)), .int (nI (g9)), .int (x9)] "java/lang/IndexOutOfBoundsException" := by
  have hX9 := hX
  obtain ⟨fx, hn, hh, hsn, htx, hrk, ⟨u9, h134⟩, ⟨v9, h150⟩⟩ := hX
  obtain ⟨⟨hc2, hc, hpu, hok⟩, ⟨hh6, hho⟩, hso, hl60, hco⟩ := id hA
  refine XG_of (by decide) (Nat.le_of_ble_eq_true rfl) rfl ?_
  intro p e s m args below meth c Q C0 hXw hlk ht hQ hw ls hl
  have hx := C0.x
  have hb := C0.b
  refine lv_aload_n hx hb dX5_sum_0 rfl (lv_at hl 0 rfl) ?_
  refine lv_bipush (v := nI 115) hx hb dX5_sum_1 (by decide) ?_
  refine lv_iload_n hx hb dX5_sum_3 rfl (lv_at hl 1 rfl) ?_
  refine lv_iload_n hx hb dX5_sum_4 rfl (lv_at hl 2 rfl) ?_
  refine lv_iload_n hx hb dX5_sum_5 rfl (lv_at hl 3 rfl) ?_
  exact x_pass C0 ht hw hlk (x_runV (As := [.int (nI (115)), .int (nI (f9)), .int (nI (g9)), .int (x9)]) (x_X5_orderAlone_3 l G L F ad hL hin A f9 g9 hf9 hg9 (x9) (nI 115) h9 hX9 hA hst) C0 hXw hw vw_X5_107 ((hL 0 (by omega))) fx rfl rfl rfl hl.1 rfl (Nat.le_of_ble_eq_true rfl) dX5_sum_6 ⟨by decide, by decide⟩ ⟨by decide, by decide⟩) (funext (fun q  => rfl)) (by decide) (by decide) hQ
set_option maxHeartbeats 4000000 in
set_option maxRecDepth 100000 in
theorem x_X5_sum_m (l : Launch) (G : Gl) (L : List Nat) (F : Nat → va_E) (ad : Nat → Nat) (hL : ∀ i, i < 166 → ad i ∈ L) (hin : ∀ i j, i < 166 → j < 166 → i ≠ j → ad i ≠ ad j) (A : AB) (f9 g9 t9 : Nat) (hf9 : f9 < 6) (hg9 : g9 < 6) (ht9 : t9 < 6) (h9 : A.1.2.1 < 1 * A.1.1) (hX : XW G F ad A) (hA : okA A) (hst : l.stackTraces = false) : XG l yX5_sum cX5_sum 4 (some .int) rx_X5_sum G L F [.ref (ad 0), .int (nI (f9)), .int (nI (g9)), .int (nI (t9))] "java/lang/IllegalStateException" := by
  have hX9 := hX
  obtain ⟨fx, hn, hh, hsn, htx, hrk, ⟨u9, h134⟩, ⟨v9, h150⟩⟩ := hX
  obtain ⟨⟨hc2, hc, hpu, hok⟩, ⟨hh6, hho⟩, hso, hl60, hco⟩ := id hA
  refine XG_of (by decide) (Nat.le_of_ble_eq_true rfl) rfl ?_
  intro p e s m args below meth c Q C0 hXw hlk ht hQ hw ls hl
  have hx := C0.x
  have hb := C0.b
  refine lv_aload_n hx hb dX5_sum_0 rfl (lv_at hl 0 rfl) ?_
  refine lv_bipush (v := nI 115) hx hb dX5_sum_1 (by decide) ?_
  refine lv_iload_n hx hb dX5_sum_3 rfl (lv_at hl 1 rfl) ?_
  refine lv_iload_n hx hb dX5_sum_4 rfl (lv_at hl 2 rfl) ?_
  refine lv_iload_n hx hb dX5_sum_5 rfl (lv_at hl 3 rfl) ?_
  exact x_pass C0 ht hw hlk (x_runV (As := [.int (nI (115)), .int (nI (f9)), .int (nI (g9)), .int (nI (t9))]) (x_X5_orderAlone_m115 l G L F ad hL hin A f9 g9 t9 hf9 hg9 ht9 h9 hX9 hA hst) C0 hXw hw vw_X5_107 ((hL 0 (by omega))) fx rfl rfl rfl hl.1 rfl (Nat.le_of_ble_eq_true rfl) dX5_sum_6 ⟨by decide, by decide⟩ ⟨by decide, by decide⟩) (funext (fun q  => rfl)) (by decide) (by decide) hQ
abbrev rx_X5_byBrackets : Room := { frames := 8, cells := 1, slots := 6, locals := 135 }
set_option maxHeartbeats 4000000 in
set_option maxRecDepth 100000 in
theorem x_X5_byBrackets_1 (l : Launch) (G : Gl) (L : List Nat) (F : Nat → va_E) (ad : Nat → Nat) (hL : ∀ i, i < 166 → ad i ∈ L) (hin : ∀ i j, i < 166 → j < 166 → i ≠ j → ad i ≠ ad j) (A : AB) (x9 : Int32) (y9 z9 : Int32) (h9 : ¬ inR x9 0 5) (hX : XW G F ad A) (hA : okA A) (hst : l.stackTraces = false) : XG l yX5_byBrackets cX5_byBrackets 4 (some .int) rx_X5_byBrackets G L F [.ref (ad 0), .int (x9), .int (y9), .int (z9)] "java/lang/IndexOutOfBoundsException" := by
  have hX9 := hX
  obtain ⟨fx, hn, hh, hsn, htx, hrk, ⟨u9, h134⟩, ⟨v9, h150⟩⟩ := hX
  obtain ⟨⟨hc2, hc, hpu, hok⟩, ⟨hh6, hho⟩, hso, hl60, hco⟩ := id hA
  refine XG_of (by decide) (Nat.le_of_ble_eq_true rfl) rfl ?_
  intro p e s m args below meth c Q C0 hXw hlk ht hQ hw ls hl
  have hx := C0.x
  have hb := C0.b
  refine lv_aload_n hx hb dX5_byBrackets_0 rfl (lv_at hl 0 rfl) ?_
  refine lv_bipush (v := nI 119) hx hb dX5_byBrackets_1 (by decide) ?_
  refine lv_iload_n hx hb dX5_byBrackets_3 rfl (lv_at hl 1 rfl) ?_
  refine lv_iload_n hx hb dX5_byBrackets_4 rfl (lv_at hl 2 rfl) ?_
  refine lv_iload_n hx hb dX5_byBrackets_5 rfl (lv_at hl 3 rfl) ?_
  exact x_pass C0 ht hw hlk (x_runV (As := [.int (nI (119)), .int (x9), .int (y9), .int (z9)]) (x_X5_orderAlone_1 l G L F ad hL hin A (x9) (nI 119) (y9) (z9) h9 hX9 hA hst) C0 hXw hw vw_X5_107 ((hL 0 (by omega))) fx rfl rfl rfl hl.1 rfl (Nat.le_of_ble_eq_true rfl) dX5_byBrackets_6 ⟨by decide, by decide⟩ ⟨by decide, by decide⟩) (funext (fun q  => rfl)) (by decide) (by decide) hQ
set_option maxHeartbeats 4000000 in
set_option maxRecDepth 100000 in
theorem x_X5_byBrackets_2 (l : Launch) (G : Gl) (L : List Nat) (F : Nat → va_E) (ad : Nat → Nat) (hL : ∀ i, i < 166 → ad i ∈ L) (hin : ∀ i j, i < 166 → j < 166 → i ≠ j → ad i ≠ ad j) (A : AB) (f9 : Nat) (hf9 : f9 < 6) (x9 : Int32) (z9 : Int32) (h9 : ¬ inR x9 0 5) (hX : XW G F ad A) (hA : okA A) (hst : l.stackTraces = false) : XG l yX5_byBrackets cX5_byBrackets 4 (some .int) rx_X5_byBrackets G L F [.ref (ad 0), .int (nI (f9)), .int (x9), .int (z9)] "java/lang/IndexOutOfBoundsException" := by
  have hX9 := hX
  obtain ⟨fx, hn, hh, hsn, htx, hrk, ⟨u9, h134⟩, ⟨v9, h150⟩⟩ := hX
  obtain ⟨⟨hc2, hc, hpu, hok⟩, ⟨hh6, hho⟩, hso, hl60, hco⟩ := id hA
  refine XG_of (by decide) (Nat.le_of_ble_eq_true rfl) rfl ?_
  intro p e s m args below meth c Q C0 hXw hlk ht hQ hw ls hl
  have hx := C0.x
  have hb := C0.b
  refine lv_aload_n hx hb dX5_byBrackets_0 rfl (lv_at hl 0 rfl) ?_
  refine lv_bipush (v := nI 119) hx hb dX5_byBrackets_1 (by decide) ?_
  refine lv_iload_n hx hb dX5_byBrackets_3 rfl (lv_at hl 1 rfl) ?_
  refine lv_iload_n hx hb dX5_byBrackets_4 rfl (lv_at hl 2 rfl) ?_
  refine lv_iload_n hx hb dX5_byBrackets_5 rfl (lv_at hl 3 rfl) ?_
  exact x_pass C0 ht hw hlk (x_runV (As := [.int (nI (119)), .int (nI (f9)), .int (x9), .int (z9)]) (x_X5_orderAlone_2 l G L F ad hL hin A f9 hf9 (x9) (nI 119) (z9) h9 hX9 hA hst) C0 hXw hw vw_X5_107 ((hL 0 (by omega))) fx rfl rfl rfl hl.1 rfl (Nat.le_of_ble_eq_true rfl) dX5_byBrackets_6 ⟨by decide, by decide⟩ ⟨by decide, by decide⟩) (funext (fun q  => rfl)) (by decide) (by decide) hQ
set_option maxHeartbeats 4000000 in
set_option maxRecDepth 100000 in
theorem x_X5_byBrackets_3 (l : Launch) (G : Gl) (L : List Nat) (F : Nat → va_E) (ad : Nat → Nat) (hL : ∀ i, i < 166 → ad i ∈ L) (hin : ∀ i j, i < 166 → j < 166 → i ≠ j → ad i ≠ ad j) (A : AB) (f9 g9 : Nat) (hf9 : f9 < 6) (hg9 : g9 < 6) (x9 : Int32) (h9 : ¬ inR x9 0 5) (hX : XW G F ad A) (hA : okA A) (hst : l.stackTraces = false) : XG l yX5_byBrackets cX5_byBrackets 4 (some .int) rx_X5_byBrackets G L F [.ref (ad 0), .int (nI (f9)), .int (nI (g9)), .int (x9)] "java/lang/IndexOutOfBoundsException" := by
  have hX9 := hX
  obtain ⟨fx, hn, hh, hsn, htx, hrk, ⟨u9, h134⟩, ⟨v9, h150⟩⟩ := hX
  obtain ⟨⟨hc2, hc, hpu, hok⟩, ⟨hh6, hho⟩, hso, hl60, hco⟩ := id hA
  refine XG_of (by decide) (Nat.le_of_ble_eq_true rfl) rfl ?_
  intro p e s m args below meth c Q C0 hXw hlk ht hQ hw ls hl
  have hx := C0.x
  have hb := C0.b
  refine lv_aload_n hx hb dX5_byBrackets_0 rfl (lv_at hl 0 rfl) ?_
  refine lv_bipush (v := nI 119) hx hb dX5_byBrackets_1 (by decide) ?_
  refine lv_iload_n hx hb dX5_byBrackets_3 rfl (lv_at hl 1 rfl) ?_
  refine lv_iload_n hx hb dX5_byBrackets_4 rfl (lv_at hl 2 rfl) ?_
  refine lv_iload_n hx hb dX5_byBrackets_5 rfl (lv_at hl 3 rfl) ?_
  exact x_pass C0 ht hw hlk (x_runV (As := [.int (nI (119)), .int (nI (f9)), .int (nI (g9)), .int (x9)]) (x_X5_orderAlone_3 l G L F ad hL hin A f9 g9 hf9 hg9 (x9) (nI 119) h9 hX9 hA hst) C0 hXw hw vw_X5_107 ((hL 0 (by omega))) fx rfl rfl rfl hl.1 rfl (Nat.le_of_ble_eq_true rfl) dX5_byBrackets_6 ⟨by decide, by decide⟩ ⟨by decide, by decide⟩) (funext (fun q  => rfl)) (by decide) (by decide) hQ
set_option maxHeartbeats 4000000 in
set_option maxRecDepth 100000 in
theorem x_X5_byBrackets_m (l : Launch) (G : Gl) (L : List Nat) (F : Nat → va_E) (ad : Nat → Nat) (hL : ∀ i, i < 166 → ad i ∈ L) (hin : ∀ i j, i < 166 → j < 166 → i ≠ j → ad i ≠ ad j) (A : AB) (f9 g9 t9 : Nat) (hf9 : f9 < 6) (hg9 : g9 < 6) (ht9 : t9 < 6) (h9 : A.1.2.1 < 20 * A.1.1) (hX : XW G F ad A) (hA : okA A) (hst : l.stackTraces = false) : XG l yX5_byBrackets cX5_byBrackets 4 (some .int) rx_X5_byBrackets G L F [.ref (ad 0), .int (nI (f9)), .int (nI (g9)), .int (nI (t9))] "java/lang/IllegalStateException" := by
  have hX9 := hX
  obtain ⟨fx, hn, hh, hsn, htx, hrk, ⟨u9, h134⟩, ⟨v9, h150⟩⟩ := hX
  obtain ⟨⟨hc2, hc, hpu, hok⟩, ⟨hh6, hho⟩, hso, hl60, hco⟩ := id hA
  refine XG_of (by decide) (Nat.le_of_ble_eq_true rfl) rfl ?_
  intro p e s m args below meth c Q C0 hXw hlk ht hQ hw ls hl
  have hx := C0.x
  have hb := C0.b
  refine lv_aload_n hx hb dX5_byBrackets_0 rfl (lv_at hl 0 rfl) ?_
  refine lv_bipush (v := nI 119) hx hb dX5_byBrackets_1 (by decide) ?_
  refine lv_iload_n hx hb dX5_byBrackets_3 rfl (lv_at hl 1 rfl) ?_
  refine lv_iload_n hx hb dX5_byBrackets_4 rfl (lv_at hl 2 rfl) ?_
  refine lv_iload_n hx hb dX5_byBrackets_5 rfl (lv_at hl 3 rfl) ?_
  exact x_pass C0 ht hw hlk (x_runV (As := [.int (nI (119)), .int (nI (f9)), .int (nI (g9)), .int (nI (t9))]) (x_X5_orderAlone_m119 l G L F ad hL hin A f9 g9 t9 hf9 hg9 ht9 h9 hX9 hA hst) C0 hXw hw vw_X5_107 ((hL 0 (by omega))) fx rfl rfl rfl hl.1 rfl (Nat.le_of_ble_eq_true rfl) dX5_byBrackets_6 ⟨by decide, by decide⟩ ⟨by decide, by decide⟩) (funext (fun q  => rfl)) (by decide) (by decide) hQ
abbrev rx_X5_push : Room := { frames := 8, cells := 1, slots := 6, locals := 135 }
set_option maxHeartbeats 4000000 in
set_option maxRecDepth 100000 in
theorem x_X5_push_1 (l : Launch) (G : Gl) (L : List Nat) (F : Nat → va_E) (ad : Nat → Nat) (hL : ∀ i, i < 166 → ad i ∈ L) (hin : ∀ i j, i < 166 → j < 166 → i ≠ j → ad i ≠ ad j) (A : AB) (x9 : Int32) (y9 z9 : Int32) (h9 : ¬ inR x9 0 5) (hX : XW G F ad A) (hA : okA A) (hst : l.stackTraces = false) : XG l yX5_push cX5_push 4 (some .int) rx_X5_push G L F [.ref (ad 0), .int (x9), .int (y9), .int (z9)] "java/lang/IndexOutOfBoundsException" := by
  have hX9 := hX
  obtain ⟨fx, hn, hh, hsn, htx, hrk, ⟨u9, h134⟩, ⟨v9, h150⟩⟩ := hX
  obtain ⟨⟨hc2, hc, hpu, hok⟩, ⟨hh6, hho⟩, hso, hl60, hco⟩ := id hA
  refine XG_of (by decide) (Nat.le_of_ble_eq_true rfl) rfl ?_
  intro p e s m args below meth c Q C0 hXw hlk ht hQ hw ls hl
  have hx := C0.x
  have hb := C0.b
  refine lv_aload_n hx hb dX5_push_0 rfl (lv_at hl 0 rfl) ?_
  refine lv_bipush (v := nI 112) hx hb dX5_push_1 (by decide) ?_
  refine lv_iload_n hx hb dX5_push_3 rfl (lv_at hl 1 rfl) ?_
  refine lv_iload_n hx hb dX5_push_4 rfl (lv_at hl 2 rfl) ?_
  refine lv_iload_n hx hb dX5_push_5 rfl (lv_at hl 3 rfl) ?_
  exact x_pass C0 ht hw hlk (x_runV (As := [.int (nI (112)), .int (x9), .int (y9), .int (z9)]) (x_X5_orderAlone_1 l G L F ad hL hin A (x9) (nI 112) (y9) (z9) h9 hX9 hA hst) C0 hXw hw vw_X5_107 ((hL 0 (by omega))) fx rfl rfl rfl hl.1 rfl (Nat.le_of_ble_eq_true rfl) dX5_push_6 ⟨by decide, by decide⟩ ⟨by decide, by decide⟩) (funext (fun q  => rfl)) (by decide) (by decide) hQ
set_option maxHeartbeats 4000000 in
set_option maxRecDepth 100000 in
theorem x_X5_push_2 (l : Launch) (G : Gl) (L : List Nat) (F : Nat → va_E) (ad : Nat → Nat) (hL : ∀ i, i < 166 → ad i ∈ L) (hin : ∀ i j, i < 166 → j < 166 → i ≠ j → ad i ≠ ad j) (A : AB) (f9 : Nat) (hf9 : f9 < 6) (x9 : Int32) (z9 : Int32) (h9 : ¬ inR x9 0 5) (hX : XW G F ad A) (hA : okA A) (hst : l.stackTraces = false) : XG l yX5_push cX5_push 4 (some .int) rx_X5_push G L F [.ref (ad 0), .int (nI (f9)), .int (x9), .int (z9)] "java/lang/IndexOutOfBoundsException" := by
  have hX9 := hX
  obtain ⟨fx, hn, hh, hsn, htx, hrk, ⟨u9, h134⟩, ⟨v9, h150⟩⟩ := hX
  obtain ⟨⟨hc2, hc, hpu, hok⟩, ⟨hh6, hho⟩, hso, hl60, hco⟩ := id hA
  refine XG_of (by decide) (Nat.le_of_ble_eq_true rfl) rfl ?_
  intro p e s m args below meth c Q C0 hXw hlk ht hQ hw ls hl
  have hx := C0.x
  have hb := C0.b
  refine lv_aload_n hx hb dX5_push_0 rfl (lv_at hl 0 rfl) ?_
  refine lv_bipush (v := nI 112) hx hb dX5_push_1 (by decide) ?_
  refine lv_iload_n hx hb dX5_push_3 rfl (lv_at hl 1 rfl) ?_
  refine lv_iload_n hx hb dX5_push_4 rfl (lv_at hl 2 rfl) ?_
  refine lv_iload_n hx hb dX5_push_5 rfl (lv_at hl 3 rfl) ?_
  exact x_pass C0 ht hw hlk (x_runV (As := [.int (nI (112)), .int (nI (f9)), .int (x9), .int (z9)]) (x_X5_orderAlone_2 l G L F ad hL hin A f9 hf9 (x9) (nI 112) (z9) h9 hX9 hA hst) C0 hXw hw vw_X5_107 ((hL 0 (by omega))) fx rfl rfl rfl hl.1 rfl (Nat.le_of_ble_eq_true rfl) dX5_push_6 ⟨by decide, by decide⟩ ⟨by decide, by decide⟩) (funext (fun q  => rfl)) (by decide) (by decide) hQ
set_option maxHeartbeats 4000000 in
set_option maxRecDepth 100000 in
theorem x_X5_push_3 (l : Launch) (G : Gl) (L : List Nat) (F : Nat → va_E) (ad : Nat → Nat) (hL : ∀ i, i < 166 → ad i ∈ L) (hin : ∀ i j, i < 166 → j < 166 → i ≠ j → ad i ≠ ad j) (A : AB) (f9 g9 : Nat) (hf9 : f9 < 6) (hg9 : g9 < 6) (x9 : Int32) (h9 : ¬ inR x9 0 5) (hX : XW G F ad A) (hA : okA A) (hst : l.stackTraces = false) : XG l yX5_push cX5_push 4 (some .int) rx_X5_push G L F [.ref (ad 0), .int (nI (f9)), .int (nI (g9)), .int (x9)] "java/lang/IndexOutOfBoundsException" := by
  have hX9 := hX
  obtain ⟨fx, hn, hh, hsn, htx, hrk, ⟨u9, h134⟩, ⟨v9, h150⟩⟩ := hX
  obtain ⟨⟨hc2, hc, hpu, hok⟩, ⟨hh6, hho⟩, hso, hl60, hco⟩ := id hA
  refine XG_of (by decide) (Nat.le_of_ble_eq_true rfl) rfl ?_
  intro p e s m args below meth c Q C0 hXw hlk ht hQ hw ls hl
  have hx := C0.x
  have hb := C0.b
  refine lv_aload_n hx hb dX5_push_0 rfl (lv_at hl 0 rfl) ?_
  refine lv_bipush (v := nI 112) hx hb dX5_push_1 (by decide) ?_
  refine lv_iload_n hx hb dX5_push_3 rfl (lv_at hl 1 rfl) ?_
  refine lv_iload_n hx hb dX5_push_4 rfl (lv_at hl 2 rfl) ?_
  refine lv_iload_n hx hb dX5_push_5 rfl (lv_at hl 3 rfl) ?_
  exact x_pass C0 ht hw hlk (x_runV (As := [.int (nI (112)), .int (nI (f9)), .int (nI (g9)), .int (x9)]) (x_X5_orderAlone_3 l G L F ad hL hin A f9 g9 hf9 hg9 (x9) (nI 112) h9 hX9 hA hst) C0 hXw hw vw_X5_107 ((hL 0 (by omega))) fx rfl rfl rfl hl.1 rfl (Nat.le_of_ble_eq_true rfl) dX5_push_6 ⟨by decide, by decide⟩ ⟨by decide, by decide⟩) (funext (fun q  => rfl)) (by decide) (by decide) hQ
set_option maxHeartbeats 4000000 in
set_option maxRecDepth 100000 in
theorem x_X5_push_m (l : Launch) (G : Gl) (L : List Nat) (F : Nat → va_E) (ad : Nat → Nat) (hL : ∀ i, i < 166 → ad i ∈ L) (hin : ∀ i j, i < 166 → j < 166 → i ≠ j → ad i ≠ ad j) (A : AB) (f9 g9 t9 : Nat) (hf9 : f9 < 6) (hg9 : g9 < 6) (ht9 : t9 < 6) (h9 : A.1.2.1 < 6 * A.1.1) (hX : XW G F ad A) (hA : okA A) (hst : l.stackTraces = false) : XG l yX5_push cX5_push 4 (some .int) rx_X5_push G L F [.ref (ad 0), .int (nI (f9)), .int (nI (g9)), .int (nI (t9))] "java/lang/IllegalStateException" := by
  have hX9 := hX
  obtain ⟨fx, hn, hh, hsn, htx, hrk, ⟨u9, h134⟩, ⟨v9, h150⟩⟩ := hX
  obtain ⟨⟨hc2, hc, hpu, hok⟩, ⟨hh6, hho⟩, hso, hl60, hco⟩ := id hA
  refine XG_of (by decide) (Nat.le_of_ble_eq_true rfl) rfl ?_
  intro p e s m args below meth c Q C0 hXw hlk ht hQ hw ls hl
  have hx := C0.x
  have hb := C0.b
  refine lv_aload_n hx hb dX5_push_0 rfl (lv_at hl 0 rfl) ?_
  refine lv_bipush (v := nI 112) hx hb dX5_push_1 (by decide) ?_
  refine lv_iload_n hx hb dX5_push_3 rfl (lv_at hl 1 rfl) ?_
  refine lv_iload_n hx hb dX5_push_4 rfl (lv_at hl 2 rfl) ?_
  refine lv_iload_n hx hb dX5_push_5 rfl (lv_at hl 3 rfl) ?_
  exact x_pass C0 ht hw hlk (x_runV (As := [.int (nI (112)), .int (nI (f9)), .int (nI (g9)), .int (nI (t9))]) (x_X5_orderAlone_m112 l G L F ad hL hin A f9 g9 t9 hf9 hg9 ht9 h9 hX9 hA hst) C0 hXw hw vw_X5_107 ((hL 0 (by omega))) fx rfl rfl rfl hl.1 rfl (Nat.le_of_ble_eq_true rfl) dX5_push_6 ⟨by decide, by decide⟩ ⟨by decide, by decide⟩) (funext (fun q  => rfl)) (by decide) (by decide) hQ
abbrev rx_X5_log : Room := { frames := 8, cells := 1, slots := 6, locals := 135 }
set_option maxHeartbeats 4000000 in
set_option maxRecDepth 100000 in
theorem x_X5_log_1 (l : Launch) (G : Gl) (L : List Nat) (F : Nat → va_E) (ad : Nat → Nat) (hL : ∀ i, i < 166 → ad i ∈ L) (hin : ∀ i j, i < 166 → j < 166 → i ≠ j → ad i ≠ ad j) (A : AB) (x9 : Int32) (z9 : Int32) (h9 : ¬ inR x9 0 5) (hX : XW G F ad A) (hA : okA A) (hst : l.stackTraces = false) : XG l yX5_log cX5_log 3 (some .int) rx_X5_log G L F [.ref (ad 0), .int (x9), .int (z9)] "java/lang/IndexOutOfBoundsException" := by
  have hX9 := hX
  obtain ⟨fx, hn, hh, hsn, htx, hrk, ⟨u9, h134⟩, ⟨v9, h150⟩⟩ := hX
  obtain ⟨⟨hc2, hc, hpu, hok⟩, ⟨hh6, hho⟩, hso, hl60, hco⟩ := id hA
  refine XG_of (by decide) (Nat.le_of_ble_eq_true rfl) rfl ?_
  intro p e s m args below meth c Q C0 hXw hlk ht hQ hw ls hl
  have hx := C0.x
  have hb := C0.b
  refine lv_aload_n hx hb dX5_log_0 rfl (lv_at hl 0 rfl) ?_
  refine lv_bipush (v := nI 108) hx hb dX5_log_1 (by decide) ?_
  refine lv_iload_n hx hb dX5_log_3 rfl (lv_at hl 1 rfl) ?_
  refine lv_iload_n hx hb dX5_log_4 rfl (lv_at hl 1 rfl) ?_
  refine lv_iload_n hx hb dX5_log_5 rfl (lv_at hl 2 rfl) ?_
  exact x_pass C0 ht hw hlk (x_runV (As := [.int (nI (108)), .int (x9), .int (x9), .int (z9)]) (x_X5_orderAlone_1 l G L F ad hL hin A (x9) (nI 108) (x9) (z9) h9 hX9 hA hst) C0 hXw hw vw_X5_107 ((hL 0 (by omega))) fx rfl rfl rfl hl.1 rfl (Nat.le_of_ble_eq_true rfl) dX5_log_6 ⟨by decide, by decide⟩ ⟨by decide, by decide⟩) (funext (fun q  => rfl)) (by decide) (by decide) hQ
set_option maxHeartbeats 4000000 in
set_option maxRecDepth 100000 in
theorem x_X5_log_3 (l : Launch) (G : Gl) (L : List Nat) (F : Nat → va_E) (ad : Nat → Nat) (hL : ∀ i, i < 166 → ad i ∈ L) (hin : ∀ i j, i < 166 → j < 166 → i ≠ j → ad i ≠ ad j) (A : AB) (f9 : Nat) (hf9 : f9 < 6) (x9 : Int32) (h9 : ¬ inR x9 0 5) (hX : XW G F ad A) (hA : okA A) (hst : l.stackTraces = false) : XG l yX5_log cX5_log 3 (some .int) rx_X5_log G L F [.ref (ad 0), .int (nI (f9)), .int (x9)] "java/lang/IndexOutOfBoundsException" := by
  have hX9 := hX
  obtain ⟨fx, hn, hh, hsn, htx, hrk, ⟨u9, h134⟩, ⟨v9, h150⟩⟩ := hX
  obtain ⟨⟨hc2, hc, hpu, hok⟩, ⟨hh6, hho⟩, hso, hl60, hco⟩ := id hA
  refine XG_of (by decide) (Nat.le_of_ble_eq_true rfl) rfl ?_
  intro p e s m args below meth c Q C0 hXw hlk ht hQ hw ls hl
  have hx := C0.x
  have hb := C0.b
  refine lv_aload_n hx hb dX5_log_0 rfl (lv_at hl 0 rfl) ?_
  refine lv_bipush (v := nI 108) hx hb dX5_log_1 (by decide) ?_
  refine lv_iload_n hx hb dX5_log_3 rfl (lv_at hl 1 rfl) ?_
  refine lv_iload_n hx hb dX5_log_4 rfl (lv_at hl 1 rfl) ?_
  refine lv_iload_n hx hb dX5_log_5 rfl (lv_at hl 2 rfl) ?_
  exact x_pass C0 ht hw hlk (x_runV (As := [.int (nI (108)), .int (nI (f9)), .int (nI (f9)), .int (x9)]) (x_X5_orderAlone_3 l G L F ad hL hin A f9 f9 hf9 hf9 (x9) (nI 108) h9 hX9 hA hst) C0 hXw hw vw_X5_107 ((hL 0 (by omega))) fx rfl rfl rfl hl.1 rfl (Nat.le_of_ble_eq_true rfl) dX5_log_6 ⟨by decide, by decide⟩ ⟨by decide, by decide⟩) (funext (fun q  => rfl)) (by decide) (by decide) hQ
set_option maxHeartbeats 4000000 in
set_option maxRecDepth 100000 in
theorem x_X5_log_m (l : Launch) (G : Gl) (L : List Nat) (F : Nat → va_E) (ad : Nat → Nat) (hL : ∀ i, i < 166 → ad i ∈ L) (hin : ∀ i j, i < 166 → j < 166 → i ≠ j → ad i ≠ ad j) (A : AB) (f9 t9 : Nat) (hf9 : f9 < 6) (ht9 : t9 < 6) (h9 : A.1.2.1 < 6 * A.1.1) (hX : XW G F ad A) (hA : okA A) (hst : l.stackTraces = false) : XG l yX5_log cX5_log 3 (some .int) rx_X5_log G L F [.ref (ad 0), .int (nI (f9)), .int (nI (t9))] "java/lang/IllegalStateException" := by
  have hX9 := hX
  obtain ⟨fx, hn, hh, hsn, htx, hrk, ⟨u9, h134⟩, ⟨v9, h150⟩⟩ := hX
  obtain ⟨⟨hc2, hc, hpu, hok⟩, ⟨hh6, hho⟩, hso, hl60, hco⟩ := id hA
  refine XG_of (by decide) (Nat.le_of_ble_eq_true rfl) rfl ?_
  intro p e s m args below meth c Q C0 hXw hlk ht hQ hw ls hl
  have hx := C0.x
  have hb := C0.b
  refine lv_aload_n hx hb dX5_log_0 rfl (lv_at hl 0 rfl) ?_
  refine lv_bipush (v := nI 108) hx hb dX5_log_1 (by decide) ?_
  refine lv_iload_n hx hb dX5_log_3 rfl (lv_at hl 1 rfl) ?_
  refine lv_iload_n hx hb dX5_log_4 rfl (lv_at hl 1 rfl) ?_
  refine lv_iload_n hx hb dX5_log_5 rfl (lv_at hl 2 rfl) ?_
  exact x_pass C0 ht hw hlk (x_runV (As := [.int (nI (108)), .int (nI (f9)), .int (nI (f9)), .int (nI (t9))]) (x_X5_orderAlone_m108 l G L F ad hL hin A f9 f9 t9 hf9 hf9 ht9 h9 hX9 hA hst) C0 hXw hw vw_X5_107 ((hL 0 (by omega))) fx rfl rfl rfl hl.1 rfl (Nat.le_of_ble_eq_true rfl) dX5_log_6 ⟨by decide, by decide⟩ ⟨by decide, by decide⟩) (funext (fun q  => rfl)) (by decide) (by decide) hQ
abbrev rx_X5_exp : Room := { frames := 8, cells := 1, slots := 6, locals := 135 }
set_option maxHeartbeats 4000000 in
set_option maxRecDepth 100000 in
theorem x_X5_exp_1 (l : Launch) (G : Gl) (L : List Nat) (F : Nat → va_E) (ad : Nat → Nat) (hL : ∀ i, i < 166 → ad i ∈ L) (hin : ∀ i j, i < 166 → j < 166 → i ≠ j → ad i ≠ ad j) (A : AB) (x9 : Int32) (z9 : Int32) (h9 : ¬ inR x9 0 5) (hX : XW G F ad A) (hA : okA A) (hst : l.stackTraces = false) : XG l yX5_exp cX5_exp 3 (some .int) rx_X5_exp G L F [.ref (ad 0), .int (x9), .int (z9)] "java/lang/IndexOutOfBoundsException" := by
  have hX9 := hX
  obtain ⟨fx, hn, hh, hsn, htx, hrk, ⟨u9, h134⟩, ⟨v9, h150⟩⟩ := hX
  obtain ⟨⟨hc2, hc, hpu, hok⟩, ⟨hh6, hho⟩, hso, hl60, hco⟩ := id hA
  refine XG_of (by decide) (Nat.le_of_ble_eq_true rfl) rfl ?_
  intro p e s m args below meth c Q C0 hXw hlk ht hQ hw ls hl
  have hx := C0.x
  have hb := C0.b
  refine lv_aload_n hx hb dX5_exp_0 rfl (lv_at hl 0 rfl) ?_
  refine lv_bipush (v := nI 101) hx hb dX5_exp_1 (by decide) ?_
  refine lv_iload_n hx hb dX5_exp_3 rfl (lv_at hl 1 rfl) ?_
  refine lv_iload_n hx hb dX5_exp_4 rfl (lv_at hl 1 rfl) ?_
  refine lv_iload_n hx hb dX5_exp_5 rfl (lv_at hl 2 rfl) ?_
  exact x_pass C0 ht hw hlk (x_runV (As := [.int (nI (101)), .int (x9), .int (x9), .int (z9)]) (x_X5_orderAlone_1 l G L F ad hL hin A (x9) (nI 101) (x9) (z9) h9 hX9 hA hst) C0 hXw hw vw_X5_107 ((hL 0 (by omega))) fx rfl rfl rfl hl.1 rfl (Nat.le_of_ble_eq_true rfl) dX5_exp_6 ⟨by decide, by decide⟩ ⟨by decide, by decide⟩) (funext (fun q  => rfl)) (by decide) (by decide) hQ
set_option maxHeartbeats 4000000 in
set_option maxRecDepth 100000 in
theorem x_X5_exp_3 (l : Launch) (G : Gl) (L : List Nat) (F : Nat → va_E) (ad : Nat → Nat) (hL : ∀ i, i < 166 → ad i ∈ L) (hin : ∀ i j, i < 166 → j < 166 → i ≠ j → ad i ≠ ad j) (A : AB) (f9 : Nat) (hf9 : f9 < 6) (x9 : Int32) (h9 : ¬ inR x9 0 5) (hX : XW G F ad A) (hA : okA A) (hst : l.stackTraces = false) : XG l yX5_exp cX5_exp 3 (some .int) rx_X5_exp G L F [.ref (ad 0), .int (nI (f9)), .int (x9)] "java/lang/IndexOutOfBoundsException" := by
  have hX9 := hX
  obtain ⟨fx, hn, hh, hsn, htx, hrk, ⟨u9, h134⟩, ⟨v9, h150⟩⟩ := hX
  obtain ⟨⟨hc2, hc, hpu, hok⟩, ⟨hh6, hho⟩, hso, hl60, hco⟩ := id hA
  refine XG_of (by decide) (Nat.le_of_ble_eq_true rfl) rfl ?_
  intro p e s m args below meth c Q C0 hXw hlk ht hQ hw ls hl
  have hx := C0.x
  have hb := C0.b
  refine lv_aload_n hx hb dX5_exp_0 rfl (lv_at hl 0 rfl) ?_
  refine lv_bipush (v := nI 101) hx hb dX5_exp_1 (by decide) ?_
  refine lv_iload_n hx hb dX5_exp_3 rfl (lv_at hl 1 rfl) ?_
  refine lv_iload_n hx hb dX5_exp_4 rfl (lv_at hl 1 rfl) ?_
  refine lv_iload_n hx hb dX5_exp_5 rfl (lv_at hl 2 rfl) ?_
  exact x_pass C0 ht hw hlk (x_runV (As := [.int (nI (101)), .int (nI (f9)), .int (nI (f9)), .int (x9)]) (x_X5_orderAlone_3 l G L F ad hL hin A f9 f9 hf9 hf9 (x9) (nI 101) h9 hX9 hA hst) C0 hXw hw vw_X5_107 ((hL 0 (by omega))) fx rfl rfl rfl hl.1 rfl (Nat.le_of_ble_eq_true rfl) dX5_exp_6 ⟨by decide, by decide⟩ ⟨by decide, by decide⟩) (funext (fun q  => rfl)) (by decide) (by decide) hQ
set_option maxHeartbeats 4000000 in
set_option maxRecDepth 100000 in
theorem x_X5_exp_m (l : Launch) (G : Gl) (L : List Nat) (F : Nat → va_E) (ad : Nat → Nat) (hL : ∀ i, i < 166 → ad i ∈ L) (hin : ∀ i j, i < 166 → j < 166 → i ≠ j → ad i ≠ ad j) (A : AB) (f9 t9 : Nat) (hf9 : f9 < 6) (ht9 : t9 < 6) (h9 : A.1.2.1 < 5 * A.1.1) (hX : XW G F ad A) (hA : okA A) (hst : l.stackTraces = false) : XG l yX5_exp cX5_exp 3 (some .int) rx_X5_exp G L F [.ref (ad 0), .int (nI (f9)), .int (nI (t9))] "java/lang/IllegalStateException" := by
  have hX9 := hX
  obtain ⟨fx, hn, hh, hsn, htx, hrk, ⟨u9, h134⟩, ⟨v9, h150⟩⟩ := hX
  obtain ⟨⟨hc2, hc, hpu, hok⟩, ⟨hh6, hho⟩, hso, hl60, hco⟩ := id hA
  refine XG_of (by decide) (Nat.le_of_ble_eq_true rfl) rfl ?_
  intro p e s m args below meth c Q C0 hXw hlk ht hQ hw ls hl
  have hx := C0.x
  have hb := C0.b
  refine lv_aload_n hx hb dX5_exp_0 rfl (lv_at hl 0 rfl) ?_
  refine lv_bipush (v := nI 101) hx hb dX5_exp_1 (by decide) ?_
  refine lv_iload_n hx hb dX5_exp_3 rfl (lv_at hl 1 rfl) ?_
  refine lv_iload_n hx hb dX5_exp_4 rfl (lv_at hl 1 rfl) ?_
  refine lv_iload_n hx hb dX5_exp_5 rfl (lv_at hl 2 rfl) ?_
  exact x_pass C0 ht hw hlk (x_runV (As := [.int (nI (101)), .int (nI (f9)), .int (nI (f9)), .int (nI (t9))]) (x_X5_orderAlone_m101 l G L F ad hL hin A f9 f9 t9 hf9 hf9 ht9 h9 hX9 hA hst) C0 hXw hw vw_X5_107 ((hL 0 (by omega))) fx rfl rfl rfl hl.1 rfl (Nat.le_of_ble_eq_true rfl) dX5_exp_6 ⟨by decide, by decide⟩ ⟨by decide, by decide⟩) (funext (fun q  => rfl)) (by decide) (by decide) hQ
abbrev rx_X5_compose : Room := { frames := 8, cells := 1, slots := 6, locals := 135 }
set_option maxHeartbeats 4000000 in
set_option maxRecDepth 100000 in
theorem x_X5_compose_1 (l : Launch) (G : Gl) (L : List Nat) (F : Nat → va_E) (ad : Nat → Nat) (hL : ∀ i, i < 166 → ad i ∈ L) (hin : ∀ i j, i < 166 → j < 166 → i ≠ j → ad i ≠ ad j) (A : AB) (x9 : Int32) (y9 z9 : Int32) (h9 : ¬ inR x9 0 5) (hX : XW G F ad A) (hA : okA A) (hst : l.stackTraces = false) : XG l yX5_compose cX5_compose 4 (some .int) rx_X5_compose G L F [.ref (ad 0), .int (x9), .int (y9), .int (z9)] "java/lang/IndexOutOfBoundsException" := by
  have hX9 := hX
  obtain ⟨fx, hn, hh, hsn, htx, hrk, ⟨u9, h134⟩, ⟨v9, h150⟩⟩ := hX
  obtain ⟨⟨hc2, hc, hpu, hok⟩, ⟨hh6, hho⟩, hso, hl60, hco⟩ := id hA
  refine XG_of (by decide) (Nat.le_of_ble_eq_true rfl) rfl ?_
  intro p e s m args below meth c Q C0 hXw hlk ht hQ hw ls hl
  have hx := C0.x
  have hb := C0.b
  refine lv_aload_n hx hb dX5_compose_0 rfl (lv_at hl 0 rfl) ?_
  refine lv_bipush (v := nI 99) hx hb dX5_compose_1 (by decide) ?_
  refine lv_iload_n hx hb dX5_compose_3 rfl (lv_at hl 1 rfl) ?_
  refine lv_iload_n hx hb dX5_compose_4 rfl (lv_at hl 2 rfl) ?_
  refine lv_iload_n hx hb dX5_compose_5 rfl (lv_at hl 3 rfl) ?_
  exact x_pass C0 ht hw hlk (x_runV (As := [.int (nI (99)), .int (x9), .int (y9), .int (z9)]) (x_X5_orderAlone_1 l G L F ad hL hin A (x9) (nI 99) (y9) (z9) h9 hX9 hA hst) C0 hXw hw vw_X5_107 ((hL 0 (by omega))) fx rfl rfl rfl hl.1 rfl (Nat.le_of_ble_eq_true rfl) dX5_compose_6 ⟨by decide, by decide⟩ ⟨by decide, by decide⟩) (funext (fun q  => rfl)) (by decide) (by decide) hQ
set_option maxHeartbeats 4000000 in
set_option maxRecDepth 100000 in
theorem x_X5_compose_2 (l : Launch) (G : Gl) (L : List Nat) (F : Nat → va_E) (ad : Nat → Nat) (hL : ∀ i, i < 166 → ad i ∈ L) (hin : ∀ i j, i < 166 → j < 166 → i ≠ j → ad i ≠ ad j) (A : AB) (f9 : Nat) (hf9 : f9 < 6) (x9 : Int32) (z9 : Int32) (h9 : ¬ inR x9 0 5) (hX : XW G F ad A) (hA : okA A) (hst : l.stackTraces = false) : XG l yX5_compose cX5_compose 4 (some .int) rx_X5_compose G L F [.ref (ad 0), .int (nI (f9)), .int (x9), .int (z9)] "java/lang/IndexOutOfBoundsException" := by
  have hX9 := hX
  obtain ⟨fx, hn, hh, hsn, htx, hrk, ⟨u9, h134⟩, ⟨v9, h150⟩⟩ := hX
  obtain ⟨⟨hc2, hc, hpu, hok⟩, ⟨hh6, hho⟩, hso, hl60, hco⟩ := id hA
  refine XG_of (by decide) (Nat.le_of_ble_eq_true rfl) rfl ?_
  intro p e s m args below meth c Q C0 hXw hlk ht hQ hw ls hl
  have hx := C0.x
  have hb := C0.b
  refine lv_aload_n hx hb dX5_compose_0 rfl (lv_at hl 0 rfl) ?_
  refine lv_bipush (v := nI 99) hx hb dX5_compose_1 (by decide) ?_
  refine lv_iload_n hx hb dX5_compose_3 rfl (lv_at hl 1 rfl) ?_
  refine lv_iload_n hx hb dX5_compose_4 rfl (lv_at hl 2 rfl) ?_
  refine lv_iload_n hx hb dX5_compose_5 rfl (lv_at hl 3 rfl) ?_
  exact x_pass C0 ht hw hlk (x_runV (As := [.int (nI (99)), .int (nI (f9)), .int (x9), .int (z9)]) (x_X5_orderAlone_2 l G L F ad hL hin A f9 hf9 (x9) (nI 99) (z9) h9 hX9 hA hst) C0 hXw hw vw_X5_107 ((hL 0 (by omega))) fx rfl rfl rfl hl.1 rfl (Nat.le_of_ble_eq_true rfl) dX5_compose_6 ⟨by decide, by decide⟩ ⟨by decide, by decide⟩) (funext (fun q  => rfl)) (by decide) (by decide) hQ
set_option maxHeartbeats 4000000 in
set_option maxRecDepth 100000 in
theorem x_X5_compose_3 (l : Launch) (G : Gl) (L : List Nat) (F : Nat → va_E) (ad : Nat → Nat) (hL : ∀ i, i < 166 → ad i ∈ L) (hin : ∀ i j, i < 166 → j < 166 → i ≠ j → ad i ≠ ad j) (A : AB) (f9 g9 : Nat) (hf9 : f9 < 6) (hg9 : g9 < 6) (x9 : Int32) (h9 : ¬ inR x9 0 5) (hX : XW G F ad A) (hA : okA A) (hst : l.stackTraces = false) : XG l yX5_compose cX5_compose 4 (some .int) rx_X5_compose G L F [.ref (ad 0), .int (nI (f9)), .int (nI (g9)), .int (x9)] "java/lang/IndexOutOfBoundsException" := by
  have hX9 := hX
  obtain ⟨fx, hn, hh, hsn, htx, hrk, ⟨u9, h134⟩, ⟨v9, h150⟩⟩ := hX
  obtain ⟨⟨hc2, hc, hpu, hok⟩, ⟨hh6, hho⟩, hso, hl60, hco⟩ := id hA
  refine XG_of (by decide) (Nat.le_of_ble_eq_true rfl) rfl ?_
  intro p e s m args below meth c Q C0 hXw hlk ht hQ hw ls hl
  have hx := C0.x
  have hb := C0.b
  refine lv_aload_n hx hb dX5_compose_0 rfl (lv_at hl 0 rfl) ?_
  refine lv_bipush (v := nI 99) hx hb dX5_compose_1 (by decide) ?_
  refine lv_iload_n hx hb dX5_compose_3 rfl (lv_at hl 1 rfl) ?_
  refine lv_iload_n hx hb dX5_compose_4 rfl (lv_at hl 2 rfl) ?_
  refine lv_iload_n hx hb dX5_compose_5 rfl (lv_at hl 3 rfl) ?_
  exact x_pass C0 ht hw hlk (x_runV (As := [.int (nI (99)), .int (nI (f9)), .int (nI (g9)), .int (x9)]) (x_X5_orderAlone_3 l G L F ad hL hin A f9 g9 hf9 hg9 (x9) (nI 99) h9 hX9 hA hst) C0 hXw hw vw_X5_107 ((hL 0 (by omega))) fx rfl rfl rfl hl.1 rfl (Nat.le_of_ble_eq_true rfl) dX5_compose_6 ⟨by decide, by decide⟩ ⟨by decide, by decide⟩) (funext (fun q  => rfl)) (by decide) (by decide) hQ
set_option maxHeartbeats 4000000 in
set_option maxRecDepth 100000 in
theorem x_X5_compose_m (l : Launch) (G : Gl) (L : List Nat) (F : Nat → va_E) (ad : Nat → Nat) (hL : ∀ i, i < 166 → ad i ∈ L) (hin : ∀ i j, i < 166 → j < 166 → i ≠ j → ad i ≠ ad j) (A : AB) (f9 g9 t9 : Nat) (hf9 : f9 < 6) (hg9 : g9 < 6) (ht9 : t9 < 6) (h9 : A.1.2.1 < 4 * A.1.1) (hX : XW G F ad A) (hA : okA A) (hst : l.stackTraces = false) : XG l yX5_compose cX5_compose 4 (some .int) rx_X5_compose G L F [.ref (ad 0), .int (nI (f9)), .int (nI (g9)), .int (nI (t9))] "java/lang/IllegalStateException" := by
  have hX9 := hX
  obtain ⟨fx, hn, hh, hsn, htx, hrk, ⟨u9, h134⟩, ⟨v9, h150⟩⟩ := hX
  obtain ⟨⟨hc2, hc, hpu, hok⟩, ⟨hh6, hho⟩, hso, hl60, hco⟩ := id hA
  refine XG_of (by decide) (Nat.le_of_ble_eq_true rfl) rfl ?_
  intro p e s m args below meth c Q C0 hXw hlk ht hQ hw ls hl
  have hx := C0.x
  have hb := C0.b
  refine lv_aload_n hx hb dX5_compose_0 rfl (lv_at hl 0 rfl) ?_
  refine lv_bipush (v := nI 99) hx hb dX5_compose_1 (by decide) ?_
  refine lv_iload_n hx hb dX5_compose_3 rfl (lv_at hl 1 rfl) ?_
  refine lv_iload_n hx hb dX5_compose_4 rfl (lv_at hl 2 rfl) ?_
  refine lv_iload_n hx hb dX5_compose_5 rfl (lv_at hl 3 rfl) ?_
  exact x_pass C0 ht hw hlk (x_runV (As := [.int (nI (99)), .int (nI (f9)), .int (nI (g9)), .int (nI (t9))]) (x_X5_orderAlone_m99 l G L F ad hL hin A f9 g9 t9 hf9 hg9 ht9 h9 hX9 hA hst) C0 hXw hw vw_X5_107 ((hL 0 (by omega))) fx rfl rfl rfl hl.1 rfl (Nat.le_of_ble_eq_true rfl) dX5_compose_6 ⟨by decide, by decide⟩ ⟨by decide, by decide⟩) (funext (fun q  => rfl)) (by decide) (by decide) hQ
abbrev rx_X5_invert : Room := { frames := 8, cells := 1, slots := 6, locals := 135 }
set_option maxHeartbeats 4000000 in
set_option maxRecDepth 100000 in
theorem x_X5_invert_1 (l : Launch) (G : Gl) (L : List Nat) (F : Nat → va_E) (ad : Nat → Nat) (hL : ∀ i, i < 166 → ad i ∈ L) (hin : ∀ i j, i < 166 → j < 166 → i ≠ j → ad i ≠ ad j) (A : AB) (x9 : Int32) (z9 : Int32) (h9 : ¬ inR x9 0 5) (hX : XW G F ad A) (hA : okA A) (hst : l.stackTraces = false) : XG l yX5_invert cX5_invert 3 (some .int) rx_X5_invert G L F [.ref (ad 0), .int (x9), .int (z9)] "java/lang/IndexOutOfBoundsException" := by
  have hX9 := hX
  obtain ⟨fx, hn, hh, hsn, htx, hrk, ⟨u9, h134⟩, ⟨v9, h150⟩⟩ := hX
  obtain ⟨⟨hc2, hc, hpu, hok⟩, ⟨hh6, hho⟩, hso, hl60, hco⟩ := id hA
  refine XG_of (by decide) (Nat.le_of_ble_eq_true rfl) rfl ?_
  intro p e s m args below meth c Q C0 hXw hlk ht hQ hw ls hl
  have hx := C0.x
  have hb := C0.b
  refine lv_aload_n hx hb dX5_invert_0 rfl (lv_at hl 0 rfl) ?_
  refine lv_bipush (v := nI 105) hx hb dX5_invert_1 (by decide) ?_
  refine lv_iload_n hx hb dX5_invert_3 rfl (lv_at hl 1 rfl) ?_
  refine lv_iload_n hx hb dX5_invert_4 rfl (lv_at hl 1 rfl) ?_
  refine lv_iload_n hx hb dX5_invert_5 rfl (lv_at hl 2 rfl) ?_
  exact x_pass C0 ht hw hlk (x_runV (As := [.int (nI (105)), .int (x9), .int (x9), .int (z9)]) (x_X5_orderAlone_1 l G L F ad hL hin A (x9) (nI 105) (x9) (z9) h9 hX9 hA hst) C0 hXw hw vw_X5_107 ((hL 0 (by omega))) fx rfl rfl rfl hl.1 rfl (Nat.le_of_ble_eq_true rfl) dX5_invert_6 ⟨by decide, by decide⟩ ⟨by decide, by decide⟩) (funext (fun q  => rfl)) (by decide) (by decide) hQ
set_option maxHeartbeats 4000000 in
set_option maxRecDepth 100000 in
theorem x_X5_invert_3 (l : Launch) (G : Gl) (L : List Nat) (F : Nat → va_E) (ad : Nat → Nat) (hL : ∀ i, i < 166 → ad i ∈ L) (hin : ∀ i j, i < 166 → j < 166 → i ≠ j → ad i ≠ ad j) (A : AB) (f9 : Nat) (hf9 : f9 < 6) (x9 : Int32) (h9 : ¬ inR x9 0 5) (hX : XW G F ad A) (hA : okA A) (hst : l.stackTraces = false) : XG l yX5_invert cX5_invert 3 (some .int) rx_X5_invert G L F [.ref (ad 0), .int (nI (f9)), .int (x9)] "java/lang/IndexOutOfBoundsException" := by
  have hX9 := hX
  obtain ⟨fx, hn, hh, hsn, htx, hrk, ⟨u9, h134⟩, ⟨v9, h150⟩⟩ := hX
  obtain ⟨⟨hc2, hc, hpu, hok⟩, ⟨hh6, hho⟩, hso, hl60, hco⟩ := id hA
  refine XG_of (by decide) (Nat.le_of_ble_eq_true rfl) rfl ?_
  intro p e s m args below meth c Q C0 hXw hlk ht hQ hw ls hl
  have hx := C0.x
  have hb := C0.b
  refine lv_aload_n hx hb dX5_invert_0 rfl (lv_at hl 0 rfl) ?_
  refine lv_bipush (v := nI 105) hx hb dX5_invert_1 (by decide) ?_
  refine lv_iload_n hx hb dX5_invert_3 rfl (lv_at hl 1 rfl) ?_
  refine lv_iload_n hx hb dX5_invert_4 rfl (lv_at hl 1 rfl) ?_
  refine lv_iload_n hx hb dX5_invert_5 rfl (lv_at hl 2 rfl) ?_
  exact x_pass C0 ht hw hlk (x_runV (As := [.int (nI (105)), .int (nI (f9)), .int (nI (f9)), .int (x9)]) (x_X5_orderAlone_3 l G L F ad hL hin A f9 f9 hf9 hf9 (x9) (nI 105) h9 hX9 hA hst) C0 hXw hw vw_X5_107 ((hL 0 (by omega))) fx rfl rfl rfl hl.1 rfl (Nat.le_of_ble_eq_true rfl) dX5_invert_6 ⟨by decide, by decide⟩ ⟨by decide, by decide⟩) (funext (fun q  => rfl)) (by decide) (by decide) hQ
set_option maxHeartbeats 4000000 in
set_option maxRecDepth 100000 in
theorem x_X5_invert_m (l : Launch) (G : Gl) (L : List Nat) (F : Nat → va_E) (ad : Nat → Nat) (hL : ∀ i, i < 166 → ad i ∈ L) (hin : ∀ i j, i < 166 → j < 166 → i ≠ j → ad i ≠ ad j) (A : AB) (f9 t9 : Nat) (hf9 : f9 < 6) (ht9 : t9 < 6) (h9 : A.1.2.1 < 4 * A.1.1) (hX : XW G F ad A) (hA : okA A) (hst : l.stackTraces = false) : XG l yX5_invert cX5_invert 3 (some .int) rx_X5_invert G L F [.ref (ad 0), .int (nI (f9)), .int (nI (t9))] "java/lang/IllegalStateException" := by
  have hX9 := hX
  obtain ⟨fx, hn, hh, hsn, htx, hrk, ⟨u9, h134⟩, ⟨v9, h150⟩⟩ := hX
  obtain ⟨⟨hc2, hc, hpu, hok⟩, ⟨hh6, hho⟩, hso, hl60, hco⟩ := id hA
  refine XG_of (by decide) (Nat.le_of_ble_eq_true rfl) rfl ?_
  intro p e s m args below meth c Q C0 hXw hlk ht hQ hw ls hl
  have hx := C0.x
  have hb := C0.b
  refine lv_aload_n hx hb dX5_invert_0 rfl (lv_at hl 0 rfl) ?_
  refine lv_bipush (v := nI 105) hx hb dX5_invert_1 (by decide) ?_
  refine lv_iload_n hx hb dX5_invert_3 rfl (lv_at hl 1 rfl) ?_
  refine lv_iload_n hx hb dX5_invert_4 rfl (lv_at hl 1 rfl) ?_
  refine lv_iload_n hx hb dX5_invert_5 rfl (lv_at hl 2 rfl) ?_
  exact x_pass C0 ht hw hlk (x_runV (As := [.int (nI (105)), .int (nI (f9)), .int (nI (f9)), .int (nI (t9))]) (x_X5_orderAlone_m105 l G L F ad hL hin A f9 f9 t9 hf9 hf9 ht9 h9 hX9 hA hst) C0 hXw hw vw_X5_107 ((hL 0 (by omega))) fx rfl rfl rfl hl.1 rfl (Nat.le_of_ble_eq_true rfl) dX5_invert_6 ⟨by decide, by decide⟩ ⟨by decide, by decide⟩) (funext (fun q  => rfl)) (by decide) (by decide) hQ
abbrev rx_X5_clash : Room := { frames := 7, cells := 1, slots := 6, locals := 110 }
set_option maxHeartbeats 4000000 in
set_option maxRecDepth 100000 in
theorem x_X5_clash_1 (l : Launch) (G : Gl) (L : List Nat) (F : Nat → va_E) (ad : Nat → Nat) (hL : ∀ i, i < 166 → ad i ∈ L) (hin : ∀ i j, i < 166 → j < 166 → i ≠ j → ad i ≠ ad j) (A : AB) (x9 : Int32) (y9 : Int32) (h9 : ¬ inR x9 0 5) (hX : XW G F ad A) (hA : okA A) (hst : l.stackTraces = false) : XG l yX5_clash cX5_clash 3 (some .int) rx_X5_clash G L F [.ref (ad 0), .int (x9), .int (y9)] "java/lang/IndexOutOfBoundsException" := by
  obtain ⟨fx, hn, hh, hsn, htx, hrk, ⟨u9, h134⟩, ⟨v9, h150⟩⟩ := hX
  obtain ⟨⟨hc2, hc, hpu, hok⟩, ⟨hh6, hho⟩, hso, hl60, hco⟩ := id hA
  refine XG_of (by decide) (Nat.le_of_ble_eq_true rfl) rfl ?_
  intro p e s m args below meth c Q C0 hXw hlk ht hQ hw ls hl
  have hx := C0.x
  have hb := C0.b
  refine lv_iload_n hx hb dX5_clash_0 rfl (lv_at hl 1 rfl) ?_
  exact x_pass C0 ht hw hlk (x_runS (As := [.int (x9)]) (x_X5_needSlot l G L F (x9) h9 hst) C0 hXw hw sw_X5_78 rfl hl.1 rfl (Nat.le_of_ble_eq_true rfl) dX5_clash_1 ⟨by decide, by decide⟩ ⟨by decide, by decide⟩) (funext (fun q  => rfl)) (by decide) (by decide) hQ
set_option maxHeartbeats 4000000 in
set_option maxRecDepth 100000 in
theorem x_X5_clash_2 (l : Launch) (G : Gl) (L : List Nat) (F : Nat → va_E) (ad : Nat → Nat) (hL : ∀ i, i < 166 → ad i ∈ L) (hin : ∀ i j, i < 166 → j < 166 → i ≠ j → ad i ≠ ad j) (A : AB) (f9 : Nat) (hf9 : f9 < 6) (x9 : Int32) (h9 : ¬ inR x9 0 5) (hX : XW G F ad A) (hA : okA A) (hst : l.stackTraces = false) : XG l yX5_clash cX5_clash 3 (some .int) rx_X5_clash G L F [.ref (ad 0), .int (nI (f9)), .int (x9)] "java/lang/IndexOutOfBoundsException" := by
  obtain ⟨fx, hn, hh, hsn, htx, hrk, ⟨u9, h134⟩, ⟨v9, h150⟩⟩ := hX
  obtain ⟨⟨hc2, hc, hpu, hok⟩, ⟨hh6, hho⟩, hso, hl60, hco⟩ := id hA
  refine XG_of (by decide) (Nat.le_of_ble_eq_true rfl) rfl ?_
  intro p e s m args below meth c Q C0 hXw hlk ht hQ hw ls hl
  have hx := C0.x
  have hb := C0.b
  refine lv_iload_n hx hb dX5_clash_0 rfl (lv_at hl 1 rfl) ?_
  refine q_callv hw (q_runS (As := [.int (nI (f9))]) (c_X5_needSlot l G L F f9 (by omega)) C0 hw sw_X5_78 rfl hl.1 rfl (Nat.le_of_ble_eq_true rfl) dX5_clash_1 ⟨by decide, by decide⟩ ⟨by decide, by decide⟩) rfl rfl (fun F_4867 H locs hw hp_4868 => ?_)
  refine lv_iload_n hx hb dX5_clash_4 rfl (lv_at hl 2 rfl) ?_
  exact x_pass C0 ht hw hlk (x_runS (As := [.int (x9)]) (x_X5_needSlot l G L F_4867 (x9) h9 hst) C0 hXw hw sw_X5_78 rfl hl.1 rfl (Nat.le_of_ble_eq_true rfl) dX5_clash_5 ⟨by decide, by decide⟩ ⟨by decide, by decide⟩) (funext (fun q  => (hp_4868 q ))) (by decide) (by decide) hQ
abbrev rx_X5_apart : Room := { frames := 7, cells := 1, slots := 6, locals := 110 }
set_option maxHeartbeats 4000000 in
set_option maxRecDepth 100000 in
theorem x_X5_apart_1 (l : Launch) (G : Gl) (L : List Nat) (F : Nat → va_E) (ad : Nat → Nat) (hL : ∀ i, i < 166 → ad i ∈ L) (hin : ∀ i j, i < 166 → j < 166 → i ≠ j → ad i ≠ ad j) (A : AB) (x9 : Int32) (y9 : Int32) (h9 : ¬ inR x9 0 5) (hX : XW G F ad A) (hA : okA A) (hst : l.stackTraces = false) : XG l yX5_apart cX5_apart 3 (some .int) rx_X5_apart G L F [.ref (ad 0), .int (x9), .int (y9)] "java/lang/IndexOutOfBoundsException" := by
  obtain ⟨fx, hn, hh, hsn, htx, hrk, ⟨u9, h134⟩, ⟨v9, h150⟩⟩ := hX
  obtain ⟨⟨hc2, hc, hpu, hok⟩, ⟨hh6, hho⟩, hso, hl60, hco⟩ := id hA
  refine XG_of (by decide) (Nat.le_of_ble_eq_true rfl) rfl ?_
  intro p e s m args below meth c Q C0 hXw hlk ht hQ hw ls hl
  have hx := C0.x
  have hb := C0.b
  refine lv_iload_n hx hb dX5_apart_0 rfl (lv_at hl 1 rfl) ?_
  exact x_pass C0 ht hw hlk (x_runS (As := [.int (x9)]) (x_X5_needSlot l G L F (x9) h9 hst) C0 hXw hw sw_X5_78 rfl hl.1 rfl (Nat.le_of_ble_eq_true rfl) dX5_apart_1 ⟨by decide, by decide⟩ ⟨by decide, by decide⟩) (funext (fun q  => rfl)) (by decide) (by decide) hQ
set_option maxHeartbeats 4000000 in
set_option maxRecDepth 100000 in
theorem x_X5_apart_2 (l : Launch) (G : Gl) (L : List Nat) (F : Nat → va_E) (ad : Nat → Nat) (hL : ∀ i, i < 166 → ad i ∈ L) (hin : ∀ i j, i < 166 → j < 166 → i ≠ j → ad i ≠ ad j) (A : AB) (f9 : Nat) (hf9 : f9 < 6) (x9 : Int32) (h9 : ¬ inR x9 0 5) (hX : XW G F ad A) (hA : okA A) (hst : l.stackTraces = false) : XG l yX5_apart cX5_apart 3 (some .int) rx_X5_apart G L F [.ref (ad 0), .int (nI (f9)), .int (x9)] "java/lang/IndexOutOfBoundsException" := by
  obtain ⟨fx, hn, hh, hsn, htx, hrk, ⟨u9, h134⟩, ⟨v9, h150⟩⟩ := hX
  obtain ⟨⟨hc2, hc, hpu, hok⟩, ⟨hh6, hho⟩, hso, hl60, hco⟩ := id hA
  refine XG_of (by decide) (Nat.le_of_ble_eq_true rfl) rfl ?_
  intro p e s m args below meth c Q C0 hXw hlk ht hQ hw ls hl
  have hx := C0.x
  have hb := C0.b
  refine lv_iload_n hx hb dX5_apart_0 rfl (lv_at hl 1 rfl) ?_
  refine q_callv hw (q_runS (As := [.int (nI (f9))]) (c_X5_needSlot l G L F f9 (by omega)) C0 hw sw_X5_78 rfl hl.1 rfl (Nat.le_of_ble_eq_true rfl) dX5_apart_1 ⟨by decide, by decide⟩ ⟨by decide, by decide⟩) rfl rfl (fun F_4869 H locs hw hp_4870 => ?_)
  refine lv_iload_n hx hb dX5_apart_4 rfl (lv_at hl 2 rfl) ?_
  exact x_pass C0 ht hw hlk (x_runS (As := [.int (x9)]) (x_X5_needSlot l G L F_4869 (x9) h9 hst) C0 hXw hw sw_X5_78 rfl hl.1 rfl (Nat.le_of_ble_eq_true rfl) dX5_apart_5 ⟨by decide, by decide⟩ ⟨by decide, by decide⟩) (funext (fun q  => (hp_4870 q ))) (by decide) (by decide) hQ
abbrev rx_X5_differs : Room := { frames := 7, cells := 1, slots := 6, locals := 110 }
set_option maxHeartbeats 4000000 in
set_option maxRecDepth 100000 in
theorem x_X5_differs_1 (l : Launch) (G : Gl) (L : List Nat) (F : Nat → va_E) (ad : Nat → Nat) (hL : ∀ i, i < 166 → ad i ∈ L) (hin : ∀ i j, i < 166 → j < 166 → i ≠ j → ad i ≠ ad j) (A : AB) (x9 : Int32) (y9 z9 : Int32) (h9 : ¬ inR x9 0 5) (hX : XW G F ad A) (hA : okA A) (hst : l.stackTraces = false) : XG l yX5_differs cX5_differs 4 (some .int) rx_X5_differs G L F [.ref (ad 0), .int (x9), .int (y9), .int (z9)] "java/lang/IndexOutOfBoundsException" := by
  obtain ⟨fx, hn, hh, hsn, htx, hrk, ⟨u9, h134⟩, ⟨v9, h150⟩⟩ := hX
  obtain ⟨⟨hc2, hc, hpu, hok⟩, ⟨hh6, hho⟩, hso, hl60, hco⟩ := id hA
  refine XG_of (by decide) (Nat.le_of_ble_eq_true rfl) rfl ?_
  intro p e s m args below meth c Q C0 hXw hlk ht hQ hw ls hl
  have hx := C0.x
  have hb := C0.b
  refine lv_iload_n hx hb dX5_differs_0 rfl (lv_at hl 1 rfl) ?_
  exact x_pass C0 ht hw hlk (x_runS (As := [.int (x9)]) (x_X5_needSlot l G L F (x9) h9 hst) C0 hXw hw sw_X5_78 rfl hl.1 rfl (Nat.le_of_ble_eq_true rfl) dX5_differs_1 ⟨by decide, by decide⟩ ⟨by decide, by decide⟩) (funext (fun q  => rfl)) (by decide) (by decide) hQ
set_option maxHeartbeats 4000000 in
set_option maxRecDepth 100000 in
theorem x_X5_differs_2 (l : Launch) (G : Gl) (L : List Nat) (F : Nat → va_E) (ad : Nat → Nat) (hL : ∀ i, i < 166 → ad i ∈ L) (hin : ∀ i j, i < 166 → j < 166 → i ≠ j → ad i ≠ ad j) (A : AB) (f9 : Nat) (hf9 : f9 < 6) (x9 : Int32) (z9 : Int32) (h9 : ¬ inR x9 0 5) (hX : XW G F ad A) (hA : okA A) (hst : l.stackTraces = false) : XG l yX5_differs cX5_differs 4 (some .int) rx_X5_differs G L F [.ref (ad 0), .int (nI (f9)), .int (x9), .int (z9)] "java/lang/IndexOutOfBoundsException" := by
  obtain ⟨fx, hn, hh, hsn, htx, hrk, ⟨u9, h134⟩, ⟨v9, h150⟩⟩ := hX
  obtain ⟨⟨hc2, hc, hpu, hok⟩, ⟨hh6, hho⟩, hso, hl60, hco⟩ := id hA
  refine XG_of (by decide) (Nat.le_of_ble_eq_true rfl) rfl ?_
  intro p e s m args below meth c Q C0 hXw hlk ht hQ hw ls hl
  have hx := C0.x
  have hb := C0.b
  refine lv_iload_n hx hb dX5_differs_0 rfl (lv_at hl 1 rfl) ?_
  refine q_callv hw (q_runS (As := [.int (nI (f9))]) (c_X5_needSlot l G L F f9 (by omega)) C0 hw sw_X5_78 rfl hl.1 rfl (Nat.le_of_ble_eq_true rfl) dX5_differs_1 ⟨by decide, by decide⟩ ⟨by decide, by decide⟩) rfl rfl (fun F_4871 H locs hw hp_4872 => ?_)
  refine lv_iload_n hx hb dX5_differs_4 rfl (lv_at hl 2 rfl) ?_
  exact x_pass C0 ht hw hlk (x_runS (As := [.int (x9)]) (x_X5_needSlot l G L F_4871 (x9) h9 hst) C0 hXw hw sw_X5_78 rfl hl.1 rfl (Nat.le_of_ble_eq_true rfl) dX5_differs_5 ⟨by decide, by decide⟩ ⟨by decide, by decide⟩) (funext (fun q  => (hp_4872 q ))) (by decide) (by decide) hQ
set_option maxHeartbeats 4000000 in
set_option maxRecDepth 100000 in
theorem x_X5_differs_3 (l : Launch) (G : Gl) (L : List Nat) (F : Nat → va_E) (ad : Nat → Nat) (hL : ∀ i, i < 166 → ad i ∈ L) (hin : ∀ i j, i < 166 → j < 166 → i ≠ j → ad i ≠ ad j) (A : AB) (f9 g9 : Nat) (hf9 : f9 < 6) (hg9 : g9 < 6) (x9 : Int32) (h9 : ¬ inR x9 2 5) (hX : XW G F ad A) (hA : okA A) (hst : l.stackTraces = false) : XG l yX5_differs cX5_differs 4 (some .int) rx_X5_differs G L F [.ref (ad 0), .int (nI (f9)), .int (nI (g9)), .int (x9)] "java/lang/IllegalArgumentException" := by
  obtain ⟨fx, hn, hh, hsn, htx, hrk, ⟨u9, h134⟩, ⟨v9, h150⟩⟩ := hX
  obtain ⟨⟨hc2, hc, hpu, hok⟩, ⟨hh6, hho⟩, hso, hl60, hco⟩ := id hA
  refine XG_of (by decide) (Nat.le_of_ble_eq_true rfl) rfl ?_
  intro p e s m args below meth c Q C0 hXw hlk ht hQ hw ls hl
  have hx := C0.x
  have hb := C0.b
  refine lv_iload_n hx hb dX5_differs_0 rfl (lv_at hl 1 rfl) ?_
  refine q_callv hw (q_runS (As := [.int (nI (f9))]) (c_X5_needSlot l G L F f9 (by omega)) C0 hw sw_X5_78 rfl hl.1 rfl (Nat.le_of_ble_eq_true rfl) dX5_differs_1 ⟨by decide, by decide⟩ ⟨by decide, by decide⟩) rfl rfl (fun F_4873 H locs hw hp_4874 => ?_)
  refine lv_iload_n hx hb dX5_differs_4 rfl (lv_at hl 2 rfl) ?_
  refine q_callv hw (q_runS (As := [.int (nI (g9))]) (c_X5_needSlot l G L F_4873 g9 (by omega)) C0 hw sw_X5_78 rfl hl.1 rfl (Nat.le_of_ble_eq_true rfl) dX5_differs_5 ⟨by decide, by decide⟩ ⟨by decide, by decide⟩) rfl rfl (fun F_4875 H locs hw hp_4876 => ?_)
  refine lv_iload_n hx hb dX5_differs_8 rfl (lv_at hl 3 rfl) ?_
  refine lv_iconst (v := nI 2) hx hb dX5_differs_9 (by decide) ?_
  refine lv_icmp_lt (tgt := 18) hx hb dX5_differs_10 (by decide) (fun c_10 => ?_) (fun c_10 => ?_)
  · skip
    have e9 : F = F_4875 := (funext (fun q  => ((hp_4876 q ).trans (hp_4874 q )))).symm
    subst e9
    exact x_throw C0 hXw hst ht hw (text := "k is 2 to 5") (names := ["java/lang/RuntimeException", "java/lang/Exception"]) (by decide) (by decide) xk_IAE xi_IAE xa_IAE (by decide) hl.1 dX5_differs_18 dX5_differs_21 dX5_differs_22 dX5_differs_24 dX5_differs_27 hlk (by decide) (by decide) (by decide) (by decide) (by decide) (by decide) hQ
  · skip
    refine lv_iload_n hx hb dX5_differs_13 rfl (lv_at hl 3 rfl) ?_
    refine lv_iconst (v := nI 5) hx hb dX5_differs_14 (by decide) ?_
    refine lv_icmp_le (tgt := 28) hx hb dX5_differs_15 (by decide) (fun c_15 => ?_) (fun c_15 => ?_)
    · skip
      exact absurd ⟨Int32.not_lt.mp c_10, c_15⟩ h9
    · skip
      have e9 : F = F_4875 := (funext (fun q  => ((hp_4876 q ).trans (hp_4874 q )))).symm
      subst e9
      exact x_throw C0 hXw hst ht hw (text := "k is 2 to 5") (names := ["java/lang/RuntimeException", "java/lang/Exception"]) (by decide) (by decide) xk_IAE xi_IAE xa_IAE (by decide) hl.1 dX5_differs_18 dX5_differs_21 dX5_differs_22 dX5_differs_24 dX5_differs_27 hlk (by decide) (by decide) (by decide) (by decide) (by decide) (by decide) hQ
abbrev rx_X5_value : Room := { frames := 7, cells := 1, slots := 6, locals := 110 }
set_option maxHeartbeats 4000000 in
set_option maxRecDepth 100000 in
theorem x_X5_value_1 (l : Launch) (G : Gl) (L : List Nat) (F : Nat → va_E) (ad : Nat → Nat) (hL : ∀ i, i < 166 → ad i ∈ L) (hin : ∀ i j, i < 166 → j < 166 → i ≠ j → ad i ≠ ad j) (A : AB) (x9 : Int32) (y9 z9 : Int32) (h9 : ¬ inR x9 0 5) (hX : XW G F ad A) (hA : okA A) (hst : l.stackTraces = false) : XG l yX5_value cX5_value 5 (some .int) rx_X5_value G L F [.ref (ad 0), .int (y9), .int (x9), .int (z9)] "java/lang/IndexOutOfBoundsException" := by
  obtain ⟨fx, hn, hh, hsn, htx, hrk, ⟨u9, h134⟩, ⟨v9, h150⟩⟩ := hX
  obtain ⟨⟨hc2, hc, hpu, hok⟩, ⟨hh6, hho⟩, hso, hl60, hco⟩ := id hA
  refine XG_of (by decide) (Nat.le_of_ble_eq_true rfl) rfl ?_
  intro p e s m args below meth c Q C0 hXw hlk ht hQ hw ls hl
  have hx := C0.x
  have hb := C0.b
  refine lv_iload_n hx hb dX5_value_0 rfl (lv_at hl 2 rfl) ?_
  exact x_pass C0 ht hw hlk (x_runS (As := [.int (x9)]) (x_X5_needSlot l G L F (x9) h9 hst) C0 hXw hw sw_X5_78 rfl hl.1 rfl (Nat.le_of_ble_eq_true rfl) dX5_value_1 ⟨by decide, by decide⟩ ⟨by decide, by decide⟩) (funext (fun q  => rfl)) (by decide) (by decide) hQ
abbrev rx_X5_take : Room := { frames := 7, cells := 1, slots := 6, locals := 110 }
set_option maxHeartbeats 4000000 in
set_option maxRecDepth 100000 in
theorem x_X5_take (l : Launch) (G : Gl) (L : List Nat) (F : Nat → va_E) (ad : Nat → Nat) (hL : ∀ i, i < 166 → ad i ∈ L) (hin : ∀ i j, i < 166 → j < 166 → i ≠ j → ad i ≠ ad j) (A : AB) (x9 : Int32) (h9 : ¬ inR x9 0 1) (hX : XW G F ad A) (hA : okA A) (hst : l.stackTraces = false) : XG l yX5_take cX5_take 2 (some .int) rx_X5_take G L F [.ref (ad 0), .int (x9)] "java/lang/IndexOutOfBoundsException" := by
  obtain ⟨fx, hn, hh, hsn, htx, hrk, ⟨u9, h134⟩, ⟨v9, h150⟩⟩ := hX
  obtain ⟨⟨hc2, hc, hpu, hok⟩, ⟨hh6, hho⟩, hso, hl60, hco⟩ := id hA
  refine XG_of (by decide) (Nat.le_of_ble_eq_true rfl) rfl ?_
  intro p e s m args below meth c Q C0 hXw hlk ht hQ hw ls hl
  have hx := C0.x
  have hb := C0.b
  refine lv_iload_n hx hb dX5_take_0 rfl (lv_at hl 1 rfl) ?_
  exact x_pass C0 ht hw hlk (x_runS (As := [.int (x9)]) (x_X5_needSnapshot l G L F (x9) h9 hst) C0 hXw hw sw_X5_172 rfl hl.1 rfl (Nat.le_of_ble_eq_true rfl) dX5_take_1 ⟨by decide, by decide⟩ ⟨by decide, by decide⟩) (funext (fun q  => rfl)) (by decide) (by decide) hQ
abbrev rx_X5_restore : Room := { frames := 7, cells := 1, slots := 6, locals := 110 }
set_option maxHeartbeats 4000000 in
set_option maxRecDepth 100000 in
theorem x_X5_restore_s (l : Launch) (G : Gl) (L : List Nat) (F : Nat → va_E) (ad : Nat → Nat) (hL : ∀ i, i < 166 → ad i ∈ L) (hin : ∀ i j, i < 166 → j < 166 → i ≠ j → ad i ≠ ad j) (A : AB) (x9 : Int32) (h9 : ¬ inR x9 0 1) (hX : XW G F ad A) (hA : okA A) (hst : l.stackTraces = false) : XG l yX5_restore cX5_restore 2 (some .int) rx_X5_restore G L F [.ref (ad 0), .int (x9)] "java/lang/IndexOutOfBoundsException" := by
  obtain ⟨fx, hn, hh, hsn, htx, hrk, ⟨u9, h134⟩, ⟨v9, h150⟩⟩ := hX
  obtain ⟨⟨hc2, hc, hpu, hok⟩, ⟨hh6, hho⟩, hso, hl60, hco⟩ := id hA
  refine XG_of (by decide) (Nat.le_of_ble_eq_true rfl) rfl ?_
  intro p e s m args below meth c Q C0 hXw hlk ht hQ hw ls hl
  have hx := C0.x
  have hb := C0.b
  refine lv_iload_n hx hb dX5_restore_0 rfl (lv_at hl 1 rfl) ?_
  exact x_pass C0 ht hw hlk (x_runS (As := [.int (x9)]) (x_X5_needSnapshot l G L F (x9) h9 hst) C0 hXw hw sw_X5_172 rfl hl.1 rfl (Nat.le_of_ble_eq_true rfl) dX5_restore_1 ⟨by decide, by decide⟩ ⟨by decide, by decide⟩) (funext (fun q  => rfl)) (by decide) (by decide) hQ
abbrev rx_X5_lacks : Room := { frames := 6, cells := 1, slots := 6, locals := 90 }
set_option maxHeartbeats 4000000 in
set_option maxRecDepth 100000 in
theorem x_X5_lacks (l : Launch) (G : Gl) (L : List Nat) (F : Nat → va_E) (ad : Nat → Nat) (hL : ∀ i, i < 166 → ad i ∈ L) (hin : ∀ i j, i < 166 → j < 166 → i ≠ j → ad i ≠ ad j) (A : AB) (x9 : Int32) (h9 : digI x9 = 0) (hX : XW G F ad A) (hA : okA A) (hst : l.stackTraces = false) : XG l yX5_lacks cX5_lacks 2 (some .int) rx_X5_lacks G L F [.ref (ad 0), .int (x9)] "java/lang/IllegalArgumentException" := by
  obtain ⟨fx, hn, hh, hsn, htx, hrk, ⟨u9, h134⟩, ⟨v9, h150⟩⟩ := hX
  obtain ⟨⟨hc2, hc, hpu, hok⟩, ⟨hh6, hho⟩, hso, hl60, hco⟩ := id hA
  refine XG_of (by decide) (Nat.le_of_ble_eq_true rfl) rfl ?_
  intro p e s m args below meth c Q C0 hXw hlk ht hQ hw ls hl
  have hx := C0.x
  have hb := C0.b
  refine lv_iload_n hx hb dX5_lacks_0 rfl (lv_at hl 1 rfl) ?_
  refine q_calli hw (q_runS (As := [.int (x9)]) (c_X4_digitsOf l G L F (x9)) C0 hw sw_X5_220 rfl hl.1 rfl (Nat.le_of_ble_eq_true rfl) dX5_lacks_1 ⟨by decide, by decide⟩ ⟨by decide, by decide⟩) rfl rfl (fun r_4879 F_4877 H locs hw hp_4878 => ?_)
  obtain ⟨he_4880, o_4881⟩ := hp_4878
  subst he_4880
  have hd9 : digI x9 < 2 ^ 31 := by omega
  refine n_if_ne (tgt := 17) hx hb dX5_lacks_4 (by decide) (by omega) (fun c_4 => ?_) (fun c_4 => ?_)
  · skip
    exact absurd c_4 (by omega)
  · skip
    have e9 : F = F_4877 := (funext (fun q  => (o_4881 q ))).symm
    subst e9
    exact x_throw C0 hXw hst ht hw (text := "there is no such order") (names := ["java/lang/RuntimeException", "java/lang/Exception"]) (by decide) (by decide) xk_IAE xi_IAE xa_IAE (by decide) hl.1 dX5_lacks_7 dX5_lacks_10 dX5_lacks_11 dX5_lacks_13 dX5_lacks_16 hlk (by decide) (by decide) (by decide) (by decide) (by decide) (by decide) hQ
abbrev rx_X5_count : Room := { frames := 6, cells := 1, slots := 6, locals := 90 }
set_option maxHeartbeats 4000000 in
set_option maxRecDepth 100000 in
theorem x_X5_count (l : Launch) (G : Gl) (L : List Nat) (F : Nat → va_E) (ad : Nat → Nat) (hL : ∀ i, i < 166 → ad i ∈ L) (hin : ∀ i j, i < 166 → j < 166 → i ≠ j → ad i ≠ ad j) (A : AB) (x9 : Int32) (h9 : x9.toInt < 0 ∨ 8 < x9.toInt) (hX : XW G F ad A) (hA : okA A) (hst : l.stackTraces = false) : XG l yX5_count cX5_count 2 (some .int) rx_X5_count G L F [.ref (ad 0), .int (x9)] "java/lang/IllegalArgumentException" := by
  obtain ⟨fx, hn, hh, hsn, htx, hrk, ⟨u9, h134⟩, ⟨v9, h150⟩⟩ := hX
  obtain ⟨⟨hc2, hc, hpu, hok⟩, ⟨hh6, hho⟩, hso, hl60, hco⟩ := id hA
  refine XG_of (by decide) (Nat.le_of_ble_eq_true rfl) rfl ?_
  intro p e s m args below meth c Q C0 hXw hlk ht hQ hw ls hl
  have hx := C0.x
  have hb := C0.b
  refine lv_iload_n hx hb dX5_count_0 rfl (lv_at hl 1 rfl) ?_
  refine lv_tableOut (tgt := 155) hx hb dX5_count_1 h9 (by decide) ?_
  exact x_throw C0 hXw hst ht hw (text := "what is 0 to 8") (names := ["java/lang/RuntimeException", "java/lang/Exception"]) (by decide) (by decide) xk_IAE xi_IAE xa_IAE (by decide) hl.1 dX5_count_155 dX5_count_158 dX5_count_159 dX5_count_161 dX5_count_164 hlk (by decide) (by decide) (by decide) (by decide) (by decide) (by decide) hQ
