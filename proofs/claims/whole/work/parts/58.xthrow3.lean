abbrev rx_X5_scale : Room := { frames := 7, cells := 1, slots := 6, locals := 111 }
set_option maxHeartbeats 4000000 in
set_option maxRecDepth 100000 in
theorem x_X5_scale_1 (l : Launch) (G : Gl) (L : List Nat) (F : Nat → va_E) (ad : Nat → Nat) (hL : ∀ i, i < 166 → ad i ∈ L) (hin : ∀ i j, i < 166 → j < 166 → i ≠ j → ad i ≠ ad j) (A : AB) (x9 : Int32) (y9 z9 : Int32) (h9 : ¬ inR x9 0 5) (hX : XW G F ad A) (hA : okA A) (hst : l.stackTraces = false) : XG l yX5_scale cX5_scale 4 (some .int) rx_X5_scale G L F [.ref (ad 0), .int (x9), .int (y9), .int (z9)] "java/lang/IndexOutOfBoundsException" := by
  obtain ⟨fx, hn, hh, hsn, htx, hrk, ⟨u9, h134⟩, ⟨v9, h150⟩⟩ := hX
  obtain ⟨⟨hc2, hc, hpu, hok⟩, ⟨hh6, hho⟩, hso, hl60, hco⟩ := id hA
  refine XG_of (by decide) (Nat.le_of_ble_eq_true rfl) rfl ?_
  intro p e s m args below meth c Q C0 hXw hlk ht hQ hw ls hl
  have hx := C0.x
  have hb := C0.b
  refine lv_iload_n hx hb dX5_scale_0 rfl (lv_at hl 1 rfl) ?_
  exact x_pass C0 ht hw hlk (x_runS (As := [.int (x9)]) (x_X5_needSlot l G L F (x9) h9 hst) C0 hXw hw sw_X5_78 rfl hl.1 rfl (Nat.le_of_ble_eq_true rfl) dX5_scale_1 ⟨by decide, by decide⟩ ⟨by decide, by decide⟩) (funext (fun q  => rfl)) (by decide) (by decide) hQ
set_option maxHeartbeats 4000000 in
set_option maxRecDepth 100000 in
theorem x_X5_scale_2 (l : Launch) (G : Gl) (L : List Nat) (F : Nat → va_E) (ad : Nat → Nat) (hL : ∀ i, i < 166 → ad i ∈ L) (hin : ∀ i j, i < 166 → j < 166 → i ≠ j → ad i ≠ ad j) (A : AB) (f9 : Nat) (hf9 : f9 < 6) (x9 : Int32) (y9 : Int32) (h9 : ¬ inR x9 0 5) (hX : XW G F ad A) (hA : okA A) (hst : l.stackTraces = false) : XG l yX5_scale cX5_scale 4 (some .int) rx_X5_scale G L F [.ref (ad 0), .int (nI (f9)), .int (y9), .int (x9)] "java/lang/IndexOutOfBoundsException" := by
  obtain ⟨fx, hn, hh, hsn, htx, hrk, ⟨u9, h134⟩, ⟨v9, h150⟩⟩ := hX
  obtain ⟨⟨hc2, hc, hpu, hok⟩, ⟨hh6, hho⟩, hso, hl60, hco⟩ := id hA
  refine XG_of (by decide) (Nat.le_of_ble_eq_true rfl) rfl ?_
  intro p e s m args below meth c Q C0 hXw hlk ht hQ hw ls hl
  have hx := C0.x
  have hb := C0.b
  refine lv_iload_n hx hb dX5_scale_0 rfl (lv_at hl 1 rfl) ?_
  refine q_callv hw (q_runS (As := [.int (nI (f9))]) (c_X5_needSlot l G L F f9 (by omega)) C0 hw sw_X5_78 rfl hl.1 rfl (Nat.le_of_ble_eq_true rfl) dX5_scale_1 ⟨by decide, by decide⟩ ⟨by decide, by decide⟩) rfl rfl (fun F_4905 H locs hw hp_4906 => ?_)
  refine lv_iload_n hx hb dX5_scale_4 rfl (lv_at hl 3 rfl) ?_
  exact x_pass C0 ht hw hlk (x_runS (As := [.int (x9)]) (x_X5_needSlot l G L F_4905 (x9) h9 hst) C0 hXw hw sw_X5_78 rfl hl.1 rfl (Nat.le_of_ble_eq_true rfl) dX5_scale_5 ⟨by decide, by decide⟩ ⟨by decide, by decide⟩) (funext (fun q  => (hp_4906 q ))) (by decide) (by decide) hQ
set_option maxHeartbeats 4000000 in
set_option maxRecDepth 100000 in
theorem x_X5_scale_m (l : Launch) (G : Gl) (L : List Nat) (F : Nat → va_E) (ad : Nat → Nat) (hL : ∀ i, i < 166 → ad i ∈ L) (hin : ∀ i j, i < 166 → j < 166 → i ≠ j → ad i ≠ ad j) (A : AB) (f9 t9 : Nat) (hf9 : f9 < 6) (ht9 : t9 < 6) (y9 : Int32) (h9 : A.1.2.1 < 1 * A.1.1) (hX : XW G F ad A) (hA : okA A) (hst : l.stackTraces = false) : XG l yX5_scale cX5_scale 4 (some .int) rx_X5_scale G L F [.ref (ad 0), .int (nI (f9)), .int (y9), .int (nI (t9))] "java/lang/IllegalStateException" := by
  obtain ⟨fx, hn, hh, hsn, htx, hrk, ⟨u9, h134⟩, ⟨v9, h150⟩⟩ := hX
  obtain ⟨⟨hc2, hc, hpu, hok⟩, ⟨hh6, hho⟩, hso, hl60, hco⟩ := id hA
  refine XG_of (by decide) (Nat.le_of_ble_eq_true rfl) rfl ?_
  intro p e s m args below meth c Q C0 hXw hlk ht hQ hw ls hl
  have hx := C0.x
  have hb := C0.b
  refine lv_iload_n hx hb dX5_scale_0 rfl (lv_at hl 1 rfl) ?_
  refine q_callv hw (q_runS (As := [.int (nI (f9))]) (c_X5_needSlot l G L F f9 (by omega)) C0 hw sw_X5_78 rfl hl.1 rfl (Nat.le_of_ble_eq_true rfl) dX5_scale_1 ⟨by decide, by decide⟩ ⟨by decide, by decide⟩) rfl rfl (fun F_4907 H locs hw hp_4908 => ?_)
  refine lv_iload_n hx hb dX5_scale_4 rfl (lv_at hl 3 rfl) ?_
  refine q_callv hw (q_runS (As := [.int (nI (t9))]) (c_X5_needSlot l G L F_4907 t9 (by omega)) C0 hw sw_X5_78 rfl hl.1 rfl (Nat.le_of_ble_eq_true rfl) dX5_scale_5 ⟨by decide, by decide⟩ ⟨by decide, by decide⟩) rfl rfl (fun F_4909 H locs hw hp_4910 => ?_)
  refine lv_aload_n hx hb dX5_scale_8 rfl (lv_at hl 0 rfl) ?_
  refine lv_iconst (v := nI 1) hx hb dX5_scale_9 (by decide) ?_
  have f_4911 : F_4907 (ad 0) = xO ad := (hp_4908 (ad 0) ).trans fx
  have f_4912 : F_4909 (ad 0) = xO ad := (hp_4910 (ad 0) ).trans f_4911
  exact x_pass C0 ht hw hlk (x_runV (As := [.int (nI (1))]) (x_X5_needMoney l G L F_4909 ad hL hin 1 A.1 f_4912 (hn.keep (fun i0 hi => ((hp_4910 (ad (i0)) )).trans ((hp_4908 (ad (i0)) )))) h9 hpu (by omega) hc (by omega) hst) C0 hXw hw vw_X5_111 ((hL 0 (by omega))) f_4912 rfl rfl rfl hl.1 rfl (Nat.le_of_ble_eq_true rfl) dX5_scale_10 ⟨by decide, by decide⟩ ⟨by decide, by decide⟩) (funext (fun q  => ((hp_4910 q ).trans (hp_4908 q )))) (by decide) (by decide) hQ
abbrev rx_X5_repeat : Room := { frames := 7, cells := 1, slots := 6, locals := 111 }
set_option maxHeartbeats 4000000 in
set_option maxRecDepth 100000 in
theorem x_X5_repeat (l : Launch) (G : Gl) (L : List Nat) (F : Nat → va_E) (ad : Nat → Nat) (hL : ∀ i, i < 166 → ad i ∈ L) (hin : ∀ i j, i < 166 → j < 166 → i ≠ j → ad i ≠ ad j) (A : AB) (f9 t9 : Nat) (hf9 : f9 < 6) (ht9 : t9 < 6) (y9 : Int32) (h9 : A.1.2.1 < 8 * A.1.1) (hX : XW G F ad A) (hA : okA A) (hst : l.stackTraces = false) : XG l yX5_repeat cX5_repeat 4 (some .int) rx_X5_repeat G L F [.ref (ad 0), .int (nI (f9)), .int (y9), .int (nI (t9))] "java/lang/IllegalStateException" := by
  obtain ⟨fx, hn, hh, hsn, htx, hrk, ⟨u9, h134⟩, ⟨v9, h150⟩⟩ := hX
  obtain ⟨⟨hc2, hc, hpu, hok⟩, ⟨hh6, hho⟩, hso, hl60, hco⟩ := id hA
  refine XG_of (by decide) (Nat.le_of_ble_eq_true rfl) rfl ?_
  intro p e s m args below meth c Q C0 hXw hlk ht hQ hw ls hl
  have hx := C0.x
  have hb := C0.b
  refine lv_aload_n hx hb dX5_repeat_0 rfl (lv_at hl 0 rfl) ?_
  refine lv_bipush (v := nI 8) hx hb dX5_repeat_1 (by decide) ?_
  exact x_pass C0 ht hw hlk (x_runV (As := [.int (nI (8))]) (x_X5_needMoney l G L F ad hL hin 8 A.1 fx hn h9 hpu (by omega) hc (by omega) hst) C0 hXw hw vw_X5_111 ((hL 0 (by omega))) fx rfl rfl rfl hl.1 rfl (Nat.le_of_ble_eq_true rfl) dX5_repeat_3 ⟨by decide, by decide⟩ ⟨by decide, by decide⟩) (funext (fun q  => rfl)) (by decide) (by decide) hQ
abbrev rx_X5_power : Room := { frames := 8, cells := 1, slots := 6, locals := 134 }
set_option maxHeartbeats 4000000 in
set_option maxRecDepth 100000 in
theorem x_X5_power_1 (l : Launch) (G : Gl) (L : List Nat) (F : Nat → va_E) (ad : Nat → Nat) (hL : ∀ i, i < 166 → ad i ∈ L) (hin : ∀ i j, i < 166 → j < 166 → i ≠ j → ad i ≠ ad j) (A : AB) (x9 : Int32) (y9 z9 : Int32) (h9 : ¬ inR x9 0 5) (hX : XW G F ad A) (hA : okA A) (hst : l.stackTraces = false) : XG l yX5_power cX5_power 4 (some .int) rx_X5_power G L F [.ref (ad 0), .int (x9), .int (y9), .int (z9)] "java/lang/IndexOutOfBoundsException" := by
  obtain ⟨fx, hn, hh, hsn, htx, hrk, ⟨u9, h134⟩, ⟨v9, h150⟩⟩ := hX
  obtain ⟨⟨hc2, hc, hpu, hok⟩, ⟨hh6, hho⟩, hso, hl60, hco⟩ := id hA
  refine XG_of (by decide) (Nat.le_of_ble_eq_true rfl) rfl ?_
  intro p e s m args below meth c Q C0 hXw hlk ht hQ hw ls hl
  have hx := C0.x
  have hb := C0.b
  refine lv_iload_n hx hb dX5_power_0 rfl (lv_at hl 1 rfl) ?_
  exact x_pass C0 ht hw hlk (x_runS (As := [.int (x9)]) (x_X5_needSlot l G L F (x9) h9 hst) C0 hXw hw sw_X5_78 rfl hl.1 rfl (Nat.le_of_ble_eq_true rfl) dX5_power_1 ⟨by decide, by decide⟩ ⟨by decide, by decide⟩) (funext (fun q  => rfl)) (by decide) (by decide) hQ
set_option maxHeartbeats 4000000 in
set_option maxRecDepth 100000 in
theorem x_X5_power_2 (l : Launch) (G : Gl) (L : List Nat) (F : Nat → va_E) (ad : Nat → Nat) (hL : ∀ i, i < 166 → ad i ∈ L) (hin : ∀ i j, i < 166 → j < 166 → i ≠ j → ad i ≠ ad j) (A : AB) (f9 : Nat) (hf9 : f9 < 6) (x9 : Int32) (y9 : Int32) (h9 : ¬ inR x9 0 5) (hX : XW G F ad A) (hA : okA A) (hst : l.stackTraces = false) : XG l yX5_power cX5_power 4 (some .int) rx_X5_power G L F [.ref (ad 0), .int (nI (f9)), .int (y9), .int (x9)] "java/lang/IndexOutOfBoundsException" := by
  obtain ⟨fx, hn, hh, hsn, htx, hrk, ⟨u9, h134⟩, ⟨v9, h150⟩⟩ := hX
  obtain ⟨⟨hc2, hc, hpu, hok⟩, ⟨hh6, hho⟩, hso, hl60, hco⟩ := id hA
  refine XG_of (by decide) (Nat.le_of_ble_eq_true rfl) rfl ?_
  intro p e s m args below meth c Q C0 hXw hlk ht hQ hw ls hl
  have hx := C0.x
  have hb := C0.b
  refine lv_iload_n hx hb dX5_power_0 rfl (lv_at hl 1 rfl) ?_
  refine q_callv hw (q_runS (As := [.int (nI (f9))]) (c_X5_needSlot l G L F f9 (by omega)) C0 hw sw_X5_78 rfl hl.1 rfl (Nat.le_of_ble_eq_true rfl) dX5_power_1 ⟨by decide, by decide⟩ ⟨by decide, by decide⟩) rfl rfl (fun F_4913 H locs hw hp_4914 => ?_)
  refine lv_iload_n hx hb dX5_power_4 rfl (lv_at hl 3 rfl) ?_
  exact x_pass C0 ht hw hlk (x_runS (As := [.int (x9)]) (x_X5_needSlot l G L F_4913 (x9) h9 hst) C0 hXw hw sw_X5_78 rfl hl.1 rfl (Nat.le_of_ble_eq_true rfl) dX5_power_5 ⟨by decide, by decide⟩ ⟨by decide, by decide⟩) (funext (fun q  => (hp_4914 q ))) (by decide) (by decide) hQ
set_option maxHeartbeats 4000000 in
set_option maxRecDepth 100000 in
theorem x_X5_power_n (l : Launch) (G : Gl) (L : List Nat) (F : Nat → va_E) (ad : Nat → Nat) (hL : ∀ i, i < 166 → ad i ∈ L) (hin : ∀ i j, i < 166 → j < 166 → i ≠ j → ad i ≠ ad j) (A : AB) (f9 t9 : Nat) (hf9 : f9 < 6) (ht9 : t9 < 6) (x9 : Int32) (h9 : ¬ (¬ x9 < (-5000) ∧ x9 ≤ nI 5000)) (hX : XW G F ad A) (hA : okA A) (hst : l.stackTraces = false) : XG l yX5_power cX5_power 4 (some .int) rx_X5_power G L F [.ref (ad 0), .int (nI (f9)), .int (x9), .int (nI (t9))] "java/lang/IllegalArgumentException" := by
  obtain ⟨fx, hn, hh, hsn, htx, hrk, ⟨u9, h134⟩, ⟨v9, h150⟩⟩ := hX
  obtain ⟨⟨hc2, hc, hpu, hok⟩, ⟨hh6, hho⟩, hso, hl60, hco⟩ := id hA
  refine XG_of (by decide) (Nat.le_of_ble_eq_true rfl) rfl ?_
  intro p e s m args below meth c Q C0 hXw hlk ht hQ hw ls hl
  have hx := C0.x
  have hb := C0.b
  refine lv_iload_n hx hb dX5_power_0 rfl (lv_at hl 1 rfl) ?_
  refine q_callv hw (q_runS (As := [.int (nI (f9))]) (c_X5_needSlot l G L F f9 (by omega)) C0 hw sw_X5_78 rfl hl.1 rfl (Nat.le_of_ble_eq_true rfl) dX5_power_1 ⟨by decide, by decide⟩ ⟨by decide, by decide⟩) rfl rfl (fun F_4915 H locs hw hp_4916 => ?_)
  refine lv_iload_n hx hb dX5_power_4 rfl (lv_at hl 3 rfl) ?_
  refine q_callv hw (q_runS (As := [.int (nI (t9))]) (c_X5_needSlot l G L F_4915 t9 (by omega)) C0 hw sw_X5_78 rfl hl.1 rfl (Nat.le_of_ble_eq_true rfl) dX5_power_5 ⟨by decide, by decide⟩ ⟨by decide, by decide⟩) rfl rfl (fun F_4917 H locs hw hp_4918 => ?_)
  refine lv_iload_n hx hb dX5_power_8 rfl (lv_at hl 2 rfl) ?_
  refine lv_sipush (v := (-5000)) hx hb dX5_power_9 (by decide) ?_
  refine lv_icmp_lt (tgt := 22) hx hb dX5_power_12 (by decide) (fun c_12 => ?_) (fun c_12 => ?_)
  · skip
    have e9 : F = F_4917 := (funext (fun q  => ((hp_4918 q ).trans (hp_4916 q )))).symm
    subst e9
    exact x_throw C0 hXw hst ht hw (text := "n is -5000 to 5000") (names := ["java/lang/RuntimeException", "java/lang/Exception"]) (by decide) (by decide) xk_IAE xi_IAE xa_IAE (by decide) hl.1 dX5_power_22 dX5_power_25 dX5_power_26 dX5_power_28 dX5_power_31 hlk (by decide) (by decide) (by decide) (by decide) (by decide) (by decide) hQ
  · skip
    refine lv_iload_n hx hb dX5_power_15 rfl (lv_at hl 2 rfl) ?_
    refine lv_sipush (v := nI 5000) hx hb dX5_power_16 (by decide) ?_
    refine lv_icmp_le (tgt := 32) hx hb dX5_power_19 (by decide) (fun c_19 => ?_) (fun c_19 => ?_)
    · skip
      exact absurd ⟨c_12, c_19⟩ h9
    · skip
      have e9 : F = F_4917 := (funext (fun q  => ((hp_4918 q ).trans (hp_4916 q )))).symm
      subst e9
      exact x_throw C0 hXw hst ht hw (text := "n is -5000 to 5000") (names := ["java/lang/RuntimeException", "java/lang/Exception"]) (by decide) (by decide) xk_IAE xi_IAE xa_IAE (by decide) hl.1 dX5_power_22 dX5_power_25 dX5_power_26 dX5_power_28 dX5_power_31 hlk (by decide) (by decide) (by decide) (by decide) (by decide) (by decide) hQ
abbrev rx_X5_root : Room := { frames := 8, cells := 1, slots := 6, locals := 134 }
set_option maxHeartbeats 4000000 in
set_option maxRecDepth 100000 in
theorem x_X5_root_1 (l : Launch) (G : Gl) (L : List Nat) (F : Nat → va_E) (ad : Nat → Nat) (hL : ∀ i, i < 166 → ad i ∈ L) (hin : ∀ i j, i < 166 → j < 166 → i ≠ j → ad i ≠ ad j) (A : AB) (x9 : Int32) (y9 z9 : Int32) (h9 : ¬ inR x9 0 5) (hX : XW G F ad A) (hA : okA A) (hst : l.stackTraces = false) : XG l yX5_root cX5_root 4 (some .int) rx_X5_root G L F [.ref (ad 0), .int (x9), .int (y9), .int (z9)] "java/lang/IndexOutOfBoundsException" := by
  obtain ⟨fx, hn, hh, hsn, htx, hrk, ⟨u9, h134⟩, ⟨v9, h150⟩⟩ := hX
  obtain ⟨⟨hc2, hc, hpu, hok⟩, ⟨hh6, hho⟩, hso, hl60, hco⟩ := id hA
  refine XG_of (by decide) (Nat.le_of_ble_eq_true rfl) rfl ?_
  intro p e s m args below meth c Q C0 hXw hlk ht hQ hw ls hl
  have hx := C0.x
  have hb := C0.b
  refine lv_iload_n hx hb dX5_root_0 rfl (lv_at hl 1 rfl) ?_
  exact x_pass C0 ht hw hlk (x_runS (As := [.int (x9)]) (x_X5_needSlot l G L F (x9) h9 hst) C0 hXw hw sw_X5_78 rfl hl.1 rfl (Nat.le_of_ble_eq_true rfl) dX5_root_1 ⟨by decide, by decide⟩ ⟨by decide, by decide⟩) (funext (fun q  => rfl)) (by decide) (by decide) hQ
set_option maxHeartbeats 4000000 in
set_option maxRecDepth 100000 in
theorem x_X5_root_2 (l : Launch) (G : Gl) (L : List Nat) (F : Nat → va_E) (ad : Nat → Nat) (hL : ∀ i, i < 166 → ad i ∈ L) (hin : ∀ i j, i < 166 → j < 166 → i ≠ j → ad i ≠ ad j) (A : AB) (f9 : Nat) (hf9 : f9 < 6) (x9 : Int32) (y9 : Int32) (h9 : ¬ inR x9 0 5) (hX : XW G F ad A) (hA : okA A) (hst : l.stackTraces = false) : XG l yX5_root cX5_root 4 (some .int) rx_X5_root G L F [.ref (ad 0), .int (nI (f9)), .int (y9), .int (x9)] "java/lang/IndexOutOfBoundsException" := by
  obtain ⟨fx, hn, hh, hsn, htx, hrk, ⟨u9, h134⟩, ⟨v9, h150⟩⟩ := hX
  obtain ⟨⟨hc2, hc, hpu, hok⟩, ⟨hh6, hho⟩, hso, hl60, hco⟩ := id hA
  refine XG_of (by decide) (Nat.le_of_ble_eq_true rfl) rfl ?_
  intro p e s m args below meth c Q C0 hXw hlk ht hQ hw ls hl
  have hx := C0.x
  have hb := C0.b
  refine lv_iload_n hx hb dX5_root_0 rfl (lv_at hl 1 rfl) ?_
  refine q_callv hw (q_runS (As := [.int (nI (f9))]) (c_X5_needSlot l G L F f9 (by omega)) C0 hw sw_X5_78 rfl hl.1 rfl (Nat.le_of_ble_eq_true rfl) dX5_root_1 ⟨by decide, by decide⟩ ⟨by decide, by decide⟩) rfl rfl (fun F_4919 H locs hw hp_4920 => ?_)
  refine lv_iload_n hx hb dX5_root_4 rfl (lv_at hl 3 rfl) ?_
  exact x_pass C0 ht hw hlk (x_runS (As := [.int (x9)]) (x_X5_needSlot l G L F_4919 (x9) h9 hst) C0 hXw hw sw_X5_78 rfl hl.1 rfl (Nat.le_of_ble_eq_true rfl) dX5_root_5 ⟨by decide, by decide⟩ ⟨by decide, by decide⟩) (funext (fun q  => (hp_4920 q ))) (by decide) (by decide) hQ
set_option maxHeartbeats 4000000 in
set_option maxRecDepth 100000 in
theorem x_X5_root_n (l : Launch) (G : Gl) (L : List Nat) (F : Nat → va_E) (ad : Nat → Nat) (hL : ∀ i, i < 166 → ad i ∈ L) (hin : ∀ i j, i < 166 → j < 166 → i ≠ j → ad i ≠ ad j) (A : AB) (f9 t9 : Nat) (hf9 : f9 < 6) (ht9 : t9 < 6) (x9 : Int32) (h9 : ¬ (¬ x9 < nI 1 ∧ x9 ≤ nI 5000)) (hX : XW G F ad A) (hA : okA A) (hst : l.stackTraces = false) : XG l yX5_root cX5_root 4 (some .int) rx_X5_root G L F [.ref (ad 0), .int (nI (f9)), .int (x9), .int (nI (t9))] "java/lang/IllegalArgumentException" := by
  obtain ⟨fx, hn, hh, hsn, htx, hrk, ⟨u9, h134⟩, ⟨v9, h150⟩⟩ := hX
  obtain ⟨⟨hc2, hc, hpu, hok⟩, ⟨hh6, hho⟩, hso, hl60, hco⟩ := id hA
  refine XG_of (by decide) (Nat.le_of_ble_eq_true rfl) rfl ?_
  intro p e s m args below meth c Q C0 hXw hlk ht hQ hw ls hl
  have hx := C0.x
  have hb := C0.b
  refine lv_iload_n hx hb dX5_root_0 rfl (lv_at hl 1 rfl) ?_
  refine q_callv hw (q_runS (As := [.int (nI (f9))]) (c_X5_needSlot l G L F f9 (by omega)) C0 hw sw_X5_78 rfl hl.1 rfl (Nat.le_of_ble_eq_true rfl) dX5_root_1 ⟨by decide, by decide⟩ ⟨by decide, by decide⟩) rfl rfl (fun F_4921 H locs hw hp_4922 => ?_)
  refine lv_iload_n hx hb dX5_root_4 rfl (lv_at hl 3 rfl) ?_
  refine q_callv hw (q_runS (As := [.int (nI (t9))]) (c_X5_needSlot l G L F_4921 t9 (by omega)) C0 hw sw_X5_78 rfl hl.1 rfl (Nat.le_of_ble_eq_true rfl) dX5_root_5 ⟨by decide, by decide⟩ ⟨by decide, by decide⟩) rfl rfl (fun F_4923 H locs hw hp_4924 => ?_)
  refine lv_iload_n hx hb dX5_root_8 rfl (lv_at hl 2 rfl) ?_
  refine lv_iconst (v := nI 1) hx hb dX5_root_9 (by decide) ?_
  refine lv_icmp_lt (tgt := 20) hx hb dX5_root_10 (by decide) (fun c_10 => ?_) (fun c_10 => ?_)
  · skip
    have e9 : F = F_4923 := (funext (fun q  => ((hp_4924 q ).trans (hp_4922 q )))).symm
    subst e9
    exact x_throw C0 hXw hst ht hw (text := "n is 1 to 5000") (names := ["java/lang/RuntimeException", "java/lang/Exception"]) (by decide) (by decide) xk_IAE xi_IAE xa_IAE (by decide) hl.1 dX5_root_20 dX5_root_23 dX5_root_24 dX5_root_26 dX5_root_29 hlk (by decide) (by decide) (by decide) (by decide) (by decide) (by decide) hQ
  · skip
    refine lv_iload_n hx hb dX5_root_13 rfl (lv_at hl 2 rfl) ?_
    refine lv_sipush (v := nI 5000) hx hb dX5_root_14 (by decide) ?_
    refine lv_icmp_le (tgt := 30) hx hb dX5_root_17 (by decide) (fun c_17 => ?_) (fun c_17 => ?_)
    · skip
      exact absurd ⟨c_10, c_17⟩ h9
    · skip
      have e9 : F = F_4923 := (funext (fun q  => ((hp_4924 q ).trans (hp_4922 q )))).symm
      subst e9
      exact x_throw C0 hXw hst ht hw (text := "n is 1 to 5000") (names := ["java/lang/RuntimeException", "java/lang/Exception"]) (by decide) (by decide) xk_IAE xi_IAE xa_IAE (by decide) hl.1 dX5_root_20 dX5_root_23 dX5_root_24 dX5_root_26 dX5_root_29 hlk (by decide) (by decide) (by decide) (by decide) (by decide) (by decide) hQ
set_option maxHeartbeats 4000000 in
set_option maxRecDepth 100000 in
theorem x_X5_power_m (l : Launch) (G : Gl) (L : List Nat) (F : Nat → va_E) (ad : Nat → Nat) (hL : ∀ i, i < 166 → ad i ∈ L) (hin : ∀ i j, i < 166 → j < 166 → i ≠ j → ad i ≠ ad j) (A : AB) (f9 t9 : Nat) (y9 : Int32) (hf9 : f9 < 6) (ht9 : t9 < 6) (hy1 : ¬ y9 < -5000) (hy2 : y9 ≤ nI 5000) (h9 : A.1.2.1 < 8 * A.1.1) (hX : XW G F ad A) (hA : okA A) (hst : l.stackTraces = false) : XG l yX5_power cX5_power 4 (some .int) rx_X5_power G L F [.ref (ad 0), .int (nI (f9)), .int (y9), .int (nI (t9))] "java/lang/IllegalStateException" := by
  have hX9 := hX
  obtain ⟨fx, hn, hh, hsn, htx, hrk, ⟨u9, h134⟩, ⟨v9, h150⟩⟩ := hX
  obtain ⟨⟨hc2, hc, hpu, hok⟩, ⟨hh6, hho⟩, hso, hl60, hco⟩ := id hA
  refine XG_of (by decide) (Nat.le_of_ble_eq_true rfl) rfl ?_
  intro p e s m args below meth c Q C0 hXw hlk ht hQ hw ls hl
  have hx := C0.x
  have hb := C0.b
  refine lv_iload_n hx hb dX5_power_0 rfl (lv_at hl 1 rfl) ?_
  refine q_callv hw (q_runS (As := [.int (nI (f9))]) (c_X5_needSlot l G L F f9 (by omega)) C0 hw sw_X5_78 rfl hl.1 rfl (Nat.le_of_ble_eq_true rfl) dX5_power_1 ⟨by decide, by decide⟩ ⟨by decide, by decide⟩) rfl rfl (fun F_4925 H locs hw hp_4926 => ?_)
  refine lv_iload_n hx hb dX5_power_4 rfl (lv_at hl 3 rfl) ?_
  refine q_callv hw (q_runS (As := [.int (nI (t9))]) (c_X5_needSlot l G L F_4925 t9 (by omega)) C0 hw sw_X5_78 rfl hl.1 rfl (Nat.le_of_ble_eq_true rfl) dX5_power_5 ⟨by decide, by decide⟩ ⟨by decide, by decide⟩) rfl rfl (fun F_4927 H locs hw hp_4928 => ?_)
  refine lv_iload_n hx hb dX5_power_8 rfl (lv_at hl 2 rfl) ?_
  refine lv_sipush (v := (-5000)) hx hb dX5_power_9 (by decide) ?_
  refine lv_icmp_lt (tgt := 22) hx hb dX5_power_12 (by decide) (fun c_12 => ?_) (fun c_12 => ?_)
  · skip
    exact absurd c_12 hy1
  · skip
    refine lv_iload_n hx hb dX5_power_15 rfl (lv_at hl 2 rfl) ?_
    refine lv_sipush (v := nI 5000) hx hb dX5_power_16 (by decide) ?_
    refine lv_icmp_le (tgt := 32) hx hb dX5_power_19 (by decide) (fun c_19 => ?_) (fun c_19 => ?_)
    · skip
      refine lv_aload_n hx hb dX5_power_32 rfl (lv_at hl 0 rfl) ?_
      refine lv_iload_n hx hb dX5_power_33 rfl (lv_at hl 1 rfl) ?_
      refine lv_iload_n hx hb dX5_power_34 rfl (lv_at hl 2 rfl) ?_
      refine lv_sipush (v := nI 10007) hx hb dX5_power_35 (by decide) ?_
      refine q_calli hw (q_runS (As := [.int (y9), .int (nI (10007))]) (c_J9_floorMod_7cf53 l G L F_4927 y9) C0 hw sw_X5_117 rfl hl.1 rfl (Nat.le_of_ble_eq_true rfl) dX5_power_38 ⟨by decide, by decide⟩ ⟨by decide, by decide⟩) rfl rfl (fun r_4931 F_4929 H locs hw hp_4930 => ?_)
      obtain ⟨he_4932, o_4933⟩ := hp_4930
      subst he_4932
      refine lv_iload_n hx hb dX5_power_41 rfl (lv_at hl 3 rfl) ?_
      have f_4934 : F_4925 (ad 0) = xO ad := (hp_4926 (ad 0) ).trans fx
      have f_4935 : F_4927 (ad 0) = xO ad := (hp_4928 (ad 0) ).trans f_4934
      have f_4936 : F_4929 (ad 0) = xO ad := (o_4933 (ad 0) ).trans f_4935
      exact x_pass C0 ht hw hlk (x_runV (As := [.int (nI (f9)), .int (nI ((zi y9).val)), .int (nI (t9))]) (x_X5_repeat l G L F_4929 ad hL hin A f9 t9 hf9 ht9 (nI ((zi y9).val)) h9 (hX9.keep (fun i0 hi => ((o_4933 (ad (i0)) )).trans (((hp_4928 (ad (i0)) )).trans ((hp_4926 (ad (i0)) ))))) hA hst) C0 hXw hw vw_X5_133 ((hL 0 (by omega))) f_4936 rfl rfl rfl hl.1 rfl (Nat.le_of_ble_eq_true rfl) dX5_power_42 ⟨by decide, by decide⟩ ⟨by decide, by decide⟩) (funext (fun q  => ((o_4933 q ).trans ((hp_4928 q ).trans (hp_4926 q ))))) (by decide) (by decide) hQ
    · skip
      exact absurd hy2 c_19
set_option maxHeartbeats 4000000 in
set_option maxRecDepth 100000 in
theorem x_X5_root_m (l : Launch) (G : Gl) (L : List Nat) (F : Nat → va_E) (ad : Nat → Nat) (hL : ∀ i, i < 166 → ad i ∈ L) (hin : ∀ i j, i < 166 → j < 166 → i ≠ j → ad i ≠ ad j) (A : AB) (f9 t9 n9 : Nat) (hf9 : f9 < 6) (ht9 : t9 < 6) (hy1 : 1 ≤ n9) (hy2 : n9 ≤ 5000) (h9 : A.1.2.1 < 8 * A.1.1) (hX : XW G F ad A) (hA : okA A) (hst : l.stackTraces = false) : XG l yX5_root cX5_root 4 (some .int) rx_X5_root G L F [.ref (ad 0), .int (nI (f9)), .int (nI (n9)), .int (nI (t9))] "java/lang/IllegalStateException" := by
  have hX9 := hX
  obtain ⟨fx, hn, hh, hsn, htx, hrk, ⟨u9, h134⟩, ⟨v9, h150⟩⟩ := hX
  obtain ⟨⟨hc2, hc, hpu, hok⟩, ⟨hh6, hho⟩, hso, hl60, hco⟩ := id hA
  refine XG_of (by decide) (Nat.le_of_ble_eq_true rfl) rfl ?_
  intro p e s m args below meth c Q C0 hXw hlk ht hQ hw ls hl
  have hx := C0.x
  have hb := C0.b
  refine lv_iload_n hx hb dX5_root_0 rfl (lv_at hl 1 rfl) ?_
  refine q_callv hw (q_runS (As := [.int (nI (f9))]) (c_X5_needSlot l G L F f9 (by omega)) C0 hw sw_X5_78 rfl hl.1 rfl (Nat.le_of_ble_eq_true rfl) dX5_root_1 ⟨by decide, by decide⟩ ⟨by decide, by decide⟩) rfl rfl (fun F_4937 H locs hw hp_4938 => ?_)
  refine lv_iload_n hx hb dX5_root_4 rfl (lv_at hl 3 rfl) ?_
  refine q_callv hw (q_runS (As := [.int (nI (t9))]) (c_X5_needSlot l G L F_4937 t9 (by omega)) C0 hw sw_X5_78 rfl hl.1 rfl (Nat.le_of_ble_eq_true rfl) dX5_root_5 ⟨by decide, by decide⟩ ⟨by decide, by decide⟩) rfl rfl (fun F_4939 H locs hw hp_4940 => ?_)
  refine lv_iload_n hx hb dX5_root_8 rfl (lv_at hl 2 rfl) ?_
  refine lv_iconst (v := nI 1) hx hb dX5_root_9 (by decide) ?_
  refine n_icmp_lt (tgt := 20) hx hb dX5_root_10 (by decide) (by omega) (by decide) (fun c_10 => ?_) (fun c_10 => ?_)
  · skip
    exact absurd c_10 (by omega)
  · skip
    refine lv_iload_n hx hb dX5_root_13 rfl (lv_at hl 2 rfl) ?_
    refine lv_sipush (v := nI 5000) hx hb dX5_root_14 (by decide) ?_
    refine n_icmp_le (tgt := 30) hx hb dX5_root_17 (by decide) (by omega) (by decide) (fun c_17 => ?_) (fun c_17 => ?_)
    · skip
      refine lv_aload_n hx hb dX5_root_30 rfl (lv_at hl 0 rfl) ?_
      refine lv_iload_n hx hb dX5_root_31 rfl (lv_at hl 1 rfl) ?_
      refine lv_iload_n hx hb dX5_root_32 rfl (lv_at hl 2 rfl) ?_
      refine n_top (show Value.int (nI n9) = Value.int (nI (zc n9).val) by rw [zc_val, Nat.mod_eq_of_lt (by omega)]) ?_
      refine q_calli hw (q_runS (As := [.int (nI ((zc n9).val))]) (c_X1_inverseOf l G L F_4939 (zc n9)) C0 hw sw_X5_139 rfl hl.1 rfl (Nat.le_of_ble_eq_true rfl) dX5_root_33 ⟨by decide, by decide⟩ ⟨by decide, by decide⟩) rfl rfl (fun r_4943 F_4941 H locs hw hp_4942 => ?_)
      obtain ⟨he_4944, o_4945⟩ := hp_4942
      subst he_4944
      refine lv_iload_n hx hb dX5_root_36 rfl (lv_at hl 3 rfl) ?_
      have f_4946 : F_4937 (ad 0) = xO ad := (hp_4938 (ad 0) ).trans fx
      have f_4947 : F_4939 (ad 0) = xO ad := (hp_4940 (ad 0) ).trans f_4946
      have f_4948 : F_4941 (ad 0) = xO ad := (o_4945 (ad 0) ).trans f_4947
      exact x_pass C0 ht hw hlk (x_runV (As := [.int (nI (f9)), .int (nI ((m_finv (zc n9)).val)), .int (nI (t9))]) (x_X5_repeat l G L F_4941 ad hL hin A f9 t9 hf9 ht9 (nI ((m_finv (zc n9)).val)) h9 (hX9.keep (fun i0 hi => ((o_4945 (ad (i0)) )).trans (((hp_4940 (ad (i0)) )).trans ((hp_4938 (ad (i0)) ))))) hA hst) C0 hXw hw vw_X5_133 ((hL 0 (by omega))) f_4948 rfl rfl rfl hl.1 rfl (Nat.le_of_ble_eq_true rfl) dX5_root_37 ⟨by decide, by decide⟩ ⟨by decide, by decide⟩) (funext (fun q  => ((o_4945 q ).trans ((hp_4940 q ).trans (hp_4938 q ))))) (by decide) (by decide) hQ
    · skip
      exact absurd c_17 (by omega)
abbrev rx_X5_append : Room := { frames := 6, cells := 1, slots := 6, locals := 90 }
set_option maxHeartbeats 4000000 in
set_option maxRecDepth 100000 in
theorem x_X5_append_c (l : Launch) (G : Gl) (L : List Nat) (F : Nat → va_E) (ad : Nat → Nat) (hL : ∀ i, i < 166 → ad i ∈ L) (hin : ∀ i j, i < 166 → j < 166 → i ≠ j → ad i ≠ ad j) (A : AB) (x9 : Int32) (h9 : ¬ inR x9 33 126) (hX : XW G F ad A) (hA : okA A) (hst : l.stackTraces = false) : XG l yX5_append cX5_append 2 (some .int) rx_X5_append G L F [.ref (ad 0), .int (x9)] "java/lang/IllegalArgumentException" := by
  obtain ⟨fx, hn, hh, hsn, htx, hrk, ⟨u9, h134⟩, ⟨v9, h150⟩⟩ := hX
  obtain ⟨⟨hc2, hc, hpu, hok⟩, ⟨hh6, hho⟩, hso, hl60, hco⟩ := id hA
  refine XG_of (by decide) (Nat.le_of_ble_eq_true rfl) rfl ?_
  intro p e s m args below meth c Q C0 hXw hlk ht hQ hw ls hl
  have hx := C0.x
  have hb := C0.b
  refine lv_iload_n hx hb dX5_append_0 rfl (lv_at hl 1 rfl) ?_
  refine lv_bipush (v := nI 33) hx hb dX5_append_1 (by decide) ?_
  refine lv_icmp_lt (tgt := 12) hx hb dX5_append_3 (by decide) (fun c_3 => ?_) (fun c_3 => ?_)
  · skip
    exact x_throw C0 hXw hst ht hw (text := "a code is 33 to 126") (names := ["java/lang/RuntimeException", "java/lang/Exception"]) (by decide) (by decide) xk_IAE xi_IAE xa_IAE (by decide) hl.1 dX5_append_12 dX5_append_15 dX5_append_16 dX5_append_18 dX5_append_21 hlk (by decide) (by decide) (by decide) (by decide) (by decide) (by decide) hQ
  · skip
    refine lv_iload_n hx hb dX5_append_6 rfl (lv_at hl 1 rfl) ?_
    refine lv_bipush (v := nI 126) hx hb dX5_append_7 (by decide) ?_
    refine lv_icmp_le (tgt := 22) hx hb dX5_append_9 (by decide) (fun c_9 => ?_) (fun c_9 => ?_)
    · skip
      exact absurd ⟨Int32.not_lt.mp c_3, c_9⟩ h9
    · skip
      exact x_throw C0 hXw hst ht hw (text := "a code is 33 to 126") (names := ["java/lang/RuntimeException", "java/lang/Exception"]) (by decide) (by decide) xk_IAE xi_IAE xa_IAE (by decide) hl.1 dX5_append_12 dX5_append_15 dX5_append_16 dX5_append_18 dX5_append_21 hlk (by decide) (by decide) (by decide) (by decide) (by decide) (by decide) hQ
set_option maxHeartbeats 4000000 in
set_option maxRecDepth 100000 in
theorem x_X5_append_f (l : Launch) (G : Gl) (L : List Nat) (F : Nat → va_E) (ad : Nat → Nat) (hL : ∀ i, i < 166 → ad i ∈ L) (hin : ∀ i j, i < 166 → j < 166 → i ≠ j → ad i ≠ ad j) (A : AB) (x9 : Nat) (hx1 : 33 ≤ x9) (hx2 : x9 ≤ 126) (h60 : A.2.2.2.1 = 60) (hX : XW G F ad A) (hA : okA A) (hst : l.stackTraces = false) : XG l yX5_append cX5_append 2 (some .int) rx_X5_append G L F [.ref (ad 0), .int (nI (x9))] "java/lang/IllegalStateException" := by
  obtain ⟨fx, hn, hh, hsn, htx, hrk, ⟨u9, h134⟩, ⟨v9, h150⟩⟩ := hX
  obtain ⟨⟨hc2, hc, hpu, hok⟩, ⟨hh6, hho⟩, hso, hl60, hco⟩ := id hA
  refine XG_of (by decide) (Nat.le_of_ble_eq_true rfl) rfl ?_
  intro p e s m args below meth c Q C0 hXw hlk ht hQ hw ls hl
  have hx := C0.x
  have hb := C0.b
  refine lv_iload_n hx hb dX5_append_0 rfl (lv_at hl 1 rfl) ?_
  refine lv_bipush (v := nI 33) hx hb dX5_append_1 (by decide) ?_
  refine n_icmp_lt (tgt := 12) hx hb dX5_append_3 (by decide) (by omega) (by decide) (fun c_3 => ?_) (fun c_3 => ?_)
  · skip
    exact absurd c_3 (by omega)
  · skip
    refine lv_iload_n hx hb dX5_append_6 rfl (lv_at hl 1 rfl) ?_
    refine lv_bipush (v := nI 126) hx hb dX5_append_7 (by decide) ?_
    refine n_icmp_le (tgt := 22) hx hb dX5_append_9 (by decide) (by omega) (by decide) (fun c_9 => ?_) (fun c_9 => ?_)
    · skip
      refine lv_aload_n hx hb dX5_append_22 rfl (lv_at hl 0 rfl) ?_
      refine q_get C0 hw ((hL 0 (by omega))) fx fw_X5_37 rfl dX5_append_23 ?_
      refine q_calli hw (q_runV (As := []) (c_X4_isFull l G L F ad hL hin A.2.2.2 htx hco) C0 hw vw_X5_145 ((hL 5 (by omega))) htx.1 rfl rfl rfl hl.1 rfl (Nat.le_of_ble_eq_true rfl) dX5_append_26 ⟨by decide, by decide⟩ ⟨by decide, by decide⟩) rfl rfl (fun r_4951 F_4949 H locs hw hp_4950 => ?_)
      obtain ⟨he_4952, o_4953⟩ := hp_4950
      rw [if_pos (by omega)] at he_4952
      subst he_4952
      refine n_if_eq (tgt := 42) hx hb dX5_append_29 (by decide) (by decide) (fun c_29 => ?_) (fun c_29 => ?_)
      · skip
        exact absurd c_29 (by omega)
      · skip
        have e9 : F = F_4949 := (funext (fun q  => (o_4953 q ))).symm
        subst e9
        exact x_throw C0 hXw hst ht hw (text := "the buffer has 60 characters") (names := ["java/lang/RuntimeException", "java/lang/Exception"]) (by decide) (by decide) xk_ISE xi_ISE xa_ISE (by decide) hl.1 dX5_append_32 dX5_append_35 dX5_append_36 dX5_append_38 dX5_append_41 hlk (by decide) (by decide) (by decide) (by decide) (by decide) (by decide) hQ
    · skip
      exact absurd c_9 (by omega)
abbrev rx_X5_run : Room := { frames := 6, cells := 1, slots := 6, locals := 90 }
set_option maxHeartbeats 4000000 in
set_option maxRecDepth 100000 in
theorem x_X5_run (l : Launch) (G : Gl) (L : List Nat) (F : Nat → va_E) (ad : Nat → Nat) (hL : ∀ i, i < 166 → ad i ∈ L) (hin : ∀ i j, i < 166 → j < 166 → i ≠ j → ad i ≠ ad j) (A : AB) (hpr : ¬ isPr A.2.2.2) (hX : XW G F ad A) (hA : okA A) (hst : l.stackTraces = false) : XG l yX5_run cX5_run 2 (some .int) rx_X5_run G L F [.ref (ad 0)] "java/lang/IllegalArgumentException" := by
  obtain ⟨fx, hn, hh, hsn, htx, hrk, ⟨u9, h134⟩, ⟨v9, h150⟩⟩ := hX
  obtain ⟨⟨hc2, hc, hpu, hok⟩, ⟨hh6, hho⟩, hso, hl60, hco⟩ := id hA
  refine XG_of (by decide) (Nat.le_of_ble_eq_true rfl) rfl ?_
  intro p e s m args below meth c Q C0 hXw hlk ht hQ hw ls hl
  have hx := C0.x
  have hb := C0.b
  refine lv_aload_n hx hb dX5_run_0 rfl (lv_at hl 0 rfl) ?_
  refine q_get C0 hw ((hL 0 (by omega))) fx fw_X5_37 rfl dX5_run_1 ?_
  refine q_calli hw (q_runV (As := []) (c_X4_isProgram l G L F ad hL hin A.2.2.2 htx hco) C0 hw vw_X5_164 ((hL 5 (by omega))) htx.1 rfl rfl rfl hl.1 rfl (Nat.le_of_ble_eq_true rfl) dX5_run_4 ⟨by decide, by decide⟩ ⟨by decide, by decide⟩) rfl rfl (fun r_4956 F_4954 H locs hw hp_4955 => ?_)
  obtain ⟨he_4957, o_4958⟩ := hp_4955
  rw [if_neg hpr] at he_4957
  subst he_4957
  refine n_if_ne (tgt := 20) hx hb dX5_run_7 (by decide) (by decide) (fun c_7 => ?_) (fun c_7 => ?_)
  · skip
    exact absurd c_7 (by omega)
  · skip
    have e9 : F = F_4954 := (funext (fun q  => (o_4958 q ))).symm
    subst e9
    exact x_throw C0 hXw hst ht hw (text := "the buffer is not a complete program") (names := ["java/lang/RuntimeException", "java/lang/Exception"]) (by decide) (by decide) xk_IAE xi_IAE xa_IAE (by decide) hl.1 dX5_run_10 dX5_run_13 dX5_run_14 dX5_run_16 dX5_run_19 hlk (by decide) (by decide) (by decide) (by decide) (by decide) (by decide) hQ
set_option maxHeartbeats 4000000 in
set_option maxRecDepth 100000 in
theorem x_X5_restore_0 (l : Launch) (G : Gl) (L : List Nat) (F : Nat → va_E) (ad : Nat → Nat) (hL : ∀ i, i < 166 → ad i ∈ L) (hin : ∀ i j, i < 166 → j < 166 → i ≠ j → ad i ≠ ad j) (A : AB) (ht9 : (A.2.2.1 0).1 = false) (hX : XW G F ad A) (hA : okA A) (hst : l.stackTraces = false) : XG l yX5_restore cX5_restore 2 (some .int) rx_X5_restore G L F [.ref (ad 0), .int (nI (0))] "java/lang/IllegalStateException" := by
  obtain ⟨fx, hn, hh, hsn, htx, hrk, ⟨u9, h134⟩, ⟨v9, h150⟩⟩ := hX
  obtain ⟨⟨hc2, hc, hpu, hok⟩, ⟨hh6, hho⟩, hso, hl60, hco⟩ := id hA
  refine XG_of (by decide) (Nat.le_of_ble_eq_true rfl) rfl ?_
  intro p e s m args below meth c Q C0 hXw hlk ht hQ hw ls hl
  have hx := C0.x
  have hb := C0.b
  refine lv_iload_n hx hb dX5_restore_0 rfl (lv_at hl 1 rfl) ?_
  refine q_callv hw (q_runS (As := [.int (nI (0))]) (c_X5_needSnapshot l G L F 0 (by omega)) C0 hw sw_X5_172 rfl hl.1 rfl (Nat.le_of_ble_eq_true rfl) dX5_restore_1 ⟨by decide, by decide⟩ ⟨by decide, by decide⟩) rfl rfl (fun F_4959 H locs hw hp_4960 => ?_)
  refine lv_aload_n hx hb dX5_restore_4 rfl (lv_at hl 0 rfl) ?_
  have f_4961 : F_4959 (ad 0) = xO ad := (hp_4960 (ad 0) ).trans fx
  refine q_get C0 hw ((hL 0 (by omega))) f_4961 fw_X5_30 rfl dX5_restore_5 ?_
  refine lv_iload_n hx hb dX5_restore_8 rfl (lv_at hl 1 rfl) ?_
  have f_4962 : F_4959 (ad 4) = tkE G (fun j => (A.2.2.1 j).1) := (hp_4960 (ad 4) ).trans hsn.2.1
  refine q_zald C0 hw ((hL 4 (by omega))) f_4962 (0) (by omega) (by decide) (v := nI 0) (if_neg (by simp [ht9])) dX5_restore_9 ?_
  refine n_if_ne (tgt := 23) hx hb dX5_restore_10 (by decide) (by decide) (fun c_10 => ?_) (fun c_10 => ?_)
  · skip
    exact absurd c_10 (by omega)
  · skip
    have e9 : F = F_4959 := (funext (fun q  => (hp_4960 q ))).symm
    subst e9
    exact x_throw C0 hXw hst ht hw (text := "the snapshot was not taken") (names := ["java/lang/RuntimeException", "java/lang/Exception"]) (by decide) (by decide) xk_ISE xi_ISE xa_ISE (by decide) hl.1 dX5_restore_13 dX5_restore_16 dX5_restore_17 dX5_restore_19 dX5_restore_22 hlk (by decide) (by decide) (by decide) (by decide) (by decide) (by decide) hQ
set_option maxHeartbeats 4000000 in
set_option maxRecDepth 100000 in
theorem x_X5_restore_1 (l : Launch) (G : Gl) (L : List Nat) (F : Nat → va_E) (ad : Nat → Nat) (hL : ∀ i, i < 166 → ad i ∈ L) (hin : ∀ i j, i < 166 → j < 166 → i ≠ j → ad i ≠ ad j) (A : AB) (ht9 : (A.2.2.1 1).1 = false) (hX : XW G F ad A) (hA : okA A) (hst : l.stackTraces = false) : XG l yX5_restore cX5_restore 2 (some .int) rx_X5_restore G L F [.ref (ad 0), .int (nI (1))] "java/lang/IllegalStateException" := by
  obtain ⟨fx, hn, hh, hsn, htx, hrk, ⟨u9, h134⟩, ⟨v9, h150⟩⟩ := hX
  obtain ⟨⟨hc2, hc, hpu, hok⟩, ⟨hh6, hho⟩, hso, hl60, hco⟩ := id hA
  refine XG_of (by decide) (Nat.le_of_ble_eq_true rfl) rfl ?_
  intro p e s m args below meth c Q C0 hXw hlk ht hQ hw ls hl
  have hx := C0.x
  have hb := C0.b
  refine lv_iload_n hx hb dX5_restore_0 rfl (lv_at hl 1 rfl) ?_
  refine q_callv hw (q_runS (As := [.int (nI (1))]) (c_X5_needSnapshot l G L F 1 (by omega)) C0 hw sw_X5_172 rfl hl.1 rfl (Nat.le_of_ble_eq_true rfl) dX5_restore_1 ⟨by decide, by decide⟩ ⟨by decide, by decide⟩) rfl rfl (fun F_4963 H locs hw hp_4964 => ?_)
  refine lv_aload_n hx hb dX5_restore_4 rfl (lv_at hl 0 rfl) ?_
  have f_4965 : F_4963 (ad 0) = xO ad := (hp_4964 (ad 0) ).trans fx
  refine q_get C0 hw ((hL 0 (by omega))) f_4965 fw_X5_30 rfl dX5_restore_5 ?_
  refine lv_iload_n hx hb dX5_restore_8 rfl (lv_at hl 1 rfl) ?_
  have f_4966 : F_4963 (ad 4) = tkE G (fun j => (A.2.2.1 j).1) := (hp_4964 (ad 4) ).trans hsn.2.1
  refine q_zald C0 hw ((hL 4 (by omega))) f_4966 (1) (by omega) (by decide) (v := nI 0) (if_neg (by simp [ht9])) dX5_restore_9 ?_
  refine n_if_ne (tgt := 23) hx hb dX5_restore_10 (by decide) (by decide) (fun c_10 => ?_) (fun c_10 => ?_)
  · skip
    exact absurd c_10 (by omega)
  · skip
    have e9 : F = F_4963 := (funext (fun q  => (hp_4964 q ))).symm
    subst e9
    exact x_throw C0 hXw hst ht hw (text := "the snapshot was not taken") (names := ["java/lang/RuntimeException", "java/lang/Exception"]) (by decide) (by decide) xk_ISE xi_ISE xa_ISE (by decide) hl.1 dX5_restore_13 dX5_restore_16 dX5_restore_17 dX5_restore_19 dX5_restore_22 hlk (by decide) (by decide) (by decide) (by decide) (by decide) (by decide) hQ
abbrev rx_X5_undo : Room := { frames := 6, cells := 1, slots := 6, locals := 90 }
set_option maxHeartbeats 4000000 in
set_option maxRecDepth 100000 in
theorem x_X5_undo (l : Launch) (G : Gl) (L : List Nat) (F : Nat → va_E) (ad : Nat → Nat) (hL : ∀ i, i < 166 → ad i ∈ L) (hin : ∀ i j, i < 166 → j < 166 → i ≠ j → ad i ≠ ad j) (A : AB) (h9 : A.2.1.1 = 0) (hX : XW G F ad A) (hA : okA A) (hst : l.stackTraces = false) : XG l yX5_undo cX5_undo 1 (some .int) rx_X5_undo G L F [.ref (ad 0)] "java/lang/IllegalStateException" := by
  obtain ⟨fx, hn, hh, hsn, htx, hrk, ⟨u9, h134⟩, ⟨v9, h150⟩⟩ := hX
  obtain ⟨⟨hc2, hc, hpu, hok⟩, ⟨hh6, hho⟩, hso, hl60, hco⟩ := id hA
  refine XG_of (by decide) (Nat.le_of_ble_eq_true rfl) rfl ?_
  intro p e s m args below meth c Q C0 hXw hlk ht hQ hw ls hl
  have hx := C0.x
  have hb := C0.b
  refine lv_aload_n hx hb dX5_undo_0 rfl (lv_at hl 0 rfl) ?_
  refine q_get C0 hw ((hL 0 (by omega))) fx fw_X5_19 rfl dX5_undo_1 ?_
  obtain ⟨_, _, hf_4967, _⟩ := id hh
  refine q_get C0 hw ((hL 1 (by omega))) hf_4967 fw_X5_184 rfl dX5_undo_4 ?_
  refine n_if_ne (tgt := 20) hx hb dX5_undo_7 (by decide) (by omega) (fun c_7 => ?_) (fun c_7 => ?_)
  · skip
    exact absurd c_7 (by omega)
  · skip
    exact x_throw C0 hXw hst ht hw (text := "no state is saved") (names := ["java/lang/RuntimeException", "java/lang/Exception"]) (by decide) (by decide) xk_ISE xi_ISE xa_ISE (by decide) hl.1 dX5_undo_10 dX5_undo_13 dX5_undo_14 dX5_undo_16 dX5_undo_19 hlk (by decide) (by decide) (by decide) (by decide) (by decide) (by decide) hQ
set_option maxHeartbeats 4000000 in
set_option maxRecDepth 100000 in
theorem x_X5_value_w (l : Launch) (G : Gl) (L : List Nat) (F : Nat → va_E) (ad : Nat → Nat) (hL : ∀ i, i < 166 → ad i ∈ L) (hin : ∀ i j, i < 166 → j < 166 → i ≠ j → ad i ≠ ad j) (A : AB) (f9 : Nat) (hf9 : f9 < 6) (x9 : Int32) (z9 : Int32) (h90 : ¬ x9 = nI 0) (h91 : ¬ x9 = nI 1) (hX : XW G F ad A) (hA : okA A) (hst : l.stackTraces = false) : XG l yX5_value cX5_value 5 (some .int) rx_X5_value G L F [.ref (ad 0), .int (x9), .int (nI (f9)), .int (z9)] "java/lang/IllegalArgumentException" := by
  obtain ⟨fx, hn, hh, hsn, htx, hrk, ⟨u9, h134⟩, ⟨v9, h150⟩⟩ := hX
  obtain ⟨⟨hc2, hc, hpu, hok⟩, ⟨hh6, hho⟩, hso, hl60, hco⟩ := id hA
  refine XG_of (by decide) (Nat.le_of_ble_eq_true rfl) rfl ?_
  intro p e s m args below meth c Q C0 hXw hlk ht hQ hw ls hl
  have hx := C0.x
  have hb := C0.b
  refine lv_iload_n hx hb dX5_value_0 rfl (lv_at hl 2 rfl) ?_
  refine q_callv hw (q_runS (As := [.int (nI (f9))]) (c_X5_needSlot l G L F f9 (by omega)) C0 hw sw_X5_78 rfl hl.1 rfl (Nat.le_of_ble_eq_true rfl) dX5_value_1 ⟨by decide, by decide⟩ ⟨by decide, by decide⟩) rfl rfl (fun F_4968 H locs hw hp_4969 => ?_)
  refine lv_iload_n hx hb dX5_value_4 rfl (lv_at hl 1 rfl) ?_
  refine lv_if_eq (tgt := 23) hx hb dX5_value_5 (by decide) (fun c_5 => ?_) (fun c_5 => ?_)
  · skip
    exact absurd c_5 h90
  · skip
    refine lv_iload_n hx hb dX5_value_8 rfl (lv_at hl 1 rfl) ?_
    refine lv_iconst (v := nI 1) hx hb dX5_value_9 (by decide) ?_
    refine lv_icmp_eq (tgt := 23) hx hb dX5_value_10 (by decide) (fun c_10 => ?_) (fun c_10 => ?_)
    · skip
      exact absurd c_10 h91
    · skip
      have e9 : F = F_4968 := (funext (fun q  => (hp_4969 q ))).symm
      subst e9
      exact x_throw C0 hXw hst ht hw (text := "what is 0 or 1") (names := ["java/lang/RuntimeException", "java/lang/Exception"]) (by decide) (by decide) xk_IAE xi_IAE xa_IAE (by decide) hl.1 dX5_value_13 dX5_value_16 dX5_value_17 dX5_value_19 dX5_value_22 hlk (by decide) (by decide) (by decide) (by decide) (by decide) (by decide) hQ
