def digI (x : Int32) : Nat := if x = nI 98 ∨ x = nI 115 ∨ x = nI 99 ∨ x = nI 119 ∨ x = nI 112 then 2 else if x = nI 101 ∨ x = nI 108 ∨ x = nI 105 then 1 else 0
theorem digI_out {x : Int32} (h : x.toInt < 98 ∨ 119 < x.toInt) : digI x = 0 := by
  unfold digI
  rw [if_neg, if_neg]
  · rintro (rfl | rfl | rfl) <;> revert h <;> decide
  · rintro (rfl | rfl | rfl | rfl | rfl) <;> revert h <;> decide
theorem digI_in {x : Int32} (h : ¬ (x.toInt < 98 ∨ 119 < x.toInt)) : ∃ k, k < 22 ∧ x = nI (98 + k) := by
  refine ⟨(x.toInt - 98).toNat, by omega, ?_⟩
  apply Int32.toInt_inj.mp
  rw [nI_toInt (by omega)]
  omega
def cntA (A : AB) (k : Nat) : Nat := if k = 0 then A.1.1 else if k = 1 then A.1.2.1 else if k = 2 then cntR (fun i => A.1.2.2.2.2.2 i) 6 else if k = 3 then cntR (fun i => A.1.2.2.2.2.2 (6 + i)) 6 else if k = 4 then A.1.2.2.1 else if k = 5 then A.1.2.2.2.1 else if k = 6 then A.1.2.2.2.2.1 else if k = 7 then (if (A.2.2.1 0).1 then 1 else 0) + (if (A.2.2.1 1).1 then 1 else 0) else A.2.1.1
theorem lk_S {a b : Nat} (ha : a < 2 ^ 30) (hb : b < 2 ^ 30) : (if nI 0 < nI a - nI b then nI a - nI b else nI 0) = nI (a - b) := by
  rcases Nat.lt_or_ge b a with h | h
  · exact lk_B h ha
  · rw [lk_A h hb, show a - b = 0 by omega]
abbrev rm_X5_count : Room := { frames := 3, cells := 0, slots := 0, locals := 63 }
set_option maxHeartbeats 4000000 in
set_option maxRecDepth 100000 in
theorem c_X5_count_0 (l : Launch) (G : Gl) (L : List Nat) (F : Nat → va_E) (ad : Nat → Nat) (hL : ∀ i, i < 166 → ad i ∈ L) (hin : ∀ i j, i < 166 → j < 166 → i ≠ j → ad i ≠ ad j) (A : AB) (hX : XW G F ad A) (hA : okA A) : CI l yX5_count cX5_count 2 (some .int) rm_X5_count G L F [.ref (ad 0), .int (nI (0))] (fun r F1 => r = nI (cntA A 0) ∧ ∀ q, F1 q = F q) := by
  obtain ⟨fx, hn, hh, hsn, htx, hrk, ⟨u9, h134⟩, ⟨v9, h150⟩⟩ := hX
  obtain ⟨⟨hc2, hc, hpu, hok⟩, ⟨hh6, hho⟩, hso, hl60, hco⟩ := id hA
  refine CG_of (by decide) (Nat.le_of_ble_eq_true rfl) rfl ?_
  intro p e s m args below meth c Q C0 hr hlk hnm hQ hw ls hl
  have hx := C0.x
  have hb := C0.b
  refine lv_iload_n hx hb dX5_count_0 rfl (lv_at hl 1 rfl) ?_
  refine lv_tableIn (off := 51) (tgt := 52) hx hb dX5_count_1 (by decide) (by decide) rfl (by decide) ?_
  refine lv_aload_n hx hb dX5_count_52 rfl (lv_at hl 0 rfl) ?_
  refine q_get C0 hw ((hL 0 (by omega))) fx fw_X5_12 rfl dX5_count_53 ?_
  refine q_get C0 hw ((hL 22 (by omega))) hn.1 fw_X5_66 rfl dX5_count_56 ?_
  refine q_get C0 hw ((hL 23 (by omega))) hn.2.1 fw_X5_70 rfl dX5_count_59 ?_
  exact r_i C0 hr hlk hw (v := nI (A.1.1)) rfl ⟨rfl, (fun q  => rfl)⟩ (Nat.le_refl _) (Nat.le_refl _) dX5_count_62 hQ
set_option maxHeartbeats 4000000 in
set_option maxRecDepth 100000 in
theorem c_X5_count_1 (l : Launch) (G : Gl) (L : List Nat) (F : Nat → va_E) (ad : Nat → Nat) (hL : ∀ i, i < 166 → ad i ∈ L) (hin : ∀ i j, i < 166 → j < 166 → i ≠ j → ad i ≠ ad j) (A : AB) (hX : XW G F ad A) (hA : okA A) : CI l yX5_count cX5_count 2 (some .int) rm_X5_count G L F [.ref (ad 0), .int (nI (1))] (fun r F1 => r = nI (cntA A 1) ∧ ∀ q, F1 q = F q) := by
  obtain ⟨fx, hn, hh, hsn, htx, hrk, ⟨u9, h134⟩, ⟨v9, h150⟩⟩ := hX
  obtain ⟨⟨hc2, hc, hpu, hok⟩, ⟨hh6, hho⟩, hso, hl60, hco⟩ := id hA
  refine CG_of (by decide) (Nat.le_of_ble_eq_true rfl) rfl ?_
  intro p e s m args below meth c Q C0 hr hlk hnm hQ hw ls hl
  have hx := C0.x
  have hb := C0.b
  refine lv_iload_n hx hb dX5_count_0 rfl (lv_at hl 1 rfl) ?_
  refine lv_tableIn (off := 62) (tgt := 63) hx hb dX5_count_1 (by decide) (by decide) rfl (by decide) ?_
  refine lv_aload_n hx hb dX5_count_63 rfl (lv_at hl 0 rfl) ?_
  refine q_get C0 hw ((hL 0 (by omega))) fx fw_X5_12 rfl dX5_count_64 ?_
  refine q_get C0 hw ((hL 22 (by omega))) hn.1 fw_X5_98 rfl dX5_count_67 ?_
  exact r_i C0 hr hlk hw (v := nI (A.1.2.1)) rfl ⟨rfl, (fun q  => rfl)⟩ (Nat.le_refl _) (Nat.le_refl _) dX5_count_70 hQ
set_option maxHeartbeats 4000000 in
set_option maxRecDepth 100000 in
theorem c_X5_count_2 (l : Launch) (G : Gl) (L : List Nat) (F : Nat → va_E) (ad : Nat → Nat) (hL : ∀ i, i < 166 → ad i ∈ L) (hin : ∀ i j, i < 166 → j < 166 → i ≠ j → ad i ≠ ad j) (A : AB) (hX : XW G F ad A) (hA : okA A) : CI l yX5_count cX5_count 2 (some .int) rm_X5_count G L F [.ref (ad 0), .int (nI (2))] (fun r F1 => r = nI (cntA A 2) ∧ ∀ q, F1 q = F q) := by
  obtain ⟨fx, hn, hh, hsn, htx, hrk, ⟨u9, h134⟩, ⟨v9, h150⟩⟩ := hX
  obtain ⟨⟨hc2, hc, hpu, hok⟩, ⟨hh6, hho⟩, hso, hl60, hco⟩ := id hA
  refine CG_of (by decide) (Nat.le_of_ble_eq_true rfl) rfl ?_
  intro p e s m args below meth c Q C0 hr hlk hnm hQ hw ls hl
  have hx := C0.x
  have hb := C0.b
  refine lv_iload_n hx hb dX5_count_0 rfl (lv_at hl 1 rfl) ?_
  refine lv_tableIn (off := 70) (tgt := 71) hx hb dX5_count_1 (by decide) (by decide) rfl (by decide) ?_
  refine lv_aload_n hx hb dX5_count_71 rfl (lv_at hl 0 rfl) ?_
  refine q_get C0 hw ((hL 0 (by omega))) fx fw_X5_12 rfl dX5_count_72 ?_
  refine q_get C0 hw ((hL 22 (by omega))) hn.1 fw_X5_66 rfl dX5_count_75 ?_
  refine q_calli hw (q_runV (As := []) (c_X2_fieldsThatAreNotZero l G L F ad hL hin 22 A.1.1 A.1.2.2.2.2.2 hn.2 (by decide)) C0 hw vw_X5_179 ((hL 23 (by omega))) hn.2.1 rfl rfl rfl hl.1 rfl (Nat.le_of_ble_eq_true rfl) dX5_count_78 ⟨by decide, by decide⟩ ⟨by decide, by decide⟩) rfl rfl (fun r_2191 F_2189 H locs hw hp_2190 => ?_)
  obtain ⟨he_2192, o_2193⟩ := hp_2190
  subst he_2192
  exact r_i C0 hr hlk hw (v := nI (cntR (fun i => A.1.2.2.2.2.2 i) 6)) rfl ⟨rfl, (fun q  => (o_2193 q ))⟩ (Nat.le_refl _) (Nat.le_refl _) dX5_count_81 hQ
set_option maxHeartbeats 4000000 in
set_option maxRecDepth 100000 in
theorem c_X5_count_3 (l : Launch) (G : Gl) (L : List Nat) (F : Nat → va_E) (ad : Nat → Nat) (hL : ∀ i, i < 166 → ad i ∈ L) (hin : ∀ i j, i < 166 → j < 166 → i ≠ j → ad i ≠ ad j) (A : AB) (hX : XW G F ad A) (hA : okA A) : CI l yX5_count cX5_count 2 (some .int) rm_X5_count G L F [.ref (ad 0), .int (nI (3))] (fun r F1 => r = nI (cntA A 3) ∧ ∀ q, F1 q = F q) := by
  obtain ⟨fx, hn, hh, hsn, htx, hrk, ⟨u9, h134⟩, ⟨v9, h150⟩⟩ := hX
  obtain ⟨⟨hc2, hc, hpu, hok⟩, ⟨hh6, hho⟩, hso, hl60, hco⟩ := id hA
  refine CG_of (by decide) (Nat.le_of_ble_eq_true rfl) rfl ?_
  intro p e s m args below meth c Q C0 hr hlk hnm hQ hw ls hl
  have hx := C0.x
  have hb := C0.b
  refine lv_iload_n hx hb dX5_count_0 rfl (lv_at hl 1 rfl) ?_
  refine lv_tableIn (off := 81) (tgt := 82) hx hb dX5_count_1 (by decide) (by decide) rfl (by decide) ?_
  refine lv_aload_n hx hb dX5_count_82 rfl (lv_at hl 0 rfl) ?_
  refine q_get C0 hw ((hL 0 (by omega))) fx fw_X5_12 rfl dX5_count_83 ?_
  refine q_get C0 hw ((hL 22 (by omega))) hn.1 fw_X5_66 rfl dX5_count_86 ?_
  refine q_calli hw (q_runV (As := []) (c_X2_flowsThatAreNotX l G L F ad hL hin 22 A.1.1 A.1.2.2.2.2.2 hn.2 (by decide)) C0 hw vw_X5_234 ((hL 23 (by omega))) hn.2.1 rfl rfl rfl hl.1 rfl (Nat.le_of_ble_eq_true rfl) dX5_count_89 ⟨by decide, by decide⟩ ⟨by decide, by decide⟩) rfl rfl (fun r_2196 F_2194 H locs hw hp_2195 => ?_)
  obtain ⟨he_2197, o_2198⟩ := hp_2195
  subst he_2197
  exact r_i C0 hr hlk hw (v := nI (cntR (fun i => A.1.2.2.2.2.2 (6 + i)) 6)) rfl ⟨rfl, (fun q  => (o_2198 q ))⟩ (Nat.le_refl _) (Nat.le_refl _) dX5_count_92 hQ
set_option maxHeartbeats 4000000 in
set_option maxRecDepth 100000 in
theorem c_X5_count_4 (l : Launch) (G : Gl) (L : List Nat) (F : Nat → va_E) (ad : Nat → Nat) (hL : ∀ i, i < 166 → ad i ∈ L) (hin : ∀ i j, i < 166 → j < 166 → i ≠ j → ad i ≠ ad j) (A : AB) (hX : XW G F ad A) (hA : okA A) : CI l yX5_count cX5_count 2 (some .int) rm_X5_count G L F [.ref (ad 0), .int (nI (4))] (fun r F1 => r = nI (cntA A 4) ∧ ∀ q, F1 q = F q) := by
  obtain ⟨fx, hn, hh, hsn, htx, hrk, ⟨u9, h134⟩, ⟨v9, h150⟩⟩ := hX
  obtain ⟨⟨hc2, hc, hpu, hok⟩, ⟨hh6, hho⟩, hso, hl60, hco⟩ := id hA
  refine CG_of (by decide) (Nat.le_of_ble_eq_true rfl) rfl ?_
  intro p e s m args below meth c Q C0 hr hlk hnm hQ hw ls hl
  have hx := C0.x
  have hb := C0.b
  refine lv_iload_n hx hb dX5_count_0 rfl (lv_at hl 1 rfl) ?_
  refine lv_tableIn (off := 92) (tgt := 93) hx hb dX5_count_1 (by decide) (by decide) rfl (by decide) ?_
  refine lv_aload_n hx hb dX5_count_93 rfl (lv_at hl 0 rfl) ?_
  refine q_get C0 hw ((hL 0 (by omega))) fx fw_X5_12 rfl dX5_count_94 ?_
  refine q_get C0 hw ((hL 22 (by omega))) hn.1 fw_X5_237 rfl dX5_count_97 ?_
  exact r_i C0 hr hlk hw (v := nI (A.1.2.2.1)) rfl ⟨rfl, (fun q  => rfl)⟩ (Nat.le_refl _) (Nat.le_refl _) dX5_count_100 hQ
set_option maxHeartbeats 4000000 in
set_option maxRecDepth 100000 in
theorem c_X5_count_5 (l : Launch) (G : Gl) (L : List Nat) (F : Nat → va_E) (ad : Nat → Nat) (hL : ∀ i, i < 166 → ad i ∈ L) (hin : ∀ i j, i < 166 → j < 166 → i ≠ j → ad i ≠ ad j) (A : AB) (hX : XW G F ad A) (hA : okA A) : CI l yX5_count cX5_count 2 (some .int) rm_X5_count G L F [.ref (ad 0), .int (nI (5))] (fun r F1 => r = nI (cntA A 5) ∧ ∀ q, F1 q = F q) := by
  obtain ⟨fx, hn, hh, hsn, htx, hrk, ⟨u9, h134⟩, ⟨v9, h150⟩⟩ := hX
  obtain ⟨⟨hc2, hc, hpu, hok⟩, ⟨hh6, hho⟩, hso, hl60, hco⟩ := id hA
  refine CG_of (by decide) (Nat.le_of_ble_eq_true rfl) rfl ?_
  intro p e s m args below meth c Q C0 hr hlk hnm hQ hw ls hl
  have hx := C0.x
  have hb := C0.b
  refine lv_iload_n hx hb dX5_count_0 rfl (lv_at hl 1 rfl) ?_
  refine lv_tableIn (off := 100) (tgt := 101) hx hb dX5_count_1 (by decide) (by decide) rfl (by decide) ?_
  refine lv_aload_n hx hb dX5_count_101 rfl (lv_at hl 0 rfl) ?_
  refine q_get C0 hw ((hL 0 (by omega))) fx fw_X5_12 rfl dX5_count_102 ?_
  refine q_get C0 hw ((hL 22 (by omega))) hn.1 fw_X5_240 rfl dX5_count_105 ?_
  exact r_i C0 hr hlk hw (v := nI (A.1.2.2.2.1)) rfl ⟨rfl, (fun q  => rfl)⟩ (Nat.le_refl _) (Nat.le_refl _) dX5_count_108 hQ
set_option maxHeartbeats 4000000 in
set_option maxRecDepth 100000 in
theorem c_X5_count_6 (l : Launch) (G : Gl) (L : List Nat) (F : Nat → va_E) (ad : Nat → Nat) (hL : ∀ i, i < 166 → ad i ∈ L) (hin : ∀ i j, i < 166 → j < 166 → i ≠ j → ad i ≠ ad j) (A : AB) (hX : XW G F ad A) (hA : okA A) : CI l yX5_count cX5_count 2 (some .int) rm_X5_count G L F [.ref (ad 0), .int (nI (6))] (fun r F1 => r = nI (cntA A 6) ∧ ∀ q, F1 q = F q) := by
  obtain ⟨fx, hn, hh, hsn, htx, hrk, ⟨u9, h134⟩, ⟨v9, h150⟩⟩ := hX
  obtain ⟨⟨hc2, hc, hpu, hok⟩, ⟨hh6, hho⟩, hso, hl60, hco⟩ := id hA
  refine CG_of (by decide) (Nat.le_of_ble_eq_true rfl) rfl ?_
  intro p e s m args below meth c Q C0 hr hlk hnm hQ hw ls hl
  have hx := C0.x
  have hb := C0.b
  refine lv_iload_n hx hb dX5_count_0 rfl (lv_at hl 1 rfl) ?_
  refine lv_tableIn (off := 108) (tgt := 109) hx hb dX5_count_1 (by decide) (by decide) rfl (by decide) ?_
  refine lv_aload_n hx hb dX5_count_109 rfl (lv_at hl 0 rfl) ?_
  refine q_get C0 hw ((hL 0 (by omega))) fx fw_X5_12 rfl dX5_count_110 ?_
  refine q_get C0 hw ((hL 22 (by omega))) hn.1 fw_X5_243 rfl dX5_count_113 ?_
  exact r_i C0 hr hlk hw (v := nI (A.1.2.2.2.2.1)) rfl ⟨rfl, (fun q  => rfl)⟩ (Nat.le_refl _) (Nat.le_refl _) dX5_count_116 hQ
set_option maxHeartbeats 4000000 in
set_option maxRecDepth 100000 in
theorem c_X5_count_8 (l : Launch) (G : Gl) (L : List Nat) (F : Nat → va_E) (ad : Nat → Nat) (hL : ∀ i, i < 166 → ad i ∈ L) (hin : ∀ i j, i < 166 → j < 166 → i ≠ j → ad i ≠ ad j) (A : AB) (hX : XW G F ad A) (hA : okA A) : CI l yX5_count cX5_count 2 (some .int) rm_X5_count G L F [.ref (ad 0), .int (nI (8))] (fun r F1 => r = nI (cntA A 8) ∧ ∀ q, F1 q = F q) := by
  obtain ⟨fx, hn, hh, hsn, htx, hrk, ⟨u9, h134⟩, ⟨v9, h150⟩⟩ := hX
  obtain ⟨⟨hc2, hc, hpu, hok⟩, ⟨hh6, hho⟩, hso, hl60, hco⟩ := id hA
  obtain ⟨pi9, hx9, h19, -⟩ := id hh
  refine CG_of (by decide) (Nat.le_of_ble_eq_true rfl) rfl ?_
  intro p e s m args below meth c Q C0 hr hlk hnm hQ hw ls hl
  have hx := C0.x
  have hb := C0.b
  refine lv_iload_n hx hb dX5_count_0 rfl (lv_at hl 1 rfl) ?_
  refine lv_tableIn (off := 146) (tgt := 147) hx hb dX5_count_1 (by decide) (by decide) rfl (by decide) ?_
  refine lv_aload_n hx hb dX5_count_147 rfl (lv_at hl 0 rfl) ?_
  refine q_get C0 hw ((hL 0 (by omega))) fx fw_X5_19 rfl dX5_count_148 ?_
  refine q_get C0 hw ((hL 1 (by omega))) h19 fw_X5_184 rfl dX5_count_151 ?_
  exact r_i C0 hr hlk hw (v := nI (A.2.1.1)) rfl ⟨rfl, (fun q  => rfl)⟩ (Nat.le_refl _) (Nat.le_refl _) dX5_count_154 hQ
set_option maxHeartbeats 4000000 in
set_option maxRecDepth 100000 in
theorem c_X5_count_7_00 (l : Launch) (G : Gl) (L : List Nat) (F : Nat → va_E) (ad : Nat → Nat) (hL : ∀ i, i < 166 → ad i ∈ L) (hin : ∀ i j, i < 166 → j < 166 → i ≠ j → ad i ≠ ad j) (A : AB) (ht0 : (A.2.2.1 0).1 = false) (ht1 : (A.2.2.1 1).1 = false) (hX : XW G F ad A) (hA : okA A) : CI l yX5_count cX5_count 2 (some .int) rm_X5_count G L F [.ref (ad 0), .int (nI (7))] (fun r F1 => r = nI (cntA A 7) ∧ ∀ q, F1 q = F q) := by
  obtain ⟨fx, hn, hh, hsn, htx, hrk, ⟨u9, h134⟩, ⟨v9, h150⟩⟩ := hX
  obtain ⟨⟨hc2, hc, hpu, hok⟩, ⟨hh6, hho⟩, hso, hl60, hco⟩ := id hA
  refine CG_of (by decide) (Nat.le_of_ble_eq_true rfl) rfl ?_
  intro p e s m args below meth c Q C0 hr hlk hnm hQ hw ls hl
  have hx := C0.x
  have hb := C0.b
  refine lv_iload_n hx hb dX5_count_0 rfl (lv_at hl 1 rfl) ?_
  refine lv_tableIn (off := 116) (tgt := 117) hx hb dX5_count_1 (by decide) (by decide) rfl (by decide) ?_
  refine lv_aload_n hx hb dX5_count_117 rfl (lv_at hl 0 rfl) ?_
  refine q_get C0 hw ((hL 0 (by omega))) fx fw_X5_30 rfl dX5_count_118 ?_
  refine lv_iconst (v := nI 0) hx hb dX5_count_121 (by decide) ?_
  refine q_zald C0 hw ((hL 4 (by omega))) hsn.2.1 (0) (by omega) (by decide) (v := nI 0) (if_neg (by simp [ht0])) dX5_count_122 ?_
  refine n_if_eq (tgt := 130) hx hb dX5_count_123 (by decide) (by decide) (fun c_123 => ?_) (fun c_123 => ?_)
  · skip
    refine lv_iconst (v := nI 0) hx hb dX5_count_130 (by decide) ?_
    refine lv_aload_n hx hb dX5_count_131 rfl (lv_at hl 0 rfl) ?_
    refine q_get C0 hw ((hL 0 (by omega))) fx fw_X5_30 rfl dX5_count_132 ?_
    refine lv_iconst (v := nI 1) hx hb dX5_count_135 (by decide) ?_
    refine q_zald C0 hw ((hL 4 (by omega))) hsn.2.1 (1) (by omega) (by decide) (v := nI 0) (if_neg (by simp [ht1])) dX5_count_136 ?_
    refine n_if_eq (tgt := 144) hx hb dX5_count_137 (by decide) (by decide) (fun c_137 => ?_) (fun c_137 => ?_)
    · skip
      refine lv_iconst (v := nI 0) hx hb dX5_count_144 (by decide) ?_
      refine n_iadd hx hb dX5_count_145 ?_
      exact r_i C0 hr hlk hw (v := nI (0 + 0)) rfl ⟨(by simp [cntA, ht0, ht1]), (fun q  => rfl)⟩ (Nat.le_refl _) (Nat.le_refl _) dX5_count_146 hQ
    · skip
      exact absurd c_137 (by omega)
  · skip
    exact absurd c_123 (by omega)
set_option maxHeartbeats 4000000 in
set_option maxRecDepth 100000 in
theorem c_X5_count_7_01 (l : Launch) (G : Gl) (L : List Nat) (F : Nat → va_E) (ad : Nat → Nat) (hL : ∀ i, i < 166 → ad i ∈ L) (hin : ∀ i j, i < 166 → j < 166 → i ≠ j → ad i ≠ ad j) (A : AB) (ht0 : (A.2.2.1 0).1 = false) (ht1 : (A.2.2.1 1).1 = true) (hX : XW G F ad A) (hA : okA A) : CI l yX5_count cX5_count 2 (some .int) rm_X5_count G L F [.ref (ad 0), .int (nI (7))] (fun r F1 => r = nI (cntA A 7) ∧ ∀ q, F1 q = F q) := by
  obtain ⟨fx, hn, hh, hsn, htx, hrk, ⟨u9, h134⟩, ⟨v9, h150⟩⟩ := hX
  obtain ⟨⟨hc2, hc, hpu, hok⟩, ⟨hh6, hho⟩, hso, hl60, hco⟩ := id hA
  refine CG_of (by decide) (Nat.le_of_ble_eq_true rfl) rfl ?_
  intro p e s m args below meth c Q C0 hr hlk hnm hQ hw ls hl
  have hx := C0.x
  have hb := C0.b
  refine lv_iload_n hx hb dX5_count_0 rfl (lv_at hl 1 rfl) ?_
  refine lv_tableIn (off := 116) (tgt := 117) hx hb dX5_count_1 (by decide) (by decide) rfl (by decide) ?_
  refine lv_aload_n hx hb dX5_count_117 rfl (lv_at hl 0 rfl) ?_
  refine q_get C0 hw ((hL 0 (by omega))) fx fw_X5_30 rfl dX5_count_118 ?_
  refine lv_iconst (v := nI 0) hx hb dX5_count_121 (by decide) ?_
  refine q_zald C0 hw ((hL 4 (by omega))) hsn.2.1 (0) (by omega) (by decide) (v := nI 0) (if_neg (by simp [ht0])) dX5_count_122 ?_
  refine n_if_eq (tgt := 130) hx hb dX5_count_123 (by decide) (by decide) (fun c_123 => ?_) (fun c_123 => ?_)
  · skip
    refine lv_iconst (v := nI 0) hx hb dX5_count_130 (by decide) ?_
    refine lv_aload_n hx hb dX5_count_131 rfl (lv_at hl 0 rfl) ?_
    refine q_get C0 hw ((hL 0 (by omega))) fx fw_X5_30 rfl dX5_count_132 ?_
    refine lv_iconst (v := nI 1) hx hb dX5_count_135 (by decide) ?_
    refine q_zald C0 hw ((hL 4 (by omega))) hsn.2.1 (1) (by omega) (by decide) (v := nI 1) (if_pos (by simp [ht1])) dX5_count_136 ?_
    refine n_if_eq (tgt := 144) hx hb dX5_count_137 (by decide) (by decide) (fun c_137 => ?_) (fun c_137 => ?_)
    · skip
      exact absurd c_137 (by omega)
    · skip
      refine lv_iconst (v := nI 1) hx hb dX5_count_140 (by decide) ?_
      refine lv_goto (tgt := 145) hx hb dX5_count_141 (by decide) ?_
      refine n_iadd hx hb dX5_count_145 ?_
      exact r_i C0 hr hlk hw (v := nI (0 + 1)) rfl ⟨(by simp [cntA, ht0, ht1]), (fun q  => rfl)⟩ (Nat.le_refl _) (Nat.le_refl _) dX5_count_146 hQ
  · skip
    exact absurd c_123 (by omega)
set_option maxHeartbeats 4000000 in
set_option maxRecDepth 100000 in
theorem c_X5_count_7_10 (l : Launch) (G : Gl) (L : List Nat) (F : Nat → va_E) (ad : Nat → Nat) (hL : ∀ i, i < 166 → ad i ∈ L) (hin : ∀ i j, i < 166 → j < 166 → i ≠ j → ad i ≠ ad j) (A : AB) (ht0 : (A.2.2.1 0).1 = true) (ht1 : (A.2.2.1 1).1 = false) (hX : XW G F ad A) (hA : okA A) : CI l yX5_count cX5_count 2 (some .int) rm_X5_count G L F [.ref (ad 0), .int (nI (7))] (fun r F1 => r = nI (cntA A 7) ∧ ∀ q, F1 q = F q) := by
  obtain ⟨fx, hn, hh, hsn, htx, hrk, ⟨u9, h134⟩, ⟨v9, h150⟩⟩ := hX
  obtain ⟨⟨hc2, hc, hpu, hok⟩, ⟨hh6, hho⟩, hso, hl60, hco⟩ := id hA
  refine CG_of (by decide) (Nat.le_of_ble_eq_true rfl) rfl ?_
  intro p e s m args below meth c Q C0 hr hlk hnm hQ hw ls hl
  have hx := C0.x
  have hb := C0.b
  refine lv_iload_n hx hb dX5_count_0 rfl (lv_at hl 1 rfl) ?_
  refine lv_tableIn (off := 116) (tgt := 117) hx hb dX5_count_1 (by decide) (by decide) rfl (by decide) ?_
  refine lv_aload_n hx hb dX5_count_117 rfl (lv_at hl 0 rfl) ?_
  refine q_get C0 hw ((hL 0 (by omega))) fx fw_X5_30 rfl dX5_count_118 ?_
  refine lv_iconst (v := nI 0) hx hb dX5_count_121 (by decide) ?_
  refine q_zald C0 hw ((hL 4 (by omega))) hsn.2.1 (0) (by omega) (by decide) (v := nI 1) (if_pos (by simp [ht0])) dX5_count_122 ?_
  refine n_if_eq (tgt := 130) hx hb dX5_count_123 (by decide) (by decide) (fun c_123 => ?_) (fun c_123 => ?_)
  · skip
    exact absurd c_123 (by omega)
  · skip
    refine lv_iconst (v := nI 1) hx hb dX5_count_126 (by decide) ?_
    refine lv_goto (tgt := 131) hx hb dX5_count_127 (by decide) ?_
    refine lv_aload_n hx hb dX5_count_131 rfl (lv_at hl 0 rfl) ?_
    refine q_get C0 hw ((hL 0 (by omega))) fx fw_X5_30 rfl dX5_count_132 ?_
    refine lv_iconst (v := nI 1) hx hb dX5_count_135 (by decide) ?_
    refine q_zald C0 hw ((hL 4 (by omega))) hsn.2.1 (1) (by omega) (by decide) (v := nI 0) (if_neg (by simp [ht1])) dX5_count_136 ?_
    refine n_if_eq (tgt := 144) hx hb dX5_count_137 (by decide) (by decide) (fun c_137 => ?_) (fun c_137 => ?_)
    · skip
      refine lv_iconst (v := nI 0) hx hb dX5_count_144 (by decide) ?_
      refine n_iadd hx hb dX5_count_145 ?_
      exact r_i C0 hr hlk hw (v := nI (1 + 0)) rfl ⟨(by simp [cntA, ht0, ht1]), (fun q  => rfl)⟩ (Nat.le_refl _) (Nat.le_refl _) dX5_count_146 hQ
    · skip
      exact absurd c_137 (by omega)
set_option maxHeartbeats 4000000 in
set_option maxRecDepth 100000 in
theorem c_X5_count_7_11 (l : Launch) (G : Gl) (L : List Nat) (F : Nat → va_E) (ad : Nat → Nat) (hL : ∀ i, i < 166 → ad i ∈ L) (hin : ∀ i j, i < 166 → j < 166 → i ≠ j → ad i ≠ ad j) (A : AB) (ht0 : (A.2.2.1 0).1 = true) (ht1 : (A.2.2.1 1).1 = true) (hX : XW G F ad A) (hA : okA A) : CI l yX5_count cX5_count 2 (some .int) rm_X5_count G L F [.ref (ad 0), .int (nI (7))] (fun r F1 => r = nI (cntA A 7) ∧ ∀ q, F1 q = F q) := by
  obtain ⟨fx, hn, hh, hsn, htx, hrk, ⟨u9, h134⟩, ⟨v9, h150⟩⟩ := hX
  obtain ⟨⟨hc2, hc, hpu, hok⟩, ⟨hh6, hho⟩, hso, hl60, hco⟩ := id hA
  refine CG_of (by decide) (Nat.le_of_ble_eq_true rfl) rfl ?_
  intro p e s m args below meth c Q C0 hr hlk hnm hQ hw ls hl
  have hx := C0.x
  have hb := C0.b
  refine lv_iload_n hx hb dX5_count_0 rfl (lv_at hl 1 rfl) ?_
  refine lv_tableIn (off := 116) (tgt := 117) hx hb dX5_count_1 (by decide) (by decide) rfl (by decide) ?_
  refine lv_aload_n hx hb dX5_count_117 rfl (lv_at hl 0 rfl) ?_
  refine q_get C0 hw ((hL 0 (by omega))) fx fw_X5_30 rfl dX5_count_118 ?_
  refine lv_iconst (v := nI 0) hx hb dX5_count_121 (by decide) ?_
  refine q_zald C0 hw ((hL 4 (by omega))) hsn.2.1 (0) (by omega) (by decide) (v := nI 1) (if_pos (by simp [ht0])) dX5_count_122 ?_
  refine n_if_eq (tgt := 130) hx hb dX5_count_123 (by decide) (by decide) (fun c_123 => ?_) (fun c_123 => ?_)
  · skip
    exact absurd c_123 (by omega)
  · skip
    refine lv_iconst (v := nI 1) hx hb dX5_count_126 (by decide) ?_
    refine lv_goto (tgt := 131) hx hb dX5_count_127 (by decide) ?_
    refine lv_aload_n hx hb dX5_count_131 rfl (lv_at hl 0 rfl) ?_
    refine q_get C0 hw ((hL 0 (by omega))) fx fw_X5_30 rfl dX5_count_132 ?_
    refine lv_iconst (v := nI 1) hx hb dX5_count_135 (by decide) ?_
    refine q_zald C0 hw ((hL 4 (by omega))) hsn.2.1 (1) (by omega) (by decide) (v := nI 1) (if_pos (by simp [ht1])) dX5_count_136 ?_
    refine n_if_eq (tgt := 144) hx hb dX5_count_137 (by decide) (by decide) (fun c_137 => ?_) (fun c_137 => ?_)
    · skip
      exact absurd c_137 (by omega)
    · skip
      refine lv_iconst (v := nI 1) hx hb dX5_count_140 (by decide) ?_
      refine lv_goto (tgt := 145) hx hb dX5_count_141 (by decide) ?_
      refine n_iadd hx hb dX5_count_145 ?_
      exact r_i C0 hr hlk hw (v := nI (1 + 1)) rfl ⟨(by simp [cntA, ht0, ht1]), (fun q  => rfl)⟩ (Nat.le_refl _) (Nat.le_refl _) dX5_count_146 hQ
theorem c_X5_count_7 (l : Launch) (G : Gl) (L : List Nat) (F : Nat → va_E) (ad : Nat → Nat) (hL : ∀ i, i < 166 → ad i ∈ L) (hin : ∀ i j, i < 166 → j < 166 → i ≠ j → ad i ≠ ad j) (A : AB) (hX : XW G F ad A) (hA : okA A) : CI l yX5_count cX5_count 2 (some .int) rm_X5_count G L F [.ref (ad 0), .int (nI (7))] (fun r F1 => r = nI (cntA A 7) ∧ ∀ q, F1 q = F q) := by
  rcases h0 : (A.2.2.1 0).1 with _ | _ <;> rcases h1 : (A.2.2.1 1).1 with _ | _
  · exact c_X5_count_7_00 l G L F ad hL hin A h0 h1 hX hA
  · exact c_X5_count_7_01 l G L F ad hL hin A h0 h1 hX hA
  · exact c_X5_count_7_10 l G L F ad hL hin A h0 h1 hX hA
  · exact c_X5_count_7_11 l G L F ad hL hin A h0 h1 hX hA
