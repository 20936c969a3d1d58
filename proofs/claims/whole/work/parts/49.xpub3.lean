def digI (x : Int32) : Nat := if x = nI 98 ∨ x = nI 115 ∨ x = nI 99 ∨ x = nI 119 ∨ x = nI 112 then 2 else if x = nI 101 ∨ x = nI 108 ∨ x = nI 105 then 1 else 0
theorem digI_out {x : Int32} (h : x.toInt < 98 ∨ 119 < x.toInt) : digI x = 0 := by
  unfold digI
  rw [if_neg, if_neg]
  · rintro (rfl | rfl | rfl) <;> revert h <;> decide
  · rintro (rfl | rfl | rfl | rfl | rfl) <;> revert h <;> decide
theorem digI_in {x : Int32} (h : ¬ (x.toInt < 98 ∨ 119 < x.toInt)) : ∃ k, k < 22 ∧ x = nI (98 + k) := by
  refine ⟨(x.toInt - 98).toNat, by omega, ?_⟩
  apply Int32.toInt_inj.mp
  rw [nI_toInt (by omega)]
  omega
def cntA (A : AB) (k : Nat) : Nat := if k = 0 then A.1.1 else if k = 1 then A.1.2.1 else if k = 2 then cntR (fun i => A.1.2.2.2.2.2 i) 6 else if k = 3 then cntR (fun i => A.1.2.2.2.2.2 (6 + i)) 6 else if k = 4 then A.1.2.2.1 else if k = 5 then A.1.2.2.2.1 else if k = 6 then A.1.2.2.2.2.1 else if k = 7 then (if (A.2.2.1 0).1 then 1 else 0) + (if (A.2.2.1 1).1 then 1 else 0) else A.2.1.1
theorem lk_S {a b : Nat} (ha : a < 2 ^ 30) (hb : b < 2 ^ 30) : (if nI 0 < nI a - nI b then nI a - nI b else nI 0) = nI (a - b) := by
  rcases Nat.lt_or_ge b a with h | h
  · exact lk_B h ha
  · rw [lk_A h hb, show a - b = 0 by omega]
abbrev rm_X4_digitsOf : Room := { frames := 0, cells := 0, slots := 0, locals := 0 }
set_option maxHeartbeats 4000000 in
set_option maxRecDepth 100000 in
theorem c_X4_digitsOf_98 (l : Launch) (G : Gl) (L : List Nat) (F : Nat → va_E) : CI l yX4_digitsOf cX4_digitsOf 1 (some .int) rm_X4_digitsOf G L F [.int (nI (98))] (fun r F1 => r = nI 2 ∧ ∀ q, F1 q = F q) := by
  refine CG_of (by decide) (Nat.le_of_ble_eq_true rfl) rfl ?_
  intro p e s m args below meth c Q C0 hr hlk hnm hQ hw ls hl
  have hx := C0.x
  have hb := C0.b
  refine lv_iload_n hx hb dX4_digitsOf_0 rfl (lv_at hl 0 rfl) ?_
  refine lv_tableIn (off := 103) (tgt := 104) hx hb dX4_digitsOf_1 (by decide) (by decide) rfl (by decide) ?_
  refine lv_iconst (v := nI 2) hx hb dX4_digitsOf_104 (by decide) ?_
  exact r_i C0 hr hlk hw (v := nI 2) rfl ⟨rfl, (fun q  => rfl)⟩ (Nat.le_refl _) (Nat.le_refl _) dX4_digitsOf_105 hQ
set_option maxHeartbeats 4000000 in
set_option maxRecDepth 100000 in
theorem c_X4_digitsOf_99 (l : Launch) (G : Gl) (L : List Nat) (F : Nat → va_E) : CI l yX4_digitsOf cX4_digitsOf 1 (some .int) rm_X4_digitsOf G L F [.int (nI (99))] (fun r F1 => r = nI 2 ∧ ∀ q, F1 q = F q) := by
  refine CG_of (by decide) (Nat.le_of_ble_eq_true rfl) rfl ?_
  intro p e s m args below meth c Q C0 hr hlk hnm hQ hw ls hl
  have hx := C0.x
  have hb := C0.b
  refine lv_iload_n hx hb dX4_digitsOf_0 rfl (lv_at hl 0 rfl) ?_
  refine lv_tableIn (off := 103) (tgt := 104) hx hb dX4_digitsOf_1 (by decide) (by decide) rfl (by decide) ?_
  refine lv_iconst (v := nI 2) hx hb dX4_digitsOf_104 (by decide) ?_
  exact r_i C0 hr hlk hw (v := nI 2) rfl ⟨rfl, (fun q  => rfl)⟩ (Nat.le_refl _) (Nat.le_refl _) dX4_digitsOf_105 hQ
set_option maxHeartbeats 4000000 in
set_option maxRecDepth 100000 in
theorem c_X4_digitsOf_100 (l : Launch) (G : Gl) (L : List Nat) (F : Nat → va_E) : CI l yX4_digitsOf cX4_digitsOf 1 (some .int) rm_X4_digitsOf G L F [.int (nI (100))] (fun r F1 => r = nI 0 ∧ ∀ q, F1 q = F q) := by
  refine CG_of (by decide) (Nat.le_of_ble_eq_true rfl) rfl ?_
  intro p e s m args below meth c Q C0 hr hlk hnm hQ hw ls hl
  have hx := C0.x
  have hb := C0.b
  refine lv_iload_n hx hb dX4_digitsOf_0 rfl (lv_at hl 0 rfl) ?_
  refine lv_tableIn (off := 107) (tgt := 108) hx hb dX4_digitsOf_1 (by decide) (by decide) rfl (by decide) ?_
  refine lv_iconst (v := nI 0) hx hb dX4_digitsOf_108 (by decide) ?_
  exact r_i C0 hr hlk hw (v := nI 0) rfl ⟨rfl, (fun q  => rfl)⟩ (Nat.le_refl _) (Nat.le_refl _) dX4_digitsOf_109 hQ
set_option maxHeartbeats 4000000 in
set_option maxRecDepth 100000 in
theorem c_X4_digitsOf_101 (l : Launch) (G : Gl) (L : List Nat) (F : Nat → va_E) : CI l yX4_digitsOf cX4_digitsOf 1 (some .int) rm_X4_digitsOf G L F [.int (nI (101))] (fun r F1 => r = nI 1 ∧ ∀ q, F1 q = F q) := by
  refine CG_of (by decide) (Nat.le_of_ble_eq_true rfl) rfl ?_
  intro p e s m args below meth c Q C0 hr hlk hnm hQ hw ls hl
  have hx := C0.x
  have hb := C0.b
  refine lv_iload_n hx hb dX4_digitsOf_0 rfl (lv_at hl 0 rfl) ?_
  refine lv_tableIn (off := 105) (tgt := 106) hx hb dX4_digitsOf_1 (by decide) (by decide) rfl (by decide) ?_
  refine lv_iconst (v := nI 1) hx hb dX4_digitsOf_106 (by decide) ?_
  exact r_i C0 hr hlk hw (v := nI 1) rfl ⟨rfl, (fun q  => rfl)⟩ (Nat.le_refl _) (Nat.le_refl _) dX4_digitsOf_107 hQ
set_option maxHeartbeats 4000000 in
set_option maxRecDepth 100000 in
theorem c_X4_digitsOf_102 (l : Launch) (G : Gl) (L : List Nat) (F : Nat → va_E) : CI l yX4_digitsOf cX4_digitsOf 1 (some .int) rm_X4_digitsOf G L F [.int (nI (102))] (fun r F1 => r = nI 0 ∧ ∀ q, F1 q = F q) := by
  refine CG_of (by decide) (Nat.le_of_ble_eq_true rfl) rfl ?_
  intro p e s m args below meth c Q C0 hr hlk hnm hQ hw ls hl
  have hx := C0.x
  have hb := C0.b
  refine lv_iload_n hx hb dX4_digitsOf_0 rfl (lv_at hl 0 rfl) ?_
  refine lv_tableIn (off := 107) (tgt := 108) hx hb dX4_digitsOf_1 (by decide) (by decide) rfl (by decide) ?_
  refine lv_iconst (v := nI 0) hx hb dX4_digitsOf_108 (by decide) ?_
  exact r_i C0 hr hlk hw (v := nI 0) rfl ⟨rfl, (fun q  => rfl)⟩ (Nat.le_refl _) (Nat.le_refl _) dX4_digitsOf_109 hQ
set_option maxHeartbeats 4000000 in
set_option maxRecDepth 100000 in
theorem c_X4_digitsOf_103 (l : Launch) (G : Gl) (L : List Nat) (F : Nat → va_E) : CI l yX4_digitsOf cX4_digitsOf 1 (some .int) rm_X4_digitsOf G L F [.int (nI (103))] (fun r F1 => r = nI 0 ∧ ∀ q, F1 q = F q) := by
  refine CG_of (by decide) (Nat.le_of_ble_eq_true rfl) rfl ?_
  intro p e s m args below meth c Q C0 hr hlk hnm hQ hw ls hl
  have hx := C0.x
  have hb := C0.b
  refine lv_iload_n hx hb dX4_digitsOf_0 rfl (lv_at hl 0 rfl) ?_
  refine lv_tableIn (off := 107) (tgt := 108) hx hb dX4_digitsOf_1 (by decide) (by decide) rfl (by decide) ?_
  refine lv_iconst (v := nI 0) hx hb dX4_digitsOf_108 (by decide) ?_
  exact r_i C0 hr hlk hw (v := nI 0) rfl ⟨rfl, (fun q  => rfl)⟩ (Nat.le_refl _) (Nat.le_refl _) dX4_digitsOf_109 hQ
set_option maxHeartbeats 4000000 in
set_option maxRecDepth 100000 in
theorem c_X4_digitsOf_104 (l : Launch) (G : Gl) (L : List Nat) (F : Nat → va_E) : CI l yX4_digitsOf cX4_digitsOf 1 (some .int) rm_X4_digitsOf G L F [.int (nI (104))] (fun r F1 => r = nI 0 ∧ ∀ q, F1 q = F q) := by
  refine CG_of (by decide) (Nat.le_of_ble_eq_true rfl) rfl ?_
  intro p e s m args below meth c Q C0 hr hlk hnm hQ hw ls hl
  have hx := C0.x
  have hb := C0.b
  refine lv_iload_n hx hb dX4_digitsOf_0 rfl (lv_at hl 0 rfl) ?_
  refine lv_tableIn (off := 107) (tgt := 108) hx hb dX4_digitsOf_1 (by decide) (by decide) rfl (by decide) ?_
  refine lv_iconst (v := nI 0) hx hb dX4_digitsOf_108 (by decide) ?_
  exact r_i C0 hr hlk hw (v := nI 0) rfl ⟨rfl, (fun q  => rfl)⟩ (Nat.le_refl _) (Nat.le_refl _) dX4_digitsOf_109 hQ
set_option maxHeartbeats 4000000 in
set_option maxRecDepth 100000 in
theorem c_X4_digitsOf_105 (l : Launch) (G : Gl) (L : List Nat) (F : Nat → va_E) : CI l yX4_digitsOf cX4_digitsOf 1 (some .int) rm_X4_digitsOf G L F [.int (nI (105))] (fun r F1 => r = nI 1 ∧ ∀ q, F1 q = F q) := by
  refine CG_of (by decide) (Nat.le_of_ble_eq_true rfl) rfl ?_
  intro p e s m args below meth c Q C0 hr hlk hnm hQ hw ls hl
  have hx := C0.x
  have hb := C0.b
  refine lv_iload_n hx hb dX4_digitsOf_0 rfl (lv_at hl 0 rfl) ?_
  refine lv_tableIn (off := 105) (tgt := 106) hx hb dX4_digitsOf_1 (by decide) (by decide) rfl (by decide) ?_
  refine lv_iconst (v := nI 1) hx hb dX4_digitsOf_106 (by decide) ?_
  exact r_i C0 hr hlk hw (v := nI 1) rfl ⟨rfl, (fun q  => rfl)⟩ (Nat.le_refl _) (Nat.le_refl _) dX4_digitsOf_107 hQ
set_option maxHeartbeats 4000000 in
set_option maxRecDepth 100000 in
theorem c_X4_digitsOf_106 (l : Launch) (G : Gl) (L : List Nat) (F : Nat → va_E) : CI l yX4_digitsOf cX4_digitsOf 1 (some .int) rm_X4_digitsOf G L F [.int (nI (106))] (fun r F1 => r = nI 0 ∧ ∀ q, F1 q = F q) := by
  refine CG_of (by decide) (Nat.le_of_ble_eq_true rfl) rfl ?_
  intro p e s m args below meth c Q C0 hr hlk hnm hQ hw ls hl
  have hx := C0.x
  have hb := C0.b
  refine lv_iload_n hx hb dX4_digitsOf_0 rfl (lv_at hl 0 rfl) ?_
  refine lv_tableIn (off := 107) (tgt := 108) hx hb dX4_digitsOf_1 (by decide) (by decide) rfl (by decide) ?_
  refine lv_iconst (v := nI 0) hx hb dX4_digitsOf_108 (by decide) ?_
  exact r_i C0 hr hlk hw (v := nI 0) rfl ⟨rfl, (fun q  => rfl)⟩ (Nat.le_refl _) (Nat.le_refl _) dX4_digitsOf_109 hQ
set_option maxHeartbeats 4000000 in
set_option maxRecDepth 100000 in
theorem c_X4_digitsOf_107 (l : Launch) (G : Gl) (L : List Nat) (F : Nat → va_E) : CI l yX4_digitsOf cX4_digitsOf 1 (some .int) rm_X4_digitsOf G L F [.int (nI (107))] (fun r F1 => r = nI 0 ∧ ∀ q, F1 q = F q) := by
  refine CG_of (by decide) (Nat.le_of_ble_eq_true rfl) rfl ?_
  intro p e s m args below meth c Q C0 hr hlk hnm hQ hw ls hl
  have hx := C0.x
  have hb := C0.b
  refine lv_iload_n hx hb dX4_digitsOf_0 rfl (lv_at hl 0 rfl) ?_
  refine lv_tableIn (off := 107) (tgt := 108) hx hb dX4_digitsOf_1 (by decide) (by decide) rfl (by decide) ?_
  refine lv_iconst (v := nI 0) hx hb dX4_digitsOf_108 (by decide) ?_
  exact r_i C0 hr hlk hw (v := nI 0) rfl ⟨rfl, (fun q  => rfl)⟩ (Nat.le_refl _) (Nat.le_refl _) dX4_digitsOf_109 hQ
set_option maxHeartbeats 4000000 in
set_option maxRecDepth 100000 in
theorem c_X4_digitsOf_108 (l : Launch) (G : Gl) (L : List Nat) (F : Nat → va_E) : CI l yX4_digitsOf cX4_digitsOf 1 (some .int) rm_X4_digitsOf G L F [.int (nI (108))] (fun r F1 => r = nI 1 ∧ ∀ q, F1 q = F q) := by
  refine CG_of (by decide) (Nat.le_of_ble_eq_true rfl) rfl ?_
  intro p e s m args below meth c Q C0 hr hlk hnm hQ hw ls hl
  have hx := C0.x
  have hb := C0.b
  refine lv_iload_n hx hb dX4_digitsOf_0 rfl (lv_at hl 0 rfl) ?_
  refine lv_tableIn (off := 105) (tgt := 106) hx hb dX4_digitsOf_1 (by decide) (by decide) rfl (by decide) ?_
  refine lv_iconst (v := nI 1) hx hb dX4_digitsOf_106 (by decide) ?_
  exact r_i C0 hr hlk hw (v := nI 1) rfl ⟨rfl, (fun q  => rfl)⟩ (Nat.le_refl _) (Nat.le_refl _) dX4_digitsOf_107 hQ
set_option maxHeartbeats 4000000 in
set_option maxRecDepth 100000 in
theorem c_X4_digitsOf_109 (l : Launch) (G : Gl) (L : List Nat) (F : Nat → va_E) : CI l yX4_digitsOf cX4_digitsOf 1 (some .int) rm_X4_digitsOf G L F [.int (nI (109))] (fun r F1 => r = nI 0 ∧ ∀ q, F1 q = F q) := by
  refine CG_of (by decide) (Nat.le_of_ble_eq_true rfl) rfl ?_
  intro p e s m args below meth c Q C0 hr hlk hnm hQ hw ls hl
  have hx := C0.x
  have hb := C0.b
  refine lv_iload_n hx hb dX4_digitsOf_0 rfl (lv_at hl 0 rfl) ?_
  refine lv_tableIn (off := 107) (tgt := 108) hx hb dX4_digitsOf_1 (by decide) (by decide) rfl (by decide) ?_
  refine lv_iconst (v := nI 0) hx hb dX4_digitsOf_108 (by decide) ?_
  exact r_i C0 hr hlk hw (v := nI 0) rfl ⟨rfl, (fun q  => rfl)⟩ (Nat.le_refl _) (Nat.le_refl _) dX4_digitsOf_109 hQ
set_option maxHeartbeats 4000000 in
set_option maxRecDepth 100000 in
theorem c_X4_digitsOf_110 (l : Launch) (G : Gl) (L : List Nat) (F : Nat → va_E) : CI l yX4_digitsOf cX4_digitsOf 1 (some .int) rm_X4_digitsOf G L F [.int (nI (110))] (fun r F1 => r = nI 0 ∧ ∀ q, F1 q = F q) := by
  refine CG_of (by decide) (Nat.le_of_ble_eq_true rfl) rfl ?_
  intro p e s m args below meth c Q C0 hr hlk hnm hQ hw ls hl
  have hx := C0.x
  have hb := C0.b
  refine lv_iload_n hx hb dX4_digitsOf_0 rfl (lv_at hl 0 rfl) ?_
  refine lv_tableIn (off := 107) (tgt := 108) hx hb dX4_digitsOf_1 (by decide) (by decide) rfl (by decide) ?_
  refine lv_iconst (v := nI 0) hx hb dX4_digitsOf_108 (by decide) ?_
  exact r_i C0 hr hlk hw (v := nI 0) rfl ⟨rfl, (fun q  => rfl)⟩ (Nat.le_refl _) (Nat.le_refl _) dX4_digitsOf_109 hQ
set_option maxHeartbeats 4000000 in
set_option maxRecDepth 100000 in
theorem c_X4_digitsOf_111 (l : Launch) (G : Gl) (L : List Nat) (F : Nat → va_E) : CI l yX4_digitsOf cX4_digitsOf 1 (some .int) rm_X4_digitsOf G L F [.int (nI (111))] (fun r F1 => r = nI 0 ∧ ∀ q, F1 q = F q) := by
  refine CG_of (by decide) (Nat.le_of_ble_eq_true rfl) rfl ?_
  intro p e s m args below meth c Q C0 hr hlk hnm hQ hw ls hl
  have hx := C0.x
  have hb := C0.b
  refine lv_iload_n hx hb dX4_digitsOf_0 rfl (lv_at hl 0 rfl) ?_
  refine lv_tableIn (off := 107) (tgt := 108) hx hb dX4_digitsOf_1 (by decide) (by decide) rfl (by decide) ?_
  refine lv_iconst (v := nI 0) hx hb dX4_digitsOf_108 (by decide) ?_
  exact r_i C0 hr hlk hw (v := nI 0) rfl ⟨rfl, (fun q  => rfl)⟩ (Nat.le_refl _) (Nat.le_refl _) dX4_digitsOf_109 hQ
set_option maxHeartbeats 4000000 in
set_option maxRecDepth 100000 in
theorem c_X4_digitsOf_112 (l : Launch) (G : Gl) (L : List Nat) (F : Nat → va_E) : CI l yX4_digitsOf cX4_digitsOf 1 (some .int) rm_X4_digitsOf G L F [.int (nI (112))] (fun r F1 => r = nI 2 ∧ ∀ q, F1 q = F q) := by
  refine CG_of (by decide) (Nat.le_of_ble_eq_true rfl) rfl ?_
  intro p e s m args below meth c Q C0 hr hlk hnm hQ hw ls hl
  have hx := C0.x
  have hb := C0.b
  refine lv_iload_n hx hb dX4_digitsOf_0 rfl (lv_at hl 0 rfl) ?_
  refine lv_tableIn (off := 103) (tgt := 104) hx hb dX4_digitsOf_1 (by decide) (by decide) rfl (by decide) ?_
  refine lv_iconst (v := nI 2) hx hb dX4_digitsOf_104 (by decide) ?_
  exact r_i C0 hr hlk hw (v := nI 2) rfl ⟨rfl, (fun q  => rfl)⟩ (Nat.le_refl _) (Nat.le_refl _) dX4_digitsOf_105 hQ
set_option maxHeartbeats 4000000 in
set_option maxRecDepth 100000 in
theorem c_X4_digitsOf_113 (l : Launch) (G : Gl) (L : List Nat) (F : Nat → va_E) : CI l yX4_digitsOf cX4_digitsOf 1 (some .int) rm_X4_digitsOf G L F [.int (nI (113))] (fun r F1 => r = nI 0 ∧ ∀ q, F1 q = F q) := by
  refine CG_of (by decide) (Nat.le_of_ble_eq_true rfl) rfl ?_
  intro p e s m args below meth c Q C0 hr hlk hnm hQ hw ls hl
  have hx := C0.x
  have hb := C0.b
  refine lv_iload_n hx hb dX4_digitsOf_0 rfl (lv_at hl 0 rfl) ?_
  refine lv_tableIn (off := 107) (tgt := 108) hx hb dX4_digitsOf_1 (by decide) (by decide) rfl (by decide) ?_
  refine lv_iconst (v := nI 0) hx hb dX4_digitsOf_108 (by decide) ?_
  exact r_i C0 hr hlk hw (v := nI 0) rfl ⟨rfl, (fun q  => rfl)⟩ (Nat.le_refl _) (Nat.le_refl _) dX4_digitsOf_109 hQ
set_option maxHeartbeats 4000000 in
set_option maxRecDepth 100000 in
theorem c_X4_digitsOf_114 (l : Launch) (G : Gl) (L : List Nat) (F : Nat → va_E) : CI l yX4_digitsOf cX4_digitsOf 1 (some .int) rm_X4_digitsOf G L F [.int (nI (114))] (fun r F1 => r = nI 0 ∧ ∀ q, F1 q = F q) := by
  refine CG_of (by decide) (Nat.le_of_ble_eq_true rfl) rfl ?_
  intro p e s m args below meth c Q C0 hr hlk hnm hQ hw ls hl
  have hx := C0.x
  have hb := C0.b
  refine lv_iload_n hx hb dX4_digitsOf_0 rfl (lv_at hl 0 rfl) ?_
  refine lv_tableIn (off := 107) (tgt := 108) hx hb dX4_digitsOf_1 (by decide) (by decide) rfl (by decide) ?_
  refine lv_iconst (v := nI 0) hx hb dX4_digitsOf_108 (by decide) ?_
  exact r_i C0 hr hlk hw (v := nI 0) rfl ⟨rfl, (fun q  => rfl)⟩ (Nat.le_refl _) (Nat.le_refl _) dX4_digitsOf_109 hQ
set_option maxHeartbeats 4000000 in
set_option maxRecDepth 100000 in
theorem c_X4_digitsOf_115 (l : Launch) (G : Gl) (L : List Nat) (F : Nat → va_E) : CI l yX4_digitsOf cX4_digitsOf 1 (some .int) rm_X4_digitsOf G L F [.int (nI (115))] (fun r F1 => r = nI 2 ∧ ∀ q, F1 q = F q) := by
  refine CG_of (by decide) (Nat.le_of_ble_eq_true rfl) rfl ?_
  intro p e s m args below meth c Q C0 hr hlk hnm hQ hw ls hl
  have hx := C0.x
  have hb := C0.b
  refine lv_iload_n hx hb dX4_digitsOf_0 rfl (lv_at hl 0 rfl) ?_
  refine lv_tableIn (off := 103) (tgt := 104) hx hb dX4_digitsOf_1 (by decide) (by decide) rfl (by decide) ?_
  refine lv_iconst (v := nI 2) hx hb dX4_digitsOf_104 (by decide) ?_
  exact r_i C0 hr hlk hw (v := nI 2) rfl ⟨rfl, (fun q  => rfl)⟩ (Nat.le_refl _) (Nat.le_refl _) dX4_digitsOf_105 hQ
set_option maxHeartbeats 4000000 in
set_option maxRecDepth 100000 in
theorem c_X4_digitsOf_116 (l : Launch) (G : Gl) (L : List Nat) (F : Nat → va_E) : CI l yX4_digitsOf cX4_digitsOf 1 (some .int) rm_X4_digitsOf G L F [.int (nI (116))] (fun r F1 => r = nI 0 ∧ ∀ q, F1 q = F q) := by
  refine CG_of (by decide) (Nat.le_of_ble_eq_true rfl) rfl ?_
  intro p e s m args below meth c Q C0 hr hlk hnm hQ hw ls hl
  have hx := C0.x
  have hb := C0.b
  refine lv_iload_n hx hb dX4_digitsOf_0 rfl (lv_at hl 0 rfl) ?_
  refine lv_tableIn (off := 107) (tgt := 108) hx hb dX4_digitsOf_1 (by decide) (by decide) rfl (by decide) ?_
  refine lv_iconst (v := nI 0) hx hb dX4_digitsOf_108 (by decide) ?_
  exact r_i C0 hr hlk hw (v := nI 0) rfl ⟨rfl, (fun q  => rfl)⟩ (Nat.le_refl _) (Nat.le_refl _) dX4_digitsOf_109 hQ
set_option maxHeartbeats 4000000 in
set_option maxRecDepth 100000 in
theorem c_X4_digitsOf_117 (l : Launch) (G : Gl) (L : List Nat) (F : Nat → va_E) : CI l yX4_digitsOf cX4_digitsOf 1 (some .int) rm_X4_digitsOf G L F [.int (nI (117))] (fun r F1 => r = nI 0 ∧ ∀ q, F1 q = F q) := by
  refine CG_of (by decide) (Nat.le_of_ble_eq_true rfl) rfl ?_
  intro p e s m args below meth c Q C0 hr hlk hnm hQ hw ls hl
  have hx := C0.x
  have hb := C0.b
  refine lv_iload_n hx hb dX4_digitsOf_0 rfl (lv_at hl 0 rfl) ?_
  refine lv_tableIn (off := 107) (tgt := 108) hx hb dX4_digitsOf_1 (by decide) (by decide) rfl (by decide) ?_
  refine lv_iconst (v := nI 0) hx hb dX4_digitsOf_108 (by decide) ?_
  exact r_i C0 hr hlk hw (v := nI 0) rfl ⟨rfl, (fun q  => rfl)⟩ (Nat.le_refl _) (Nat.le_refl _) dX4_digitsOf_109 hQ
set_option maxHeartbeats 4000000 in
set_option maxRecDepth 100000 in
theorem c_X4_digitsOf_118 (l : Launch) (G : Gl) (L : List Nat) (F : Nat → va_E) : CI l yX4_digitsOf cX4_digitsOf 1 (some .int) rm_X4_digitsOf G L F [.int (nI (118))] (fun r F1 => r = nI 0 ∧ ∀ q, F1 q = F q) := by
  refine CG_of (by decide) (Nat.le_of_ble_eq_true rfl) rfl ?_
  intro p e s m args below meth c Q C0 hr hlk hnm hQ hw ls hl
  have hx := C0.x
  have hb := C0.b
  refine lv_iload_n hx hb dX4_digitsOf_0 rfl (lv_at hl 0 rfl) ?_
  refine lv_tableIn (off := 107) (tgt := 108) hx hb dX4_digitsOf_1 (by decide) (by decide) rfl (by decide) ?_
  refine lv_iconst (v := nI 0) hx hb dX4_digitsOf_108 (by decide) ?_
  exact r_i C0 hr hlk hw (v := nI 0) rfl ⟨rfl, (fun q  => rfl)⟩ (Nat.le_refl _) (Nat.le_refl _) dX4_digitsOf_109 hQ
set_option maxHeartbeats 4000000 in
set_option maxRecDepth 100000 in
theorem c_X4_digitsOf_119 (l : Launch) (G : Gl) (L : List Nat) (F : Nat → va_E) : CI l yX4_digitsOf cX4_digitsOf 1 (some .int) rm_X4_digitsOf G L F [.int (nI (119))] (fun r F1 => r = nI 2 ∧ ∀ q, F1 q = F q) := by
  refine CG_of (by decide) (Nat.le_of_ble_eq_true rfl) rfl ?_
  intro p e s m args below meth c Q C0 hr hlk hnm hQ hw ls hl
  have hx := C0.x
  have hb := C0.b
  refine lv_iload_n hx hb dX4_digitsOf_0 rfl (lv_at hl 0 rfl) ?_
  refine lv_tableIn (off := 103) (tgt := 104) hx hb dX4_digitsOf_1 (by decide) (by decide) rfl (by decide) ?_
  refine lv_iconst (v := nI 2) hx hb dX4_digitsOf_104 (by decide) ?_
  exact r_i C0 hr hlk hw (v := nI 2) rfl ⟨rfl, (fun q  => rfl)⟩ (Nat.le_refl _) (Nat.le_refl _) dX4_digitsOf_105 hQ
set_option maxHeartbeats 4000000 in
set_option maxRecDepth 100000 in
theorem c_X4_digitsOf_out (l : Launch) (G : Gl) (L : List Nat) (F : Nat → va_E) (x : Int32) (h9 : x.toInt < 98 ∨ 119 < x.toInt) : CI l yX4_digitsOf cX4_digitsOf 1 (some .int) rm_X4_digitsOf G L F [.int (x)] (fun r F1 => r = nI (digI (x)) ∧ ∀ q, F1 q = F q) := by
  refine CG_of (by decide) (Nat.le_of_ble_eq_true rfl) rfl ?_
  intro p e s m args below meth c Q C0 hr hlk hnm hQ hw ls hl
  have hx := C0.x
  have hb := C0.b
  refine lv_iload_n hx hb dX4_digitsOf_0 rfl (lv_at hl 0 rfl) ?_
  refine lv_tableOut (tgt := 108) hx hb dX4_digitsOf_1 h9 (by decide) ?_
  refine lv_iconst (v := nI 0) hx hb dX4_digitsOf_108 (by decide) ?_
  exact r_i C0 hr hlk hw (v := nI 0) rfl ⟨(by rw [digI_out h9]), (fun q  => rfl)⟩ (Nat.le_refl _) (Nat.le_refl _) dX4_digitsOf_109 hQ
theorem c_X4_digitsOf (l : Launch) (G : Gl) (L : List Nat) (F : Nat → va_E) (x : Int32) : CI l yX4_digitsOf cX4_digitsOf 1 (some .int) rm_X4_digitsOf G L F [.int x] (fun r F1 => r = nI (digI (x)) ∧ ∀ q, F1 q = F q) := by
  by_cases h : x.toInt < 98 ∨ 119 < x.toInt
  · exact c_X4_digitsOf_out l G L F x h
  · obtain ⟨k, hk, rfl⟩ := digI_in h
    match k, hk with
    | 0, _ => exact c_X4_digitsOf_98 l G L F
    | 1, _ => exact c_X4_digitsOf_99 l G L F
    | 2, _ => exact c_X4_digitsOf_100 l G L F
    | 3, _ => exact c_X4_digitsOf_101 l G L F
    | 4, _ => exact c_X4_digitsOf_102 l G L F
    | 5, _ => exact c_X4_digitsOf_103 l G L F
    | 6, _ => exact c_X4_digitsOf_104 l G L F
    | 7, _ => exact c_X4_digitsOf_105 l G L F
    | 8, _ => exact c_X4_digitsOf_106 l G L F
    | 9, _ => exact c_X4_digitsOf_107 l G L F
    | 10, _ => exact c_X4_digitsOf_108 l G L F
    | 11, _ => exact c_X4_digitsOf_109 l G L F
    | 12, _ => exact c_X4_digitsOf_110 l G L F
    | 13, _ => exact c_X4_digitsOf_111 l G L F
    | 14, _ => exact c_X4_digitsOf_112 l G L F
    | 15, _ => exact c_X4_digitsOf_113 l G L F
    | 16, _ => exact c_X4_digitsOf_114 l G L F
    | 17, _ => exact c_X4_digitsOf_115 l G L F
    | 18, _ => exact c_X4_digitsOf_116 l G L F
    | 19, _ => exact c_X4_digitsOf_117 l G L F
    | 20, _ => exact c_X4_digitsOf_118 l G L F
    | 21, _ => exact c_X4_digitsOf_119 l G L F
    | k + 22, h9 => exact absurd h9 (by omega)
abbrev rm_J9_max_7cf53 : Room := { frames := 0, cells := 0, slots := 0, locals := 0 }
set_option maxHeartbeats 4000000 in
set_option maxRecDepth 100000 in
theorem c_J9_max_7cf53 (l : Launch) (G : Gl) (L : List Nat) (F : Nat → va_E) (x y : Int32) : CI l yJ9_max_7cf53 cJ9_max_7cf53 2 (some .int) rm_J9_max_7cf53 G L F [.int (x), .int (y)] (fun r F1 => r = (if x < y then y else x) ∧ ∀ q, F1 q = F q) := by
  refine CG_ofF (by decide +kernel) (Nat.le_of_ble_eq_true rfl) rfl ?_
  intro p e s m args below meth c Q C0 hr hlk hnm hQ hw ls hl
  have hx := C0.x
  have hb := C0.b
  refine lv_iload_n hx hb dJ9_max_7cf53_0 rfl (lv_at hl 0 rfl) ?_
  refine lv_iload_n hx hb dJ9_max_7cf53_1 rfl (lv_at hl 1 rfl) ?_
  refine lv_icmp_lt (tgt := 9) hx hb dJ9_max_7cf53_2 (by decide) (fun c_2 => ?_) (fun c_2 => ?_)
  · skip
    refine lv_iload_n hx hb dJ9_max_7cf53_9 rfl (lv_at hl 1 rfl) ?_
    exact r_i C0 hr hlk hw (v := y) rfl ⟨(if_pos c_2).symm, (fun q  => rfl)⟩ (Nat.le_refl _) (Nat.le_refl _) dJ9_max_7cf53_10 hQ
  · skip
    refine lv_iload_n hx hb dJ9_max_7cf53_5 rfl (lv_at hl 0 rfl) ?_
    refine lv_goto (tgt := 10) hx hb dJ9_max_7cf53_6 (by decide) ?_
    exact r_i C0 hr hlk hw (v := x) rfl ⟨(if_neg c_2).symm, (fun q  => rfl)⟩ (Nat.le_refl _) (Nat.le_refl _) dJ9_max_7cf53_10 hQ
abbrev rm_X5_lacks : Room := { frames := 1, cells := 0, slots := 0, locals := 21 }
set_option maxHeartbeats 4000000 in
set_option maxRecDepth 100000 in
theorem c_X5_lacks_98 (l : Launch) (G : Gl) (L : List Nat) (F : Nat → va_E) (ad : Nat → Nat) (hL : ∀ i, i < 166 → ad i ∈ L) (hin : ∀ i j, i < 166 → j < 166 → i ≠ j → ad i ≠ ad j) (A : AB) (hX : XW G F ad A) (hA : okA A) : CI l yX5_lacks cX5_lacks 2 (some .int) rm_X5_lacks G L F [.ref (ad 0), .int (nI (98))] (fun r F1 => r = nI (2 * A.1.1 - A.1.2.1) ∧ ∀ q, F1 q = F q) := by
  obtain ⟨fx, hn, hh, hsn, htx, hrk, ⟨u9, h134⟩, ⟨v9, h150⟩⟩ := hX
  obtain ⟨⟨hc2, hc, hpu, hok⟩, ⟨hh6, hho⟩, hso, hl60, hco⟩ := id hA
  refine CG_of (by decide) (Nat.le_of_ble_eq_true rfl) rfl ?_
  intro p e s m args below meth c Q C0 hr hlk hnm hQ hw ls hl
  have hx := C0.x
  have hb := C0.b
  refine lv_iload_n hx hb dX5_lacks_0 rfl (lv_at hl 1 rfl) ?_
  refine q_calli hw (q_runS (As := [.int (nI (98))]) (c_X4_digitsOf_98 l G L F ) C0 hw sw_X5_220 rfl hl.1 rfl (Nat.le_of_ble_eq_true rfl) dX5_lacks_1 ⟨by decide, by decide⟩ ⟨by decide, by decide⟩) rfl rfl (fun r_3558 F_3556 H locs hw hp_3557 => ?_)
  obtain ⟨he_3559, o_3560⟩ := hp_3557
  subst he_3559
  refine n_if_ne (tgt := 17) hx hb dX5_lacks_4 (by decide) (by decide) (fun c_4 => ?_) (fun c_4 => ?_)
  · skip
    refine lv_iconst (v := nI 0) hx hb dX5_lacks_17 (by decide) ?_
    refine lv_aload_n hx hb dX5_lacks_18 rfl (lv_at hl 0 rfl) ?_
    refine lv_iload_n hx hb dX5_lacks_19 rfl (lv_at hl 1 rfl) ?_
    refine q_calli hw (q_runS (As := [.int (nI (98))]) (c_X5_unitsOf_98 l G L F_3556 ) C0 hw sw_X5_225 rfl hl.1 rfl (Nat.le_of_ble_eq_true rfl) dX5_lacks_20 ⟨by decide, by decide⟩ ⟨by decide, by decide⟩) rfl rfl (fun r_3563 F_3561 H locs hw hp_3562 => ?_)
    obtain ⟨he_3564, o_3565⟩ := hp_3562
    subst he_3564
    have f_3566 : F_3556 (ad 0) = xO ad := (o_3560 (ad 0) ).trans fx
    have f_3567 : F_3561 (ad 0) = xO ad := (o_3565 (ad 0) ).trans f_3566
    refine q_calli hw (q_runV (As := [.int (nI (2))]) (c_X5_costOf l G L F_3561 ad hL hin 2 A.1 f_3567 (hn.keep (fun i0 hi => ((o_3565 (ad (i0)) )).trans ((o_3560 (ad (i0)) ))))) C0 hw vw_X5_228 ((hL 0 (by omega))) f_3567 rfl rfl rfl hl.1 rfl (Nat.le_of_ble_eq_true rfl) dX5_lacks_23 ⟨by decide, by decide⟩ ⟨by decide, by decide⟩) rfl rfl (fun r_3570 F_3568 H locs hw hp_3569 => ?_)
    obtain ⟨he_3571, o_3572⟩ := hp_3569
    subst he_3571
    refine lv_aload_n hx hb dX5_lacks_26 rfl (lv_at hl 0 rfl) ?_
    have f_3573 : F_3568 (ad 0) = xO ad := (o_3572 (ad 0) ).trans f_3567
    refine q_get C0 hw ((hL 0 (by omega))) f_3573 fw_X5_12 rfl dX5_lacks_27 ?_
    have f_3574 : F_3556 (ad 22) = .inr (3, [.ref (ad 23), .int (nI (A.1.2.1)), .int (nI (A.1.2.2.1)), .int (nI (A.1.2.2.2.1)), .int (nI (A.1.2.2.2.2.1))]) := (o_3560 (ad 22) ).trans hn.1
    have f_3575 : F_3561 (ad 22) = .inr (3, [.ref (ad 23), .int (nI (A.1.2.1)), .int (nI (A.1.2.2.1)), .int (nI (A.1.2.2.2.1)), .int (nI (A.1.2.2.2.2.1))]) := (o_3565 (ad 22) ).trans f_3574
    have f_3576 : F_3568 (ad 22) = .inr (3, [.ref (ad 23), .int (nI (A.1.2.1)), .int (nI (A.1.2.2.1)), .int (nI (A.1.2.2.2.1)), .int (nI (A.1.2.2.2.2.1))]) := (o_3572 (ad 22) ).trans f_3575
    refine q_get C0 hw ((hL 22 (by omega))) f_3576 fw_X5_98 rfl dX5_lacks_30 ?_
    refine lv_isub hx hb dX5_lacks_33 ?_
    refine q_calli hw (q_runS (As := [.int (nI (0)), .int ((nI (2 * A.1.1)) - (nI (A.1.2.1)))]) (c_J9_max_7cf53 l G L F_3568 (nI 0) (((nI (2 * A.1.1)) - (nI (A.1.2.1))))) C0 hw sw_X5_231 rfl hl.1 rfl (Nat.le_of_ble_eq_true rfl) dX5_lacks_34 ⟨by decide, by decide⟩ ⟨by decide, by decide⟩) rfl rfl (fun r_3579 F_3577 H locs hw hp_3578 => ?_)
    obtain ⟨he_3580, o_3581⟩ := hp_3578
    subst he_3580
    exact r_i C0 hr hlk hw (v := (if nI 0 < ((nI (2 * A.1.1)) - (nI (A.1.2.1))) then ((nI (2 * A.1.1)) - (nI (A.1.2.1))) else nI 0)) rfl ⟨lk_S (by omega) (by omega), (fun q  => ((o_3581 q ).trans ((o_3572 q ).trans ((o_3565 q ).trans (o_3560 q )))))⟩ (Nat.le_refl _) (Nat.le_refl _) dX5_lacks_37 hQ
  · skip
    exact absurd c_4 (by omega)
set_option maxHeartbeats 4000000 in
set_option maxRecDepth 100000 in
theorem c_X5_lacks_115 (l : Launch) (G : Gl) (L : List Nat) (F : Nat → va_E) (ad : Nat → Nat) (hL : ∀ i, i < 166 → ad i ∈ L) (hin : ∀ i j, i < 166 → j < 166 → i ≠ j → ad i ≠ ad j) (A : AB) (hX : XW G F ad A) (hA : okA A) : CI l yX5_lacks cX5_lacks 2 (some .int) rm_X5_lacks G L F [.ref (ad 0), .int (nI (115))] (fun r F1 => r = nI (1 * A.1.1 - A.1.2.1) ∧ ∀ q, F1 q = F q) := by
  obtain ⟨fx, hn, hh, hsn, htx, hrk, ⟨u9, h134⟩, ⟨v9, h150⟩⟩ := hX
  obtain ⟨⟨hc2, hc, hpu, hok⟩, ⟨hh6, hho⟩, hso, hl60, hco⟩ := id hA
  refine CG_of (by decide) (Nat.le_of_ble_eq_true rfl) rfl ?_
  intro p e s m args below meth c Q C0 hr hlk hnm hQ hw ls hl
  have hx := C0.x
  have hb := C0.b
  refine lv_iload_n hx hb dX5_lacks_0 rfl (lv_at hl 1 rfl) ?_
  refine q_calli hw (q_runS (As := [.int (nI (115))]) (c_X4_digitsOf_115 l G L F ) C0 hw sw_X5_220 rfl hl.1 rfl (Nat.le_of_ble_eq_true rfl) dX5_lacks_1 ⟨by decide, by decide⟩ ⟨by decide, by decide⟩) rfl rfl (fun r_3584 F_3582 H locs hw hp_3583 => ?_)
  obtain ⟨he_3585, o_3586⟩ := hp_3583
  subst he_3585
  refine n_if_ne (tgt := 17) hx hb dX5_lacks_4 (by decide) (by decide) (fun c_4 => ?_) (fun c_4 => ?_)
  · skip
    refine lv_iconst (v := nI 0) hx hb dX5_lacks_17 (by decide) ?_
    refine lv_aload_n hx hb dX5_lacks_18 rfl (lv_at hl 0 rfl) ?_
    refine lv_iload_n hx hb dX5_lacks_19 rfl (lv_at hl 1 rfl) ?_
    refine q_calli hw (q_runS (As := [.int (nI (115))]) (c_X5_unitsOf_115 l G L F_3582 ) C0 hw sw_X5_225 rfl hl.1 rfl (Nat.le_of_ble_eq_true rfl) dX5_lacks_20 ⟨by decide, by decide⟩ ⟨by decide, by decide⟩) rfl rfl (fun r_3589 F_3587 H locs hw hp_3588 => ?_)
    obtain ⟨he_3590, o_3591⟩ := hp_3588
    subst he_3590
    have f_3592 : F_3582 (ad 0) = xO ad := (o_3586 (ad 0) ).trans fx
    have f_3593 : F_3587 (ad 0) = xO ad := (o_3591 (ad 0) ).trans f_3592
    refine q_calli hw (q_runV (As := [.int (nI (1))]) (c_X5_costOf l G L F_3587 ad hL hin 1 A.1 f_3593 (hn.keep (fun i0 hi => ((o_3591 (ad (i0)) )).trans ((o_3586 (ad (i0)) ))))) C0 hw vw_X5_228 ((hL 0 (by omega))) f_3593 rfl rfl rfl hl.1 rfl (Nat.le_of_ble_eq_true rfl) dX5_lacks_23 ⟨by decide, by decide⟩ ⟨by decide, by decide⟩) rfl rfl (fun r_3596 F_3594 H locs hw hp_3595 => ?_)
    obtain ⟨he_3597, o_3598⟩ := hp_3595
    subst he_3597
    refine lv_aload_n hx hb dX5_lacks_26 rfl (lv_at hl 0 rfl) ?_
    have f_3599 : F_3594 (ad 0) = xO ad := (o_3598 (ad 0) ).trans f_3593
    refine q_get C0 hw ((hL 0 (by omega))) f_3599 fw_X5_12 rfl dX5_lacks_27 ?_
    have f_3600 : F_3582 (ad 22) = .inr (3, [.ref (ad 23), .int (nI (A.1.2.1)), .int (nI (A.1.2.2.1)), .int (nI (A.1.2.2.2.1)), .int (nI (A.1.2.2.2.2.1))]) := (o_3586 (ad 22) ).trans hn.1
    have f_3601 : F_3587 (ad 22) = .inr (3, [.ref (ad 23), .int (nI (A.1.2.1)), .int (nI (A.1.2.2.1)), .int (nI (A.1.2.2.2.1)), .int (nI (A.1.2.2.2.2.1))]) := (o_3591 (ad 22) ).trans f_3600
    have f_3602 : F_3594 (ad 22) = .inr (3, [.ref (ad 23), .int (nI (A.1.2.1)), .int (nI (A.1.2.2.1)), .int (nI (A.1.2.2.2.1)), .int (nI (A.1.2.2.2.2.1))]) := (o_3598 (ad 22) ).trans f_3601
    refine q_get C0 hw ((hL 22 (by omega))) f_3602 fw_X5_98 rfl dX5_lacks_30 ?_
    refine lv_isub hx hb dX5_lacks_33 ?_
    refine q_calli hw (q_runS (As := [.int (nI (0)), .int ((nI (1 * A.1.1)) - (nI (A.1.2.1)))]) (c_J9_max_7cf53 l G L F_3594 (nI 0) (((nI (1 * A.1.1)) - (nI (A.1.2.1))))) C0 hw sw_X5_231 rfl hl.1 rfl (Nat.le_of_ble_eq_true rfl) dX5_lacks_34 ⟨by decide, by decide⟩ ⟨by decide, by decide⟩) rfl rfl (fun r_3605 F_3603 H locs hw hp_3604 => ?_)
    obtain ⟨he_3606, o_3607⟩ := hp_3604
    subst he_3606
    exact r_i C0 hr hlk hw (v := (if nI 0 < ((nI (1 * A.1.1)) - (nI (A.1.2.1))) then ((nI (1 * A.1.1)) - (nI (A.1.2.1))) else nI 0)) rfl ⟨lk_S (by omega) (by omega), (fun q  => ((o_3607 q ).trans ((o_3598 q ).trans ((o_3591 q ).trans (o_3586 q )))))⟩ (Nat.le_refl _) (Nat.le_refl _) dX5_lacks_37 hQ
  · skip
    exact absurd c_4 (by omega)
set_option maxHeartbeats 4000000 in
set_option maxRecDepth 100000 in
theorem c_X5_lacks_119 (l : Launch) (G : Gl) (L : List Nat) (F : Nat → va_E) (ad : Nat → Nat) (hL : ∀ i, i < 166 → ad i ∈ L) (hin : ∀ i j, i < 166 → j < 166 → i ≠ j → ad i ≠ ad j) (A : AB) (hX : XW G F ad A) (hA : okA A) : CI l yX5_lacks cX5_lacks 2 (some .int) rm_X5_lacks G L F [.ref (ad 0), .int (nI (119))] (fun r F1 => r = nI (20 * A.1.1 - A.1.2.1) ∧ ∀ q, F1 q = F q) := by
  obtain ⟨fx, hn, hh, hsn, htx, hrk, ⟨u9, h134⟩, ⟨v9, h150⟩⟩ := hX
  obtain ⟨⟨hc2, hc, hpu, hok⟩, ⟨hh6, hho⟩, hso, hl60, hco⟩ := id hA
  refine CG_of (by decide) (Nat.le_of_ble_eq_true rfl) rfl ?_
  intro p e s m args below meth c Q C0 hr hlk hnm hQ hw ls hl
  have hx := C0.x
  have hb := C0.b
  refine lv_iload_n hx hb dX5_lacks_0 rfl (lv_at hl 1 rfl) ?_
  refine q_calli hw (q_runS (As := [.int (nI (119))]) (c_X4_digitsOf_119 l G L F ) C0 hw sw_X5_220 rfl hl.1 rfl (Nat.le_of_ble_eq_true rfl) dX5_lacks_1 ⟨by decide, by decide⟩ ⟨by decide, by decide⟩) rfl rfl (fun r_3610 F_3608 H locs hw hp_3609 => ?_)
  obtain ⟨he_3611, o_3612⟩ := hp_3609
  subst he_3611
  refine n_if_ne (tgt := 17) hx hb dX5_lacks_4 (by decide) (by decide) (fun c_4 => ?_) (fun c_4 => ?_)
  · skip
    refine lv_iconst (v := nI 0) hx hb dX5_lacks_17 (by decide) ?_
    refine lv_aload_n hx hb dX5_lacks_18 rfl (lv_at hl 0 rfl) ?_
    refine lv_iload_n hx hb dX5_lacks_19 rfl (lv_at hl 1 rfl) ?_
    refine q_calli hw (q_runS (As := [.int (nI (119))]) (c_X5_unitsOf_119 l G L F_3608 ) C0 hw sw_X5_225 rfl hl.1 rfl (Nat.le_of_ble_eq_true rfl) dX5_lacks_20 ⟨by decide, by decide⟩ ⟨by decide, by decide⟩) rfl rfl (fun r_3615 F_3613 H locs hw hp_3614 => ?_)
    obtain ⟨he_3616, o_3617⟩ := hp_3614
    subst he_3616
    have f_3618 : F_3608 (ad 0) = xO ad := (o_3612 (ad 0) ).trans fx
    have f_3619 : F_3613 (ad 0) = xO ad := (o_3617 (ad 0) ).trans f_3618
    refine q_calli hw (q_runV (As := [.int (nI (20))]) (c_X5_costOf l G L F_3613 ad hL hin 20 A.1 f_3619 (hn.keep (fun i0 hi => ((o_3617 (ad (i0)) )).trans ((o_3612 (ad (i0)) ))))) C0 hw vw_X5_228 ((hL 0 (by omega))) f_3619 rfl rfl rfl hl.1 rfl (Nat.le_of_ble_eq_true rfl) dX5_lacks_23 ⟨by decide, by decide⟩ ⟨by decide, by decide⟩) rfl rfl (fun r_3622 F_3620 H locs hw hp_3621 => ?_)
    obtain ⟨he_3623, o_3624⟩ := hp_3621
    subst he_3623
    refine lv_aload_n hx hb dX5_lacks_26 rfl (lv_at hl 0 rfl) ?_
    have f_3625 : F_3620 (ad 0) = xO ad := (o_3624 (ad 0) ).trans f_3619
    refine q_get C0 hw ((hL 0 (by omega))) f_3625 fw_X5_12 rfl dX5_lacks_27 ?_
    have f_3626 : F_3608 (ad 22) = .inr (3, [.ref (ad 23), .int (nI (A.1.2.1)), .int (nI (A.1.2.2.1)), .int (nI (A.1.2.2.2.1)), .int (nI (A.1.2.2.2.2.1))]) := (o_3612 (ad 22) ).trans hn.1
    have f_3627 : F_3613 (ad 22) = .inr (3, [.ref (ad 23), .int (nI (A.1.2.1)), .int (nI (A.1.2.2.1)), .int (nI (A.1.2.2.2.1)), .int (nI (A.1.2.2.2.2.1))]) := (o_3617 (ad 22) ).trans f_3626
    have f_3628 : F_3620 (ad 22) = .inr (3, [.ref (ad 23), .int (nI (A.1.2.1)), .int (nI (A.1.2.2.1)), .int (nI (A.1.2.2.2.1)), .int (nI (A.1.2.2.2.2.1))]) := (o_3624 (ad 22) ).trans f_3627
    refine q_get C0 hw ((hL 22 (by omega))) f_3628 fw_X5_98 rfl dX5_lacks_30 ?_
    refine lv_isub hx hb dX5_lacks_33 ?_
    refine q_calli hw (q_runS (As := [.int (nI (0)), .int ((nI (20 * A.1.1)) - (nI (A.1.2.1)))]) (c_J9_max_7cf53 l G L F_3620 (nI 0) (((nI (20 * A.1.1)) - (nI (A.1.2.1))))) C0 hw sw_X5_231 rfl hl.1 rfl (Nat.le_of_ble_eq_true rfl) dX5_lacks_34 ⟨by decide, by decide⟩ ⟨by decide, by decide⟩) rfl rfl (fun r_3631 F_3629 H locs hw hp_3630 => ?_)
    obtain ⟨he_3632, o_3633⟩ := hp_3630
    subst he_3632
    exact r_i C0 hr hlk hw (v := (if nI 0 < ((nI (20 * A.1.1)) - (nI (A.1.2.1))) then ((nI (20 * A.1.1)) - (nI (A.1.2.1))) else nI 0)) rfl ⟨lk_S (by omega) (by omega), (fun q  => ((o_3633 q ).trans ((o_3624 q ).trans ((o_3617 q ).trans (o_3612 q )))))⟩ (Nat.le_refl _) (Nat.le_refl _) dX5_lacks_37 hQ
  · skip
    exact absurd c_4 (by omega)
set_option maxHeartbeats 4000000 in
set_option maxRecDepth 100000 in
theorem c_X5_lacks_112 (l : Launch) (G : Gl) (L : List Nat) (F : Nat → va_E) (ad : Nat → Nat) (hL : ∀ i, i < 166 → ad i ∈ L) (hin : ∀ i j, i < 166 → j < 166 → i ≠ j → ad i ≠ ad j) (A : AB) (hX : XW G F ad A) (hA : okA A) : CI l yX5_lacks cX5_lacks 2 (some .int) rm_X5_lacks G L F [.ref (ad 0), .int (nI (112))] (fun r F1 => r = nI (6 * A.1.1 - A.1.2.1) ∧ ∀ q, F1 q = F q) := by
  obtain ⟨fx, hn, hh, hsn, htx, hrk, ⟨u9, h134⟩, ⟨v9, h150⟩⟩ := hX
  obtain ⟨⟨hc2, hc, hpu, hok⟩, ⟨hh6, hho⟩, hso, hl60, hco⟩ := id hA
  refine CG_of (by decide) (Nat.le_of_ble_eq_true rfl) rfl ?_
  intro p e s m args below meth c Q C0 hr hlk hnm hQ hw ls hl
  have hx := C0.x
  have hb := C0.b
  refine lv_iload_n hx hb dX5_lacks_0 rfl (lv_at hl 1 rfl) ?_
  refine q_calli hw (q_runS (As := [.int (nI (112))]) (c_X4_digitsOf_112 l G L F ) C0 hw sw_X5_220 rfl hl.1 rfl (Nat.le_of_ble_eq_true rfl) dX5_lacks_1 ⟨by decide, by decide⟩ ⟨by decide, by decide⟩) rfl rfl (fun r_3636 F_3634 H locs hw hp_3635 => ?_)
  obtain ⟨he_3637, o_3638⟩ := hp_3635
  subst he_3637
  refine n_if_ne (tgt := 17) hx hb dX5_lacks_4 (by decide) (by decide) (fun c_4 => ?_) (fun c_4 => ?_)
  · skip
    refine lv_iconst (v := nI 0) hx hb dX5_lacks_17 (by decide) ?_
    refine lv_aload_n hx hb dX5_lacks_18 rfl (lv_at hl 0 rfl) ?_
    refine lv_iload_n hx hb dX5_lacks_19 rfl (lv_at hl 1 rfl) ?_
    refine q_calli hw (q_runS (As := [.int (nI (112))]) (c_X5_unitsOf_112 l G L F_3634 ) C0 hw sw_X5_225 rfl hl.1 rfl (Nat.le_of_ble_eq_true rfl) dX5_lacks_20 ⟨by decide, by decide⟩ ⟨by decide, by decide⟩) rfl rfl (fun r_3641 F_3639 H locs hw hp_3640 => ?_)
    obtain ⟨he_3642, o_3643⟩ := hp_3640
    subst he_3642
    have f_3644 : F_3634 (ad 0) = xO ad := (o_3638 (ad 0) ).trans fx
    have f_3645 : F_3639 (ad 0) = xO ad := (o_3643 (ad 0) ).trans f_3644
    refine q_calli hw (q_runV (As := [.int (nI (6))]) (c_X5_costOf l G L F_3639 ad hL hin 6 A.1 f_3645 (hn.keep (fun i0 hi => ((o_3643 (ad (i0)) )).trans ((o_3638 (ad (i0)) ))))) C0 hw vw_X5_228 ((hL 0 (by omega))) f_3645 rfl rfl rfl hl.1 rfl (Nat.le_of_ble_eq_true rfl) dX5_lacks_23 ⟨by decide, by decide⟩ ⟨by decide, by decide⟩) rfl rfl (fun r_3648 F_3646 H locs hw hp_3647 => ?_)
    obtain ⟨he_3649, o_3650⟩ := hp_3647
    subst he_3649
    refine lv_aload_n hx hb dX5_lacks_26 rfl (lv_at hl 0 rfl) ?_
    have f_3651 : F_3646 (ad 0) = xO ad := (o_3650 (ad 0) ).trans f_3645
    refine q_get C0 hw ((hL 0 (by omega))) f_3651 fw_X5_12 rfl dX5_lacks_27 ?_
    have f_3652 : F_3634 (ad 22) = .inr (3, [.ref (ad 23), .int (nI (A.1.2.1)), .int (nI (A.1.2.2.1)), .int (nI (A.1.2.2.2.1)), .int (nI (A.1.2.2.2.2.1))]) := (o_3638 (ad 22) ).trans hn.1
    have f_3653 : F_3639 (ad 22) = .inr (3, [.ref (ad 23), .int (nI (A.1.2.1)), .int (nI (A.1.2.2.1)), .int (nI (A.1.2.2.2.1)), .int (nI (A.1.2.2.2.2.1))]) := (o_3643 (ad 22) ).trans f_3652
    have f_3654 : F_3646 (ad 22) = .inr (3, [.ref (ad 23), .int (nI (A.1.2.1)), .int (nI (A.1.2.2.1)), .int (nI (A.1.2.2.2.1)), .int (nI (A.1.2.2.2.2.1))]) := (o_3650 (ad 22) ).trans f_3653
    refine q_get C0 hw ((hL 22 (by omega))) f_3654 fw_X5_98 rfl dX5_lacks_30 ?_
    refine lv_isub hx hb dX5_lacks_33 ?_
    refine q_calli hw (q_runS (As := [.int (nI (0)), .int ((nI (6 * A.1.1)) - (nI (A.1.2.1)))]) (c_J9_max_7cf53 l G L F_3646 (nI 0) (((nI (6 * A.1.1)) - (nI (A.1.2.1))))) C0 hw sw_X5_231 rfl hl.1 rfl (Nat.le_of_ble_eq_true rfl) dX5_lacks_34 ⟨by decide, by decide⟩ ⟨by decide, by decide⟩) rfl rfl (fun r_3657 F_3655 H locs hw hp_3656 => ?_)
    obtain ⟨he_3658, o_3659⟩ := hp_3656
    subst he_3658
    exact r_i C0 hr hlk hw (v := (if nI 0 < ((nI (6 * A.1.1)) - (nI (A.1.2.1))) then ((nI (6 * A.1.1)) - (nI (A.1.2.1))) else nI 0)) rfl ⟨lk_S (by omega) (by omega), (fun q  => ((o_3659 q ).trans ((o_3650 q ).trans ((o_3643 q ).trans (o_3638 q )))))⟩ (Nat.le_refl _) (Nat.le_refl _) dX5_lacks_37 hQ
  · skip
    exact absurd c_4 (by omega)
set_option maxHeartbeats 4000000 in
set_option maxRecDepth 100000 in
theorem c_X5_lacks_108 (l : Launch) (G : Gl) (L : List Nat) (F : Nat → va_E) (ad : Nat → Nat) (hL : ∀ i, i < 166 → ad i ∈ L) (hin : ∀ i j, i < 166 → j < 166 → i ≠ j → ad i ≠ ad j) (A : AB) (hX : XW G F ad A) (hA : okA A) : CI l yX5_lacks cX5_lacks 2 (some .int) rm_X5_lacks G L F [.ref (ad 0), .int (nI (108))] (fun r F1 => r = nI (6 * A.1.1 - A.1.2.1) ∧ ∀ q, F1 q = F q) := by
  obtain ⟨fx, hn, hh, hsn, htx, hrk, ⟨u9, h134⟩, ⟨v9, h150⟩⟩ := hX
  obtain ⟨⟨hc2, hc, hpu, hok⟩, ⟨hh6, hho⟩, hso, hl60, hco⟩ := id hA
  refine CG_of (by decide) (Nat.le_of_ble_eq_true rfl) rfl ?_
  intro p e s m args below meth c Q C0 hr hlk hnm hQ hw ls hl
  have hx := C0.x
  have hb := C0.b
  refine lv_iload_n hx hb dX5_lacks_0 rfl (lv_at hl 1 rfl) ?_
  refine q_calli hw (q_runS (As := [.int (nI (108))]) (c_X4_digitsOf_108 l G L F ) C0 hw sw_X5_220 rfl hl.1 rfl (Nat.le_of_ble_eq_true rfl) dX5_lacks_1 ⟨by decide, by decide⟩ ⟨by decide, by decide⟩) rfl rfl (fun r_3662 F_3660 H locs hw hp_3661 => ?_)
  obtain ⟨he_3663, o_3664⟩ := hp_3661
  subst he_3663
  refine n_if_ne (tgt := 17) hx hb dX5_lacks_4 (by decide) (by decide) (fun c_4 => ?_) (fun c_4 => ?_)
  · skip
    refine lv_iconst (v := nI 0) hx hb dX5_lacks_17 (by decide) ?_
    refine lv_aload_n hx hb dX5_lacks_18 rfl (lv_at hl 0 rfl) ?_
    refine lv_iload_n hx hb dX5_lacks_19 rfl (lv_at hl 1 rfl) ?_
    refine q_calli hw (q_runS (As := [.int (nI (108))]) (c_X5_unitsOf_108 l G L F_3660 ) C0 hw sw_X5_225 rfl hl.1 rfl (Nat.le_of_ble_eq_true rfl) dX5_lacks_20 ⟨by decide, by decide⟩ ⟨by decide, by decide⟩) rfl rfl (fun r_3667 F_3665 H locs hw hp_3666 => ?_)
    obtain ⟨he_3668, o_3669⟩ := hp_3666
    subst he_3668
    have f_3670 : F_3660 (ad 0) = xO ad := (o_3664 (ad 0) ).trans fx
    have f_3671 : F_3665 (ad 0) = xO ad := (o_3669 (ad 0) ).trans f_3670
    refine q_calli hw (q_runV (As := [.int (nI (6))]) (c_X5_costOf l G L F_3665 ad hL hin 6 A.1 f_3671 (hn.keep (fun i0 hi => ((o_3669 (ad (i0)) )).trans ((o_3664 (ad (i0)) ))))) C0 hw vw_X5_228 ((hL 0 (by omega))) f_3671 rfl rfl rfl hl.1 rfl (Nat.le_of_ble_eq_true rfl) dX5_lacks_23 ⟨by decide, by decide⟩ ⟨by decide, by decide⟩) rfl rfl (fun r_3674 F_3672 H locs hw hp_3673 => ?_)
    obtain ⟨he_3675, o_3676⟩ := hp_3673
    subst he_3675
    refine lv_aload_n hx hb dX5_lacks_26 rfl (lv_at hl 0 rfl) ?_
    have f_3677 : F_3672 (ad 0) = xO ad := (o_3676 (ad 0) ).trans f_3671
    refine q_get C0 hw ((hL 0 (by omega))) f_3677 fw_X5_12 rfl dX5_lacks_27 ?_
    have f_3678 : F_3660 (ad 22) = .inr (3, [.ref (ad 23), .int (nI (A.1.2.1)), .int (nI (A.1.2.2.1)), .int (nI (A.1.2.2.2.1)), .int (nI (A.1.2.2.2.2.1))]) := (o_3664 (ad 22) ).trans hn.1
    have f_3679 : F_3665 (ad 22) = .inr (3, [.ref (ad 23), .int (nI (A.1.2.1)), .int (nI (A.1.2.2.1)), .int (nI (A.1.2.2.2.1)), .int (nI (A.1.2.2.2.2.1))]) := (o_3669 (ad 22) ).trans f_3678
    have f_3680 : F_3672 (ad 22) = .inr (3, [.ref (ad 23), .int (nI (A.1.2.1)), .int (nI (A.1.2.2.1)), .int (nI (A.1.2.2.2.1)), .int (nI (A.1.2.2.2.2.1))]) := (o_3676 (ad 22) ).trans f_3679
    refine q_get C0 hw ((hL 22 (by omega))) f_3680 fw_X5_98 rfl dX5_lacks_30 ?_
    refine lv_isub hx hb dX5_lacks_33 ?_
    refine q_calli hw (q_runS (As := [.int (nI (0)), .int ((nI (6 * A.1.1)) - (nI (A.1.2.1)))]) (c_J9_max_7cf53 l G L F_3672 (nI 0) (((nI (6 * A.1.1)) - (nI (A.1.2.1))))) C0 hw sw_X5_231 rfl hl.1 rfl (Nat.le_of_ble_eq_true rfl) dX5_lacks_34 ⟨by decide, by decide⟩ ⟨by decide, by decide⟩) rfl rfl (fun r_3683 F_3681 H locs hw hp_3682 => ?_)
    obtain ⟨he_3684, o_3685⟩ := hp_3682
    subst he_3684
    exact r_i C0 hr hlk hw (v := (if nI 0 < ((nI (6 * A.1.1)) - (nI (A.1.2.1))) then ((nI (6 * A.1.1)) - (nI (A.1.2.1))) else nI 0)) rfl ⟨lk_S (by omega) (by omega), (fun q  => ((o_3685 q ).trans ((o_3676 q ).trans ((o_3669 q ).trans (o_3664 q )))))⟩ (Nat.le_refl _) (Nat.le_refl _) dX5_lacks_37 hQ
  · skip
    exact absurd c_4 (by omega)
set_option maxHeartbeats 4000000 in
set_option maxRecDepth 100000 in
theorem c_X5_lacks_101 (l : Launch) (G : Gl) (L : List Nat) (F : Nat → va_E) (ad : Nat → Nat) (hL : ∀ i, i < 166 → ad i ∈ L) (hin : ∀ i j, i < 166 → j < 166 → i ≠ j → ad i ≠ ad j) (A : AB) (hX : XW G F ad A) (hA : okA A) : CI l yX5_lacks cX5_lacks 2 (some .int) rm_X5_lacks G L F [.ref (ad 0), .int (nI (101))] (fun r F1 => r = nI (5 * A.1.1 - A.1.2.1) ∧ ∀ q, F1 q = F q) := by
  obtain ⟨fx, hn, hh, hsn, htx, hrk, ⟨u9, h134⟩, ⟨v9, h150⟩⟩ := hX
  obtain ⟨⟨hc2, hc, hpu, hok⟩, ⟨hh6, hho⟩, hso, hl60, hco⟩ := id hA
  refine CG_of (by decide) (Nat.le_of_ble_eq_true rfl) rfl ?_
  intro p e s m args below meth c Q C0 hr hlk hnm hQ hw ls hl
  have hx := C0.x
  have hb := C0.b
  refine lv_iload_n hx hb dX5_lacks_0 rfl (lv_at hl 1 rfl) ?_
  refine q_calli hw (q_runS (As := [.int (nI (101))]) (c_X4_digitsOf_101 l G L F ) C0 hw sw_X5_220 rfl hl.1 rfl (Nat.le_of_ble_eq_true rfl) dX5_lacks_1 ⟨by decide, by decide⟩ ⟨by decide, by decide⟩) rfl rfl (fun r_3688 F_3686 H locs hw hp_3687 => ?_)
  obtain ⟨he_3689, o_3690⟩ := hp_3687
  subst he_3689
  refine n_if_ne (tgt := 17) hx hb dX5_lacks_4 (by decide) (by decide) (fun c_4 => ?_) (fun c_4 => ?_)
  · skip
    refine lv_iconst (v := nI 0) hx hb dX5_lacks_17 (by decide) ?_
    refine lv_aload_n hx hb dX5_lacks_18 rfl (lv_at hl 0 rfl) ?_
    refine lv_iload_n hx hb dX5_lacks_19 rfl (lv_at hl 1 rfl) ?_
    refine q_calli hw (q_runS (As := [.int (nI (101))]) (c_X5_unitsOf_101 l G L F_3686 ) C0 hw sw_X5_225 rfl hl.1 rfl (Nat.le_of_ble_eq_true rfl) dX5_lacks_20 ⟨by decide, by decide⟩ ⟨by decide, by decide⟩) rfl rfl (fun r_3693 F_3691 H locs hw hp_3692 => ?_)
    obtain ⟨he_3694, o_3695⟩ := hp_3692
    subst he_3694
    have f_3696 : F_3686 (ad 0) = xO ad := (o_3690 (ad 0) ).trans fx
    have f_3697 : F_3691 (ad 0) = xO ad := (o_3695 (ad 0) ).trans f_3696
    refine q_calli hw (q_runV (As := [.int (nI (5))]) (c_X5_costOf l G L F_3691 ad hL hin 5 A.1 f_3697 (hn.keep (fun i0 hi => ((o_3695 (ad (i0)) )).trans ((o_3690 (ad (i0)) ))))) C0 hw vw_X5_228 ((hL 0 (by omega))) f_3697 rfl rfl rfl hl.1 rfl (Nat.le_of_ble_eq_true rfl) dX5_lacks_23 ⟨by decide, by decide⟩ ⟨by decide, by decide⟩) rfl rfl (fun r_3700 F_3698 H locs hw hp_3699 => ?_)
    obtain ⟨he_3701, o_3702⟩ := hp_3699
    subst he_3701
    refine lv_aload_n hx hb dX5_lacks_26 rfl (lv_at hl 0 rfl) ?_
    have f_3703 : F_3698 (ad 0) = xO ad := (o_3702 (ad 0) ).trans f_3697
    refine q_get C0 hw ((hL 0 (by omega))) f_3703 fw_X5_12 rfl dX5_lacks_27 ?_
    have f_3704 : F_3686 (ad 22) = .inr (3, [.ref (ad 23), .int (nI (A.1.2.1)), .int (nI (A.1.2.2.1)), .int (nI (A.1.2.2.2.1)), .int (nI (A.1.2.2.2.2.1))]) := (o_3690 (ad 22) ).trans hn.1
    have f_3705 : F_3691 (ad 22) = .inr (3, [.ref (ad 23), .int (nI (A.1.2.1)), .int (nI (A.1.2.2.1)), .int (nI (A.1.2.2.2.1)), .int (nI (A.1.2.2.2.2.1))]) := (o_3695 (ad 22) ).trans f_3704
    have f_3706 : F_3698 (ad 22) = .inr (3, [.ref (ad 23), .int (nI (A.1.2.1)), .int (nI (A.1.2.2.1)), .int (nI (A.1.2.2.2.1)), .int (nI (A.1.2.2.2.2.1))]) := (o_3702 (ad 22) ).trans f_3705
    refine q_get C0 hw ((hL 22 (by omega))) f_3706 fw_X5_98 rfl dX5_lacks_30 ?_
    refine lv_isub hx hb dX5_lacks_33 ?_
    refine q_calli hw (q_runS (As := [.int (nI (0)), .int ((nI (5 * A.1.1)) - (nI (A.1.2.1)))]) (c_J9_max_7cf53 l G L F_3698 (nI 0) (((nI (5 * A.1.1)) - (nI (A.1.2.1))))) C0 hw sw_X5_231 rfl hl.1 rfl (Nat.le_of_ble_eq_true rfl) dX5_lacks_34 ⟨by decide, by decide⟩ ⟨by decide, by decide⟩) rfl rfl (fun r_3709 F_3707 H locs hw hp_3708 => ?_)
    obtain ⟨he_3710, o_3711⟩ := hp_3708
    subst he_3710
    exact r_i C0 hr hlk hw (v := (if nI 0 < ((nI (5 * A.1.1)) - (nI (A.1.2.1))) then ((nI (5 * A.1.1)) - (nI (A.1.2.1))) else nI 0)) rfl ⟨lk_S (by omega) (by omega), (fun q  => ((o_3711 q ).trans ((o_3702 q ).trans ((o_3695 q ).trans (o_3690 q )))))⟩ (Nat.le_refl _) (Nat.le_refl _) dX5_lacks_37 hQ
  · skip
    exact absurd c_4 (by omega)
set_option maxHeartbeats 4000000 in
set_option maxRecDepth 100000 in
theorem c_X5_lacks_99 (l : Launch) (G : Gl) (L : List Nat) (F : Nat → va_E) (ad : Nat → Nat) (hL : ∀ i, i < 166 → ad i ∈ L) (hin : ∀ i j, i < 166 → j < 166 → i ≠ j → ad i ≠ ad j) (A : AB) (hX : XW G F ad A) (hA : okA A) : CI l yX5_lacks cX5_lacks 2 (some .int) rm_X5_lacks G L F [.ref (ad 0), .int (nI (99))] (fun r F1 => r = nI (4 * A.1.1 - A.1.2.1) ∧ ∀ q, F1 q = F q) := by
  obtain ⟨fx, hn, hh, hsn, htx, hrk, ⟨u9, h134⟩, ⟨v9, h150⟩⟩ := hX
  obtain ⟨⟨hc2, hc, hpu, hok⟩, ⟨hh6, hho⟩, hso, hl60, hco⟩ := id hA
  refine CG_of (by decide) (Nat.le_of_ble_eq_true rfl) rfl ?_
  intro p e s m args below meth c Q C0 hr hlk hnm hQ hw ls hl
  have hx := C0.x
  have hb := C0.b
  refine lv_iload_n hx hb dX5_lacks_0 rfl (lv_at hl 1 rfl) ?_
  refine q_calli hw (q_runS (As := [.int (nI (99))]) (c_X4_digitsOf_99 l G L F ) C0 hw sw_X5_220 rfl hl.1 rfl (Nat.le_of_ble_eq_true rfl) dX5_lacks_1 ⟨by decide, by decide⟩ ⟨by decide, by decide⟩) rfl rfl (fun r_3714 F_3712 H locs hw hp_3713 => ?_)
  obtain ⟨he_3715, o_3716⟩ := hp_3713
  subst he_3715
  refine n_if_ne (tgt := 17) hx hb dX5_lacks_4 (by decide) (by decide) (fun c_4 => ?_) (fun c_4 => ?_)
  · skip
    refine lv_iconst (v := nI 0) hx hb dX5_lacks_17 (by decide) ?_
    refine lv_aload_n hx hb dX5_lacks_18 rfl (lv_at hl 0 rfl) ?_
    refine lv_iload_n hx hb dX5_lacks_19 rfl (lv_at hl 1 rfl) ?_
    refine q_calli hw (q_runS (As := [.int (nI (99))]) (c_X5_unitsOf_99 l G L F_3712 ) C0 hw sw_X5_225 rfl hl.1 rfl (Nat.le_of_ble_eq_true rfl) dX5_lacks_20 ⟨by decide, by decide⟩ ⟨by decide, by decide⟩) rfl rfl (fun r_3719 F_3717 H locs hw hp_3718 => ?_)
    obtain ⟨he_3720, o_3721⟩ := hp_3718
    subst he_3720
    have f_3722 : F_3712 (ad 0) = xO ad := (o_3716 (ad 0) ).trans fx
    have f_3723 : F_3717 (ad 0) = xO ad := (o_3721 (ad 0) ).trans f_3722
    refine q_calli hw (q_runV (As := [.int (nI (4))]) (c_X5_costOf l G L F_3717 ad hL hin 4 A.1 f_3723 (hn.keep (fun i0 hi => ((o_3721 (ad (i0)) )).trans ((o_3716 (ad (i0)) ))))) C0 hw vw_X5_228 ((hL 0 (by omega))) f_3723 rfl rfl rfl hl.1 rfl (Nat.le_of_ble_eq_true rfl) dX5_lacks_23 ⟨by decide, by decide⟩ ⟨by decide, by decide⟩) rfl rfl (fun r_3726 F_3724 H locs hw hp_3725 => ?_)
    obtain ⟨he_3727, o_3728⟩ := hp_3725
    subst he_3727
    refine lv_aload_n hx hb dX5_lacks_26 rfl (lv_at hl 0 rfl) ?_
    have f_3729 : F_3724 (ad 0) = xO ad := (o_3728 (ad 0) ).trans f_3723
    refine q_get C0 hw ((hL 0 (by omega))) f_3729 fw_X5_12 rfl dX5_lacks_27 ?_
    have f_3730 : F_3712 (ad 22) = .inr (3, [.ref (ad 23), .int (nI (A.1.2.1)), .int (nI (A.1.2.2.1)), .int (nI (A.1.2.2.2.1)), .int (nI (A.1.2.2.2.2.1))]) := (o_3716 (ad 22) ).trans hn.1
    have f_3731 : F_3717 (ad 22) = .inr (3, [.ref (ad 23), .int (nI (A.1.2.1)), .int (nI (A.1.2.2.1)), .int (nI (A.1.2.2.2.1)), .int (nI (A.1.2.2.2.2.1))]) := (o_3721 (ad 22) ).trans f_3730
    have f_3732 : F_3724 (ad 22) = .inr (3, [.ref (ad 23), .int (nI (A.1.2.1)), .int (nI (A.1.2.2.1)), .int (nI (A.1.2.2.2.1)), .int (nI (A.1.2.2.2.2.1))]) := (o_3728 (ad 22) ).trans f_3731
    refine q_get C0 hw ((hL 22 (by omega))) f_3732 fw_X5_98 rfl dX5_lacks_30 ?_
    refine lv_isub hx hb dX5_lacks_33 ?_
    refine q_calli hw (q_runS (As := [.int (nI (0)), .int ((nI (4 * A.1.1)) - (nI (A.1.2.1)))]) (c_J9_max_7cf53 l G L F_3724 (nI 0) (((nI (4 * A.1.1)) - (nI (A.1.2.1))))) C0 hw sw_X5_231 rfl hl.1 rfl (Nat.le_of_ble_eq_true rfl) dX5_lacks_34 ⟨by decide, by decide⟩ ⟨by decide, by decide⟩) rfl rfl (fun r_3735 F_3733 H locs hw hp_3734 => ?_)
    obtain ⟨he_3736, o_3737⟩ := hp_3734
    subst he_3736
    exact r_i C0 hr hlk hw (v := (if nI 0 < ((nI (4 * A.1.1)) - (nI (A.1.2.1))) then ((nI (4 * A.1.1)) - (nI (A.1.2.1))) else nI 0)) rfl ⟨lk_S (by omega) (by omega), (fun q  => ((o_3737 q ).trans ((o_3728 q ).trans ((o_3721 q ).trans (o_3716 q )))))⟩ (Nat.le_refl _) (Nat.le_refl _) dX5_lacks_37 hQ
  · skip
    exact absurd c_4 (by omega)
set_option maxHeartbeats 4000000 in
set_option maxRecDepth 100000 in
theorem c_X5_lacks_105 (l : Launch) (G : Gl) (L : List Nat) (F : Nat → va_E) (ad : Nat → Nat) (hL : ∀ i, i < 166 → ad i ∈ L) (hin : ∀ i j, i < 166 → j < 166 → i ≠ j → ad i ≠ ad j) (A : AB) (hX : XW G F ad A) (hA : okA A) : CI l yX5_lacks cX5_lacks 2 (some .int) rm_X5_lacks G L F [.ref (ad 0), .int (nI (105))] (fun r F1 => r = nI (4 * A.1.1 - A.1.2.1) ∧ ∀ q, F1 q = F q) := by
  obtain ⟨fx, hn, hh, hsn, htx, hrk, ⟨u9, h134⟩, ⟨v9, h150⟩⟩ := hX
  obtain ⟨⟨hc2, hc, hpu, hok⟩, ⟨hh6, hho⟩, hso, hl60, hco⟩ := id hA
  refine CG_of (by decide) (Nat.le_of_ble_eq_true rfl) rfl ?_
  intro p e s m args below meth c Q C0 hr hlk hnm hQ hw ls hl
  have hx := C0.x
  have hb := C0.b
  refine lv_iload_n hx hb dX5_lacks_0 rfl (lv_at hl 1 rfl) ?_
  refine q_calli hw (q_runS (As := [.int (nI (105))]) (c_X4_digitsOf_105 l G L F ) C0 hw sw_X5_220 rfl hl.1 rfl (Nat.le_of_ble_eq_true rfl) dX5_lacks_1 ⟨by decide, by decide⟩ ⟨by decide, by decide⟩) rfl rfl (fun r_3740 F_3738 H locs hw hp_3739 => ?_)
  obtain ⟨he_3741, o_3742⟩ := hp_3739
  subst he_3741
  refine n_if_ne (tgt := 17) hx hb dX5_lacks_4 (by decide) (by decide) (fun c_4 => ?_) (fun c_4 => ?_)
  · skip
    refine lv_iconst (v := nI 0) hx hb dX5_lacks_17 (by decide) ?_
    refine lv_aload_n hx hb dX5_lacks_18 rfl (lv_at hl 0 rfl) ?_
    refine lv_iload_n hx hb dX5_lacks_19 rfl (lv_at hl 1 rfl) ?_
    refine q_calli hw (q_runS (As := [.int (nI (105))]) (c_X5_unitsOf_105 l G L F_3738 ) C0 hw sw_X5_225 rfl hl.1 rfl (Nat.le_of_ble_eq_true rfl) dX5_lacks_20 ⟨by decide, by decide⟩ ⟨by decide, by decide⟩) rfl rfl (fun r_3745 F_3743 H locs hw hp_3744 => ?_)
    obtain ⟨he_3746, o_3747⟩ := hp_3744
    subst he_3746
    have f_3748 : F_3738 (ad 0) = xO ad := (o_3742 (ad 0) ).trans fx
    have f_3749 : F_3743 (ad 0) = xO ad := (o_3747 (ad 0) ).trans f_3748
    refine q_calli hw (q_runV (As := [.int (nI (4))]) (c_X5_costOf l G L F_3743 ad hL hin 4 A.1 f_3749 (hn.keep (fun i0 hi => ((o_3747 (ad (i0)) )).trans ((o_3742 (ad (i0)) ))))) C0 hw vw_X5_228 ((hL 0 (by omega))) f_3749 rfl rfl rfl hl.1 rfl (Nat.le_of_ble_eq_true rfl) dX5_lacks_23 ⟨by decide, by decide⟩ ⟨by decide, by decide⟩) rfl rfl (fun r_3752 F_3750 H locs hw hp_3751 => ?_)
    obtain ⟨he_3753, o_3754⟩ := hp_3751
    subst he_3753
    refine lv_aload_n hx hb dX5_lacks_26 rfl (lv_at hl 0 rfl) ?_
    have f_3755 : F_3750 (ad 0) = xO ad := (o_3754 (ad 0) ).trans f_3749
    refine q_get C0 hw ((hL 0 (by omega))) f_3755 fw_X5_12 rfl dX5_lacks_27 ?_
    have f_3756 : F_3738 (ad 22) = .inr (3, [.ref (ad 23), .int (nI (A.1.2.1)), .int (nI (A.1.2.2.1)), .int (nI (A.1.2.2.2.1)), .int (nI (A.1.2.2.2.2.1))]) := (o_3742 (ad 22) ).trans hn.1
    have f_3757 : F_3743 (ad 22) = .inr (3, [.ref (ad 23), .int (nI (A.1.2.1)), .int (nI (A.1.2.2.1)), .int (nI (A.1.2.2.2.1)), .int (nI (A.1.2.2.2.2.1))]) := (o_3747 (ad 22) ).trans f_3756
    have f_3758 : F_3750 (ad 22) = .inr (3, [.ref (ad 23), .int (nI (A.1.2.1)), .int (nI (A.1.2.2.1)), .int (nI (A.1.2.2.2.1)), .int (nI (A.1.2.2.2.2.1))]) := (o_3754 (ad 22) ).trans f_3757
    refine q_get C0 hw ((hL 22 (by omega))) f_3758 fw_X5_98 rfl dX5_lacks_30 ?_
    refine lv_isub hx hb dX5_lacks_33 ?_
    refine q_calli hw (q_runS (As := [.int (nI (0)), .int ((nI (4 * A.1.1)) - (nI (A.1.2.1)))]) (c_J9_max_7cf53 l G L F_3750 (nI 0) (((nI (4 * A.1.1)) - (nI (A.1.2.1))))) C0 hw sw_X5_231 rfl hl.1 rfl (Nat.le_of_ble_eq_true rfl) dX5_lacks_34 ⟨by decide, by decide⟩ ⟨by decide, by decide⟩) rfl rfl (fun r_3761 F_3759 H locs hw hp_3760 => ?_)
    obtain ⟨he_3762, o_3763⟩ := hp_3760
    subst he_3762
    exact r_i C0 hr hlk hw (v := (if nI 0 < ((nI (4 * A.1.1)) - (nI (A.1.2.1))) then ((nI (4 * A.1.1)) - (nI (A.1.2.1))) else nI 0)) rfl ⟨lk_S (by omega) (by omega), (fun q  => ((o_3763 q ).trans ((o_3754 q ).trans ((o_3747 q ).trans (o_3742 q )))))⟩ (Nat.le_refl _) (Nat.le_refl _) dX5_lacks_37 hQ
  · skip
    exact absurd c_4 (by omega)
abbrev rm_X5_count : Room := { frames := 3, cells := 0, slots := 0, locals := 63 }
set_option maxHeartbeats 4000000 in
set_option maxRecDepth 100000 in
theorem c_X5_count_0 (l : Launch) (G : Gl) (L : List Nat) (F : Nat → va_E) (ad : Nat → Nat) (hL : ∀ i, i < 166 → ad i ∈ L) (hin : ∀ i j, i < 166 → j < 166 → i ≠ j → ad i ≠ ad j) (A : AB) (hX : XW G F ad A) (hA : okA A) : CI l yX5_count cX5_count 2 (some .int) rm_X5_count G L F [.ref (ad 0), .int (nI (0))] (fun r F1 => r = nI (cntA A 0) ∧ ∀ q, F1 q = F q) := by
  obtain ⟨fx, hn, hh, hsn, htx, hrk, ⟨u9, h134⟩, ⟨v9, h150⟩⟩ := hX
  obtain ⟨⟨hc2, hc, hpu, hok⟩, ⟨hh6, hho⟩, hso, hl60, hco⟩ := id hA
  refine CG_of (by decide) (Nat.le_of_ble_eq_true rfl) rfl ?_
  intro p e s m args below meth c Q C0 hr hlk hnm hQ hw ls hl
  have hx := C0.x
  have hb := C0.b
  refine lv_iload_n hx hb dX5_count_0 rfl (lv_at hl 1 rfl) ?_
  refine lv_tableIn (off := 51) (tgt := 52) hx hb dX5_count_1 (by decide) (by decide) rfl (by decide) ?_
  refine lv_aload_n hx hb dX5_count_52 rfl (lv_at hl 0 rfl) ?_
  refine q_get C0 hw ((hL 0 (by omega))) fx fw_X5_12 rfl dX5_count_53 ?_
  refine q_get C0 hw ((hL 22 (by omega))) hn.1 fw_X5_66 rfl dX5_count_56 ?_
  refine q_get C0 hw ((hL 23 (by omega))) hn.2.1 fw_X5_70 rfl dX5_count_59 ?_
  exact r_i C0 hr hlk hw (v := nI (A.1.1)) rfl ⟨rfl, (fun q  => rfl)⟩ (Nat.le_refl _) (Nat.le_refl _) dX5_count_62 hQ
set_option maxHeartbeats 4000000 in
set_option maxRecDepth 100000 in
theorem c_X5_count_1 (l : Launch) (G : Gl) (L : List Nat) (F : Nat → va_E) (ad : Nat → Nat) (hL : ∀ i, i < 166 → ad i ∈ L) (hin : ∀ i j, i < 166 → j < 166 → i ≠ j → ad i ≠ ad j) (A : AB) (hX : XW G F ad A) (hA : okA A) : CI l yX5_count cX5_count 2 (some .int) rm_X5_count G L F [.ref (ad 0), .int (nI (1))] (fun r F1 => r = nI (cntA A 1) ∧ ∀ q, F1 q = F q) := by
  obtain ⟨fx, hn, hh, hsn, htx, hrk, ⟨u9, h134⟩, ⟨v9, h150⟩⟩ := hX
  obtain ⟨⟨hc2, hc, hpu, hok⟩, ⟨hh6, hho⟩, hso, hl60, hco⟩ := id hA
  refine CG_of (by decide) (Nat.le_of_ble_eq_true rfl) rfl ?_
  intro p e s m args below meth c Q C0 hr hlk hnm hQ hw ls hl
  have hx := C0.x
  have hb := C0.b
  refine lv_iload_n hx hb dX5_count_0 rfl (lv_at hl 1 rfl) ?_
  refine lv_tableIn (off := 62) (tgt := 63) hx hb dX5_count_1 (by decide) (by decide) rfl (by decide) ?_
  refine lv_aload_n hx hb dX5_count_63 rfl (lv_at hl 0 rfl) ?_
  refine q_get C0 hw ((hL 0 (by omega))) fx fw_X5_12 rfl dX5_count_64 ?_
  refine q_get C0 hw ((hL 22 (by omega))) hn.1 fw_X5_98 rfl dX5_count_67 ?_
  exact r_i C0 hr hlk hw (v := nI (A.1.2.1)) rfl ⟨rfl, (fun q  => rfl)⟩ (Nat.le_refl _) (Nat.le_refl _) dX5_count_70 hQ
set_option maxHeartbeats 4000000 in
set_option maxRecDepth 100000 in
theorem c_X5_count_2 (l : Launch) (G : Gl) (L : List Nat) (F : Nat → va_E) (ad : Nat → Nat) (hL : ∀ i, i < 166 → ad i ∈ L) (hin : ∀ i j, i < 166 → j < 166 → i ≠ j → ad i ≠ ad j) (A : AB) (hX : XW G F ad A) (hA : okA A) : CI l yX5_count cX5_count 2 (some .int) rm_X5_count G L F [.ref (ad 0), .int (nI (2))] (fun r F1 => r = nI (cntA A 2) ∧ ∀ q, F1 q = F q) := by
  obtain ⟨fx, hn, hh, hsn, htx, hrk, ⟨u9, h134⟩, ⟨v9, h150⟩⟩ := hX
  obtain ⟨⟨hc2, hc, hpu, hok⟩, ⟨hh6, hho⟩, hso, hl60, hco⟩ := id hA
  refine CG_of (by decide) (Nat.le_of_ble_eq_true rfl) rfl ?_
  intro p e s m args below meth c Q C0 hr hlk hnm hQ hw ls hl
  have hx := C0.x
  have hb := C0.b
  refine lv_iload_n hx hb dX5_count_0 rfl (lv_at hl 1 rfl) ?_
  refine lv_tableIn (off := 70) (tgt := 71) hx hb dX5_count_1 (by decide) (by decide) rfl (by decide) ?_
  refine lv_aload_n hx hb dX5_count_71 rfl (lv_at hl 0 rfl) ?_
  refine q_get C0 hw ((hL 0 (by omega))) fx fw_X5_12 rfl dX5_count_72 ?_
  refine q_get C0 hw ((hL 22 (by omega))) hn.1 fw_X5_66 rfl dX5_count_75 ?_
  refine q_calli hw (q_runV (As := []) (c_X2_fieldsThatAreNotZero l G L F ad hL hin 22 A.1.1 A.1.2.2.2.2.2 hn.2 (by decide)) C0 hw vw_X5_179 ((hL 23 (by omega))) hn.2.1 rfl rfl rfl hl.1 rfl (Nat.le_of_ble_eq_true rfl) dX5_count_78 ⟨by decide, by decide⟩ ⟨by decide, by decide⟩) rfl rfl (fun r_3766 F_3764 H locs hw hp_3765 => ?_)
  obtain ⟨he_3767, o_3768⟩ := hp_3765
  subst he_3767
  exact r_i C0 hr hlk hw (v := nI (cntR (fun i => A.1.2.2.2.2.2 i) 6)) rfl ⟨rfl, (fun q  => (o_3768 q ))⟩ (Nat.le_refl _) (Nat.le_refl _) dX5_count_81 hQ
set_option maxHeartbeats 4000000 in
set_option maxRecDepth 100000 in
theorem c_X5_count_3 (l : Launch) (G : Gl) (L : List Nat) (F : Nat → va_E) (ad : Nat → Nat) (hL : ∀ i, i < 166 → ad i ∈ L) (hin : ∀ i j, i < 166 → j < 166 → i ≠ j → ad i ≠ ad j) (A : AB) (hX : XW G F ad A) (hA : okA A) : CI l yX5_count cX5_count 2 (some .int) rm_X5_count G L F [.ref (ad 0), .int (nI (3))] (fun r F1 => r = nI (cntA A 3) ∧ ∀ q, F1 q = F q) := by
  obtain ⟨fx, hn, hh, hsn, htx, hrk, ⟨u9, h134⟩, ⟨v9, h150⟩⟩ := hX
  obtain ⟨⟨hc2, hc, hpu, hok⟩, ⟨hh6, hho⟩, hso, hl60, hco⟩ := id hA
  refine CG_of (by decide) (Nat.le_of_ble_eq_true rfl) rfl ?_
  intro p e s m args below meth c Q C0 hr hlk hnm hQ hw ls hl
  have hx := C0.x
  have hb := C0.b
  refine lv_iload_n hx hb dX5_count_0 rfl (lv_at hl 1 rfl) ?_
  refine lv_tableIn (off := 81) (tgt := 82) hx hb dX5_count_1 (by decide) (by decide) rfl (by decide) ?_
  refine lv_aload_n hx hb dX5_count_82 rfl (lv_at hl 0 rfl) ?_
  refine q_get C0 hw ((hL 0 (by omega))) fx fw_X5_12 rfl dX5_count_83 ?_
  refine q_get C0 hw ((hL 22 (by omega))) hn.1 fw_X5_66 rfl dX5_count_86 ?_
  refine q_calli hw (q_runV (As := []) (c_X2_flowsThatAreNotX l G L F ad hL hin 22 A.1.1 A.1.2.2.2.2.2 hn.2 (by decide)) C0 hw vw_X5_234 ((hL 23 (by omega))) hn.2.1 rfl rfl rfl hl.1 rfl (Nat.le_of_ble_eq_true rfl) dX5_count_89 ⟨by decide, by decide⟩ ⟨by decide, by decide⟩) rfl rfl (fun r_3771 F_3769 H locs hw hp_3770 => ?_)
  obtain ⟨he_3772, o_3773⟩ := hp_3770
  subst he_3772
  exact r_i C0 hr hlk hw (v := nI (cntR (fun i => A.1.2.2.2.2.2 (6 + i)) 6)) rfl ⟨rfl, (fun q  => (o_3773 q ))⟩ (Nat.le_refl _) (Nat.le_refl _) dX5_count_92 hQ
set_option maxHeartbeats 4000000 in
set_option maxRecDepth 100000 in
theorem c_X5_count_4 (l : Launch) (G : Gl) (L : List Nat) (F : Nat → va_E) (ad : Nat → Nat) (hL : ∀ i, i < 166 → ad i ∈ L) (hin : ∀ i j, i < 166 → j < 166 → i ≠ j → ad i ≠ ad j) (A : AB) (hX : XW G F ad A) (hA : okA A) : CI l yX5_count cX5_count 2 (some .int) rm_X5_count G L F [.ref (ad 0), .int (nI (4))] (fun r F1 => r = nI (cntA A 4) ∧ ∀ q, F1 q = F q) := by
  obtain ⟨fx, hn, hh, hsn, htx, hrk, ⟨u9, h134⟩, ⟨v9, h150⟩⟩ := hX
  obtain ⟨⟨hc2, hc, hpu, hok⟩, ⟨hh6, hho⟩, hso, hl60, hco⟩ := id hA
  refine CG_of (by decide) (Nat.le_of_ble_eq_true rfl) rfl ?_
  intro p e s m args below meth c Q C0 hr hlk hnm hQ hw ls hl
  have hx := C0.x
  have hb := C0.b
  refine lv_iload_n hx hb dX5_count_0 rfl (lv_at hl 1 rfl) ?_
  refine lv_tableIn (off := 92) (tgt := 93) hx hb dX5_count_1 (by decide) (by decide) rfl (by decide) ?_
  refine lv_aload_n hx hb dX5_count_93 rfl (lv_at hl 0 rfl) ?_
  refine q_get C0 hw ((hL 0 (by omega))) fx fw_X5_12 rfl dX5_count_94 ?_
  refine q_get C0 hw ((hL 22 (by omega))) hn.1 fw_X5_237 rfl dX5_count_97 ?_
  exact r_i C0 hr hlk hw (v := nI (A.1.2.2.1)) rfl ⟨rfl, (fun q  => rfl)⟩ (Nat.le_refl _) (Nat.le_refl _) dX5_count_100 hQ
set_option maxHeartbeats 4000000 in
set_option maxRecDepth 100000 in
theorem c_X5_count_5 (l : Launch) (G : Gl) (L : List Nat) (F : Nat → va_E) (ad : Nat → Nat) (hL : ∀ i, i < 166 → ad i ∈ L) (hin : ∀ i j, i < 166 → j < 166 → i ≠ j → ad i ≠ ad j) (A : AB) (hX : XW G F ad A) (hA : okA A) : CI l yX5_count cX5_count 2 (some .int) rm_X5_count G L F [.ref (ad 0), .int (nI (5))] (fun r F1 => r = nI (cntA A 5) ∧ ∀ q, F1 q = F q) := by
  obtain ⟨fx, hn, hh, hsn, htx, hrk, ⟨u9, h134⟩, ⟨v9, h150⟩⟩ := hX
  obtain ⟨⟨hc2, hc, hpu, hok⟩, ⟨hh6, hho⟩, hso, hl60, hco⟩ := id hA
  refine CG_of (by decide) (Nat.le_of_ble_eq_true rfl) rfl ?_
  intro p e s m args below meth c Q C0 hr hlk hnm hQ hw ls hl
  have hx := C0.x
  have hb := C0.b
  refine lv_iload_n hx hb dX5_count_0 rfl (lv_at hl 1 rfl) ?_
  refine lv_tableIn (off := 100) (tgt := 101) hx hb dX5_count_1 (by decide) (by decide) rfl (by decide) ?_
  refine lv_aload_n hx hb dX5_count_101 rfl (lv_at hl 0 rfl) ?_
  refine q_get C0 hw ((hL 0 (by omega))) fx fw_X5_12 rfl dX5_count_102 ?_
  refine q_get C0 hw ((hL 22 (by omega))) hn.1 fw_X5_240 rfl dX5_count_105 ?_
  exact r_i C0 hr hlk hw (v := nI (A.1.2.2.2.1)) rfl ⟨rfl, (fun q  => rfl)⟩ (Nat.le_refl _) (Nat.le_refl _) dX5_count_108 hQ
set_option maxHeartbeats 4000000 in
set_option maxRecDepth 100000 in
theorem c_X5_count_6 (l : Launch) (G : Gl) (L : List Nat) (F : Nat → va_E) (ad : Nat → Nat) (hL : ∀ i, i < 166 → ad i ∈ L) (hin : ∀ i j, i < 166 → j < 166 → i ≠ j → ad i ≠ ad j) (A : AB) (hX : XW G F ad A) (hA : okA A) : CI l yX5_count cX5_count 2 (some .int) rm_X5_count G L F [.ref (ad 0), .int (nI (6))] (fun r F1 => r = nI (cntA A 6) ∧ ∀ q, F1 q = F q) := by
  obtain ⟨fx, hn, hh, hsn, htx, hrk, ⟨u9, h134⟩, ⟨v9, h150⟩⟩ := hX
  obtain ⟨⟨hc2, hc, hpu, hok⟩, ⟨hh6, hho⟩, hso, hl60, hco⟩ := id hA
  refine CG_of (by decide) (Nat.le_of_ble_eq_true rfl) rfl ?_
  intro p e s m args below meth c Q C0 hr hlk hnm hQ hw ls hl
  have hx := C0.x
  have hb := C0.b
  refine lv_iload_n hx hb dX5_count_0 rfl (lv_at hl 1 rfl) ?_
  refine lv_tableIn (off := 108) (tgt := 109) hx hb dX5_count_1 (by decide) (by decide) rfl (by decide) ?_
  refine lv_aload_n hx hb dX5_count_109 rfl (lv_at hl 0 rfl) ?_
  refine q_get C0 hw ((hL 0 (by omega))) fx fw_X5_12 rfl dX5_count_110 ?_
  refine q_get C0 hw ((hL 22 (by omega))) hn.1 fw_X5_243 rfl dX5_count_113 ?_
  exact r_i C0 hr hlk hw (v := nI (A.1.2.2.2.2.1)) rfl ⟨rfl, (fun q  => rfl)⟩ (Nat.le_refl _) (Nat.le_refl _) dX5_count_116 hQ
set_option maxHeartbeats 4000000 in
set_option maxRecDepth 100000 in
theorem c_X5_count_8 (l : Launch) (G : Gl) (L : List Nat) (F : Nat → va_E) (ad : Nat → Nat) (hL : ∀ i, i < 166 → ad i ∈ L) (hin : ∀ i j, i < 166 → j < 166 → i ≠ j → ad i ≠ ad j) (A : AB) (hX : XW G F ad A) (hA : okA A) : CI l yX5_count cX5_count 2 (some .int) rm_X5_count G L F [.ref (ad 0), .int (nI (8))] (fun r F1 => r = nI (cntA A 8) ∧ ∀ q, F1 q = F q) := by
  obtain ⟨fx, hn, hh, hsn, htx, hrk, ⟨u9, h134⟩, ⟨v9, h150⟩⟩ := hX
  obtain ⟨⟨hc2, hc, hpu, hok⟩, ⟨hh6, hho⟩, hso, hl60, hco⟩ := id hA
  obtain ⟨pi9, hx9, h19, -⟩ := id hh
  refine CG_of (by decide) (Nat.le_of_ble_eq_true rfl) rfl ?_
  intro p e s m args below meth c Q C0 hr hlk hnm hQ hw ls hl
  have hx := C0.x
  have hb := C0.b
  refine lv_iload_n hx hb dX5_count_0 rfl (lv_at hl 1 rfl) ?_
  refine lv_tableIn (off := 146) (tgt := 147) hx hb dX5_count_1 (by decide) (by decide) rfl (by decide) ?_
  refine lv_aload_n hx hb dX5_count_147 rfl (lv_at hl 0 rfl) ?_
  refine q_get C0 hw ((hL 0 (by omega))) fx fw_X5_19 rfl dX5_count_148 ?_
  refine q_get C0 hw ((hL 1 (by omega))) h19 fw_X5_184 rfl dX5_count_151 ?_
  exact r_i C0 hr hlk hw (v := nI (A.2.1.1)) rfl ⟨rfl, (fun q  => rfl)⟩ (Nat.le_refl _) (Nat.le_refl _) dX5_count_154 hQ
set_option maxHeartbeats 4000000 in
set_option maxRecDepth 100000 in
theorem c_X5_count_7_00 (l : Launch) (G : Gl) (L : List Nat) (F : Nat → va_E) (ad : Nat → Nat) (hL : ∀ i, i < 166 → ad i ∈ L) (hin : ∀ i j, i < 166 → j < 166 → i ≠ j → ad i ≠ ad j) (A : AB) (ht0 : (A.2.2.1 0).1 = false) (ht1 : (A.2.2.1 1).1 = false) (hX : XW G F ad A) (hA : okA A) : CI l yX5_count cX5_count 2 (some .int) rm_X5_count G L F [.ref (ad 0), .int (nI (7))] (fun r F1 => r = nI (cntA A 7) ∧ ∀ q, F1 q = F q) := by
  obtain ⟨fx, hn, hh, hsn, htx, hrk, ⟨u9, h134⟩, ⟨v9, h150⟩⟩ := hX
  obtain ⟨⟨hc2, hc, hpu, hok⟩, ⟨hh6, hho⟩, hso, hl60, hco⟩ := id hA
  refine CG_of (by decide) (Nat.le_of_ble_eq_true rfl) rfl ?_
  intro p e s m args below meth c Q C0 hr hlk hnm hQ hw ls hl
  have hx := C0.x
  have hb := C0.b
  refine lv_iload_n hx hb dX5_count_0 rfl (lv_at hl 1 rfl) ?_
  refine lv_tableIn (off := 116) (tgt := 117) hx hb dX5_count_1 (by decide) (by decide) rfl (by decide) ?_
  refine lv_aload_n hx hb dX5_count_117 rfl (lv_at hl 0 rfl) ?_
  refine q_get C0 hw ((hL 0 (by omega))) fx fw_X5_30 rfl dX5_count_118 ?_
  refine lv_iconst (v := nI 0) hx hb dX5_count_121 (by decide) ?_
  refine q_zald C0 hw ((hL 4 (by omega))) hsn.2.1 (0) (by omega) (by decide) (v := nI 0) (if_neg (by simp [ht0])) dX5_count_122 ?_
  refine n_if_eq (tgt := 130) hx hb dX5_count_123 (by decide) (by decide) (fun c_123 => ?_) (fun c_123 => ?_)
  · skip
    refine lv_iconst (v := nI 0) hx hb dX5_count_130 (by decide) ?_
    refine lv_aload_n hx hb dX5_count_131 rfl (lv_at hl 0 rfl) ?_
    refine q_get C0 hw ((hL 0 (by omega))) fx fw_X5_30 rfl dX5_count_132 ?_
    refine lv_iconst (v := nI 1) hx hb dX5_count_135 (by decide) ?_
    refine q_zald C0 hw ((hL 4 (by omega))) hsn.2.1 (1) (by omega) (by decide) (v := nI 0) (if_neg (by simp [ht1])) dX5_count_136 ?_
    refine n_if_eq (tgt := 144) hx hb dX5_count_137 (by decide) (by decide) (fun c_137 => ?_) (fun c_137 => ?_)
    · skip
      refine lv_iconst (v := nI 0) hx hb dX5_count_144 (by decide) ?_
      refine n_iadd hx hb dX5_count_145 ?_
      exact r_i C0 hr hlk hw (v := nI (0 + 0)) rfl ⟨(by simp [cntA, ht0, ht1]), (fun q  => rfl)⟩ (Nat.le_refl _) (Nat.le_refl _) dX5_count_146 hQ
    · skip
      exact absurd c_137 (by omega)
  · skip
    exact absurd c_123 (by omega)
set_option maxHeartbeats 4000000 in
set_option maxRecDepth 100000 in
theorem c_X5_count_7_01 (l : Launch) (G : Gl) (L : List Nat) (F : Nat → va_E) (ad : Nat → Nat) (hL : ∀ i, i < 166 → ad i ∈ L) (hin : ∀ i j, i < 166 → j < 166 → i ≠ j → ad i ≠ ad j) (A : AB) (ht0 : (A.2.2.1 0).1 = false) (ht1 : (A.2.2.1 1).1 = true) (hX : XW G F ad A) (hA : okA A) : CI l yX5_count cX5_count 2 (some .int) rm_X5_count G L F [.ref (ad 0), .int (nI (7))] (fun r F1 => r = nI (cntA A 7) ∧ ∀ q, F1 q = F q) := by
  obtain ⟨fx, hn, hh, hsn, htx, hrk, ⟨u9, h134⟩, ⟨v9, h150⟩⟩ := hX
  obtain ⟨⟨hc2, hc, hpu, hok⟩, ⟨hh6, hho⟩, hso, hl60, hco⟩ := id hA
  refine CG_of (by decide) (Nat.le_of_ble_eq_true rfl) rfl ?_
  intro p e s m args below meth c Q C0 hr hlk hnm hQ hw ls hl
  have hx := C0.x
  have hb := C0.b
  refine lv_iload_n hx hb dX5_count_0 rfl (lv_at hl 1 rfl) ?_
  refine lv_tableIn (off := 116) (tgt := 117) hx hb dX5_count_1 (by decide) (by decide) rfl (by decide) ?_
  refine lv_aload_n hx hb dX5_count_117 rfl (lv_at hl 0 rfl) ?_
  refine q_get C0 hw ((hL 0 (by omega))) fx fw_X5_30 rfl dX5_count_118 ?_
  refine lv_iconst (v := nI 0) hx hb dX5_count_121 (by decide) ?_
  refine q_zald C0 hw ((hL 4 (by omega))) hsn.2.1 (0) (by omega) (by decide) (v := nI 0) (if_neg (by simp [ht0])) dX5_count_122 ?_
  refine n_if_eq (tgt := 130) hx hb dX5_count_123 (by decide) (by decide) (fun c_123 => ?_) (fun c_123 => ?_)
  · skip
    refine lv_iconst (v := nI 0) hx hb dX5_count_130 (by decide) ?_
    refine lv_aload_n hx hb dX5_count_131 rfl (lv_at hl 0 rfl) ?_
    refine q_get C0 hw ((hL 0 (by omega))) fx fw_X5_30 rfl dX5_count_132 ?_
    refine lv_iconst (v := nI 1) hx hb dX5_count_135 (by decide) ?_
    refine q_zald C0 hw ((hL 4 (by omega))) hsn.2.1 (1) (by omega) (by decide) (v := nI 1) (if_pos (by simp [ht1])) dX5_count_136 ?_
    refine n_if_eq (tgt := 144) hx hb dX5_count_137 (by decide) (by decide) (fun c_137 => ?_) (fun c_137 => ?_)
    · skip
      exact absurd c_137 (by omega)
    · skip
      refine lv_iconst (v := nI 1) hx hb dX5_count_140 (by decide) ?_
      refine lv_goto (tgt := 145) hx hb dX5_count_141 (by decide) ?_
      refine n_iadd hx hb dX5_count_145 ?_
      exact r_i C0 hr hlk hw (v := nI (0 + 1)) rfl ⟨(by simp [cntA, ht0, ht1]), (fun q  => rfl)⟩ (Nat.le_refl _) (Nat.le_refl _) dX5_count_146 hQ
  · skip
    exact absurd c_123 (by omega)
set_option maxHeartbeats 4000000 in
set_option maxRecDepth 100000 in
theorem c_X5_count_7_10 (l : Launch) (G : Gl) (L : List Nat) (F : Nat → va_E) (ad : Nat → Nat) (hL : ∀ i, i < 166 → ad i ∈ L) (hin : ∀ i j, i < 166 → j < 166 → i ≠ j → ad i ≠ ad j) (A : AB) (ht0 : (A.2.2.1 0).1 = true) (ht1 : (A.2.2.1 1).1 = false) (hX : XW G F ad A) (hA : okA A) : CI l yX5_count cX5_count 2 (some .int) rm_X5_count G L F [.ref (ad 0), .int (nI (7))] (fun r F1 => r = nI (cntA A 7) ∧ ∀ q, F1 q = F q) := by
  obtain ⟨fx, hn, hh, hsn, htx, hrk, ⟨u9, h134⟩, ⟨v9, h150⟩⟩ := hX
  obtain ⟨⟨hc2, hc, hpu, hok⟩, ⟨hh6, hho⟩, hso, hl60, hco⟩ := id hA
  refine CG_of (by decide) (Nat.le_of_ble_eq_true rfl) rfl ?_
  intro p e s m args below meth c Q C0 hr hlk hnm hQ hw ls hl
  have hx := C0.x
  have hb := C0.b
  refine lv_iload_n hx hb dX5_count_0 rfl (lv_at hl 1 rfl) ?_
  refine lv_tableIn (off := 116) (tgt := 117) hx hb dX5_count_1 (by decide) (by decide) rfl (by decide) ?_
  refine lv_aload_n hx hb dX5_count_117 rfl (lv_at hl 0 rfl) ?_
  refine q_get C0 hw ((hL 0 (by omega))) fx fw_X5_30 rfl dX5_count_118 ?_
  refine lv_iconst (v := nI 0) hx hb dX5_count_121 (by decide) ?_
  refine q_zald C0 hw ((hL 4 (by omega))) hsn.2.1 (0) (by omega) (by decide) (v := nI 1) (if_pos (by simp [ht0])) dX5_count_122 ?_
  refine n_if_eq (tgt := 130) hx hb dX5_count_123 (by decide) (by decide) (fun c_123 => ?_) (fun c_123 => ?_)
  · skip
    exact absurd c_123 (by omega)
  · skip
    refine lv_iconst (v := nI 1) hx hb dX5_count_126 (by decide) ?_
    refine lv_goto (tgt := 131) hx hb dX5_count_127 (by decide) ?_
    refine lv_aload_n hx hb dX5_count_131 rfl (lv_at hl 0 rfl) ?_
    refine q_get C0 hw ((hL 0 (by omega))) fx fw_X5_30 rfl dX5_count_132 ?_
    refine lv_iconst (v := nI 1) hx hb dX5_count_135 (by decide) ?_
    refine q_zald C0 hw ((hL 4 (by omega))) hsn.2.1 (1) (by omega) (by decide) (v := nI 0) (if_neg (by simp [ht1])) dX5_count_136 ?_
    refine n_if_eq (tgt := 144) hx hb dX5_count_137 (by decide) (by decide) (fun c_137 => ?_) (fun c_137 => ?_)
    · skip
      refine lv_iconst (v := nI 0) hx hb dX5_count_144 (by decide) ?_
      refine n_iadd hx hb dX5_count_145 ?_
      exact r_i C0 hr hlk hw (v := nI (1 + 0)) rfl ⟨(by simp [cntA, ht0, ht1]), (fun q  => rfl)⟩ (Nat.le_refl _) (Nat.le_refl _) dX5_count_146 hQ
    · skip
      exact absurd c_137 (by omega)
set_option maxHeartbeats 4000000 in
set_option maxRecDepth 100000 in
theorem c_X5_count_7_11 (l : Launch) (G : Gl) (L : List Nat) (F : Nat → va_E) (ad : Nat → Nat) (hL : ∀ i, i < 166 → ad i ∈ L) (hin : ∀ i j, i < 166 → j < 166 → i ≠ j → ad i ≠ ad j) (A : AB) (ht0 : (A.2.2.1 0).1 = true) (ht1 : (A.2.2.1 1).1 = true) (hX : XW G F ad A) (hA : okA A) : CI l yX5_count cX5_count 2 (some .int) rm_X5_count G L F [.ref (ad 0), .int (nI (7))] (fun r F1 => r = nI (cntA A 7) ∧ ∀ q, F1 q = F q) := by
  obtain ⟨fx, hn, hh, hsn, htx, hrk, ⟨u9, h134⟩, ⟨v9, h150⟩⟩ := hX
  obtain ⟨⟨hc2, hc, hpu, hok⟩, ⟨hh6, hho⟩, hso, hl60, hco⟩ := id hA
  refine CG_of (by decide) (Nat.le_of_ble_eq_true rfl) rfl ?_
  intro p e s m args below meth c Q C0 hr hlk hnm hQ hw ls hl
  have hx := C0.x
  have hb := C0.b
  refine lv_iload_n hx hb dX5_count_0 rfl (lv_at hl 1 rfl) ?_
  refine lv_tableIn (off := 116) (tgt := 117) hx hb dX5_count_1 (by decide) (by decide) rfl (by decide) ?_
  refine lv_aload_n hx hb dX5_count_117 rfl (lv_at hl 0 rfl) ?_
  refine q_get C0 hw ((hL 0 (by omega))) fx fw_X5_30 rfl dX5_count_118 ?_
  refine lv_iconst (v := nI 0) hx hb dX5_count_121 (by decide) ?_
  refine q_zald C0 hw ((hL 4 (by omega))) hsn.2.1 (0) (by omega) (by decide) (v := nI 1) (if_pos (by simp [ht0])) dX5_count_122 ?_
  refine n_if_eq (tgt := 130) hx hb dX5_count_123 (by decide) (by decide) (fun c_123 => ?_) (fun c_123 => ?_)
  · skip
    exact absurd c_123 (by omega)
  · skip
    refine lv_iconst (v := nI 1) hx hb dX5_count_126 (by decide) ?_
    refine lv_goto (tgt := 131) hx hb dX5_count_127 (by decide) ?_
    refine lv_aload_n hx hb dX5_count_131 rfl (lv_at hl 0 rfl) ?_
    refine q_get C0 hw ((hL 0 (by omega))) fx fw_X5_30 rfl dX5_count_132 ?_
    refine lv_iconst (v := nI 1) hx hb dX5_count_135 (by decide) ?_
    refine q_zald C0 hw ((hL 4 (by omega))) hsn.2.1 (1) (by omega) (by decide) (v := nI 1) (if_pos (by simp [ht1])) dX5_count_136 ?_
    refine n_if_eq (tgt := 144) hx hb dX5_count_137 (by decide) (by decide) (fun c_137 => ?_) (fun c_137 => ?_)
    · skip
      exact absurd c_137 (by omega)
    · skip
      refine lv_iconst (v := nI 1) hx hb dX5_count_140 (by decide) ?_
      refine lv_goto (tgt := 145) hx hb dX5_count_141 (by decide) ?_
      refine n_iadd hx hb dX5_count_145 ?_
      exact r_i C0 hr hlk hw (v := nI (1 + 1)) rfl ⟨(by simp [cntA, ht0, ht1]), (fun q  => rfl)⟩ (Nat.le_refl _) (Nat.le_refl _) dX5_count_146 hQ
theorem c_X5_count_7 (l : Launch) (G : Gl) (L : List Nat) (F : Nat → va_E) (ad : Nat → Nat) (hL : ∀ i, i < 166 → ad i ∈ L) (hin : ∀ i j, i < 166 → j < 166 → i ≠ j → ad i ≠ ad j) (A : AB) (hX : XW G F ad A) (hA : okA A) : CI l yX5_count cX5_count 2 (some .int) rm_X5_count G L F [.ref (ad 0), .int (nI (7))] (fun r F1 => r = nI (cntA A 7) ∧ ∀ q, F1 q = F q) := by
  rcases h0 : (A.2.2.1 0).1 with _ | _ <;> rcases h1 : (A.2.2.1 1).1 with _ | _
  · exact c_X5_count_7_00 l G L F ad hL hin A h0 h1 hX hA
  · exact c_X5_count_7_01 l G L F ad hL hin A h0 h1 hX hA
  · exact c_X5_count_7_10 l G L F ad hL hin A h0 h1 hX hA
  · exact c_X5_count_7_11 l G L F ad hL hin A h0 h1 hX hA
