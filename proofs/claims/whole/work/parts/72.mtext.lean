theorem digI_le (x : Int32) : digI x ≤ 2 := by
  unfold digI
  split
  · omega
  · split <;> omega
abbrev rm_X6_slotsOf : Room := { frames := 0, cells := 0, slots := 0, locals := 0 }
set_option maxHeartbeats 4000000 in
set_option maxRecDepth 100000 in
theorem c_X6_slotsOf_98 (l : Launch) (G : Gl) (L : List Nat) (F : Nat → va_E) : CI l yX6_slotsOf cX6_slotsOf 1 (some .int) rm_X6_slotsOf G L F [.int (nI (98))] (fun r F1 => r = nI 2 ∧ ∀ q, F1 q = F q) := by
  refine CG_of (by decide) (Nat.le_of_ble_eq_true rfl) rfl ?_
  intro p e s m args below meth c Q C0 hr hlk hnm hQ hw ls hl
  have hx := C0.x
  have hb := C0.b
  refine lv_iload_n hx hb dX6_slotsOf_0 rfl (lv_at hl 0 rfl) ?_
  refine lv_tableIn (off := 103) (tgt := 104) hx hb dX6_slotsOf_1 (by decide) (by decide) rfl (by decide) ?_
  refine lv_iconst (v := nI 2) hx hb dX6_slotsOf_104 (by decide) ?_
  exact r_i C0 hr hlk hw (v := nI 2) rfl ⟨rfl, (fun q  => rfl)⟩ (Nat.le_refl _) (Nat.le_refl _) dX6_slotsOf_105 hQ
set_option maxHeartbeats 4000000 in
set_option maxRecDepth 100000 in
theorem c_X6_slotsOf_99 (l : Launch) (G : Gl) (L : List Nat) (F : Nat → va_E) : CI l yX6_slotsOf cX6_slotsOf 1 (some .int) rm_X6_slotsOf G L F [.int (nI (99))] (fun r F1 => r = nI 2 ∧ ∀ q, F1 q = F q) := by
  refine CG_of (by decide) (Nat.le_of_ble_eq_true rfl) rfl ?_
  intro p e s m args below meth c Q C0 hr hlk hnm hQ hw ls hl
  have hx := C0.x
  have hb := C0.b
  refine lv_iload_n hx hb dX6_slotsOf_0 rfl (lv_at hl 0 rfl) ?_
  refine lv_tableIn (off := 103) (tgt := 104) hx hb dX6_slotsOf_1 (by decide) (by decide) rfl (by decide) ?_
  refine lv_iconst (v := nI 2) hx hb dX6_slotsOf_104 (by decide) ?_
  exact r_i C0 hr hlk hw (v := nI 2) rfl ⟨rfl, (fun q  => rfl)⟩ (Nat.le_refl _) (Nat.le_refl _) dX6_slotsOf_105 hQ
set_option maxHeartbeats 4000000 in
set_option maxRecDepth 100000 in
theorem c_X6_slotsOf_100 (l : Launch) (G : Gl) (L : List Nat) (F : Nat → va_E) : CI l yX6_slotsOf cX6_slotsOf 1 (some .int) rm_X6_slotsOf G L F [.int (nI (100))] (fun r F1 => r = nI 0 ∧ ∀ q, F1 q = F q) := by
  refine CG_of (by decide) (Nat.le_of_ble_eq_true rfl) rfl ?_
  intro p e s m args below meth c Q C0 hr hlk hnm hQ hw ls hl
  have hx := C0.x
  have hb := C0.b
  refine lv_iload_n hx hb dX6_slotsOf_0 rfl (lv_at hl 0 rfl) ?_
  refine lv_tableIn (off := 107) (tgt := 108) hx hb dX6_slotsOf_1 (by decide) (by decide) rfl (by decide) ?_
  refine lv_iconst (v := nI 0) hx hb dX6_slotsOf_108 (by decide) ?_
  exact r_i C0 hr hlk hw (v := nI 0) rfl ⟨rfl, (fun q  => rfl)⟩ (Nat.le_refl _) (Nat.le_refl _) dX6_slotsOf_109 hQ
set_option maxHeartbeats 4000000 in
set_option maxRecDepth 100000 in
theorem c_X6_slotsOf_101 (l : Launch) (G : Gl) (L : List Nat) (F : Nat → va_E) : CI l yX6_slotsOf cX6_slotsOf 1 (some .int) rm_X6_slotsOf G L F [.int (nI (101))] (fun r F1 => r = nI 1 ∧ ∀ q, F1 q = F q) := by
  refine CG_of (by decide) (Nat.le_of_ble_eq_true rfl) rfl ?_
  intro p e s m args below meth c Q C0 hr hlk hnm hQ hw ls hl
  have hx := C0.x
  have hb := C0.b
  refine lv_iload_n hx hb dX6_slotsOf_0 rfl (lv_at hl 0 rfl) ?_
  refine lv_tableIn (off := 105) (tgt := 106) hx hb dX6_slotsOf_1 (by decide) (by decide) rfl (by decide) ?_
  refine lv_iconst (v := nI 1) hx hb dX6_slotsOf_106 (by decide) ?_
  exact r_i C0 hr hlk hw (v := nI 1) rfl ⟨rfl, (fun q  => rfl)⟩ (Nat.le_refl _) (Nat.le_refl _) dX6_slotsOf_107 hQ
set_option maxHeartbeats 4000000 in
set_option maxRecDepth 100000 in
theorem c_X6_slotsOf_102 (l : Launch) (G : Gl) (L : List Nat) (F : Nat → va_E) : CI l yX6_slotsOf cX6_slotsOf 1 (some .int) rm_X6_slotsOf G L F [.int (nI (102))] (fun r F1 => r = nI 0 ∧ ∀ q, F1 q = F q) := by
  refine CG_of (by decide) (Nat.le_of_ble_eq_true rfl) rfl ?_
  intro p e s m args below meth c Q C0 hr hlk hnm hQ hw ls hl
  have hx := C0.x
  have hb := C0.b
  refine lv_iload_n hx hb dX6_slotsOf_0 rfl (lv_at hl 0 rfl) ?_
  refine lv_tableIn (off := 107) (tgt := 108) hx hb dX6_slotsOf_1 (by decide) (by decide) rfl (by decide) ?_
  refine lv_iconst (v := nI 0) hx hb dX6_slotsOf_108 (by decide) ?_
  exact r_i C0 hr hlk hw (v := nI 0) rfl ⟨rfl, (fun q  => rfl)⟩ (Nat.le_refl _) (Nat.le_refl _) dX6_slotsOf_109 hQ
set_option maxHeartbeats 4000000 in
set_option maxRecDepth 100000 in
theorem c_X6_slotsOf_103 (l : Launch) (G : Gl) (L : List Nat) (F : Nat → va_E) : CI l yX6_slotsOf cX6_slotsOf 1 (some .int) rm_X6_slotsOf G L F [.int (nI (103))] (fun r F1 => r = nI 0 ∧ ∀ q, F1 q = F q) := by
  refine CG_of (by decide) (Nat.le_of_ble_eq_true rfl) rfl ?_
  intro p e s m args below meth c Q C0 hr hlk hnm hQ hw ls hl
  have hx := C0.x
  have hb := C0.b
  refine lv_iload_n hx hb dX6_slotsOf_0 rfl (lv_at hl 0 rfl) ?_
  refine lv_tableIn (off := 107) (tgt := 108) hx hb dX6_slotsOf_1 (by decide) (by decide) rfl (by decide) ?_
  refine lv_iconst (v := nI 0) hx hb dX6_slotsOf_108 (by decide) ?_
  exact r_i C0 hr hlk hw (v := nI 0) rfl ⟨rfl, (fun q  => rfl)⟩ (Nat.le_refl _) (Nat.le_refl _) dX6_slotsOf_109 hQ
set_option maxHeartbeats 4000000 in
set_option maxRecDepth 100000 in
theorem c_X6_slotsOf_104 (l : Launch) (G : Gl) (L : List Nat) (F : Nat → va_E) : CI l yX6_slotsOf cX6_slotsOf 1 (some .int) rm_X6_slotsOf G L F [.int (nI (104))] (fun r F1 => r = nI 0 ∧ ∀ q, F1 q = F q) := by
  refine CG_of (by decide) (Nat.le_of_ble_eq_true rfl) rfl ?_
  intro p e s m args below meth c Q C0 hr hlk hnm hQ hw ls hl
  have hx := C0.x
  have hb := C0.b
  refine lv_iload_n hx hb dX6_slotsOf_0 rfl (lv_at hl 0 rfl) ?_
  refine lv_tableIn (off := 107) (tgt := 108) hx hb dX6_slotsOf_1 (by decide) (by decide) rfl (by decide) ?_
  refine lv_iconst (v := nI 0) hx hb dX6_slotsOf_108 (by decide) ?_
  exact r_i C0 hr hlk hw (v := nI 0) rfl ⟨rfl, (fun q  => rfl)⟩ (Nat.le_refl _) (Nat.le_refl _) dX6_slotsOf_109 hQ
set_option maxHeartbeats 4000000 in
set_option maxRecDepth 100000 in
theorem c_X6_slotsOf_105 (l : Launch) (G : Gl) (L : List Nat) (F : Nat → va_E) : CI l yX6_slotsOf cX6_slotsOf 1 (some .int) rm_X6_slotsOf G L F [.int (nI (105))] (fun r F1 => r = nI 1 ∧ ∀ q, F1 q = F q) := by
  refine CG_of (by decide) (Nat.le_of_ble_eq_true rfl) rfl ?_
  intro p e s m args below meth c Q C0 hr hlk hnm hQ hw ls hl
  have hx := C0.x
  have hb := C0.b
  refine lv_iload_n hx hb dX6_slotsOf_0 rfl (lv_at hl 0 rfl) ?_
  refine lv_tableIn (off := 105) (tgt := 106) hx hb dX6_slotsOf_1 (by decide) (by decide) rfl (by decide) ?_
  refine lv_iconst (v := nI 1) hx hb dX6_slotsOf_106 (by decide) ?_
  exact r_i C0 hr hlk hw (v := nI 1) rfl ⟨rfl, (fun q  => rfl)⟩ (Nat.le_refl _) (Nat.le_refl _) dX6_slotsOf_107 hQ
set_option maxHeartbeats 4000000 in
set_option maxRecDepth 100000 in
theorem c_X6_slotsOf_106 (l : Launch) (G : Gl) (L : List Nat) (F : Nat → va_E) : CI l yX6_slotsOf cX6_slotsOf 1 (some .int) rm_X6_slotsOf G L F [.int (nI (106))] (fun r F1 => r = nI 0 ∧ ∀ q, F1 q = F q) := by
  refine CG_of (by decide) (Nat.le_of_ble_eq_true rfl) rfl ?_
  intro p e s m args below meth c Q C0 hr hlk hnm hQ hw ls hl
  have hx := C0.x
  have hb := C0.b
  refine lv_iload_n hx hb dX6_slotsOf_0 rfl (lv_at hl 0 rfl) ?_
  refine lv_tableIn (off := 107) (tgt := 108) hx hb dX6_slotsOf_1 (by decide) (by decide) rfl (by decide) ?_
  refine lv_iconst (v := nI 0) hx hb dX6_slotsOf_108 (by decide) ?_
  exact r_i C0 hr hlk hw (v := nI 0) rfl ⟨rfl, (fun q  => rfl)⟩ (Nat.le_refl _) (Nat.le_refl _) dX6_slotsOf_109 hQ
set_option maxHeartbeats 4000000 in
set_option maxRecDepth 100000 in
theorem c_X6_slotsOf_107 (l : Launch) (G : Gl) (L : List Nat) (F : Nat → va_E) : CI l yX6_slotsOf cX6_slotsOf 1 (some .int) rm_X6_slotsOf G L F [.int (nI (107))] (fun r F1 => r = nI 0 ∧ ∀ q, F1 q = F q) := by
  refine CG_of (by decide) (Nat.le_of_ble_eq_true rfl) rfl ?_
  intro p e s m args below meth c Q C0 hr hlk hnm hQ hw ls hl
  have hx := C0.x
  have hb := C0.b
  refine lv_iload_n hx hb dX6_slotsOf_0 rfl (lv_at hl 0 rfl) ?_
  refine lv_tableIn (off := 107) (tgt := 108) hx hb dX6_slotsOf_1 (by decide) (by decide) rfl (by decide) ?_
  refine lv_iconst (v := nI 0) hx hb dX6_slotsOf_108 (by decide) ?_
  exact r_i C0 hr hlk hw (v := nI 0) rfl ⟨rfl, (fun q  => rfl)⟩ (Nat.le_refl _) (Nat.le_refl _) dX6_slotsOf_109 hQ
set_option maxHeartbeats 4000000 in
set_option maxRecDepth 100000 in
theorem c_X6_slotsOf_108 (l : Launch) (G : Gl) (L : List Nat) (F : Nat → va_E) : CI l yX6_slotsOf cX6_slotsOf 1 (some .int) rm_X6_slotsOf G L F [.int (nI (108))] (fun r F1 => r = nI 1 ∧ ∀ q, F1 q = F q) := by
  refine CG_of (by decide) (Nat.le_of_ble_eq_true rfl) rfl ?_
  intro p e s m args below meth c Q C0 hr hlk hnm hQ hw ls hl
  have hx := C0.x
  have hb := C0.b
  refine lv_iload_n hx hb dX6_slotsOf_0 rfl (lv_at hl 0 rfl) ?_
  refine lv_tableIn (off := 105) (tgt := 106) hx hb dX6_slotsOf_1 (by decide) (by decide) rfl (by decide) ?_
  refine lv_iconst (v := nI 1) hx hb dX6_slotsOf_106 (by decide) ?_
  exact r_i C0 hr hlk hw (v := nI 1) rfl ⟨rfl, (fun q  => rfl)⟩ (Nat.le_refl _) (Nat.le_refl _) dX6_slotsOf_107 hQ
set_option maxHeartbeats 4000000 in
set_option maxRecDepth 100000 in
theorem c_X6_slotsOf_109 (l : Launch) (G : Gl) (L : List Nat) (F : Nat → va_E) : CI l yX6_slotsOf cX6_slotsOf 1 (some .int) rm_X6_slotsOf G L F [.int (nI (109))] (fun r F1 => r = nI 0 ∧ ∀ q, F1 q = F q) := by
  refine CG_of (by decide) (Nat.le_of_ble_eq_true rfl) rfl ?_
  intro p e s m args below meth c Q C0 hr hlk hnm hQ hw ls hl
  have hx := C0.x
  have hb := C0.b
  refine lv_iload_n hx hb dX6_slotsOf_0 rfl (lv_at hl 0 rfl) ?_
  refine lv_tableIn (off := 107) (tgt := 108) hx hb dX6_slotsOf_1 (by decide) (by decide) rfl (by decide) ?_
  refine lv_iconst (v := nI 0) hx hb dX6_slotsOf_108 (by decide) ?_
  exact r_i C0 hr hlk hw (v := nI 0) rfl ⟨rfl, (fun q  => rfl)⟩ (Nat.le_refl _) (Nat.le_refl _) dX6_slotsOf_109 hQ
set_option maxHeartbeats 4000000 in
set_option maxRecDepth 100000 in
theorem c_X6_slotsOf_110 (l : Launch) (G : Gl) (L : List Nat) (F : Nat → va_E) : CI l yX6_slotsOf cX6_slotsOf 1 (some .int) rm_X6_slotsOf G L F [.int (nI (110))] (fun r F1 => r = nI 0 ∧ ∀ q, F1 q = F q) := by
  refine CG_of (by decide) (Nat.le_of_ble_eq_true rfl) rfl ?_
  intro p e s m args below meth c Q C0 hr hlk hnm hQ hw ls hl
  have hx := C0.x
  have hb := C0.b
  refine lv_iload_n hx hb dX6_slotsOf_0 rfl (lv_at hl 0 rfl) ?_
  refine lv_tableIn (off := 107) (tgt := 108) hx hb dX6_slotsOf_1 (by decide) (by decide) rfl (by decide) ?_
  refine lv_iconst (v := nI 0) hx hb dX6_slotsOf_108 (by decide) ?_
  exact r_i C0 hr hlk hw (v := nI 0) rfl ⟨rfl, (fun q  => rfl)⟩ (Nat.le_refl _) (Nat.le_refl _) dX6_slotsOf_109 hQ
set_option maxHeartbeats 4000000 in
set_option maxRecDepth 100000 in
theorem c_X6_slotsOf_111 (l : Launch) (G : Gl) (L : List Nat) (F : Nat → va_E) : CI l yX6_slotsOf cX6_slotsOf 1 (some .int) rm_X6_slotsOf G L F [.int (nI (111))] (fun r F1 => r = nI 0 ∧ ∀ q, F1 q = F q) := by
  refine CG_of (by decide) (Nat.le_of_ble_eq_true rfl) rfl ?_
  intro p e s m args below meth c Q C0 hr hlk hnm hQ hw ls hl
  have hx := C0.x
  have hb := C0.b
  refine lv_iload_n hx hb dX6_slotsOf_0 rfl (lv_at hl 0 rfl) ?_
  refine lv_tableIn (off := 107) (tgt := 108) hx hb dX6_slotsOf_1 (by decide) (by decide) rfl (by decide) ?_
  refine lv_iconst (v := nI 0) hx hb dX6_slotsOf_108 (by decide) ?_
  exact r_i C0 hr hlk hw (v := nI 0) rfl ⟨rfl, (fun q  => rfl)⟩ (Nat.le_refl _) (Nat.le_refl _) dX6_slotsOf_109 hQ
set_option maxHeartbeats 4000000 in
set_option maxRecDepth 100000 in
theorem c_X6_slotsOf_112 (l : Launch) (G : Gl) (L : List Nat) (F : Nat → va_E) : CI l yX6_slotsOf cX6_slotsOf 1 (some .int) rm_X6_slotsOf G L F [.int (nI (112))] (fun r F1 => r = nI 2 ∧ ∀ q, F1 q = F q) := by
  refine CG_of (by decide) (Nat.le_of_ble_eq_true rfl) rfl ?_
  intro p e s m args below meth c Q C0 hr hlk hnm hQ hw ls hl
  have hx := C0.x
  have hb := C0.b
  refine lv_iload_n hx hb dX6_slotsOf_0 rfl (lv_at hl 0 rfl) ?_
  refine lv_tableIn (off := 103) (tgt := 104) hx hb dX6_slotsOf_1 (by decide) (by decide) rfl (by decide) ?_
  refine lv_iconst (v := nI 2) hx hb dX6_slotsOf_104 (by decide) ?_
  exact r_i C0 hr hlk hw (v := nI 2) rfl ⟨rfl, (fun q  => rfl)⟩ (Nat.le_refl _) (Nat.le_refl _) dX6_slotsOf_105 hQ
set_option maxHeartbeats 4000000 in
set_option maxRecDepth 100000 in
theorem c_X6_slotsOf_113 (l : Launch) (G : Gl) (L : List Nat) (F : Nat → va_E) : CI l yX6_slotsOf cX6_slotsOf 1 (some .int) rm_X6_slotsOf G L F [.int (nI (113))] (fun r F1 => r = nI 0 ∧ ∀ q, F1 q = F q) := by
  refine CG_of (by decide) (Nat.le_of_ble_eq_true rfl) rfl ?_
  intro p e s m args below meth c Q C0 hr hlk hnm hQ hw ls hl
  have hx := C0.x
  have hb := C0.b
  refine lv_iload_n hx hb dX6_slotsOf_0 rfl (lv_at hl 0 rfl) ?_
  refine lv_tableIn (off := 107) (tgt := 108) hx hb dX6_slotsOf_1 (by decide) (by decide) rfl (by decide) ?_
  refine lv_iconst (v := nI 0) hx hb dX6_slotsOf_108 (by decide) ?_
  exact r_i C0 hr hlk hw (v := nI 0) rfl ⟨rfl, (fun q  => rfl)⟩ (Nat.le_refl _) (Nat.le_refl _) dX6_slotsOf_109 hQ
set_option maxHeartbeats 4000000 in
set_option maxRecDepth 100000 in
theorem c_X6_slotsOf_114 (l : Launch) (G : Gl) (L : List Nat) (F : Nat → va_E) : CI l yX6_slotsOf cX6_slotsOf 1 (some .int) rm_X6_slotsOf G L F [.int (nI (114))] (fun r F1 => r = nI 0 ∧ ∀ q, F1 q = F q) := by
  refine CG_of (by decide) (Nat.le_of_ble_eq_true rfl) rfl ?_
  intro p e s m args below meth c Q C0 hr hlk hnm hQ hw ls hl
  have hx := C0.x
  have hb := C0.b
  refine lv_iload_n hx hb dX6_slotsOf_0 rfl (lv_at hl 0 rfl) ?_
  refine lv_tableIn (off := 107) (tgt := 108) hx hb dX6_slotsOf_1 (by decide) (by decide) rfl (by decide) ?_
  refine lv_iconst (v := nI 0) hx hb dX6_slotsOf_108 (by decide) ?_
  exact r_i C0 hr hlk hw (v := nI 0) rfl ⟨rfl, (fun q  => rfl)⟩ (Nat.le_refl _) (Nat.le_refl _) dX6_slotsOf_109 hQ
set_option maxHeartbeats 4000000 in
set_option maxRecDepth 100000 in
theorem c_X6_slotsOf_115 (l : Launch) (G : Gl) (L : List Nat) (F : Nat → va_E) : CI l yX6_slotsOf cX6_slotsOf 1 (some .int) rm_X6_slotsOf G L F [.int (nI (115))] (fun r F1 => r = nI 2 ∧ ∀ q, F1 q = F q) := by
  refine CG_of (by decide) (Nat.le_of_ble_eq_true rfl) rfl ?_
  intro p e s m args below meth c Q C0 hr hlk hnm hQ hw ls hl
  have hx := C0.x
  have hb := C0.b
  refine lv_iload_n hx hb dX6_slotsOf_0 rfl (lv_at hl 0 rfl) ?_
  refine lv_tableIn (off := 103) (tgt := 104) hx hb dX6_slotsOf_1 (by decide) (by decide) rfl (by decide) ?_
  refine lv_iconst (v := nI 2) hx hb dX6_slotsOf_104 (by decide) ?_
  exact r_i C0 hr hlk hw (v := nI 2) rfl ⟨rfl, (fun q  => rfl)⟩ (Nat.le_refl _) (Nat.le_refl _) dX6_slotsOf_105 hQ
set_option maxHeartbeats 4000000 in
set_option maxRecDepth 100000 in
theorem c_X6_slotsOf_116 (l : Launch) (G : Gl) (L : List Nat) (F : Nat → va_E) : CI l yX6_slotsOf cX6_slotsOf 1 (some .int) rm_X6_slotsOf G L F [.int (nI (116))] (fun r F1 => r = nI 0 ∧ ∀ q, F1 q = F q) := by
  refine CG_of (by decide) (Nat.le_of_ble_eq_true rfl) rfl ?_
  intro p e s m args below meth c Q C0 hr hlk hnm hQ hw ls hl
  have hx := C0.x
  have hb := C0.b
  refine lv_iload_n hx hb dX6_slotsOf_0 rfl (lv_at hl 0 rfl) ?_
  refine lv_tableIn (off := 107) (tgt := 108) hx hb dX6_slotsOf_1 (by decide) (by decide) rfl (by decide) ?_
  refine lv_iconst (v := nI 0) hx hb dX6_slotsOf_108 (by decide) ?_
  exact r_i C0 hr hlk hw (v := nI 0) rfl ⟨rfl, (fun q  => rfl)⟩ (Nat.le_refl _) (Nat.le_refl _) dX6_slotsOf_109 hQ
set_option maxHeartbeats 4000000 in
set_option maxRecDepth 100000 in
theorem c_X6_slotsOf_117 (l : Launch) (G : Gl) (L : List Nat) (F : Nat → va_E) : CI l yX6_slotsOf cX6_slotsOf 1 (some .int) rm_X6_slotsOf G L F [.int (nI (117))] (fun r F1 => r = nI 0 ∧ ∀ q, F1 q = F q) := by
  refine CG_of (by decide) (Nat.le_of_ble_eq_true rfl) rfl ?_
  intro p e s m args below meth c Q C0 hr hlk hnm hQ hw ls hl
  have hx := C0.x
  have hb := C0.b
  refine lv_iload_n hx hb dX6_slotsOf_0 rfl (lv_at hl 0 rfl) ?_
  refine lv_tableIn (off := 107) (tgt := 108) hx hb dX6_slotsOf_1 (by decide) (by decide) rfl (by decide) ?_
  refine lv_iconst (v := nI 0) hx hb dX6_slotsOf_108 (by decide) ?_
  exact r_i C0 hr hlk hw (v := nI 0) rfl ⟨rfl, (fun q  => rfl)⟩ (Nat.le_refl _) (Nat.le_refl _) dX6_slotsOf_109 hQ
set_option maxHeartbeats 4000000 in
set_option maxRecDepth 100000 in
theorem c_X6_slotsOf_118 (l : Launch) (G : Gl) (L : List Nat) (F : Nat → va_E) : CI l yX6_slotsOf cX6_slotsOf 1 (some .int) rm_X6_slotsOf G L F [.int (nI (118))] (fun r F1 => r = nI 0 ∧ ∀ q, F1 q = F q) := by
  refine CG_of (by decide) (Nat.le_of_ble_eq_true rfl) rfl ?_
  intro p e s m args below meth c Q C0 hr hlk hnm hQ hw ls hl
  have hx := C0.x
  have hb := C0.b
  refine lv_iload_n hx hb dX6_slotsOf_0 rfl (lv_at hl 0 rfl) ?_
  refine lv_tableIn (off := 107) (tgt := 108) hx hb dX6_slotsOf_1 (by decide) (by decide) rfl (by decide) ?_
  refine lv_iconst (v := nI 0) hx hb dX6_slotsOf_108 (by decide) ?_
  exact r_i C0 hr hlk hw (v := nI 0) rfl ⟨rfl, (fun q  => rfl)⟩ (Nat.le_refl _) (Nat.le_refl _) dX6_slotsOf_109 hQ
set_option maxHeartbeats 4000000 in
set_option maxRecDepth 100000 in
theorem c_X6_slotsOf_119 (l : Launch) (G : Gl) (L : List Nat) (F : Nat → va_E) : CI l yX6_slotsOf cX6_slotsOf 1 (some .int) rm_X6_slotsOf G L F [.int (nI (119))] (fun r F1 => r = nI 2 ∧ ∀ q, F1 q = F q) := by
  refine CG_of (by decide) (Nat.le_of_ble_eq_true rfl) rfl ?_
  intro p e s m args below meth c Q C0 hr hlk hnm hQ hw ls hl
  have hx := C0.x
  have hb := C0.b
  refine lv_iload_n hx hb dX6_slotsOf_0 rfl (lv_at hl 0 rfl) ?_
  refine lv_tableIn (off := 103) (tgt := 104) hx hb dX6_slotsOf_1 (by decide) (by decide) rfl (by decide) ?_
  refine lv_iconst (v := nI 2) hx hb dX6_slotsOf_104 (by decide) ?_
  exact r_i C0 hr hlk hw (v := nI 2) rfl ⟨rfl, (fun q  => rfl)⟩ (Nat.le_refl _) (Nat.le_refl _) dX6_slotsOf_105 hQ
set_option maxHeartbeats 4000000 in
set_option maxRecDepth 100000 in
theorem c_X6_slotsOf_out (l : Launch) (G : Gl) (L : List Nat) (F : Nat → va_E) (x : Int32) (h9 : x.toInt < 98 ∨ 119 < x.toInt) : CI l yX6_slotsOf cX6_slotsOf 1 (some .int) rm_X6_slotsOf G L F [.int (x)] (fun r F1 => r = nI (digI (x)) ∧ ∀ q, F1 q = F q) := by
  refine CG_of (by decide) (Nat.le_of_ble_eq_true rfl) rfl ?_
  intro p e s m args below meth c Q C0 hr hlk hnm hQ hw ls hl
  have hx := C0.x
  have hb := C0.b
  refine lv_iload_n hx hb dX6_slotsOf_0 rfl (lv_at hl 0 rfl) ?_
  refine lv_tableOut (tgt := 108) hx hb dX6_slotsOf_1 h9 (by decide) ?_
  refine lv_iconst (v := nI 0) hx hb dX6_slotsOf_108 (by decide) ?_
  exact r_i C0 hr hlk hw (v := nI 0) rfl ⟨(by rw [digI_out h9]), (fun q  => rfl)⟩ (Nat.le_refl _) (Nat.le_refl _) dX6_slotsOf_109 hQ
theorem c_X6_slotsOf (l : Launch) (G : Gl) (L : List Nat) (F : Nat → va_E) (x : Int32) : CI l yX6_slotsOf cX6_slotsOf 1 (some .int) rm_X6_slotsOf G L F [.int x] (fun r F1 => r = nI (digI (x)) ∧ ∀ q, F1 q = F q) := by
  by_cases h : x.toInt < 98 ∨ 119 < x.toInt
  · exact c_X6_slotsOf_out l G L F x h
  · obtain ⟨k, hk, rfl⟩ := digI_in h
    match k, hk with
    | 0, _ => exact c_X6_slotsOf_98 l G L F
    | 1, _ => exact c_X6_slotsOf_99 l G L F
    | 2, _ => exact c_X6_slotsOf_100 l G L F
    | 3, _ => exact c_X6_slotsOf_101 l G L F
    | 4, _ => exact c_X6_slotsOf_102 l G L F
    | 5, _ => exact c_X6_slotsOf_103 l G L F
    | 6, _ => exact c_X6_slotsOf_104 l G L F
    | 7, _ => exact c_X6_slotsOf_105 l G L F
    | 8, _ => exact c_X6_slotsOf_106 l G L F
    | 9, _ => exact c_X6_slotsOf_107 l G L F
    | 10, _ => exact c_X6_slotsOf_108 l G L F
    | 11, _ => exact c_X6_slotsOf_109 l G L F
    | 12, _ => exact c_X6_slotsOf_110 l G L F
    | 13, _ => exact c_X6_slotsOf_111 l G L F
    | 14, _ => exact c_X6_slotsOf_112 l G L F
    | 15, _ => exact c_X6_slotsOf_113 l G L F
    | 16, _ => exact c_X6_slotsOf_114 l G L F
    | 17, _ => exact c_X6_slotsOf_115 l G L F
    | 18, _ => exact c_X6_slotsOf_116 l G L F
    | 19, _ => exact c_X6_slotsOf_117 l G L F
    | 20, _ => exact c_X6_slotsOf_118 l G L F
    | 21, _ => exact c_X6_slotsOf_119 l G L F
    | k + 22, h9 => exact absurd h9 (by omega)
abbrev rm_X6_workOf : Room := { frames := 0, cells := 0, slots := 0, locals := 0 }
set_option maxHeartbeats 4000000 in
set_option maxRecDepth 100000 in
theorem c_X6_workOf_98 (l : Launch) (G : Gl) (L : List Nat) (F : Nat → va_E) : CI l yX6_workOf cX6_workOf 1 (some .int) rm_X6_workOf G L F [.int (nI (98))] (fun r F1 => r = nI 2 ∧ ∀ q, F1 q = F q) := by
  refine CG_of (by decide) (Nat.le_of_ble_eq_true rfl) rfl ?_
  intro p e s m args below meth c Q C0 hr hlk hnm hQ hw ls hl
  have hx := C0.x
  have hb := C0.b
  refine lv_iload_n hx hb dX6_workOf_0 rfl (lv_at hl 0 rfl) ?_
  refine lv_lookup (off := 59) (tgt := 60) hx hb dX6_workOf_1 (by decide) (by decide) (by decide) ?_
  refine lv_iconst (v := nI 2) hx hb dX6_workOf_60 (by decide) ?_
  exact r_i C0 hr hlk hw (v := nI 2) rfl ⟨rfl, (fun q  => rfl)⟩ (Nat.le_refl _) (Nat.le_refl _) dX6_workOf_61 hQ
set_option maxHeartbeats 4000000 in
set_option maxRecDepth 100000 in
theorem c_X6_workOf_115 (l : Launch) (G : Gl) (L : List Nat) (F : Nat → va_E) : CI l yX6_workOf cX6_workOf 1 (some .int) rm_X6_workOf G L F [.int (nI (115))] (fun r F1 => r = nI 1 ∧ ∀ q, F1 q = F q) := by
  refine CG_of (by decide) (Nat.le_of_ble_eq_true rfl) rfl ?_
  intro p e s m args below meth c Q C0 hr hlk hnm hQ hw ls hl
  have hx := C0.x
  have hb := C0.b
  refine lv_iload_n hx hb dX6_workOf_0 rfl (lv_at hl 0 rfl) ?_
  refine lv_lookup (off := 61) (tgt := 62) hx hb dX6_workOf_1 (by decide) (by decide) (by decide) ?_
  refine lv_iconst (v := nI 1) hx hb dX6_workOf_62 (by decide) ?_
  exact r_i C0 hr hlk hw (v := nI 1) rfl ⟨rfl, (fun q  => rfl)⟩ (Nat.le_refl _) (Nat.le_refl _) dX6_workOf_63 hQ
set_option maxHeartbeats 4000000 in
set_option maxRecDepth 100000 in
theorem c_X6_workOf_119 (l : Launch) (G : Gl) (L : List Nat) (F : Nat → va_E) : CI l yX6_workOf cX6_workOf 1 (some .int) rm_X6_workOf G L F [.int (nI (119))] (fun r F1 => r = nI 20 ∧ ∀ q, F1 q = F q) := by
  refine CG_of (by decide) (Nat.le_of_ble_eq_true rfl) rfl ?_
  intro p e s m args below meth c Q C0 hr hlk hnm hQ hw ls hl
  have hx := C0.x
  have hb := C0.b
  refine lv_iload_n hx hb dX6_workOf_0 rfl (lv_at hl 0 rfl) ?_
  refine lv_lookup (off := 63) (tgt := 64) hx hb dX6_workOf_1 (by decide) (by decide) (by decide) ?_
  refine lv_bipush (v := nI 20) hx hb dX6_workOf_64 (by decide) ?_
  exact r_i C0 hr hlk hw (v := nI 20) rfl ⟨rfl, (fun q  => rfl)⟩ (Nat.le_refl _) (Nat.le_refl _) dX6_workOf_66 hQ
set_option maxHeartbeats 4000000 in
set_option maxRecDepth 100000 in
theorem c_X6_workOf_112 (l : Launch) (G : Gl) (L : List Nat) (F : Nat → va_E) : CI l yX6_workOf cX6_workOf 1 (some .int) rm_X6_workOf G L F [.int (nI (112))] (fun r F1 => r = nI 6 ∧ ∀ q, F1 q = F q) := by
  refine CG_of (by decide) (Nat.le_of_ble_eq_true rfl) rfl ?_
  intro p e s m args below meth c Q C0 hr hlk hnm hQ hw ls hl
  have hx := C0.x
  have hb := C0.b
  refine lv_iload_n hx hb dX6_workOf_0 rfl (lv_at hl 0 rfl) ?_
  refine lv_lookup (off := 71) (tgt := 72) hx hb dX6_workOf_1 (by decide) (by decide) (by decide) ?_
  refine lv_bipush (v := nI 6) hx hb dX6_workOf_72 (by decide) ?_
  exact r_i C0 hr hlk hw (v := nI 6) rfl ⟨rfl, (fun q  => rfl)⟩ (Nat.le_refl _) (Nat.le_refl _) dX6_workOf_74 hQ
set_option maxHeartbeats 4000000 in
set_option maxRecDepth 100000 in
theorem c_X6_workOf_108 (l : Launch) (G : Gl) (L : List Nat) (F : Nat → va_E) : CI l yX6_workOf cX6_workOf 1 (some .int) rm_X6_workOf G L F [.int (nI (108))] (fun r F1 => r = nI 6 ∧ ∀ q, F1 q = F q) := by
  refine CG_of (by decide) (Nat.le_of_ble_eq_true rfl) rfl ?_
  intro p e s m args below meth c Q C0 hr hlk hnm hQ hw ls hl
  have hx := C0.x
  have hb := C0.b
  refine lv_iload_n hx hb dX6_workOf_0 rfl (lv_at hl 0 rfl) ?_
  refine lv_lookup (off := 68) (tgt := 69) hx hb dX6_workOf_1 (by decide) (by decide) (by decide) ?_
  refine lv_bipush (v := nI 6) hx hb dX6_workOf_69 (by decide) ?_
  exact r_i C0 hr hlk hw (v := nI 6) rfl ⟨rfl, (fun q  => rfl)⟩ (Nat.le_refl _) (Nat.le_refl _) dX6_workOf_71 hQ
set_option maxHeartbeats 4000000 in
set_option maxRecDepth 100000 in
theorem c_X6_workOf_101 (l : Launch) (G : Gl) (L : List Nat) (F : Nat → va_E) : CI l yX6_workOf cX6_workOf 1 (some .int) rm_X6_workOf G L F [.int (nI (101))] (fun r F1 => r = nI 5 ∧ ∀ q, F1 q = F q) := by
  refine CG_of (by decide) (Nat.le_of_ble_eq_true rfl) rfl ?_
  intro p e s m args below meth c Q C0 hr hlk hnm hQ hw ls hl
  have hx := C0.x
  have hb := C0.b
  refine lv_iload_n hx hb dX6_workOf_0 rfl (lv_at hl 0 rfl) ?_
  refine lv_lookup (off := 66) (tgt := 67) hx hb dX6_workOf_1 (by decide) (by decide) (by decide) ?_
  refine lv_iconst (v := nI 5) hx hb dX6_workOf_67 (by decide) ?_
  exact r_i C0 hr hlk hw (v := nI 5) rfl ⟨rfl, (fun q  => rfl)⟩ (Nat.le_refl _) (Nat.le_refl _) dX6_workOf_68 hQ
set_option maxHeartbeats 4000000 in
set_option maxRecDepth 100000 in
theorem c_X6_workOf_99 (l : Launch) (G : Gl) (L : List Nat) (F : Nat → va_E) : CI l yX6_workOf cX6_workOf 1 (some .int) rm_X6_workOf G L F [.int (nI (99))] (fun r F1 => r = nI 4 ∧ ∀ q, F1 q = F q) := by
  refine CG_of (by decide) (Nat.le_of_ble_eq_true rfl) rfl ?_
  intro p e s m args below meth c Q C0 hr hlk hnm hQ hw ls hl
  have hx := C0.x
  have hb := C0.b
  refine lv_iload_n hx hb dX6_workOf_0 rfl (lv_at hl 0 rfl) ?_
  refine lv_lookup (off := 74) (tgt := 75) hx hb dX6_workOf_1 (by decide) (by decide) (by decide) ?_
  refine lv_iconst (v := nI 4) hx hb dX6_workOf_75 (by decide) ?_
  exact r_i C0 hr hlk hw (v := nI 4) rfl ⟨rfl, (fun q  => rfl)⟩ (Nat.le_refl _) (Nat.le_refl _) dX6_workOf_76 hQ
set_option maxHeartbeats 4000000 in
set_option maxRecDepth 100000 in
theorem c_X6_workOf_105 (l : Launch) (G : Gl) (L : List Nat) (F : Nat → va_E) : CI l yX6_workOf cX6_workOf 1 (some .int) rm_X6_workOf G L F [.int (nI (105))] (fun r F1 => r = nI 4 ∧ ∀ q, F1 q = F q) := by
  refine CG_of (by decide) (Nat.le_of_ble_eq_true rfl) rfl ?_
  intro p e s m args below meth c Q C0 hr hlk hnm hQ hw ls hl
  have hx := C0.x
  have hb := C0.b
  refine lv_iload_n hx hb dX6_workOf_0 rfl (lv_at hl 0 rfl) ?_
  refine lv_lookup (off := 74) (tgt := 75) hx hb dX6_workOf_1 (by decide) (by decide) (by decide) ?_
  refine lv_iconst (v := nI 4) hx hb dX6_workOf_75 (by decide) ?_
  exact r_i C0 hr hlk hw (v := nI 4) rfl ⟨rfl, (fun q  => rfl)⟩ (Nat.le_refl _) (Nat.le_refl _) dX6_workOf_76 hQ
abbrev rm_X6_takesSlot : Room := { frames := 1, cells := 0, slots := 0, locals := 22 }
set_option maxHeartbeats 4000000 in
set_option maxRecDepth 100000 in
theorem c_X6_takesSlot_1_1 (l : Launch) (G : Gl) (L : List Nat) (F : Nat → va_E) (b : Nat) (ma : Nat → Nat) (mi : Nat → Int32) (hh : Int64) (pf : Nat → Int32) (rd cd lt : Nat) (mb : b ∈ L) (fb : F b = mO ma mi hh) (hma : ∀ i, i < 7 → ma i ∈ L) (fq : F (ma 6) = .inl (G.2 0, 52, .inl pf)) (h3 : mi 3 = nI rd) (h4 : mi 4 = nI 1) (hr9 : rd ≤ 12) (hlt : pf (4 * rd) = nI lt) (hD : digI (nI lt) = 1) : CI l yX6_takesSlot cX6_takesSlot 3 (some .boolean) rm_X6_takesSlot G L F [.ref b, .int (nI cd)] (fun r F1 => r = (if inR (nI cd) 48 53 then nI 1 else nI 0) ∧ F1 b = mO ma (va_up (va_up mi 3 (nI (rd))) 4 (nI 3)) hh ∧ F1 (ma 6) = .inl (G.2 0, 52, .inl (upd pf (4 * rd + 1) (nI cd - nI 48))) ∧ ∀ q, q ≠ b → q ≠ ma 6 → F1 q = F q) := by
  have fb2 : F b = .inr (6, [.ref (ma 0), .int (mi 0), .ref (ma 1), .ref (ma 2), .ref (ma 3), .ref (ma 4), .int (mi 1), .ref (ma 5), .int (mi 2), .ref (ma 6), .int (nI (rd)), .int (nI (1)), .long (hh)]) := by rw [fb]; simp only [mO]; rw [h3, h4]
  refine CG_of (by decide) (Nat.le_of_ble_eq_true rfl) rfl ?_
  intro p e s m args below meth c Q C0 hr hlk hnm hQ hw ls hl
  have hx := C0.x
  have hb := C0.b
  refine lv_aload_n hx hb dX6_takesSlot_0 rfl (lv_at hl 0 rfl) ?_
  refine q_get C0 hw mb fb2 fw_X6_168 rfl dX6_takesSlot_1 ?_
  refine lv_iconst (v := nI 1) hx hb dX6_takesSlot_4 (by decide) ?_
  refine n_icmp_ne (tgt := 30) hx hb dX6_takesSlot_5 (by decide) (by decide) (by decide) (fun c_5 => ?_) (fun c_5 => ?_)
  · skip
    exact absurd c_5 (by omega)
  · skip
    refine lv_aload_n hx hb dX6_takesSlot_8 rfl (lv_at hl 0 rfl) ?_
    refine q_get C0 hw mb fb2 fw_X6_28 rfl dX6_takesSlot_9 ?_
    refine lv_iconst (v := nI 4) hx hb dX6_takesSlot_12 (by decide) ?_
    refine lv_aload_n hx hb dX6_takesSlot_13 rfl (lv_at hl 0 rfl) ?_
    refine q_get C0 hw mb fb2 fw_X6_171 rfl dX6_takesSlot_14 ?_
    refine n_imul hx hb dX6_takesSlot_17 ?_
    refine q_iald C0 hw ((hma 6 (by decide))) fq (4 * rd) (by omega) (by decide) (v := nI (lt)) hlt dX6_takesSlot_18 ?_
    refine q_calli hw (q_runS (As := [.int (nI (lt))]) (c_X6_slotsOf l G L F (nI (lt))) C0 hw sw_X6_174 rfl hl.1 rfl (Nat.le_of_ble_eq_true rfl) dX6_takesSlot_19 ⟨by decide, by decide⟩ ⟨by decide, by decide⟩) rfl rfl (fun r_7967 F_7965 H locs hw hp_7966 => ?_)
    obtain ⟨he_7968, o_7969⟩ := hp_7966
    rw [hD] at he_7968
    subst he_7968
    refine lv_iconst (v := nI 1) hx hb dX6_takesSlot_22 (by decide) ?_
    refine n_icmp_ne (tgt := 30) hx hb dX6_takesSlot_23 (by decide) (by decide) (by decide) (fun c_23 => ?_) (fun c_23 => ?_)
    · skip
      exact absurd c_23 (by omega)
    · skip
      refine lv_iconst (v := nI 3) hx hb dX6_takesSlot_26 (by decide) ?_
      refine lv_goto (tgt := 36) hx hb dX6_takesSlot_27 (by decide) ?_
      refine lv_istore_n (lv' := [(2, .int (nI (3))), (0, .ref b), (1, .int (nI cd))]) hx hb dX6_takesSlot_36 rfl hl (by decide) rfl (fun ls hl => ?_)
      refine lv_aload_n hx hb dX6_takesSlot_37 rfl (lv_at hl 1 rfl) ?_
      have f_7970 : F_7965 b = .inr (6, [.ref (ma 0), .int (mi 0), .ref (ma 1), .ref (ma 2), .ref (ma 3), .ref (ma 4), .int (mi 1), .ref (ma 5), .int (mi 2), .ref (ma 6), .int (nI (rd)), .int (nI (1)), .long (hh)]) := (o_7969 b ).trans fb2
      refine q_get C0 hw mb f_7970 fw_X6_28 rfl dX6_takesSlot_38 ?_
      refine lv_iconst (v := nI 4) hx hb dX6_takesSlot_41 (by decide) ?_
      refine lv_aload_n hx hb dX6_takesSlot_42 rfl (lv_at hl 1 rfl) ?_
      refine q_get C0 hw mb f_7970 fw_X6_171 rfl dX6_takesSlot_43 ?_
      refine n_imul hx hb dX6_takesSlot_46 ?_
      refine lv_aload_n hx hb dX6_takesSlot_47 rfl (lv_at hl 1 rfl) ?_
      refine q_get C0 hw mb f_7970 fw_X6_168 rfl dX6_takesSlot_48 ?_
      refine lv_iconst (v := nI 4) hx hb dX6_takesSlot_51 (by decide) ?_
      refine n_icmp_ne (tgt := 59) hx hb dX6_takesSlot_52 (by decide) (by decide) (by decide) (fun c_52 => ?_) (fun c_52 => ?_)
      · skip
        refine lv_aload_n hx hb dX6_takesSlot_59 rfl (lv_at hl 1 rfl) ?_
        refine q_get C0 hw mb f_7970 fw_X6_168 rfl dX6_takesSlot_60 ?_
        refine n_iadd hx hb dX6_takesSlot_63 ?_
        refine lv_iload_n hx hb dX6_takesSlot_64 rfl (lv_at hl 2 rfl) ?_
        refine lv_bipush (v := nI 48) hx hb dX6_takesSlot_65 (by decide) ?_
        refine lv_isub hx hb dX6_takesSlot_67 ?_
        have f_7971 : F_7965 (ma 6) = .inl (G.2 0, 52, .inl pf) := (o_7969 (ma 6) ).trans fq
        refine q_iast C0 hw ((hma 6 (by decide))) f_7971 (4 * rd + 1) (by omega) (by decide) dX6_takesSlot_68 (fun F_7972 H locs hw f_7973 o_7974 => ?_)
        refine lv_aload_n hx hb dX6_takesSlot_69 rfl (lv_at hl 1 rfl) ?_
        refine lv_iload_n hx hb dX6_takesSlot_70 rfl (lv_at hl 0 rfl) ?_
        have f_7975 : F_7972 b = .inr (6, [.ref (ma 0), .int (mi 0), .ref (ma 1), .ref (ma 2), .ref (ma 3), .ref (ma 4), .int (mi 1), .ref (ma 5), .int (mi 2), .ref (ma 6), .int (nI (rd)), .int (nI (1)), .long (hh)]) := (o_7974 b (ne_oa f_7970 f_7971)).trans f_7970
        refine q_put C0 hw mb f_7975 fw_X6_168 pw_X6_11 rfl rfl rfl (Nat.le_of_ble_eq_true rfl) dX6_takesSlot_71 (fun F_7976 H locs hw f_7977 o_7978 => ?_)
        have f_7977 : F_7976 b = .inr (6, [.ref (ma 0), .int (mi 0), .ref (ma 1), .ref (ma 2), .ref (ma 3), .ref (ma 4), .int (mi 1), .ref (ma 5), .int (mi 2), .ref (ma 6), .int (nI (rd)), .int (nI (3)), .long (hh)]) := f_7977
        refine lv_iload_n hx hb dX6_takesSlot_74 rfl (lv_at hl 2 rfl) ?_
        refine lv_bipush (v := nI 48) hx hb dX6_takesSlot_75 (by decide) ?_
        refine lv_bipush (v := nI 53) hx hb dX6_takesSlot_77 (by decide) ?_
        refine q_calli hw (q_runS (As := [.int (nI cd), .int (nI (48)), .int (nI (53))]) (c_X6_within l G L F_7976 (nI cd) 48 53) C0 hw sw_X6_38 rfl hl.1 rfl (Nat.le_of_ble_eq_true rfl) dX6_takesSlot_79 ⟨by decide, by decide⟩ ⟨by decide, by decide⟩) rfl rfl (fun r_7981 F_7979 H locs hw hp_7980 => ?_)
        obtain ⟨he_7982, o_7983⟩ := hp_7980
        by_cases hb_7984 : inR (nI cd) 48 53
        · skip
          rw [if_pos hb_7984] at he_7982
          subst he_7982
          have f_7985 : F_7979 b = .inr (6, [.ref (ma 0), .int (mi 0), .ref (ma 1), .ref (ma 2), .ref (ma 3), .ref (ma 4), .int (mi 1), .ref (ma 5), .int (mi 2), .ref (ma 6), .int (nI (rd)), .int (nI (3)), .long (hh)]) := (o_7983 b ).trans f_7977
          have f_7986 : F_7976 (ma 6) = .inl (G.2 0, 52, .inl (upd pf (4 * rd + 1) (((nI cd) - nI 48)))) := (o_7978 (ma 6) (ne_ao f_7973 f_7975)).trans f_7973
          have f_7987 : F_7979 (ma 6) = .inl (G.2 0, 52, .inl (upd pf (4 * rd + 1) (((nI cd) - nI 48)))) := (o_7983 (ma 6) ).trans f_7986
          exact r_i C0 hr hlk hw (v := nI 1) rfl ⟨bool_t hb_7984, f_7985, f_7987, (fun q k0 k1 => ((o_7983 q ).trans ((o_7978 q k0).trans ((o_7974 q k1).trans (o_7969 q )))))⟩ (Nat.le_refl _) (Nat.le_refl _) dX6_takesSlot_82 hQ
        · skip
          rw [if_neg hb_7984] at he_7982
          subst he_7982
          have f_7988 : F_7979 b = .inr (6, [.ref (ma 0), .int (mi 0), .ref (ma 1), .ref (ma 2), .ref (ma 3), .ref (ma 4), .int (mi 1), .ref (ma 5), .int (mi 2), .ref (ma 6), .int (nI (rd)), .int (nI (3)), .long (hh)]) := (o_7983 b ).trans f_7977
          have f_7989 : F_7976 (ma 6) = .inl (G.2 0, 52, .inl (upd pf (4 * rd + 1) (((nI cd) - nI 48)))) := (o_7978 (ma 6) (ne_ao f_7973 f_7975)).trans f_7973
          have f_7990 : F_7979 (ma 6) = .inl (G.2 0, 52, .inl (upd pf (4 * rd + 1) (((nI cd) - nI 48)))) := (o_7983 (ma 6) ).trans f_7989
          exact r_i C0 hr hlk hw (v := nI 0) rfl ⟨bool_f hb_7984, f_7988, f_7990, (fun q k0 k1 => ((o_7983 q ).trans ((o_7978 q k0).trans ((o_7974 q k1).trans (o_7969 q )))))⟩ (Nat.le_refl _) (Nat.le_refl _) dX6_takesSlot_82 hQ
      · skip
        exact absurd c_52 (by omega)
abbrev rm_X6_takes : Room := { frames := 2, cells := 0, slots := 0, locals := 44 }
set_option maxHeartbeats 4000000 in
set_option maxRecDepth 100000 in
theorem c_X6_takes_1_1 (l : Launch) (G : Gl) (L : List Nat) (F : Nat → va_E) (b : Nat) (ma : Nat → Nat) (mi : Nat → Int32) (hh : Int64) (pf : Nat → Int32) (rd cd lt : Nat) (mb : b ∈ L) (fb : F b = mO ma mi hh) (hma : ∀ i, i < 7 → ma i ∈ L) (fq : F (ma 6) = .inl (G.2 0, 52, .inl pf)) (h3 : mi 3 = nI rd) (h4 : mi 4 = nI 1) (hr9 : rd ≤ 12) (hlt : pf (4 * rd) = nI lt) (hD : digI (nI lt) = 1) : CI l yX6_takes cX6_takes 2 (some .boolean) rm_X6_takes G L F [.ref b, .int (nI cd)] (fun r F1 => r = (if inR (nI cd) 48 53 then nI 1 else nI 0) ∧ F1 b = mO ma (va_up (va_up mi 3 (nI (rd))) 4 (nI 3)) hh ∧ F1 (ma 6) = .inl (G.2 0, 52, .inl (upd pf (4 * rd + 1) (nI cd - nI 48))) ∧ ∀ q, q ≠ b → q ≠ ma 6 → F1 q = F q) := by
  have fb2 : F b = .inr (6, [.ref (ma 0), .int (mi 0), .ref (ma 1), .ref (ma 2), .ref (ma 3), .ref (ma 4), .int (mi 1), .ref (ma 5), .int (mi 2), .ref (ma 6), .int (nI (rd)), .int (nI (1)), .long (hh)]) := by rw [fb]; simp only [mO]; rw [h3, h4]
  refine CG_of (by decide) (Nat.le_of_ble_eq_true rfl) rfl ?_
  intro p e s m args below meth c Q C0 hr hlk hnm hQ hw ls hl
  have hx := C0.x
  have hb := C0.b
  refine lv_aload_n hx hb dX6_takes_0 rfl (lv_at hl 0 rfl) ?_
  refine q_get C0 hw mb fb2 fw_X6_168 rfl dX6_takes_1 ?_
  refine lv_lookup (off := 110) (tgt := 114) hx hb dX6_takes_4 (by decide) (by decide) (by decide) ?_
  refine lv_aload_n hx hb dX6_takes_114 rfl (lv_at hl 0 rfl) ?_
  refine lv_iload_n hx hb dX6_takes_115 rfl (lv_at hl 1 rfl) ?_
  refine q_calli hw (q_runV (As := [.int (nI cd)]) (c_X6_takesSlot_1_1 l G L F b ma mi hh pf rd cd lt mb fb hma fq h3 h4 hr9 hlt hD) C0 hw vw_X6_177 mb fb2 rfl rfl rfl hl.1 rfl (Nat.le_of_ble_eq_true rfl) dX6_takes_116 ⟨by decide, by decide⟩ ⟨by decide, by decide⟩) rfl rfl (fun r_7993 F_7991 H locs hw hp_7992 => ?_)
  obtain ⟨f_7994, f_7995, f_7996, f_7997⟩ := hp_7992
  by_cases hb_7998 : inR (nI cd) 48 53
  · skip
    rw [if_pos hb_7998] at f_7994
    subst f_7994
    exact r_i C0 hr hlk hw (v := nI 1) rfl ⟨bool_t hb_7998, f_7995, f_7996, (fun q k0 k1 => (f_7997 q k0 k1))⟩ (Nat.le_refl _) (Nat.le_refl _) dX6_takes_119 hQ
  · skip
    rw [if_neg hb_7998] at f_7994
    subst f_7994
    exact r_i C0 hr hlk hw (v := nI 0) rfl ⟨bool_f hb_7998, f_7995, f_7996, (fun q k0 k1 => (f_7997 q k0 k1))⟩ (Nat.le_refl _) (Nat.le_refl _) dX6_takes_119 hQ
set_option maxHeartbeats 4000000 in
set_option maxRecDepth 100000 in
theorem c_X6_takesSlot_1_2 (l : Launch) (G : Gl) (L : List Nat) (F : Nat → va_E) (b : Nat) (ma : Nat → Nat) (mi : Nat → Int32) (hh : Int64) (pf : Nat → Int32) (rd cd lt : Nat) (mb : b ∈ L) (fb : F b = mO ma mi hh) (hma : ∀ i, i < 7 → ma i ∈ L) (fq : F (ma 6) = .inl (G.2 0, 52, .inl pf)) (h3 : mi 3 = nI rd) (h4 : mi 4 = nI 1) (hr9 : rd ≤ 12) (hlt : pf (4 * rd) = nI lt) (hD : digI (nI lt) = 2) : CI l yX6_takesSlot cX6_takesSlot 3 (some .boolean) rm_X6_takesSlot G L F [.ref b, .int (nI cd)] (fun r F1 => r = (if inR (nI cd) 48 53 then nI 1 else nI 0) ∧ F1 b = mO ma (va_up (va_up mi 3 (nI (rd))) 4 (nI 2)) hh ∧ F1 (ma 6) = .inl (G.2 0, 52, .inl (upd pf (4 * rd + 1) (nI cd - nI 48))) ∧ ∀ q, q ≠ b → q ≠ ma 6 → F1 q = F q) := by
  have fb2 : F b = .inr (6, [.ref (ma 0), .int (mi 0), .ref (ma 1), .ref (ma 2), .ref (ma 3), .ref (ma 4), .int (mi 1), .ref (ma 5), .int (mi 2), .ref (ma 6), .int (nI (rd)), .int (nI (1)), .long (hh)]) := by rw [fb]; simp only [mO]; rw [h3, h4]
  refine CG_of (by decide) (Nat.le_of_ble_eq_true rfl) rfl ?_
  intro p e s m args below meth c Q C0 hr hlk hnm hQ hw ls hl
  have hx := C0.x
  have hb := C0.b
  refine lv_aload_n hx hb dX6_takesSlot_0 rfl (lv_at hl 0 rfl) ?_
  refine q_get C0 hw mb fb2 fw_X6_168 rfl dX6_takesSlot_1 ?_
  refine lv_iconst (v := nI 1) hx hb dX6_takesSlot_4 (by decide) ?_
  refine n_icmp_ne (tgt := 30) hx hb dX6_takesSlot_5 (by decide) (by decide) (by decide) (fun c_5 => ?_) (fun c_5 => ?_)
  · skip
    exact absurd c_5 (by omega)
  · skip
    refine lv_aload_n hx hb dX6_takesSlot_8 rfl (lv_at hl 0 rfl) ?_
    refine q_get C0 hw mb fb2 fw_X6_28 rfl dX6_takesSlot_9 ?_
    refine lv_iconst (v := nI 4) hx hb dX6_takesSlot_12 (by decide) ?_
    refine lv_aload_n hx hb dX6_takesSlot_13 rfl (lv_at hl 0 rfl) ?_
    refine q_get C0 hw mb fb2 fw_X6_171 rfl dX6_takesSlot_14 ?_
    refine n_imul hx hb dX6_takesSlot_17 ?_
    refine q_iald C0 hw ((hma 6 (by decide))) fq (4 * rd) (by omega) (by decide) (v := nI (lt)) hlt dX6_takesSlot_18 ?_
    refine q_calli hw (q_runS (As := [.int (nI (lt))]) (c_X6_slotsOf l G L F (nI (lt))) C0 hw sw_X6_174 rfl hl.1 rfl (Nat.le_of_ble_eq_true rfl) dX6_takesSlot_19 ⟨by decide, by decide⟩ ⟨by decide, by decide⟩) rfl rfl (fun r_8001 F_7999 H locs hw hp_8000 => ?_)
    obtain ⟨he_8002, o_8003⟩ := hp_8000
    rw [hD] at he_8002
    subst he_8002
    refine lv_iconst (v := nI 1) hx hb dX6_takesSlot_22 (by decide) ?_
    refine n_icmp_ne (tgt := 30) hx hb dX6_takesSlot_23 (by decide) (by decide) (by decide) (fun c_23 => ?_) (fun c_23 => ?_)
    · skip
      refine lv_aload_n hx hb dX6_takesSlot_30 rfl (lv_at hl 0 rfl) ?_
      have f_8004 : F_7999 b = .inr (6, [.ref (ma 0), .int (mi 0), .ref (ma 1), .ref (ma 2), .ref (ma 3), .ref (ma 4), .int (mi 1), .ref (ma 5), .int (mi 2), .ref (ma 6), .int (nI (rd)), .int (nI (1)), .long (hh)]) := (o_8003 b ).trans fb2
      refine q_get C0 hw mb f_8004 fw_X6_168 rfl dX6_takesSlot_31 ?_
      refine lv_iconst (v := nI 1) hx hb dX6_takesSlot_34 (by decide) ?_
      refine n_iadd hx hb dX6_takesSlot_35 ?_
      refine lv_istore_n (lv' := [(2, .int (nI (1 + 1))), (0, .ref b), (1, .int (nI cd))]) hx hb dX6_takesSlot_36 rfl hl (by decide) rfl (fun ls hl => ?_)
      refine lv_aload_n hx hb dX6_takesSlot_37 rfl (lv_at hl 1 rfl) ?_
      refine q_get C0 hw mb f_8004 fw_X6_28 rfl dX6_takesSlot_38 ?_
      refine lv_iconst (v := nI 4) hx hb dX6_takesSlot_41 (by decide) ?_
      refine lv_aload_n hx hb dX6_takesSlot_42 rfl (lv_at hl 1 rfl) ?_
      refine q_get C0 hw mb f_8004 fw_X6_171 rfl dX6_takesSlot_43 ?_
      refine n_imul hx hb dX6_takesSlot_46 ?_
      refine lv_aload_n hx hb dX6_takesSlot_47 rfl (lv_at hl 1 rfl) ?_
      refine q_get C0 hw mb f_8004 fw_X6_168 rfl dX6_takesSlot_48 ?_
      refine lv_iconst (v := nI 4) hx hb dX6_takesSlot_51 (by decide) ?_
      refine n_icmp_ne (tgt := 59) hx hb dX6_takesSlot_52 (by decide) (by decide) (by decide) (fun c_52 => ?_) (fun c_52 => ?_)
      · skip
        refine lv_aload_n hx hb dX6_takesSlot_59 rfl (lv_at hl 1 rfl) ?_
        refine q_get C0 hw mb f_8004 fw_X6_168 rfl dX6_takesSlot_60 ?_
        refine n_iadd hx hb dX6_takesSlot_63 ?_
        refine lv_iload_n hx hb dX6_takesSlot_64 rfl (lv_at hl 2 rfl) ?_
        refine lv_bipush (v := nI 48) hx hb dX6_takesSlot_65 (by decide) ?_
        refine lv_isub hx hb dX6_takesSlot_67 ?_
        have f_8005 : F_7999 (ma 6) = .inl (G.2 0, 52, .inl pf) := (o_8003 (ma 6) ).trans fq
        refine q_iast C0 hw ((hma 6 (by decide))) f_8005 (4 * rd + 1) (by omega) (by decide) dX6_takesSlot_68 (fun F_8006 H locs hw f_8007 o_8008 => ?_)
        refine lv_aload_n hx hb dX6_takesSlot_69 rfl (lv_at hl 1 rfl) ?_
        refine lv_iload_n hx hb dX6_takesSlot_70 rfl (lv_at hl 0 rfl) ?_
        have f_8009 : F_8006 b = .inr (6, [.ref (ma 0), .int (mi 0), .ref (ma 1), .ref (ma 2), .ref (ma 3), .ref (ma 4), .int (mi 1), .ref (ma 5), .int (mi 2), .ref (ma 6), .int (nI (rd)), .int (nI (1)), .long (hh)]) := (o_8008 b (ne_oa f_8004 f_8005)).trans f_8004
        refine q_put C0 hw mb f_8009 fw_X6_168 pw_X6_11 rfl rfl rfl (Nat.le_of_ble_eq_true rfl) dX6_takesSlot_71 (fun F_8010 H locs hw f_8011 o_8012 => ?_)
        have f_8011 : F_8010 b = .inr (6, [.ref (ma 0), .int (mi 0), .ref (ma 1), .ref (ma 2), .ref (ma 3), .ref (ma 4), .int (mi 1), .ref (ma 5), .int (mi 2), .ref (ma 6), .int (nI (rd)), .int (nI (1 + 1)), .long (hh)]) := f_8011
        refine lv_iload_n hx hb dX6_takesSlot_74 rfl (lv_at hl 2 rfl) ?_
        refine lv_bipush (v := nI 48) hx hb dX6_takesSlot_75 (by decide) ?_
        refine lv_bipush (v := nI 53) hx hb dX6_takesSlot_77 (by decide) ?_
        refine q_calli hw (q_runS (As := [.int (nI cd), .int (nI (48)), .int (nI (53))]) (c_X6_within l G L F_8010 (nI cd) 48 53) C0 hw sw_X6_38 rfl hl.1 rfl (Nat.le_of_ble_eq_true rfl) dX6_takesSlot_79 ⟨by decide, by decide⟩ ⟨by decide, by decide⟩) rfl rfl (fun r_8015 F_8013 H locs hw hp_8014 => ?_)
        obtain ⟨he_8016, o_8017⟩ := hp_8014
        by_cases hb_8018 : inR (nI cd) 48 53
        · skip
          rw [if_pos hb_8018] at he_8016
          subst he_8016
          have f_8019 : F_8013 b = .inr (6, [.ref (ma 0), .int (mi 0), .ref (ma 1), .ref (ma 2), .ref (ma 3), .ref (ma 4), .int (mi 1), .ref (ma 5), .int (mi 2), .ref (ma 6), .int (nI (rd)), .int (nI (1 + 1)), .long (hh)]) := (o_8017 b ).trans f_8011
          have f_8020 : F_8010 (ma 6) = .inl (G.2 0, 52, .inl (upd pf (4 * rd + 1) (((nI cd) - nI 48)))) := (o_8012 (ma 6) (ne_ao f_8007 f_8009)).trans f_8007
          have f_8021 : F_8013 (ma 6) = .inl (G.2 0, 52, .inl (upd pf (4 * rd + 1) (((nI cd) - nI 48)))) := (o_8017 (ma 6) ).trans f_8020
          exact r_i C0 hr hlk hw (v := nI 1) rfl ⟨bool_t hb_8018, f_8019, f_8021, (fun q k0 k1 => ((o_8017 q ).trans ((o_8012 q k0).trans ((o_8008 q k1).trans (o_8003 q )))))⟩ (Nat.le_refl _) (Nat.le_refl _) dX6_takesSlot_82 hQ
        · skip
          rw [if_neg hb_8018] at he_8016
          subst he_8016
          have f_8022 : F_8013 b = .inr (6, [.ref (ma 0), .int (mi 0), .ref (ma 1), .ref (ma 2), .ref (ma 3), .ref (ma 4), .int (mi 1), .ref (ma 5), .int (mi 2), .ref (ma 6), .int (nI (rd)), .int (nI (1 + 1)), .long (hh)]) := (o_8017 b ).trans f_8011
          have f_8023 : F_8010 (ma 6) = .inl (G.2 0, 52, .inl (upd pf (4 * rd + 1) (((nI cd) - nI 48)))) := (o_8012 (ma 6) (ne_ao f_8007 f_8009)).trans f_8007
          have f_8024 : F_8013 (ma 6) = .inl (G.2 0, 52, .inl (upd pf (4 * rd + 1) (((nI cd) - nI 48)))) := (o_8017 (ma 6) ).trans f_8023
          exact r_i C0 hr hlk hw (v := nI 0) rfl ⟨bool_f hb_8018, f_8022, f_8024, (fun q k0 k1 => ((o_8017 q ).trans ((o_8012 q k0).trans ((o_8008 q k1).trans (o_8003 q )))))⟩ (Nat.le_refl _) (Nat.le_refl _) dX6_takesSlot_82 hQ
      · skip
        exact absurd c_52 (by omega)
    · skip
      exact absurd c_23 (by omega)
set_option maxHeartbeats 4000000 in
set_option maxRecDepth 100000 in
theorem c_X6_takes_1_2 (l : Launch) (G : Gl) (L : List Nat) (F : Nat → va_E) (b : Nat) (ma : Nat → Nat) (mi : Nat → Int32) (hh : Int64) (pf : Nat → Int32) (rd cd lt : Nat) (mb : b ∈ L) (fb : F b = mO ma mi hh) (hma : ∀ i, i < 7 → ma i ∈ L) (fq : F (ma 6) = .inl (G.2 0, 52, .inl pf)) (h3 : mi 3 = nI rd) (h4 : mi 4 = nI 1) (hr9 : rd ≤ 12) (hlt : pf (4 * rd) = nI lt) (hD : digI (nI lt) = 2) : CI l yX6_takes cX6_takes 2 (some .boolean) rm_X6_takes G L F [.ref b, .int (nI cd)] (fun r F1 => r = (if inR (nI cd) 48 53 then nI 1 else nI 0) ∧ F1 b = mO ma (va_up (va_up mi 3 (nI (rd))) 4 (nI 2)) hh ∧ F1 (ma 6) = .inl (G.2 0, 52, .inl (upd pf (4 * rd + 1) (nI cd - nI 48))) ∧ ∀ q, q ≠ b → q ≠ ma 6 → F1 q = F q) := by
  have fb2 : F b = .inr (6, [.ref (ma 0), .int (mi 0), .ref (ma 1), .ref (ma 2), .ref (ma 3), .ref (ma 4), .int (mi 1), .ref (ma 5), .int (mi 2), .ref (ma 6), .int (nI (rd)), .int (nI (1)), .long (hh)]) := by rw [fb]; simp only [mO]; rw [h3, h4]
  refine CG_of (by decide) (Nat.le_of_ble_eq_true rfl) rfl ?_
  intro p e s m args below meth c Q C0 hr hlk hnm hQ hw ls hl
  have hx := C0.x
  have hb := C0.b
  refine lv_aload_n hx hb dX6_takes_0 rfl (lv_at hl 0 rfl) ?_
  refine q_get C0 hw mb fb2 fw_X6_168 rfl dX6_takes_1 ?_
  refine lv_lookup (off := 110) (tgt := 114) hx hb dX6_takes_4 (by decide) (by decide) (by decide) ?_
  refine lv_aload_n hx hb dX6_takes_114 rfl (lv_at hl 0 rfl) ?_
  refine lv_iload_n hx hb dX6_takes_115 rfl (lv_at hl 1 rfl) ?_
  refine q_calli hw (q_runV (As := [.int (nI cd)]) (c_X6_takesSlot_1_2 l G L F b ma mi hh pf rd cd lt mb fb hma fq h3 h4 hr9 hlt hD) C0 hw vw_X6_177 mb fb2 rfl rfl rfl hl.1 rfl (Nat.le_of_ble_eq_true rfl) dX6_takes_116 ⟨by decide, by decide⟩ ⟨by decide, by decide⟩) rfl rfl (fun r_8027 F_8025 H locs hw hp_8026 => ?_)
  obtain ⟨f_8028, f_8029, f_8030, f_8031⟩ := hp_8026
  by_cases hb_8032 : inR (nI cd) 48 53
  · skip
    rw [if_pos hb_8032] at f_8028
    subst f_8028
    exact r_i C0 hr hlk hw (v := nI 1) rfl ⟨bool_t hb_8032, f_8029, f_8030, (fun q k0 k1 => (f_8031 q k0 k1))⟩ (Nat.le_refl _) (Nat.le_refl _) dX6_takes_119 hQ
  · skip
    rw [if_neg hb_8032] at f_8028
    subst f_8028
    exact r_i C0 hr hlk hw (v := nI 0) rfl ⟨bool_f hb_8032, f_8029, f_8030, (fun q k0 k1 => (f_8031 q k0 k1))⟩ (Nat.le_refl _) (Nat.le_refl _) dX6_takes_119 hQ
set_option maxHeartbeats 4000000 in
set_option maxRecDepth 100000 in
theorem c_X6_takesSlot_2 (l : Launch) (G : Gl) (L : List Nat) (F : Nat → va_E) (b : Nat) (ma : Nat → Nat) (mi : Nat → Int32) (hh : Int64) (pf : Nat → Int32) (rd cd : Nat) (mb : b ∈ L) (fb : F b = mO ma mi hh) (hma : ∀ i, i < 7 → ma i ∈ L) (fq : F (ma 6) = .inl (G.2 0, 52, .inl pf)) (h3 : mi 3 = nI rd) (h4 : mi 4 = nI 2) (hr9 : rd ≤ 12) : CI l yX6_takesSlot cX6_takesSlot 3 (some .boolean) rm_X6_takesSlot G L F [.ref b, .int (nI cd)] (fun r F1 => r = (if inR (nI cd) 48 53 then nI 1 else nI 0) ∧ F1 b = mO ma (va_up (va_up mi 3 (nI (rd))) 4 (nI 3)) hh ∧ F1 (ma 6) = .inl (G.2 0, 52, .inl (upd pf (4 * rd + 2) (nI cd - nI 48))) ∧ ∀ q, q ≠ b → q ≠ ma 6 → F1 q = F q) := by
  have fb2 : F b = .inr (6, [.ref (ma 0), .int (mi 0), .ref (ma 1), .ref (ma 2), .ref (ma 3), .ref (ma 4), .int (mi 1), .ref (ma 5), .int (mi 2), .ref (ma 6), .int (nI (rd)), .int (nI (2)), .long (hh)]) := by rw [fb]; simp only [mO]; rw [h3, h4]
  refine CG_of (by decide) (Nat.le_of_ble_eq_true rfl) rfl ?_
  intro p e s m args below meth c Q C0 hr hlk hnm hQ hw ls hl
  have hx := C0.x
  have hb := C0.b
  refine lv_aload_n hx hb dX6_takesSlot_0 rfl (lv_at hl 0 rfl) ?_
  refine q_get C0 hw mb fb2 fw_X6_168 rfl dX6_takesSlot_1 ?_
  refine lv_iconst (v := nI 1) hx hb dX6_takesSlot_4 (by decide) ?_
  refine n_icmp_ne (tgt := 30) hx hb dX6_takesSlot_5 (by decide) (by decide) (by decide) (fun c_5 => ?_) (fun c_5 => ?_)
  · skip
    refine lv_aload_n hx hb dX6_takesSlot_30 rfl (lv_at hl 0 rfl) ?_
    refine q_get C0 hw mb fb2 fw_X6_168 rfl dX6_takesSlot_31 ?_
    refine lv_iconst (v := nI 1) hx hb dX6_takesSlot_34 (by decide) ?_
    refine n_iadd hx hb dX6_takesSlot_35 ?_
    refine lv_istore_n (lv' := [(2, .int (nI (2 + 1))), (0, .ref b), (1, .int (nI cd))]) hx hb dX6_takesSlot_36 rfl hl (by decide) rfl (fun ls hl => ?_)
    refine lv_aload_n hx hb dX6_takesSlot_37 rfl (lv_at hl 1 rfl) ?_
    refine q_get C0 hw mb fb2 fw_X6_28 rfl dX6_takesSlot_38 ?_
    refine lv_iconst (v := nI 4) hx hb dX6_takesSlot_41 (by decide) ?_
    refine lv_aload_n hx hb dX6_takesSlot_42 rfl (lv_at hl 1 rfl) ?_
    refine q_get C0 hw mb fb2 fw_X6_171 rfl dX6_takesSlot_43 ?_
    refine n_imul hx hb dX6_takesSlot_46 ?_
    refine lv_aload_n hx hb dX6_takesSlot_47 rfl (lv_at hl 1 rfl) ?_
    refine q_get C0 hw mb fb2 fw_X6_168 rfl dX6_takesSlot_48 ?_
    refine lv_iconst (v := nI 4) hx hb dX6_takesSlot_51 (by decide) ?_
    refine n_icmp_ne (tgt := 59) hx hb dX6_takesSlot_52 (by decide) (by decide) (by decide) (fun c_52 => ?_) (fun c_52 => ?_)
    · skip
      refine lv_aload_n hx hb dX6_takesSlot_59 rfl (lv_at hl 1 rfl) ?_
      refine q_get C0 hw mb fb2 fw_X6_168 rfl dX6_takesSlot_60 ?_
      refine n_iadd hx hb dX6_takesSlot_63 ?_
      refine lv_iload_n hx hb dX6_takesSlot_64 rfl (lv_at hl 2 rfl) ?_
      refine lv_bipush (v := nI 48) hx hb dX6_takesSlot_65 (by decide) ?_
      refine lv_isub hx hb dX6_takesSlot_67 ?_
      refine q_iast C0 hw ((hma 6 (by decide))) fq (4 * rd + 2) (by omega) (by decide) dX6_takesSlot_68 (fun F_8033 H locs hw f_8034 o_8035 => ?_)
      refine lv_aload_n hx hb dX6_takesSlot_69 rfl (lv_at hl 1 rfl) ?_
      refine lv_iload_n hx hb dX6_takesSlot_70 rfl (lv_at hl 0 rfl) ?_
      have f_8036 : F_8033 b = .inr (6, [.ref (ma 0), .int (mi 0), .ref (ma 1), .ref (ma 2), .ref (ma 3), .ref (ma 4), .int (mi 1), .ref (ma 5), .int (mi 2), .ref (ma 6), .int (nI (rd)), .int (nI (2)), .long (hh)]) := (o_8035 b (ne_oa fb2 fq)).trans fb2
      refine q_put C0 hw mb f_8036 fw_X6_168 pw_X6_11 rfl rfl rfl (Nat.le_of_ble_eq_true rfl) dX6_takesSlot_71 (fun F_8037 H locs hw f_8038 o_8039 => ?_)
      have f_8038 : F_8037 b = .inr (6, [.ref (ma 0), .int (mi 0), .ref (ma 1), .ref (ma 2), .ref (ma 3), .ref (ma 4), .int (mi 1), .ref (ma 5), .int (mi 2), .ref (ma 6), .int (nI (rd)), .int (nI (2 + 1)), .long (hh)]) := f_8038
      refine lv_iload_n hx hb dX6_takesSlot_74 rfl (lv_at hl 2 rfl) ?_
      refine lv_bipush (v := nI 48) hx hb dX6_takesSlot_75 (by decide) ?_
      refine lv_bipush (v := nI 53) hx hb dX6_takesSlot_77 (by decide) ?_
      refine q_calli hw (q_runS (As := [.int (nI cd), .int (nI (48)), .int (nI (53))]) (c_X6_within l G L F_8037 (nI cd) 48 53) C0 hw sw_X6_38 rfl hl.1 rfl (Nat.le_of_ble_eq_true rfl) dX6_takesSlot_79 ⟨by decide, by decide⟩ ⟨by decide, by decide⟩) rfl rfl (fun r_8042 F_8040 H locs hw hp_8041 => ?_)
      obtain ⟨he_8043, o_8044⟩ := hp_8041
      by_cases hb_8045 : inR (nI cd) 48 53
      · skip
        rw [if_pos hb_8045] at he_8043
        subst he_8043
        have f_8046 : F_8040 b = .inr (6, [.ref (ma 0), .int (mi 0), .ref (ma 1), .ref (ma 2), .ref (ma 3), .ref (ma 4), .int (mi 1), .ref (ma 5), .int (mi 2), .ref (ma 6), .int (nI (rd)), .int (nI (2 + 1)), .long (hh)]) := (o_8044 b ).trans f_8038
        have f_8047 : F_8037 (ma 6) = .inl (G.2 0, 52, .inl (upd pf (4 * rd + 2) (((nI cd) - nI 48)))) := (o_8039 (ma 6) (ne_ao f_8034 f_8036)).trans f_8034
        have f_8048 : F_8040 (ma 6) = .inl (G.2 0, 52, .inl (upd pf (4 * rd + 2) (((nI cd) - nI 48)))) := (o_8044 (ma 6) ).trans f_8047
        exact r_i C0 hr hlk hw (v := nI 1) rfl ⟨bool_t hb_8045, f_8046, f_8048, (fun q k0 k1 => ((o_8044 q ).trans ((o_8039 q k0).trans (o_8035 q k1))))⟩ (Nat.le_refl _) (Nat.le_refl _) dX6_takesSlot_82 hQ
      · skip
        rw [if_neg hb_8045] at he_8043
        subst he_8043
        have f_8049 : F_8040 b = .inr (6, [.ref (ma 0), .int (mi 0), .ref (ma 1), .ref (ma 2), .ref (ma 3), .ref (ma 4), .int (mi 1), .ref (ma 5), .int (mi 2), .ref (ma 6), .int (nI (rd)), .int (nI (2 + 1)), .long (hh)]) := (o_8044 b ).trans f_8038
        have f_8050 : F_8037 (ma 6) = .inl (G.2 0, 52, .inl (upd pf (4 * rd + 2) (((nI cd) - nI 48)))) := (o_8039 (ma 6) (ne_ao f_8034 f_8036)).trans f_8034
        have f_8051 : F_8040 (ma 6) = .inl (G.2 0, 52, .inl (upd pf (4 * rd + 2) (((nI cd) - nI 48)))) := (o_8044 (ma 6) ).trans f_8050
        exact r_i C0 hr hlk hw (v := nI 0) rfl ⟨bool_f hb_8045, f_8049, f_8051, (fun q k0 k1 => ((o_8044 q ).trans ((o_8039 q k0).trans (o_8035 q k1))))⟩ (Nat.le_refl _) (Nat.le_refl _) dX6_takesSlot_82 hQ
    · skip
      exact absurd c_52 (by omega)
  · skip
    exact absurd c_5 (by omega)
set_option maxHeartbeats 4000000 in
set_option maxRecDepth 100000 in
theorem c_X6_takes_2 (l : Launch) (G : Gl) (L : List Nat) (F : Nat → va_E) (b : Nat) (ma : Nat → Nat) (mi : Nat → Int32) (hh : Int64) (pf : Nat → Int32) (rd cd : Nat) (mb : b ∈ L) (fb : F b = mO ma mi hh) (hma : ∀ i, i < 7 → ma i ∈ L) (fq : F (ma 6) = .inl (G.2 0, 52, .inl pf)) (h3 : mi 3 = nI rd) (h4 : mi 4 = nI 2) (hr9 : rd ≤ 12) : CI l yX6_takes cX6_takes 2 (some .boolean) rm_X6_takes G L F [.ref b, .int (nI cd)] (fun r F1 => r = (if inR (nI cd) 48 53 then nI 1 else nI 0) ∧ F1 b = mO ma (va_up (va_up mi 3 (nI (rd))) 4 (nI 3)) hh ∧ F1 (ma 6) = .inl (G.2 0, 52, .inl (upd pf (4 * rd + 2) (nI cd - nI 48))) ∧ ∀ q, q ≠ b → q ≠ ma 6 → F1 q = F q) := by
  have fb2 : F b = .inr (6, [.ref (ma 0), .int (mi 0), .ref (ma 1), .ref (ma 2), .ref (ma 3), .ref (ma 4), .int (mi 1), .ref (ma 5), .int (mi 2), .ref (ma 6), .int (nI (rd)), .int (nI (2)), .long (hh)]) := by rw [fb]; simp only [mO]; rw [h3, h4]
  refine CG_of (by decide) (Nat.le_of_ble_eq_true rfl) rfl ?_
  intro p e s m args below meth c Q C0 hr hlk hnm hQ hw ls hl
  have hx := C0.x
  have hb := C0.b
  refine lv_aload_n hx hb dX6_takes_0 rfl (lv_at hl 0 rfl) ?_
  refine q_get C0 hw mb fb2 fw_X6_168 rfl dX6_takes_1 ?_
  refine lv_lookup (off := 110) (tgt := 114) hx hb dX6_takes_4 (by decide) (by decide) (by decide) ?_
  refine lv_aload_n hx hb dX6_takes_114 rfl (lv_at hl 0 rfl) ?_
  refine lv_iload_n hx hb dX6_takes_115 rfl (lv_at hl 1 rfl) ?_
  refine q_calli hw (q_runV (As := [.int (nI cd)]) (c_X6_takesSlot_2 l G L F b ma mi hh pf rd cd  mb fb hma fq h3 h4 hr9 ) C0 hw vw_X6_177 mb fb2 rfl rfl rfl hl.1 rfl (Nat.le_of_ble_eq_true rfl) dX6_takes_116 ⟨by decide, by decide⟩ ⟨by decide, by decide⟩) rfl rfl (fun r_8054 F_8052 H locs hw hp_8053 => ?_)
  obtain ⟨f_8055, f_8056, f_8057, f_8058⟩ := hp_8053
  by_cases hb_8059 : inR (nI cd) 48 53
  · skip
    rw [if_pos hb_8059] at f_8055
    subst f_8055
    exact r_i C0 hr hlk hw (v := nI 1) rfl ⟨bool_t hb_8059, f_8056, f_8057, (fun q k0 k1 => (f_8058 q k0 k1))⟩ (Nat.le_refl _) (Nat.le_refl _) dX6_takes_119 hQ
  · skip
    rw [if_neg hb_8059] at f_8055
    subst f_8055
    exact r_i C0 hr hlk hw (v := nI 0) rfl ⟨bool_f hb_8059, f_8056, f_8057, (fun q k0 k1 => (f_8058 q k0 k1))⟩ (Nat.le_refl _) (Nat.le_refl _) dX6_takes_119 hQ
set_option maxHeartbeats 4000000 in
set_option maxRecDepth 100000 in
theorem c_X6_takesSlot_4 (l : Launch) (G : Gl) (L : List Nat) (F : Nat → va_E) (b : Nat) (ma : Nat → Nat) (mi : Nat → Int32) (hh : Int64) (pf : Nat → Int32) (rd cd : Nat) (mb : b ∈ L) (fb : F b = mO ma mi hh) (hma : ∀ i, i < 7 → ma i ∈ L) (fq : F (ma 6) = .inl (G.2 0, 52, .inl pf)) (h3 : mi 3 = nI rd) (h4 : mi 4 = nI 4) (hr9 : rd ≤ 12) : CI l yX6_takesSlot cX6_takesSlot 3 (some .boolean) rm_X6_takesSlot G L F [.ref b, .int (nI cd)] (fun r F1 => r = (if inR (nI cd) 48 53 then nI 1 else nI 0) ∧ F1 b = mO ma (va_up (va_up mi 3 (nI (rd))) 4 (nI 5)) hh ∧ F1 (ma 6) = .inl (G.2 0, 52, .inl (upd pf (4 * rd + 3) (nI cd - nI 48))) ∧ ∀ q, q ≠ b → q ≠ ma 6 → F1 q = F q) := by
  have fb2 : F b = .inr (6, [.ref (ma 0), .int (mi 0), .ref (ma 1), .ref (ma 2), .ref (ma 3), .ref (ma 4), .int (mi 1), .ref (ma 5), .int (mi 2), .ref (ma 6), .int (nI (rd)), .int (nI (4)), .long (hh)]) := by rw [fb]; simp only [mO]; rw [h3, h4]
  refine CG_of (by decide) (Nat.le_of_ble_eq_true rfl) rfl ?_
  intro p e s m args below meth c Q C0 hr hlk hnm hQ hw ls hl
  have hx := C0.x
  have hb := C0.b
  refine lv_aload_n hx hb dX6_takesSlot_0 rfl (lv_at hl 0 rfl) ?_
  refine q_get C0 hw mb fb2 fw_X6_168 rfl dX6_takesSlot_1 ?_
  refine lv_iconst (v := nI 1) hx hb dX6_takesSlot_4 (by decide) ?_
  refine n_icmp_ne (tgt := 30) hx hb dX6_takesSlot_5 (by decide) (by decide) (by decide) (fun c_5 => ?_) (fun c_5 => ?_)
  · skip
    refine lv_aload_n hx hb dX6_takesSlot_30 rfl (lv_at hl 0 rfl) ?_
    refine q_get C0 hw mb fb2 fw_X6_168 rfl dX6_takesSlot_31 ?_
    refine lv_iconst (v := nI 1) hx hb dX6_takesSlot_34 (by decide) ?_
    refine n_iadd hx hb dX6_takesSlot_35 ?_
    refine lv_istore_n (lv' := [(2, .int (nI (4 + 1))), (0, .ref b), (1, .int (nI cd))]) hx hb dX6_takesSlot_36 rfl hl (by decide) rfl (fun ls hl => ?_)
    refine lv_aload_n hx hb dX6_takesSlot_37 rfl (lv_at hl 1 rfl) ?_
    refine q_get C0 hw mb fb2 fw_X6_28 rfl dX6_takesSlot_38 ?_
    refine lv_iconst (v := nI 4) hx hb dX6_takesSlot_41 (by decide) ?_
    refine lv_aload_n hx hb dX6_takesSlot_42 rfl (lv_at hl 1 rfl) ?_
    refine q_get C0 hw mb fb2 fw_X6_171 rfl dX6_takesSlot_43 ?_
    refine n_imul hx hb dX6_takesSlot_46 ?_
    refine lv_aload_n hx hb dX6_takesSlot_47 rfl (lv_at hl 1 rfl) ?_
    refine q_get C0 hw mb fb2 fw_X6_168 rfl dX6_takesSlot_48 ?_
    refine lv_iconst (v := nI 4) hx hb dX6_takesSlot_51 (by decide) ?_
    refine n_icmp_ne (tgt := 59) hx hb dX6_takesSlot_52 (by decide) (by decide) (by decide) (fun c_52 => ?_) (fun c_52 => ?_)
    · skip
      exact absurd c_52 (by omega)
    · skip
      refine lv_iconst (v := nI 3) hx hb dX6_takesSlot_55 (by decide) ?_
      refine lv_goto (tgt := 63) hx hb dX6_takesSlot_56 (by decide) ?_
      refine n_iadd hx hb dX6_takesSlot_63 ?_
      refine lv_iload_n hx hb dX6_takesSlot_64 rfl (lv_at hl 2 rfl) ?_
      refine lv_bipush (v := nI 48) hx hb dX6_takesSlot_65 (by decide) ?_
      refine lv_isub hx hb dX6_takesSlot_67 ?_
      refine q_iast C0 hw ((hma 6 (by decide))) fq (4 * rd + 3) (by omega) (by decide) dX6_takesSlot_68 (fun F_8060 H locs hw f_8061 o_8062 => ?_)
      refine lv_aload_n hx hb dX6_takesSlot_69 rfl (lv_at hl 1 rfl) ?_
      refine lv_iload_n hx hb dX6_takesSlot_70 rfl (lv_at hl 0 rfl) ?_
      have f_8063 : F_8060 b = .inr (6, [.ref (ma 0), .int (mi 0), .ref (ma 1), .ref (ma 2), .ref (ma 3), .ref (ma 4), .int (mi 1), .ref (ma 5), .int (mi 2), .ref (ma 6), .int (nI (rd)), .int (nI (4)), .long (hh)]) := (o_8062 b (ne_oa fb2 fq)).trans fb2
      refine q_put C0 hw mb f_8063 fw_X6_168 pw_X6_11 rfl rfl rfl (Nat.le_of_ble_eq_true rfl) dX6_takesSlot_71 (fun F_8064 H locs hw f_8065 o_8066 => ?_)
      have f_8065 : F_8064 b = .inr (6, [.ref (ma 0), .int (mi 0), .ref (ma 1), .ref (ma 2), .ref (ma 3), .ref (ma 4), .int (mi 1), .ref (ma 5), .int (mi 2), .ref (ma 6), .int (nI (rd)), .int (nI (4 + 1)), .long (hh)]) := f_8065
      refine lv_iload_n hx hb dX6_takesSlot_74 rfl (lv_at hl 2 rfl) ?_
      refine lv_bipush (v := nI 48) hx hb dX6_takesSlot_75 (by decide) ?_
      refine lv_bipush (v := nI 53) hx hb dX6_takesSlot_77 (by decide) ?_
      refine q_calli hw (q_runS (As := [.int (nI cd), .int (nI (48)), .int (nI (53))]) (c_X6_within l G L F_8064 (nI cd) 48 53) C0 hw sw_X6_38 rfl hl.1 rfl (Nat.le_of_ble_eq_true rfl) dX6_takesSlot_79 ⟨by decide, by decide⟩ ⟨by decide, by decide⟩) rfl rfl (fun r_8069 F_8067 H locs hw hp_8068 => ?_)
      obtain ⟨he_8070, o_8071⟩ := hp_8068
      by_cases hb_8072 : inR (nI cd) 48 53
      · skip
        rw [if_pos hb_8072] at he_8070
        subst he_8070
        have f_8073 : F_8067 b = .inr (6, [.ref (ma 0), .int (mi 0), .ref (ma 1), .ref (ma 2), .ref (ma 3), .ref (ma 4), .int (mi 1), .ref (ma 5), .int (mi 2), .ref (ma 6), .int (nI (rd)), .int (nI (4 + 1)), .long (hh)]) := (o_8071 b ).trans f_8065
        have f_8074 : F_8064 (ma 6) = .inl (G.2 0, 52, .inl (upd pf (4 * rd + 3) (((nI cd) - nI 48)))) := (o_8066 (ma 6) (ne_ao f_8061 f_8063)).trans f_8061
        have f_8075 : F_8067 (ma 6) = .inl (G.2 0, 52, .inl (upd pf (4 * rd + 3) (((nI cd) - nI 48)))) := (o_8071 (ma 6) ).trans f_8074
        exact r_i C0 hr hlk hw (v := nI 1) rfl ⟨bool_t hb_8072, f_8073, f_8075, (fun q k0 k1 => ((o_8071 q ).trans ((o_8066 q k0).trans (o_8062 q k1))))⟩ (Nat.le_refl _) (Nat.le_refl _) dX6_takesSlot_82 hQ
      · skip
        rw [if_neg hb_8072] at he_8070
        subst he_8070
        have f_8076 : F_8067 b = .inr (6, [.ref (ma 0), .int (mi 0), .ref (ma 1), .ref (ma 2), .ref (ma 3), .ref (ma 4), .int (mi 1), .ref (ma 5), .int (mi 2), .ref (ma 6), .int (nI (rd)), .int (nI (4 + 1)), .long (hh)]) := (o_8071 b ).trans f_8065
        have f_8077 : F_8064 (ma 6) = .inl (G.2 0, 52, .inl (upd pf (4 * rd + 3) (((nI cd) - nI 48)))) := (o_8066 (ma 6) (ne_ao f_8061 f_8063)).trans f_8061
        have f_8078 : F_8067 (ma 6) = .inl (G.2 0, 52, .inl (upd pf (4 * rd + 3) (((nI cd) - nI 48)))) := (o_8071 (ma 6) ).trans f_8077
        exact r_i C0 hr hlk hw (v := nI 0) rfl ⟨bool_f hb_8072, f_8076, f_8078, (fun q k0 k1 => ((o_8071 q ).trans ((o_8066 q k0).trans (o_8062 q k1))))⟩ (Nat.le_refl _) (Nat.le_refl _) dX6_takesSlot_82 hQ
  · skip
    exact absurd c_5 (by omega)
set_option maxHeartbeats 4000000 in
set_option maxRecDepth 100000 in
theorem c_X6_takes_4 (l : Launch) (G : Gl) (L : List Nat) (F : Nat → va_E) (b : Nat) (ma : Nat → Nat) (mi : Nat → Int32) (hh : Int64) (pf : Nat → Int32) (rd cd : Nat) (mb : b ∈ L) (fb : F b = mO ma mi hh) (hma : ∀ i, i < 7 → ma i ∈ L) (fq : F (ma 6) = .inl (G.2 0, 52, .inl pf)) (h3 : mi 3 = nI rd) (h4 : mi 4 = nI 4) (hr9 : rd ≤ 12) : CI l yX6_takes cX6_takes 2 (some .boolean) rm_X6_takes G L F [.ref b, .int (nI cd)] (fun r F1 => r = (if inR (nI cd) 48 53 then nI 1 else nI 0) ∧ F1 b = mO ma (va_up (va_up mi 3 (nI (rd))) 4 (nI 5)) hh ∧ F1 (ma 6) = .inl (G.2 0, 52, .inl (upd pf (4 * rd + 3) (nI cd - nI 48))) ∧ ∀ q, q ≠ b → q ≠ ma 6 → F1 q = F q) := by
  have fb2 : F b = .inr (6, [.ref (ma 0), .int (mi 0), .ref (ma 1), .ref (ma 2), .ref (ma 3), .ref (ma 4), .int (mi 1), .ref (ma 5), .int (mi 2), .ref (ma 6), .int (nI (rd)), .int (nI (4)), .long (hh)]) := by rw [fb]; simp only [mO]; rw [h3, h4]
  refine CG_of (by decide) (Nat.le_of_ble_eq_true rfl) rfl ?_
  intro p e s m args below meth c Q C0 hr hlk hnm hQ hw ls hl
  have hx := C0.x
  have hb := C0.b
  refine lv_aload_n hx hb dX6_takes_0 rfl (lv_at hl 0 rfl) ?_
  refine q_get C0 hw mb fb2 fw_X6_168 rfl dX6_takes_1 ?_
  refine lv_lookup (off := 110) (tgt := 114) hx hb dX6_takes_4 (by decide) (by decide) (by decide) ?_
  refine lv_aload_n hx hb dX6_takes_114 rfl (lv_at hl 0 rfl) ?_
  refine lv_iload_n hx hb dX6_takes_115 rfl (lv_at hl 1 rfl) ?_
  refine q_calli hw (q_runV (As := [.int (nI cd)]) (c_X6_takesSlot_4 l G L F b ma mi hh pf rd cd  mb fb hma fq h3 h4 hr9 ) C0 hw vw_X6_177 mb fb2 rfl rfl rfl hl.1 rfl (Nat.le_of_ble_eq_true rfl) dX6_takes_116 ⟨by decide, by decide⟩ ⟨by decide, by decide⟩) rfl rfl (fun r_8081 F_8079 H locs hw hp_8080 => ?_)
  obtain ⟨f_8082, f_8083, f_8084, f_8085⟩ := hp_8080
  by_cases hb_8086 : inR (nI cd) 48 53
  · skip
    rw [if_pos hb_8086] at f_8082
    subst f_8082
    exact r_i C0 hr hlk hw (v := nI 1) rfl ⟨bool_t hb_8086, f_8083, f_8084, (fun q k0 k1 => (f_8085 q k0 k1))⟩ (Nat.le_refl _) (Nat.le_refl _) dX6_takes_119 hQ
  · skip
    rw [if_neg hb_8086] at f_8082
    subst f_8082
    exact r_i C0 hr hlk hw (v := nI 0) rfl ⟨bool_f hb_8086, f_8083, f_8084, (fun q k0 k1 => (f_8085 q k0 k1))⟩ (Nat.le_refl _) (Nat.le_refl _) dX6_takes_119 hQ
set_option maxHeartbeats 4000000 in
set_option maxRecDepth 100000 in
theorem c_X6_takes_0 (l : Launch) (G : Gl) (L : List Nat) (F : Nat → va_E) (b : Nat) (ma : Nat → Nat) (mi : Nat → Int32) (hh : Int64) (pf : Nat → Int32) (rd cd : Nat) (mb : b ∈ L) (fb : F b = mO ma mi hh) (hma : ∀ i, i < 7 → ma i ∈ L) (fq : F (ma 6) = .inl (G.2 0, 52, .inl pf)) (h3 : mi 3 = nI rd) (h4 : mi 4 = nI 0) (hr9 : rd ≤ 12) : CI l yX6_takes cX6_takes 2 (some .boolean) rm_X6_takes G L F [.ref b, .int (nI cd)] (fun r F1 => r = (if 0 < digI (nI cd) then nI 1 else nI 0) ∧ F1 b = mO ma (va_up (va_up mi 3 (nI (rd))) 4 (nI 1)) hh ∧ F1 (ma 6) = .inl (G.2 0, 52, .inl (upd pf (4 * rd) (nI cd))) ∧ ∀ q, q ≠ b → q ≠ ma 6 → F1 q = F q) := by
  have fb2 : F b = .inr (6, [.ref (ma 0), .int (mi 0), .ref (ma 1), .ref (ma 2), .ref (ma 3), .ref (ma 4), .int (mi 1), .ref (ma 5), .int (mi 2), .ref (ma 6), .int (nI (rd)), .int (nI (0)), .long (hh)]) := by rw [fb]; simp only [mO]; rw [h3, h4]
  refine CG_of (by decide) (Nat.le_of_ble_eq_true rfl) rfl ?_
  intro p e s m args below meth c Q C0 hr hlk hnm hQ hw ls hl
  have hx := C0.x
  have hb := C0.b
  have hdi := digI_le (nI cd)
  refine lv_aload_n hx hb dX6_takes_0 rfl (lv_at hl 0 rfl) ?_
  refine q_get C0 hw mb fb2 fw_X6_168 rfl dX6_takes_1 ?_
  refine lv_lookup (off := 36) (tgt := 40) hx hb dX6_takes_4 (by decide) (by decide) (by decide) ?_
  refine lv_aload_n hx hb dX6_takes_40 rfl (lv_at hl 0 rfl) ?_
  refine q_get C0 hw mb fb2 fw_X6_28 rfl dX6_takes_41 ?_
  refine lv_iconst (v := nI 4) hx hb dX6_takes_44 (by decide) ?_
  refine lv_aload_n hx hb dX6_takes_45 rfl (lv_at hl 0 rfl) ?_
  refine q_get C0 hw mb fb2 fw_X6_171 rfl dX6_takes_46 ?_
  refine n_imul hx hb dX6_takes_49 ?_
  refine lv_iload_n hx hb dX6_takes_50 rfl (lv_at hl 1 rfl) ?_
  refine q_iast C0 hw ((hma 6 (by decide))) fq (4 * rd) (by omega) (by decide) dX6_takes_51 (fun F_8087 H locs hw f_8088 o_8089 => ?_)
  refine lv_aload_n hx hb dX6_takes_52 rfl (lv_at hl 0 rfl) ?_
  refine lv_iconst (v := nI 1) hx hb dX6_takes_53 (by decide) ?_
  have f_8090 : F_8087 b = .inr (6, [.ref (ma 0), .int (mi 0), .ref (ma 1), .ref (ma 2), .ref (ma 3), .ref (ma 4), .int (mi 1), .ref (ma 5), .int (mi 2), .ref (ma 6), .int (nI (rd)), .int (nI (0)), .long (hh)]) := (o_8089 b (ne_oa fb2 fq)).trans fb2
  refine q_put C0 hw mb f_8090 fw_X6_168 pw_X6_11 rfl rfl rfl (Nat.le_of_ble_eq_true rfl) dX6_takes_54 (fun F_8091 H locs hw f_8092 o_8093 => ?_)
  have f_8092 : F_8091 b = .inr (6, [.ref (ma 0), .int (mi 0), .ref (ma 1), .ref (ma 2), .ref (ma 3), .ref (ma 4), .int (mi 1), .ref (ma 5), .int (mi 2), .ref (ma 6), .int (nI (rd)), .int (nI (1)), .long (hh)]) := f_8092
  refine lv_iload_n hx hb dX6_takes_57 rfl (lv_at hl 1 rfl) ?_
  refine q_calli hw (q_runS (As := [.int (nI cd)]) (c_X6_slotsOf l G L F_8091 ((nI cd))) C0 hw sw_X6_174 rfl hl.1 rfl (Nat.le_of_ble_eq_true rfl) dX6_takes_58 ⟨by decide, by decide⟩ ⟨by decide, by decide⟩) rfl rfl (fun r_8096 F_8094 H locs hw hp_8095 => ?_)
  obtain ⟨he_8097, o_8098⟩ := hp_8095
  subst he_8097
  refine n_if_le (tgt := 68) hx hb dX6_takes_61 (by decide) (by omega) (fun c_61 => ?_) (fun c_61 => ?_)
  · skip
    refine lv_iconst (v := nI 0) hx hb dX6_takes_68 (by decide) ?_
    have f_8099 : F_8094 b = .inr (6, [.ref (ma 0), .int (mi 0), .ref (ma 1), .ref (ma 2), .ref (ma 3), .ref (ma 4), .int (mi 1), .ref (ma 5), .int (mi 2), .ref (ma 6), .int (nI (rd)), .int (nI (1)), .long (hh)]) := (o_8098 b ).trans f_8092
    have f_8100 : F_8091 (ma 6) = .inl (G.2 0, 52, .inl (upd pf (4 * rd) ((nI cd)))) := (o_8093 (ma 6) (ne_ao f_8088 f_8090)).trans f_8088
    have f_8101 : F_8094 (ma 6) = .inl (G.2 0, 52, .inl (upd pf (4 * rd) ((nI cd)))) := (o_8098 (ma 6) ).trans f_8100
    exact r_i C0 hr hlk hw (v := nI 0) rfl ⟨bool_f (by omega), f_8099, f_8101, (fun q k0 k1 => ((o_8098 q ).trans ((o_8093 q k0).trans (o_8089 q k1))))⟩ (Nat.le_refl _) (Nat.le_refl _) dX6_takes_69 hQ
  · skip
    refine lv_iconst (v := nI 1) hx hb dX6_takes_64 (by decide) ?_
    refine lv_goto (tgt := 69) hx hb dX6_takes_65 (by decide) ?_
    have f_8102 : F_8094 b = .inr (6, [.ref (ma 0), .int (mi 0), .ref (ma 1), .ref (ma 2), .ref (ma 3), .ref (ma 4), .int (mi 1), .ref (ma 5), .int (mi 2), .ref (ma 6), .int (nI (rd)), .int (nI (1)), .long (hh)]) := (o_8098 b ).trans f_8092
    have f_8103 : F_8091 (ma 6) = .inl (G.2 0, 52, .inl (upd pf (4 * rd) ((nI cd)))) := (o_8093 (ma 6) (ne_ao f_8088 f_8090)).trans f_8088
    have f_8104 : F_8094 (ma 6) = .inl (G.2 0, 52, .inl (upd pf (4 * rd) ((nI cd)))) := (o_8098 (ma 6) ).trans f_8103
    exact r_i C0 hr hlk hw (v := nI 1) rfl ⟨bool_t (by omega), f_8102, f_8104, (fun q k0 k1 => ((o_8098 q ).trans ((o_8093 q k0).trans (o_8089 q k1))))⟩ (Nat.le_refl _) (Nat.le_refl _) dX6_takes_69 hQ
set_option maxHeartbeats 4000000 in
set_option maxRecDepth 100000 in
theorem c_X6_takes_3 (l : Launch) (G : Gl) (L : List Nat) (F : Nat → va_E) (b : Nat) (ma : Nat → Nat) (mi : Nat → Int32) (hh : Int64) (pf : Nat → Int32) (rd cd : Nat) (mb : b ∈ L) (fb : F b = mO ma mi hh) (hma : ∀ i, i < 7 → ma i ∈ L) (fq : F (ma 6) = .inl (G.2 0, 52, .inl pf)) (h3 : mi 3 = nI rd) (h4 : mi 4 = nI 3) (hr9 : rd ≤ 12) : CI l yX6_takes cX6_takes 2 (some .boolean) rm_X6_takes G L F [.ref b, .int (nI cd)] (fun r F1 => r = (if nI cd = nI 62 then nI 1 else nI 0) ∧ F1 b = mO ma (va_up (va_up mi 3 (nI (rd))) 4 (nI 4)) hh ∧ F1 (ma 6) = .inl (G.2 0, 52, .inl (pf)) ∧ ∀ q, q ≠ b → q ≠ ma 6 → F1 q = F q) := by
  have fb2 : F b = .inr (6, [.ref (ma 0), .int (mi 0), .ref (ma 1), .ref (ma 2), .ref (ma 3), .ref (ma 4), .int (mi 1), .ref (ma 5), .int (mi 2), .ref (ma 6), .int (nI (rd)), .int (nI (3)), .long (hh)]) := by rw [fb]; simp only [mO]; rw [h3, h4]
  refine CG_of (by decide) (Nat.le_of_ble_eq_true rfl) rfl ?_
  intro p e s m args below meth c Q C0 hr hlk hnm hQ hw ls hl
  have hx := C0.x
  have hb := C0.b
  refine lv_aload_n hx hb dX6_takes_0 rfl (lv_at hl 0 rfl) ?_
  refine q_get C0 hw mb fb2 fw_X6_168 rfl dX6_takes_1 ?_
  refine lv_lookup (off := 66) (tgt := 70) hx hb dX6_takes_4 (by decide) (by decide) (by decide) ?_
  refine lv_aload_n hx hb dX6_takes_70 rfl (lv_at hl 0 rfl) ?_
  refine lv_iconst (v := nI 4) hx hb dX6_takes_71 (by decide) ?_
  refine q_put C0 hw mb fb2 fw_X6_168 pw_X6_11 rfl rfl rfl (Nat.le_of_ble_eq_true rfl) dX6_takes_72 (fun F_8105 H locs hw f_8106 o_8107 => ?_)
  have f_8106 : F_8105 b = .inr (6, [.ref (ma 0), .int (mi 0), .ref (ma 1), .ref (ma 2), .ref (ma 3), .ref (ma 4), .int (mi 1), .ref (ma 5), .int (mi 2), .ref (ma 6), .int (nI (rd)), .int (nI (4)), .long (hh)]) := f_8106
  refine lv_iload_n hx hb dX6_takes_75 rfl (lv_at hl 1 rfl) ?_
  refine lv_bipush (v := nI 62) hx hb dX6_takes_76 (by decide) ?_
  refine lv_icmp_ne (tgt := 85) hx hb dX6_takes_78 (by decide) (fun c_78 => ?_) (fun c_78 => ?_)
  · skip
    refine lv_iconst (v := nI 0) hx hb dX6_takes_85 (by decide) ?_
    have f_8108 : F_8105 (ma 6) = .inl (G.2 0, 52, .inl pf) := (o_8107 (ma 6) (ne_ao fq fb2)).trans fq
    exact r_i C0 hr hlk hw (v := nI 0) rfl ⟨bool_f c_78, f_8106, f_8108, (fun q k0 k1 => (o_8107 q k0))⟩ (Nat.le_refl _) (Nat.le_refl _) dX6_takes_86 hQ
  · skip
    refine lv_iconst (v := nI 1) hx hb dX6_takes_81 (by decide) ?_
    refine lv_goto (tgt := 86) hx hb dX6_takes_82 (by decide) ?_
    have f_8109 : F_8105 (ma 6) = .inl (G.2 0, 52, .inl pf) := (o_8107 (ma 6) (ne_ao fq fb2)).trans fq
    exact r_i C0 hr hlk hw (v := nI 1) rfl ⟨bool_t c_78, f_8106, f_8109, (fun q k0 k1 => (o_8107 q k0))⟩ (Nat.le_refl _) (Nat.le_refl _) dX6_takes_86 hQ
set_option maxHeartbeats 4000000 in
set_option maxRecDepth 100000 in
theorem c_X6_takes_5 (l : Launch) (G : Gl) (L : List Nat) (F : Nat → va_E) (b : Nat) (ma : Nat → Nat) (mi : Nat → Int32) (hh : Int64) (pf : Nat → Int32) (rd cd : Nat) (mb : b ∈ L) (fb : F b = mO ma mi hh) (hma : ∀ i, i < 7 → ma i ∈ L) (fq : F (ma 6) = .inl (G.2 0, 52, .inl pf)) (h3 : mi 3 = nI rd) (h4 : mi 4 = nI 5) (hr9 : rd ≤ 12) : CI l yX6_takes cX6_takes 2 (some .boolean) rm_X6_takes G L F [.ref b, .int (nI cd)] (fun r F1 => r = (if nI cd = nI 59 then nI 1 else nI 0) ∧ F1 b = mO ma (va_up (va_up mi 3 (nI (rd + 1))) 4 (nI 0)) hh ∧ F1 (ma 6) = .inl (G.2 0, 52, .inl (pf)) ∧ ∀ q, q ≠ b → q ≠ ma 6 → F1 q = F q) := by
  have fb2 : F b = .inr (6, [.ref (ma 0), .int (mi 0), .ref (ma 1), .ref (ma 2), .ref (ma 3), .ref (ma 4), .int (mi 1), .ref (ma 5), .int (mi 2), .ref (ma 6), .int (nI (rd)), .int (nI (5)), .long (hh)]) := by rw [fb]; simp only [mO]; rw [h3, h4]
  refine CG_of (by decide) (Nat.le_of_ble_eq_true rfl) rfl ?_
  intro p e s m args below meth c Q C0 hr hlk hnm hQ hw ls hl
  have hx := C0.x
  have hb := C0.b
  refine lv_aload_n hx hb dX6_takes_0 rfl (lv_at hl 0 rfl) ?_
  refine q_get C0 hw mb fb2 fw_X6_168 rfl dX6_takes_1 ?_
  refine lv_lookup (off := 83) (tgt := 87) hx hb dX6_takes_4 (by decide) (by decide) (by decide) ?_
  refine lv_aload_n hx hb dX6_takes_87 rfl (lv_at hl 0 rfl) ?_
  refine lv_dup hx hb dX6_takes_88 rfl ?_
  refine q_get C0 hw mb fb2 fw_X6_171 rfl dX6_takes_89 ?_
  refine lv_iconst (v := nI 1) hx hb dX6_takes_92 (by decide) ?_
  refine n_iadd hx hb dX6_takes_93 ?_
  refine q_put C0 hw mb fb2 fw_X6_171 pw_X6_10 rfl rfl rfl (Nat.le_of_ble_eq_true rfl) dX6_takes_94 (fun F_8110 H locs hw f_8111 o_8112 => ?_)
  have f_8111 : F_8110 b = .inr (6, [.ref (ma 0), .int (mi 0), .ref (ma 1), .ref (ma 2), .ref (ma 3), .ref (ma 4), .int (mi 1), .ref (ma 5), .int (mi 2), .ref (ma 6), .int (nI (rd + 1)), .int (nI (5)), .long (hh)]) := f_8111
  refine lv_aload_n hx hb dX6_takes_97 rfl (lv_at hl 0 rfl) ?_
  refine lv_iconst (v := nI 0) hx hb dX6_takes_98 (by decide) ?_
  refine q_put C0 hw mb f_8111 fw_X6_168 pw_X6_11 rfl rfl rfl (Nat.le_of_ble_eq_true rfl) dX6_takes_99 (fun F_8113 H locs hw f_8114 o_8115 => ?_)
  have f_8114 : F_8113 b = .inr (6, [.ref (ma 0), .int (mi 0), .ref (ma 1), .ref (ma 2), .ref (ma 3), .ref (ma 4), .int (mi 1), .ref (ma 5), .int (mi 2), .ref (ma 6), .int (nI (rd + 1)), .int (nI (0)), .long (hh)]) := f_8114
  refine lv_iload_n hx hb dX6_takes_102 rfl (lv_at hl 1 rfl) ?_
  refine lv_bipush (v := nI 59) hx hb dX6_takes_103 (by decide) ?_
  refine lv_icmp_ne (tgt := 112) hx hb dX6_takes_105 (by decide) (fun c_105 => ?_) (fun c_105 => ?_)
  · skip
    refine lv_iconst (v := nI 0) hx hb dX6_takes_112 (by decide) ?_
    have f_8116 : F_8110 (ma 6) = .inl (G.2 0, 52, .inl pf) := (o_8112 (ma 6) (ne_ao fq fb2)).trans fq
    have f_8117 : F_8113 (ma 6) = .inl (G.2 0, 52, .inl pf) := (o_8115 (ma 6) (ne_ao f_8116 f_8111)).trans f_8116
    exact r_i C0 hr hlk hw (v := nI 0) rfl ⟨bool_f c_105, f_8114, f_8117, (fun q k0 k1 => ((o_8115 q k0).trans (o_8112 q k0)))⟩ (Nat.le_refl _) (Nat.le_refl _) dX6_takes_113 hQ
  · skip
    refine lv_iconst (v := nI 1) hx hb dX6_takes_108 (by decide) ?_
    refine lv_goto (tgt := 113) hx hb dX6_takes_109 (by decide) ?_
    have f_8118 : F_8110 (ma 6) = .inl (G.2 0, 52, .inl pf) := (o_8112 (ma 6) (ne_ao fq fb2)).trans fq
    have f_8119 : F_8113 (ma 6) = .inl (G.2 0, 52, .inl pf) := (o_8115 (ma 6) (ne_ao f_8118 f_8111)).trans f_8118
    exact r_i C0 hr hlk hw (v := nI 1) rfl ⟨bool_t c_105, f_8114, f_8119, (fun q k0 k1 => ((o_8115 q k0).trans (o_8112 q k0)))⟩ (Nat.le_refl _) (Nat.le_refl _) dX6_takes_113 hQ
abbrev rm_X6_append : Room := { frames := 1, cells := 0, slots := 0, locals := 22 }
set_option maxHeartbeats 4000000 in
set_option maxRecDepth 100000 in
theorem k_X6_append_x1 (l : Launch) (G : Gl) (L : List Nat) (F : Nat → va_E) (b : Nat) (ma : Nat → Nat) (A : AB) (th : Nat) (x9 : Int32) (mb : b ∈ L) (hma : ∀ i, i < 7 → ma i ∈ L) (hM : MW G F b ma A th) (hA : okA A) (h9 : ¬ inR x9 33 126) : CI l yX6_append cX6_append 2 (some .int) rm_X6_append G L F [.ref b, .int (x9)] (fun r F1 => MW G F1 b ma A 1 ∧ mFr F F1 b ma) := by
  obtain ⟨mi, hh, zf, hf, sf, kf, tf, pf, pl, fb, ⟨hm0, hm1, hm2⟩, ⟨fz, hz⟩, ⟨fh, hhf⟩, ⟨fs, hsf⟩, ⟨fk, hkf⟩, fp, ⟨ft, htf⟩, fq⟩ := hM
  obtain ⟨hz0, hz1, hz2, hz3, hz4⟩ := ne_z zf hz
  have hc : A.1.1 ≤ 6 := hA.1.2.1
  have hc2 : 2 ≤ A.1.1 := hA.1.1
  have hpu : A.1.2.1 ≤ 100000 := hA.1.2.2.1
  have hrw : ∀ i k, i < 12 → k < 7 → zf (5 + 7 * i + k) = nI (A.1.2.2.2.2.2 i k).val := hz.row
  refine CG_of (by decide) (Nat.le_of_ble_eq_true rfl) rfl ?_
  intro p e s m args below meth c Q C0 hr hlk hnm hQ hw ls hl
  have hx := C0.x
  have hb := C0.b
  refine lv_aload_n hx hb dX6_append_0 rfl (lv_at hl 0 rfl) ?_
  refine lv_iload_n hx hb dX6_append_1 rfl (lv_at hl 1 rfl) ?_
  refine lv_bipush (v := nI 33) hx hb dX6_append_2 (by decide) ?_
  refine lv_bipush (v := nI 126) hx hb dX6_append_4 (by decide) ?_
  refine q_calli hw (q_runS (As := [.int (x9), .int (nI (33)), .int (nI (126))]) (c_X6_within l G L F x9 33 126) C0 hw sw_X6_38 rfl hl.1 rfl (Nat.le_of_ble_eq_true rfl) dX6_append_6 ⟨by decide, by decide⟩ ⟨by decide, by decide⟩) rfl rfl (fun r_8122 F_8120 H locs hw hp_8121 => ?_)
  obtain ⟨he_8123, o_8124⟩ := hp_8121
  rw [if_neg h9] at he_8123
  subst he_8123
  refine n_if_ne (tgt := 16) hx hb dX6_append_9 (by decide) (by decide) (fun c_9 => ?_) (fun c_9 => ?_)
  · skip
    exact absurd c_9 (by omega)
  · skip
    refine lv_iconst (v := nI 1) hx hb dX6_append_12 (by decide) ?_
    refine lv_goto (tgt := 30) hx hb dX6_append_13 (by decide) ?_
    have f_8125 : F_8120 b = mO ma mi hh := (o_8124 b ).trans fb
    refine q_put C0 hw mb f_8125 fw_X6_31 pw_X6_8 rfl rfl rfl (Nat.le_of_ble_eq_true rfl) dX6_append_30 (fun F_8126 H locs hw f_8127 o_8128 => ?_)
    have f_8127 : F_8126 b = .inr (6, [.ref (ma 0), .int (mi 0), .ref (ma 1), .ref (ma 2), .ref (ma 3), .ref (ma 4), .int (mi 1), .ref (ma 5), .int (nI (1)), .ref (ma 6), .int (mi 3), .int (mi 4), .long (hh)]) := f_8127
    refine lv_aload_n hx hb dX6_append_33 rfl (lv_at hl 0 rfl) ?_
    refine q_get C0 hw mb f_8127 fw_X6_31 rfl dX6_append_34 ?_
    refine n_if_le (tgt := 42) hx hb dX6_append_37 (by decide) (by decide) (fun c_37 => ?_) (fun c_37 => ?_)
    · skip
      exact absurd c_37 (by omega)
    · skip
      refine lv_iconst (v := nI 0) hx hb dX6_append_40 (by decide) ?_
      have hb_8129 : F_8126 b = mO ma (va_up mi 2 (nI 1)) (hh) := f_8127
      have f_8130 : F_8120 (ma 0) = .inl (G.2 0, 89, .inl zf) := (o_8124 (ma 0) ).trans fz
      have f_8131 : F_8126 (ma 0) = .inl (G.2 0, 89, .inl zf) := (o_8128 (ma 0) (ne_ao f_8130 f_8125)).trans f_8130
      have f_8132 : F_8120 (ma 1) = .inl (G.2 0, 534, .inl hf) := (o_8124 (ma 1) ).trans fh
      have f_8133 : F_8126 (ma 1) = .inl (G.2 0, 534, .inl hf) := (o_8128 (ma 1) (ne_ao f_8132 f_8125)).trans f_8132
      have f_8134 : F_8120 (ma 2) = .inl (G.2 0, 178, .inl sf) := (o_8124 (ma 2) ).trans fs
      have f_8135 : F_8126 (ma 2) = .inl (G.2 0, 178, .inl sf) := (o_8128 (ma 2) (ne_ao f_8134 f_8125)).trans f_8134
      have f_8136 : F_8120 (ma 3) = .inl (G.2 0, 2, .inl kf) := (o_8124 (ma 3) ).trans fk
      have f_8137 : F_8126 (ma 3) = .inl (G.2 0, 2, .inl kf) := (o_8128 (ma 3) (ne_ao f_8136 f_8125)).trans f_8136
      have f_8138 : F_8120 (ma 4) = pcE G pl := (o_8124 (ma 4) ).trans fp
      have f_8139 : F_8126 (ma 4) = pcE G pl := (o_8128 (ma 4) (ne_ao f_8138 f_8125)).trans f_8138
      have f_8140 : F_8120 (ma 5) = .inl (G.2 0, 60, .inl tf) := (o_8124 (ma 5) ).trans ft
      have f_8141 : F_8126 (ma 5) = .inl (G.2 0, 60, .inl tf) := (o_8128 (ma 5) (ne_ao f_8140 f_8125)).trans f_8140
      have f_8142 : F_8120 (ma 6) = .inl (G.2 0, 52, .inl pf) := (o_8124 (ma 6) ).trans fq
      have f_8143 : F_8126 (ma 6) = .inl (G.2 0, 52, .inl pf) := (o_8128 (ma 6) (ne_ao f_8142 f_8125)).trans f_8142
      exact r_i C0 hr hlk hw (v := nI 0) rfl ⟨⟨_, _, _, _, _, _, _, _, _, hb_8129, ⟨hm0, hm1, rfl⟩, ⟨f_8131, hz⟩, ⟨f_8133, hhf⟩, ⟨f_8135, hsf⟩, ⟨f_8137, hkf⟩, f_8139, ⟨f_8141, htf⟩, f_8143⟩, (fun q k0 k1 => ((o_8128 q k0).trans (o_8124 q )))⟩ (Nat.le_refl _) (Nat.le_refl _) dX6_append_41 hQ
set_option maxHeartbeats 4000000 in
set_option maxRecDepth 100000 in
theorem k_X6_append_x2 (l : Launch) (G : Gl) (L : List Nat) (F : Nat → va_E) (b : Nat) (ma : Nat → Nat) (A : AB) (th : Nat) (x9 : Int32) (mb : b ∈ L) (hma : ∀ i, i < 7 → ma i ∈ L) (hM : MW G F b ma A th) (hA : okA A) (h9 : inR x9 33 126) (hfull : A.2.2.2.1 = 60) : CI l yX6_append cX6_append 2 (some .int) rm_X6_append G L F [.ref b, .int (x9)] (fun r F1 => MW G F1 b ma A 2 ∧ mFr F F1 b ma) := by
  obtain ⟨mi, hh, zf, hf, sf, kf, tf, pf, pl, fb, ⟨hm0, hm1, hm2⟩, ⟨fz, hz⟩, ⟨fh, hhf⟩, ⟨fs, hsf⟩, ⟨fk, hkf⟩, fp, ⟨ft, htf⟩, fq⟩ := hM
  obtain ⟨hz0, hz1, hz2, hz3, hz4⟩ := ne_z zf hz
  have hc : A.1.1 ≤ 6 := hA.1.2.1
  have hc2 : 2 ≤ A.1.1 := hA.1.1
  have hpu : A.1.2.1 ≤ 100000 := hA.1.2.2.1
  have hrw : ∀ i k, i < 12 → k < 7 → zf (5 + 7 * i + k) = nI (A.1.2.2.2.2.2 i k).val := hz.row
  have hl60 : A.2.2.2.1 ≤ 60 := hA.2.2.2.1
  have fb2 : F b = .inr (6, [.ref (ma 0), .int (mi 0), .ref (ma 1), .ref (ma 2), .ref (ma 3), .ref (ma 4), .int (nI (A.2.2.2.1)), .ref (ma 5), .int (mi 2), .ref (ma 6), .int (mi 3), .int (mi 4), .long (hh)]) := by rw [fb]; simp only [mO]; rw [hm1]
  refine CG_of (by decide) (Nat.le_of_ble_eq_true rfl) rfl ?_
  intro p e s m args below meth c Q C0 hr hlk hnm hQ hw ls hl
  have hx := C0.x
  have hb := C0.b
  refine lv_aload_n hx hb dX6_append_0 rfl (lv_at hl 0 rfl) ?_
  refine lv_iload_n hx hb dX6_append_1 rfl (lv_at hl 1 rfl) ?_
  refine lv_bipush (v := nI 33) hx hb dX6_append_2 (by decide) ?_
  refine lv_bipush (v := nI 126) hx hb dX6_append_4 (by decide) ?_
  refine q_calli hw (q_runS (As := [.int (x9), .int (nI (33)), .int (nI (126))]) (c_X6_within l G L F x9 33 126) C0 hw sw_X6_38 rfl hl.1 rfl (Nat.le_of_ble_eq_true rfl) dX6_append_6 ⟨by decide, by decide⟩ ⟨by decide, by decide⟩) rfl rfl (fun r_8146 F_8144 H locs hw hp_8145 => ?_)
  obtain ⟨he_8147, o_8148⟩ := hp_8145
  rw [if_pos h9] at he_8147
  subst he_8147
  refine n_if_ne (tgt := 16) hx hb dX6_append_9 (by decide) (by decide) (fun c_9 => ?_) (fun c_9 => ?_)
  · skip
    refine lv_aload_n hx hb dX6_append_16 rfl (lv_at hl 0 rfl) ?_
    have f_8149 : F_8144 b = .inr (6, [.ref (ma 0), .int (mi 0), .ref (ma 1), .ref (ma 2), .ref (ma 3), .ref (ma 4), .int (nI (A.2.2.2.1)), .ref (ma 5), .int (mi 2), .ref (ma 6), .int (mi 3), .int (mi 4), .long (hh)]) := (o_8148 b ).trans fb2
    refine q_get C0 hw mb f_8149 fw_X6_165 rfl dX6_append_17 ?_
    refine lv_bipush (v := nI 60) hx hb dX6_append_20 (by decide) ?_
    refine n_icmp_ne (tgt := 29) hx hb dX6_append_22 (by decide) (by omega) (by decide) (fun c_22 => ?_) (fun c_22 => ?_)
    · skip
      exact absurd c_22 (by omega)
    · skip
      refine lv_iconst (v := nI 2) hx hb dX6_append_25 (by decide) ?_
      refine lv_goto (tgt := 30) hx hb dX6_append_26 (by decide) ?_
      refine q_put C0 hw mb f_8149 fw_X6_31 pw_X6_8 rfl rfl rfl (Nat.le_of_ble_eq_true rfl) dX6_append_30 (fun F_8150 H locs hw f_8151 o_8152 => ?_)
      have f_8151 : F_8150 b = .inr (6, [.ref (ma 0), .int (mi 0), .ref (ma 1), .ref (ma 2), .ref (ma 3), .ref (ma 4), .int (nI (A.2.2.2.1)), .ref (ma 5), .int (nI (2)), .ref (ma 6), .int (mi 3), .int (mi 4), .long (hh)]) := f_8151
      refine lv_aload_n hx hb dX6_append_33 rfl (lv_at hl 0 rfl) ?_
      refine q_get C0 hw mb f_8151 fw_X6_31 rfl dX6_append_34 ?_
      refine n_if_le (tgt := 42) hx hb dX6_append_37 (by decide) (by decide) (fun c_37 => ?_) (fun c_37 => ?_)
      · skip
        exact absurd c_37 (by omega)
      · skip
        refine lv_iconst (v := nI 0) hx hb dX6_append_40 (by decide) ?_
        have hb_8153 : F_8150 b = mO ma (va_up (va_up mi 1 (nI (A.2.2.2.1))) 2 (nI 2)) (hh) := f_8151
        have f_8154 : F_8144 (ma 0) = .inl (G.2 0, 89, .inl zf) := (o_8148 (ma 0) ).trans fz
        have f_8155 : F_8150 (ma 0) = .inl (G.2 0, 89, .inl zf) := (o_8152 (ma 0) (ne_ao f_8154 f_8149)).trans f_8154
        have f_8156 : F_8144 (ma 1) = .inl (G.2 0, 534, .inl hf) := (o_8148 (ma 1) ).trans fh
        have f_8157 : F_8150 (ma 1) = .inl (G.2 0, 534, .inl hf) := (o_8152 (ma 1) (ne_ao f_8156 f_8149)).trans f_8156
        have f_8158 : F_8144 (ma 2) = .inl (G.2 0, 178, .inl sf) := (o_8148 (ma 2) ).trans fs
        have f_8159 : F_8150 (ma 2) = .inl (G.2 0, 178, .inl sf) := (o_8152 (ma 2) (ne_ao f_8158 f_8149)).trans f_8158
        have f_8160 : F_8144 (ma 3) = .inl (G.2 0, 2, .inl kf) := (o_8148 (ma 3) ).trans fk
        have f_8161 : F_8150 (ma 3) = .inl (G.2 0, 2, .inl kf) := (o_8152 (ma 3) (ne_ao f_8160 f_8149)).trans f_8160
        have f_8162 : F_8144 (ma 4) = pcE G pl := (o_8148 (ma 4) ).trans fp
        have f_8163 : F_8150 (ma 4) = pcE G pl := (o_8152 (ma 4) (ne_ao f_8162 f_8149)).trans f_8162
        have f_8164 : F_8144 (ma 5) = .inl (G.2 0, 60, .inl tf) := (o_8148 (ma 5) ).trans ft
        have f_8165 : F_8150 (ma 5) = .inl (G.2 0, 60, .inl tf) := (o_8152 (ma 5) (ne_ao f_8164 f_8149)).trans f_8164
        have f_8166 : F_8144 (ma 6) = .inl (G.2 0, 52, .inl pf) := (o_8148 (ma 6) ).trans fq
        have f_8167 : F_8150 (ma 6) = .inl (G.2 0, 52, .inl pf) := (o_8152 (ma 6) (ne_ao f_8166 f_8149)).trans f_8166
        exact r_i C0 hr hlk hw (v := nI 0) rfl ⟨⟨_, _, _, _, _, _, _, _, _, hb_8153, ⟨hm0, rfl, rfl⟩, ⟨f_8155, hz⟩, ⟨f_8157, hhf⟩, ⟨f_8159, hsf⟩, ⟨f_8161, hkf⟩, f_8163, ⟨f_8165, htf⟩, f_8167⟩, (fun q k0 k1 => ((o_8152 q k0).trans (o_8148 q )))⟩ (Nat.le_refl _) (Nat.le_refl _) dX6_append_41 hQ
  · skip
    exact absurd c_9 (by omega)
theorem tA_app {tf : Nat → Int32} {t : Nat × (Nat → Nat)} {x : Nat} (h : tA_ tf t) : tA_ (upd tf t.1 (nI x)) (t.1 + 1, va_up t.2 t.1 x) := by
  intro i hi
  have hi2 : i < t.1 + 1 := hi
  by_cases e : i = t.1
  · subst e
    show (if t.1 = t.1 then _ else _) = nI (va_up t.2 t.1 x t.1)
    rw [if_pos rfl, va_up_self]
  · show (if i = t.1 then _ else _) = nI (va_up t.2 t.1 x i)
    rw [if_neg e, va_up_ne _ _ e]
    exact h i (by omega)
set_option maxHeartbeats 4000000 in
set_option maxRecDepth 100000 in
theorem k_X6_append (l : Launch) (G : Gl) (L : List Nat) (F : Nat → va_E) (b : Nat) (ma : Nat → Nat) (A : AB) (th : Nat) (x9 : Nat) (mb : b ∈ L) (hma : ∀ i, i < 7 → ma i ∈ L) (hM : MW G F b ma A th) (hA : okA A) (hx1 : 33 ≤ x9) (hx2 : x9 ≤ 126) (h9 : inR (nI x9) 33 126) (h60 : A.2.2.2.1 < 60) : CI l yX6_append cX6_append 2 (some .int) rm_X6_append G L F [.ref b, .int (nI (x9))] (fun r F1 => r = nI (A.2.2.2.1 + 1) ∧ MW G F1 b ma (A.1, A.2.1, A.2.2.1, (A.2.2.2.1 + 1, va_up A.2.2.2.2 A.2.2.2.1 x9)) 0 ∧ mFr F F1 b ma) := by
  obtain ⟨mi, hh, zf, hf, sf, kf, tf, pf, pl, fb, ⟨hm0, hm1, hm2⟩, ⟨fz, hz⟩, ⟨fh, hhf⟩, ⟨fs, hsf⟩, ⟨fk, hkf⟩, fp, ⟨ft, htf⟩, fq⟩ := hM
  obtain ⟨hz0, hz1, hz2, hz3, hz4⟩ := ne_z zf hz
  have hc : A.1.1 ≤ 6 := hA.1.2.1
  have hc2 : 2 ≤ A.1.1 := hA.1.1
  have hpu : A.1.2.1 ≤ 100000 := hA.1.2.2.1
  have hrw : ∀ i k, i < 12 → k < 7 → zf (5 + 7 * i + k) = nI (A.1.2.2.2.2.2 i k).val := hz.row
  have hl60 : A.2.2.2.1 ≤ 60 := hA.2.2.2.1
  have fb2 : F b = .inr (6, [.ref (ma 0), .int (mi 0), .ref (ma 1), .ref (ma 2), .ref (ma 3), .ref (ma 4), .int (nI (A.2.2.2.1)), .ref (ma 5), .int (mi 2), .ref (ma 6), .int (mi 3), .int (mi 4), .long (hh)]) := by rw [fb]; simp only [mO]; rw [hm1]
  refine CG_of (by decide) (Nat.le_of_ble_eq_true rfl) rfl ?_
  intro p e s m args below meth c Q C0 hr hlk hnm hQ hw ls hl
  have hx := C0.x
  have hb := C0.b
  refine lv_aload_n hx hb dX6_append_0 rfl (lv_at hl 0 rfl) ?_
  refine lv_iload_n hx hb dX6_append_1 rfl (lv_at hl 1 rfl) ?_
  refine lv_bipush (v := nI 33) hx hb dX6_append_2 (by decide) ?_
  refine lv_bipush (v := nI 126) hx hb dX6_append_4 (by decide) ?_
  refine q_calli hw (q_runS (As := [.int (nI (x9)), .int (nI (33)), .int (nI (126))]) (c_X6_within l G L F (nI (x9)) 33 126) C0 hw sw_X6_38 rfl hl.1 rfl (Nat.le_of_ble_eq_true rfl) dX6_append_6 ⟨by decide, by decide⟩ ⟨by decide, by decide⟩) rfl rfl (fun r_8170 F_8168 H locs hw hp_8169 => ?_)
  obtain ⟨he_8171, o_8172⟩ := hp_8169
  rw [if_pos h9] at he_8171
  subst he_8171
  refine n_if_ne (tgt := 16) hx hb dX6_append_9 (by decide) (by decide) (fun c_9 => ?_) (fun c_9 => ?_)
  · skip
    refine lv_aload_n hx hb dX6_append_16 rfl (lv_at hl 0 rfl) ?_
    have f_8173 : F_8168 b = .inr (6, [.ref (ma 0), .int (mi 0), .ref (ma 1), .ref (ma 2), .ref (ma 3), .ref (ma 4), .int (nI (A.2.2.2.1)), .ref (ma 5), .int (mi 2), .ref (ma 6), .int (mi 3), .int (mi 4), .long (hh)]) := (o_8172 b ).trans fb2
    refine q_get C0 hw mb f_8173 fw_X6_165 rfl dX6_append_17 ?_
    refine lv_bipush (v := nI 60) hx hb dX6_append_20 (by decide) ?_
    refine n_icmp_ne (tgt := 29) hx hb dX6_append_22 (by decide) (by omega) (by decide) (fun c_22 => ?_) (fun c_22 => ?_)
    · skip
      refine lv_iconst (v := nI 0) hx hb dX6_append_29 (by decide) ?_
      refine q_put C0 hw mb f_8173 fw_X6_31 pw_X6_8 rfl rfl rfl (Nat.le_of_ble_eq_true rfl) dX6_append_30 (fun F_8174 H locs hw f_8175 o_8176 => ?_)
      have f_8175 : F_8174 b = .inr (6, [.ref (ma 0), .int (mi 0), .ref (ma 1), .ref (ma 2), .ref (ma 3), .ref (ma 4), .int (nI (A.2.2.2.1)), .ref (ma 5), .int (nI (0)), .ref (ma 6), .int (mi 3), .int (mi 4), .long (hh)]) := f_8175
      refine lv_aload_n hx hb dX6_append_33 rfl (lv_at hl 0 rfl) ?_
      refine q_get C0 hw mb f_8175 fw_X6_31 rfl dX6_append_34 ?_
      refine n_if_le (tgt := 42) hx hb dX6_append_37 (by decide) (by decide) (fun c_37 => ?_) (fun c_37 => ?_)
      · skip
        refine lv_aload_n hx hb dX6_append_42 rfl (lv_at hl 0 rfl) ?_
        refine q_get C0 hw mb f_8175 fw_X6_25 rfl dX6_append_43 ?_
        refine lv_aload_n hx hb dX6_append_46 rfl (lv_at hl 0 rfl) ?_
        refine q_get C0 hw mb f_8175 fw_X6_165 rfl dX6_append_47 ?_
        refine lv_iload_n hx hb dX6_append_50 rfl (lv_at hl 1 rfl) ?_
        have f_8177 : F_8168 (ma 5) = .inl (G.2 0, 60, .inl tf) := (o_8172 (ma 5) ).trans ft
        have f_8178 : F_8174 (ma 5) = .inl (G.2 0, 60, .inl tf) := (o_8176 (ma 5) (ne_ao f_8177 f_8173)).trans f_8177
        refine q_iast C0 hw ((hma 5 (by decide))) f_8178 (A.2.2.2.1) (by omega) (by decide) dX6_append_51 (fun F_8179 H locs hw f_8180 o_8181 => ?_)
        refine lv_aload_n hx hb dX6_append_52 rfl (lv_at hl 0 rfl) ?_
        refine lv_dup hx hb dX6_append_53 rfl ?_
        have f_8182 : F_8179 b = .inr (6, [.ref (ma 0), .int (mi 0), .ref (ma 1), .ref (ma 2), .ref (ma 3), .ref (ma 4), .int (nI (A.2.2.2.1)), .ref (ma 5), .int (nI (0)), .ref (ma 6), .int (mi 3), .int (mi 4), .long (hh)]) := (o_8181 b (ne_oa f_8175 f_8178)).trans f_8175
        refine q_get C0 hw mb f_8182 fw_X6_165 rfl dX6_append_54 ?_
        refine lv_iconst (v := nI 1) hx hb dX6_append_57 (by decide) ?_
        refine n_iadd hx hb dX6_append_58 ?_
        refine q_put C0 hw mb f_8182 fw_X6_165 pw_X6_6 rfl rfl rfl (Nat.le_of_ble_eq_true rfl) dX6_append_59 (fun F_8183 H locs hw f_8184 o_8185 => ?_)
        have f_8184 : F_8183 b = .inr (6, [.ref (ma 0), .int (mi 0), .ref (ma 1), .ref (ma 2), .ref (ma 3), .ref (ma 4), .int (nI (A.2.2.2.1 + 1)), .ref (ma 5), .int (nI (0)), .ref (ma 6), .int (mi 3), .int (mi 4), .long (hh)]) := f_8184
        refine lv_aload_n hx hb dX6_append_62 rfl (lv_at hl 0 rfl) ?_
        refine q_get C0 hw mb f_8184 fw_X6_165 rfl dX6_append_63 ?_
        have hb_8186 : F_8183 b = mO ma (va_up (va_up mi 1 (nI (A.2.2.2.1 + 1))) 2 (nI 0)) (hh) := f_8184
        have f_8187 : F_8168 (ma 0) = .inl (G.2 0, 89, .inl zf) := (o_8172 (ma 0) ).trans fz
        have f_8188 : F_8174 (ma 0) = .inl (G.2 0, 89, .inl zf) := (o_8176 (ma 0) (ne_ao f_8187 f_8173)).trans f_8187
        have f_8189 : F_8179 (ma 0) = .inl (G.2 0, 89, .inl zf) := (o_8181 (ma 0) (ne_aa (by decide) f_8188 f_8178)).trans f_8188
        have f_8190 : F_8183 (ma 0) = .inl (G.2 0, 89, .inl zf) := (o_8185 (ma 0) (ne_ao f_8189 f_8182)).trans f_8189
        have f_8191 : F_8168 (ma 1) = .inl (G.2 0, 534, .inl hf) := (o_8172 (ma 1) ).trans fh
        have f_8192 : F_8174 (ma 1) = .inl (G.2 0, 534, .inl hf) := (o_8176 (ma 1) (ne_ao f_8191 f_8173)).trans f_8191
        have f_8193 : F_8179 (ma 1) = .inl (G.2 0, 534, .inl hf) := (o_8181 (ma 1) (ne_aa (by decide) f_8192 f_8178)).trans f_8192
        have f_8194 : F_8183 (ma 1) = .inl (G.2 0, 534, .inl hf) := (o_8185 (ma 1) (ne_ao f_8193 f_8182)).trans f_8193
        have f_8195 : F_8168 (ma 2) = .inl (G.2 0, 178, .inl sf) := (o_8172 (ma 2) ).trans fs
        have f_8196 : F_8174 (ma 2) = .inl (G.2 0, 178, .inl sf) := (o_8176 (ma 2) (ne_ao f_8195 f_8173)).trans f_8195
        have f_8197 : F_8179 (ma 2) = .inl (G.2 0, 178, .inl sf) := (o_8181 (ma 2) (ne_aa (by decide) f_8196 f_8178)).trans f_8196
        have f_8198 : F_8183 (ma 2) = .inl (G.2 0, 178, .inl sf) := (o_8185 (ma 2) (ne_ao f_8197 f_8182)).trans f_8197
        have f_8199 : F_8168 (ma 3) = .inl (G.2 0, 2, .inl kf) := (o_8172 (ma 3) ).trans fk
        have f_8200 : F_8174 (ma 3) = .inl (G.2 0, 2, .inl kf) := (o_8176 (ma 3) (ne_ao f_8199 f_8173)).trans f_8199
        have f_8201 : F_8179 (ma 3) = .inl (G.2 0, 2, .inl kf) := (o_8181 (ma 3) (ne_aa (by decide) f_8200 f_8178)).trans f_8200
        have f_8202 : F_8183 (ma 3) = .inl (G.2 0, 2, .inl kf) := (o_8185 (ma 3) (ne_ao f_8201 f_8182)).trans f_8201
        have f_8203 : F_8168 (ma 4) = pcE G pl := (o_8172 (ma 4) ).trans fp
        have f_8204 : F_8174 (ma 4) = pcE G pl := (o_8176 (ma 4) (ne_ao f_8203 f_8173)).trans f_8203
        have f_8205 : F_8179 (ma 4) = pcE G pl := (o_8181 (ma 4) (ne_aa (by decide) f_8204 f_8178)).trans f_8204
        have f_8206 : F_8183 (ma 4) = pcE G pl := (o_8185 (ma 4) (ne_ao f_8205 f_8182)).trans f_8205
        have f_8207 : F_8183 (ma 5) = .inl (G.2 0, 60, .inl (upd tf (A.2.2.2.1) (nI (x9)))) := (o_8185 (ma 5) (ne_ao f_8180 f_8182)).trans f_8180
        have f_8208 : F_8168 (ma 6) = .inl (G.2 0, 52, .inl pf) := (o_8172 (ma 6) ).trans fq
        have f_8209 : F_8174 (ma 6) = .inl (G.2 0, 52, .inl pf) := (o_8176 (ma 6) (ne_ao f_8208 f_8173)).trans f_8208
        have f_8210 : F_8179 (ma 6) = .inl (G.2 0, 52, .inl pf) := (o_8181 (ma 6) (ne_aa (by decide) f_8209 f_8178)).trans f_8209
        have f_8211 : F_8183 (ma 6) = .inl (G.2 0, 52, .inl pf) := (o_8185 (ma 6) (ne_ao f_8210 f_8182)).trans f_8210
        exact r_i C0 hr hlk hw (v := nI (A.2.2.2.1 + 1)) rfl ⟨rfl, ⟨_, _, _, _, _, _, _, _, _, hb_8186, ⟨hm0, rfl, rfl⟩, ⟨f_8190, hz⟩, ⟨f_8194, hhf⟩, ⟨f_8198, hsf⟩, ⟨f_8202, hkf⟩, f_8206, ⟨f_8207, (tA_app htf)⟩, f_8211⟩, (fun q k0 k1 => ((o_8185 q k0).trans ((o_8181 q (k1 5 (by decide))).trans ((o_8176 q k0).trans (o_8172 q )))))⟩ (Nat.le_refl _) (Nat.le_refl _) dX6_append_66 hQ
      · skip
        exact absurd c_37 (by omega)
    · skip
      exact absurd c_22 (by omega)
  · skip
    exact absurd c_9 (by omega)
abbrev rm_X6_clearBuffer : Room := { frames := 0, cells := 0, slots := 0, locals := 0 }
set_option maxHeartbeats 4000000 in
set_option maxRecDepth 100000 in
theorem k_X6_clearBuffer (l : Launch) (G : Gl) (L : List Nat) (F : Nat → va_E) (b : Nat) (ma : Nat → Nat) (A : AB) (th : Nat) (mb : b ∈ L) (hma : ∀ i, i < 7 → ma i ∈ L) (hM : MW G F b ma A th) (hA : okA A) : CI l yX6_clearBuffer cX6_clearBuffer 2 (some .int) rm_X6_clearBuffer G L F [.ref b] (fun r F1 => r = nI A.2.2.2.1 ∧ MW G F1 b ma (A.1, A.2.1, A.2.2.1, (0, A.2.2.2.2)) 0 ∧ mFr F F1 b ma) := by
  obtain ⟨mi, hh, zf, hf, sf, kf, tf, pf, pl, fb, ⟨hm0, hm1, hm2⟩, ⟨fz, hz⟩, ⟨fh, hhf⟩, ⟨fs, hsf⟩, ⟨fk, hkf⟩, fp, ⟨ft, htf⟩, fq⟩ := hM
  obtain ⟨hz0, hz1, hz2, hz3, hz4⟩ := ne_z zf hz
  have hc : A.1.1 ≤ 6 := hA.1.2.1
  have hc2 : 2 ≤ A.1.1 := hA.1.1
  have hpu : A.1.2.1 ≤ 100000 := hA.1.2.2.1
  have hrw : ∀ i k, i < 12 → k < 7 → zf (5 + 7 * i + k) = nI (A.1.2.2.2.2.2 i k).val := hz.row
  have hl60 : A.2.2.2.1 ≤ 60 := hA.2.2.2.1
  have fb2 : F b = .inr (6, [.ref (ma 0), .int (mi 0), .ref (ma 1), .ref (ma 2), .ref (ma 3), .ref (ma 4), .int (nI (A.2.2.2.1)), .ref (ma 5), .int (mi 2), .ref (ma 6), .int (mi 3), .int (mi 4), .long (hh)]) := by rw [fb]; simp only [mO]; rw [hm1]
  refine CG_of (by decide) (Nat.le_of_ble_eq_true rfl) rfl ?_
  intro p e s m args below meth c Q C0 hr hlk hnm hQ hw ls hl
  have hx := C0.x
  have hb := C0.b
  refine lv_aload_n hx hb dX6_clearBuffer_0 rfl (lv_at hl 0 rfl) ?_
  refine lv_iconst (v := nI 0) hx hb dX6_clearBuffer_1 (by decide) ?_
  refine q_put C0 hw mb fb2 fw_X6_31 pw_X6_8 rfl rfl rfl (Nat.le_of_ble_eq_true rfl) dX6_clearBuffer_2 (fun F_8212 H locs hw f_8213 o_8214 => ?_)
  have f_8213 : F_8212 b = .inr (6, [.ref (ma 0), .int (mi 0), .ref (ma 1), .ref (ma 2), .ref (ma 3), .ref (ma 4), .int (nI (A.2.2.2.1)), .ref (ma 5), .int (nI (0)), .ref (ma 6), .int (mi 3), .int (mi 4), .long (hh)]) := f_8213
  refine lv_aload_n hx hb dX6_clearBuffer_5 rfl (lv_at hl 0 rfl) ?_
  refine q_get C0 hw mb f_8213 fw_X6_165 rfl dX6_clearBuffer_6 ?_
  refine lv_istore_n (lv' := [(1, .int (nI (A.2.2.2.1))), (0, .ref b)]) hx hb dX6_clearBuffer_9 rfl hl (by decide) rfl (fun ls hl => ?_)
  refine lv_aload_n hx hb dX6_clearBuffer_10 rfl (lv_at hl 1 rfl) ?_
  refine lv_iconst (v := nI 0) hx hb dX6_clearBuffer_11 (by decide) ?_
  refine q_put C0 hw mb f_8213 fw_X6_165 pw_X6_6 rfl rfl rfl (Nat.le_of_ble_eq_true rfl) dX6_clearBuffer_12 (fun F_8215 H locs hw f_8216 o_8217 => ?_)
  have f_8216 : F_8215 b = .inr (6, [.ref (ma 0), .int (mi 0), .ref (ma 1), .ref (ma 2), .ref (ma 3), .ref (ma 4), .int (nI (0)), .ref (ma 5), .int (nI (0)), .ref (ma 6), .int (mi 3), .int (mi 4), .long (hh)]) := f_8216
  refine lv_iload_n hx hb dX6_clearBuffer_15 rfl (lv_at hl 0 rfl) ?_
  have hb_8218 : F_8215 b = mO ma (va_up (va_up mi 1 (nI 0)) 2 (nI 0)) (hh) := f_8216
  have f_8219 : F_8212 (ma 0) = .inl (G.2 0, 89, .inl zf) := (o_8214 (ma 0) (ne_ao fz fb2)).trans fz
  have f_8220 : F_8215 (ma 0) = .inl (G.2 0, 89, .inl zf) := (o_8217 (ma 0) (ne_ao f_8219 f_8213)).trans f_8219
  have f_8221 : F_8212 (ma 1) = .inl (G.2 0, 534, .inl hf) := (o_8214 (ma 1) (ne_ao fh fb2)).trans fh
  have f_8222 : F_8215 (ma 1) = .inl (G.2 0, 534, .inl hf) := (o_8217 (ma 1) (ne_ao f_8221 f_8213)).trans f_8221
  have f_8223 : F_8212 (ma 2) = .inl (G.2 0, 178, .inl sf) := (o_8214 (ma 2) (ne_ao fs fb2)).trans fs
  have f_8224 : F_8215 (ma 2) = .inl (G.2 0, 178, .inl sf) := (o_8217 (ma 2) (ne_ao f_8223 f_8213)).trans f_8223
  have f_8225 : F_8212 (ma 3) = .inl (G.2 0, 2, .inl kf) := (o_8214 (ma 3) (ne_ao fk fb2)).trans fk
  have f_8226 : F_8215 (ma 3) = .inl (G.2 0, 2, .inl kf) := (o_8217 (ma 3) (ne_ao f_8225 f_8213)).trans f_8225
  have f_8227 : F_8212 (ma 4) = pcE G pl := (o_8214 (ma 4) (ne_ao fp fb2)).trans fp
  have f_8228 : F_8215 (ma 4) = pcE G pl := (o_8217 (ma 4) (ne_ao f_8227 f_8213)).trans f_8227
  have f_8229 : F_8212 (ma 5) = .inl (G.2 0, 60, .inl tf) := (o_8214 (ma 5) (ne_ao ft fb2)).trans ft
  have f_8230 : F_8215 (ma 5) = .inl (G.2 0, 60, .inl tf) := (o_8217 (ma 5) (ne_ao f_8229 f_8213)).trans f_8229
  have f_8231 : F_8212 (ma 6) = .inl (G.2 0, 52, .inl pf) := (o_8214 (ma 6) (ne_ao fq fb2)).trans fq
  have f_8232 : F_8215 (ma 6) = .inl (G.2 0, 52, .inl pf) := (o_8217 (ma 6) (ne_ao f_8231 f_8213)).trans f_8231
  exact r_i C0 hr hlk hw (v := nI (A.2.2.2.1)) rfl ⟨rfl, ⟨_, _, _, _, _, _, _, _, _, hb_8218, ⟨hm0, rfl, rfl⟩, ⟨f_8220, hz⟩, ⟨f_8222, hhf⟩, ⟨f_8224, hsf⟩, ⟨f_8226, hkf⟩, f_8228, ⟨f_8230, (fun i hi => absurd hi (Nat.not_lt_zero i))⟩, f_8232⟩, (fun q k0 k1 => ((o_8217 q k0).trans (o_8214 q k0)))⟩ (Nat.le_refl _) (Nat.le_refl _) dX6_clearBuffer_16 hQ
