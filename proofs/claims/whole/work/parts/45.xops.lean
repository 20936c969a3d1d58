abbrev xO (ad : Nat → Nat) : va_E := .inr (5, [.ref (ad 22), .ref (ad 1), .ref (ad 3), .ref (ad 4), .ref (ad 5), .ref (ad 7), .ref (ad 134), .ref (ad 150)])
def rkW (G : Gl) (F : Nat → va_E) (ad : Nat → Nat) : Prop := F (ad 7) = rkO (fun i => ad (8 + i)) ∧ ∀ i, i < 14 → ∃ u, F (ad (8 + i)) = rw7 G u
theorem rkW.keep {G : Gl} {F F1 : Nat → va_E} {ad : Nat → Nat} (h : rkW G F ad) (k : ∀ i, (7 ≤ i ∧ i < 22) → F1 (ad i) = F (ad i)) : rkW G F1 ad :=
  ⟨(k 7 (by omega)).trans h.1, fun i hi => by obtain ⟨u, hu⟩ := h.2 i hi; exact ⟨u, (k (8 + i) (by omega)).trans hu⟩⟩
theorem ra_inj {ad : Nat → Nat} (hin : ∀ i j, i < 166 → j < 166 → i ≠ j → ad i ≠ ad j) : ∀ i j, i < 14 → j < 14 → (fun i => ad (8 + i)) i = (fun i => ad (8 + i)) j → i = j := fun i j hi hj h => Decidable.byContradiction (fun n => hin (8 + i) (8 + j) (by omega) (by omega) (by omega) h)
theorem lt14 {P : Nat → Prop} (h0 : P 0) (h1 : P 1) (h2 : P 2) (h3 : P 3) (h4 : P 4) (h5 : P 5) (h6 : P 6) (h7 : P 7) (h8 : P 8) (h9 : P 9) (h10 : P 10) (h11 : P 11) (h12 : P 12) (h13 : P 13) : ∀ i, i < 14 → P i := by
  intro i hi
  rcases (show i = 0 ∨ i = 1 ∨ i = 2 ∨ i = 3 ∨ i = 4 ∨ i = 5 ∨ i = 6 ∨ i = 7 ∨ i = 8 ∨ i = 9 ∨ i = 10 ∨ i = 11 ∨ i = 12 ∨ i = 13 by omega) with rfl | rfl | rfl | rfl | rfl | rfl | rfl | rfl | rfl | rfl | rfl | rfl | rfl | rfl
  all_goals assumption
def payS (st : Sta) (un : Nat) : Sta := (st.1, st.2.1 - un * st.1, st.2.2.1 + un * st.1, st.2.2.2.1 + 1, st.2.2.2.2.1, st.2.2.2.2.2)
def ordU (lt : Nat) : Nat := if lt = 98 then 2 else if lt = 115 then 1 else if lt = 119 then 20 else if lt = 112 then 6 else if lt = 108 then 6 else if lt = 101 then 5 else 4
def ordR (lt f g cu : Nat) (r : Rws) : Nat → ZP := if lt = 98 then m_br (r f) (r g) cu else if lt = 115 then m_add (r f) (r g) else if lt = 119 then m_way (r f) (r g) 5 cu else if lt = 112 then m_push (r (6 + f)) (r g) cu else if lt = 108 then m_log (r (6 + f)) cu else if lt = 101 then m_exp (r f) cu else if lt = 99 then m_sub (r (6 + f)) (r (6 + g)) cu else m_inv (r (6 + f)) cu
def ordT (lt to : Nat) : Nat := if lt = 101 then 6 + to else if lt = 99 then 6 + to else if lt = 105 then 6 + to else to
def isOrd (lt : Nat) : Prop := lt = 98 ∨ lt = 115 ∨ lt = 119 ∨ lt = 112 ∨ lt = 108 ∨ lt = 101 ∨ lt = 99 ∨ lt = 105
def ordS (lt f g to : Nat) (st : Sta) : Sta := (st.1, st.2.1 - ordU lt * st.1, st.2.2.1 + ordU lt * st.1, st.2.2.2.1 + 1, st.2.2.2.2.1 + (if lt = 98 then 1 else 0), va_up st.2.2.2.2.2 (ordT lt to) (ordR lt f g st.1 st.2.2.2.2.2))
def lowR (u : Nat → ZP) : Int32 := m_low (fun k => decide (u k ≠ 0))
/-- a row is put: the state with one row anew -/
theorem sta_row {G : Gl} {F F1 : Nat → va_E} {ad : Nat → Nat} {st st2 : Sta} {t : Nat} {u : Nat → ZP} (h : sta G F ad 22 st) (ht : t < 12) (h1 : F1 (ad 22) = stO (ad 23) st2.2.1 st2.2.2.1 st2.2.2.2.1 st2.2.2.2.2.1) (hc : st2.1 = st.1) (hr : st2.2.2.2.2.2 = va_up st.2.2.2.2.2 t u) (hn : F1 (ad (26 + t)) = rw7 G u) (k : ∀ i, (23 ≤ i ∧ i < 38 ∧ i ≠ 26 + t) → F1 (ad i) = F (ad i)) : sta G F1 ad 22 st2 := by
  refine ⟨h1, ?_, (k 24 (by omega)).trans h.2.2.1, (k 25 (by omega)).trans h.2.2.2.1, fun i hi => ?_⟩
  · rw [hc]
    exact (k 23 (by omega)).trans h.2.1
  · rw [hr]
    by_cases e : i = t
    · subst e
      rw [va_up_self, show 22 + 4 + i = 26 + i by omega]
      exact hn
    · rw [va_up_ne _ _ e]
      exact (k (22 + 4 + i) (by omega)).trans (h.2.2.2.2 i hi)

abbrev rm_X5_unitsOf : Room := { frames := 0, cells := 0, slots := 0, locals := 0 }
set_option maxHeartbeats 4000000 in
set_option maxRecDepth 100000 in
theorem c_X5_unitsOf_98 (l : Launch) (G : Gl) (L : List Nat) (F : Nat → va_E) : CI l yX5_unitsOf cX5_unitsOf 1 (some .int) rm_X5_unitsOf G L F [.int (nI (98))] (fun r F1 => r = nI 2 ∧ ∀ q, F1 q = F q) := by
  refine CG_of (by decide) (Nat.le_of_ble_eq_true rfl) rfl ?_
  intro p e s m args below meth c Q C0 hr hlk hnm hQ hw ls hl
  have hx := C0.x
  have hb := C0.b
  refine lv_iload_n hx hb dX5_unitsOf_0 rfl (lv_at hl 0 rfl) ?_
  refine lv_tableIn (off := 103) (tgt := 104) hx hb dX5_unitsOf_1 (by decide) (by decide) rfl (by decide) ?_
  refine lv_iconst (v := nI 2) hx hb dX5_unitsOf_104 (by decide) ?_
  exact r_i C0 hr hlk hw (v := nI 2) rfl ⟨rfl, (fun q  => rfl)⟩ (Nat.le_refl _) (Nat.le_refl _) dX5_unitsOf_105 hQ
set_option maxHeartbeats 4000000 in
set_option maxRecDepth 100000 in
theorem c_X5_unitsOf_115 (l : Launch) (G : Gl) (L : List Nat) (F : Nat → va_E) : CI l yX5_unitsOf cX5_unitsOf 1 (some .int) rm_X5_unitsOf G L F [.int (nI (115))] (fun r F1 => r = nI 1 ∧ ∀ q, F1 q = F q) := by
  refine CG_of (by decide) (Nat.le_of_ble_eq_true rfl) rfl ?_
  intro p e s m args below meth c Q C0 hr hlk hnm hQ hw ls hl
  have hx := C0.x
  have hb := C0.b
  refine lv_iload_n hx hb dX5_unitsOf_0 rfl (lv_at hl 0 rfl) ?_
  refine lv_tableIn (off := 105) (tgt := 106) hx hb dX5_unitsOf_1 (by decide) (by decide) rfl (by decide) ?_
  refine lv_iconst (v := nI 1) hx hb dX5_unitsOf_106 (by decide) ?_
  exact r_i C0 hr hlk hw (v := nI 1) rfl ⟨rfl, (fun q  => rfl)⟩ (Nat.le_refl _) (Nat.le_refl _) dX5_unitsOf_107 hQ
set_option maxHeartbeats 4000000 in
set_option maxRecDepth 100000 in
theorem c_X5_unitsOf_119 (l : Launch) (G : Gl) (L : List Nat) (F : Nat → va_E) : CI l yX5_unitsOf cX5_unitsOf 1 (some .int) rm_X5_unitsOf G L F [.int (nI (119))] (fun r F1 => r = nI 20 ∧ ∀ q, F1 q = F q) := by
  refine CG_of (by decide) (Nat.le_of_ble_eq_true rfl) rfl ?_
  intro p e s m args below meth c Q C0 hr hlk hnm hQ hw ls hl
  have hx := C0.x
  have hb := C0.b
  refine lv_iload_n hx hb dX5_unitsOf_0 rfl (lv_at hl 0 rfl) ?_
  refine lv_tableIn (off := 107) (tgt := 108) hx hb dX5_unitsOf_1 (by decide) (by decide) rfl (by decide) ?_
  refine lv_bipush (v := nI 20) hx hb dX5_unitsOf_108 (by decide) ?_
  exact r_i C0 hr hlk hw (v := nI 20) rfl ⟨rfl, (fun q  => rfl)⟩ (Nat.le_refl _) (Nat.le_refl _) dX5_unitsOf_110 hQ
set_option maxHeartbeats 4000000 in
set_option maxRecDepth 100000 in
theorem c_X5_unitsOf_112 (l : Launch) (G : Gl) (L : List Nat) (F : Nat → va_E) : CI l yX5_unitsOf cX5_unitsOf 1 (some .int) rm_X5_unitsOf G L F [.int (nI (112))] (fun r F1 => r = nI 6 ∧ ∀ q, F1 q = F q) := by
  refine CG_of (by decide) (Nat.le_of_ble_eq_true rfl) rfl ?_
  intro p e s m args below meth c Q C0 hr hlk hnm hQ hw ls hl
  have hx := C0.x
  have hb := C0.b
  refine lv_iload_n hx hb dX5_unitsOf_0 rfl (lv_at hl 0 rfl) ?_
  refine lv_tableIn (off := 110) (tgt := 111) hx hb dX5_unitsOf_1 (by decide) (by decide) rfl (by decide) ?_
  refine lv_bipush (v := nI 6) hx hb dX5_unitsOf_111 (by decide) ?_
  exact r_i C0 hr hlk hw (v := nI 6) rfl ⟨rfl, (fun q  => rfl)⟩ (Nat.le_refl _) (Nat.le_refl _) dX5_unitsOf_113 hQ
set_option maxHeartbeats 4000000 in
set_option maxRecDepth 100000 in
theorem c_X5_unitsOf_108 (l : Launch) (G : Gl) (L : List Nat) (F : Nat → va_E) : CI l yX5_unitsOf cX5_unitsOf 1 (some .int) rm_X5_unitsOf G L F [.int (nI (108))] (fun r F1 => r = nI 6 ∧ ∀ q, F1 q = F q) := by
  refine CG_of (by decide) (Nat.le_of_ble_eq_true rfl) rfl ?_
  intro p e s m args below meth c Q C0 hr hlk hnm hQ hw ls hl
  have hx := C0.x
  have hb := C0.b
  refine lv_iload_n hx hb dX5_unitsOf_0 rfl (lv_at hl 0 rfl) ?_
  refine lv_tableIn (off := 110) (tgt := 111) hx hb dX5_unitsOf_1 (by decide) (by decide) rfl (by decide) ?_
  refine lv_bipush (v := nI 6) hx hb dX5_unitsOf_111 (by decide) ?_
  exact r_i C0 hr hlk hw (v := nI 6) rfl ⟨rfl, (fun q  => rfl)⟩ (Nat.le_refl _) (Nat.le_refl _) dX5_unitsOf_113 hQ
set_option maxHeartbeats 4000000 in
set_option maxRecDepth 100000 in
theorem c_X5_unitsOf_101 (l : Launch) (G : Gl) (L : List Nat) (F : Nat → va_E) : CI l yX5_unitsOf cX5_unitsOf 1 (some .int) rm_X5_unitsOf G L F [.int (nI (101))] (fun r F1 => r = nI 5 ∧ ∀ q, F1 q = F q) := by
  refine CG_of (by decide) (Nat.le_of_ble_eq_true rfl) rfl ?_
  intro p e s m args below meth c Q C0 hr hlk hnm hQ hw ls hl
  have hx := C0.x
  have hb := C0.b
  refine lv_iload_n hx hb dX5_unitsOf_0 rfl (lv_at hl 0 rfl) ?_
  refine lv_tableIn (off := 113) (tgt := 114) hx hb dX5_unitsOf_1 (by decide) (by decide) rfl (by decide) ?_
  refine lv_iconst (v := nI 5) hx hb dX5_unitsOf_114 (by decide) ?_
  exact r_i C0 hr hlk hw (v := nI 5) rfl ⟨rfl, (fun q  => rfl)⟩ (Nat.le_refl _) (Nat.le_refl _) dX5_unitsOf_115 hQ
set_option maxHeartbeats 4000000 in
set_option maxRecDepth 100000 in
theorem c_X5_unitsOf_99 (l : Launch) (G : Gl) (L : List Nat) (F : Nat → va_E) : CI l yX5_unitsOf cX5_unitsOf 1 (some .int) rm_X5_unitsOf G L F [.int (nI (99))] (fun r F1 => r = nI 4 ∧ ∀ q, F1 q = F q) := by
  refine CG_of (by decide) (Nat.le_of_ble_eq_true rfl) rfl ?_
  intro p e s m args below meth c Q C0 hr hlk hnm hQ hw ls hl
  have hx := C0.x
  have hb := C0.b
  refine lv_iload_n hx hb dX5_unitsOf_0 rfl (lv_at hl 0 rfl) ?_
  refine lv_tableIn (off := 115) (tgt := 116) hx hb dX5_unitsOf_1 (by decide) (by decide) rfl (by decide) ?_
  refine lv_iconst (v := nI 4) hx hb dX5_unitsOf_116 (by decide) ?_
  exact r_i C0 hr hlk hw (v := nI 4) rfl ⟨rfl, (fun q  => rfl)⟩ (Nat.le_refl _) (Nat.le_refl _) dX5_unitsOf_117 hQ
set_option maxHeartbeats 4000000 in
set_option maxRecDepth 100000 in
theorem c_X5_unitsOf_105 (l : Launch) (G : Gl) (L : List Nat) (F : Nat → va_E) : CI l yX5_unitsOf cX5_unitsOf 1 (some .int) rm_X5_unitsOf G L F [.int (nI (105))] (fun r F1 => r = nI 4 ∧ ∀ q, F1 q = F q) := by
  refine CG_of (by decide) (Nat.le_of_ble_eq_true rfl) rfl ?_
  intro p e s m args below meth c Q C0 hr hlk hnm hQ hw ls hl
  have hx := C0.x
  have hb := C0.b
  refine lv_iload_n hx hb dX5_unitsOf_0 rfl (lv_at hl 0 rfl) ?_
  refine lv_tableIn (off := 115) (tgt := 116) hx hb dX5_unitsOf_1 (by decide) (by decide) rfl (by decide) ?_
  refine lv_iconst (v := nI 4) hx hb dX5_unitsOf_116 (by decide) ?_
  exact r_i C0 hr hlk hw (v := nI 4) rfl ⟨rfl, (fun q  => rfl)⟩ (Nat.le_refl _) (Nat.le_refl _) dX5_unitsOf_117 hQ
abbrev rm_X5_costOf : Room := { frames := 0, cells := 0, slots := 0, locals := 0 }
set_option maxHeartbeats 4000000 in
set_option maxRecDepth 100000 in
theorem c_X5_costOf (l : Launch) (G : Gl) (L : List Nat) (F : Nat → va_E) (ad : Nat → Nat) (hL : ∀ i, i < 166 → ad i ∈ L) (hin : ∀ i j, i < 166 → j < 166 → i ≠ j → ad i ≠ ad j) (un : Nat) (st : Sta) (fx : F (ad 0) = xO ad) (hn : sta G F ad 22 st) : CI l yX5_costOf cX5_costOf 2 (some .int) rm_X5_costOf G L F [.ref (ad 0), .int (nI (un))] (fun r F1 => r = nI (un * st.1) ∧ ∀ q, F1 q = F q) := by
  refine CG_of (by decide) (Nat.le_of_ble_eq_true rfl) rfl ?_
  intro p e s m args below meth c Q C0 hr hlk hnm hQ hw ls hl
  have hx := C0.x
  have hb := C0.b
  refine lv_iload_n hx hb dX5_costOf_0 rfl (lv_at hl 1 rfl) ?_
  refine lv_aload_n hx hb dX5_costOf_1 rfl (lv_at hl 0 rfl) ?_
  refine q_get C0 hw ((hL 0 (by omega))) fx fw_X5_12 rfl dX5_costOf_2 ?_
  refine q_get C0 hw ((hL 22 (by omega))) hn.1 fw_X5_66 rfl dX5_costOf_5 ?_
  refine q_get C0 hw ((hL 23 (by omega))) hn.2.1 fw_X5_70 rfl dX5_costOf_8 ?_
  refine n_imul hx hb dX5_costOf_11 ?_
  exact r_i C0 hr hlk hw (v := nI (un * st.1)) rfl ⟨rfl, (fun q  => rfl)⟩ (Nat.le_refl _) (Nat.le_refl _) dX5_costOf_12 hQ
abbrev rm_X5_pay : Room := { frames := 1, cells := 0, slots := 0, locals := 21 }
set_option maxHeartbeats 4000000 in
set_option maxRecDepth 100000 in
theorem c_X5_pay (l : Launch) (G : Gl) (L : List Nat) (F : Nat → va_E) (ad : Nat → Nat) (hL : ∀ i, i < 166 → ad i ∈ L) (hin : ∀ i j, i < 166 → j < 166 → i ≠ j → ad i ≠ ad j) (un : Nat) (st : Sta) (fx : F (ad 0) = xO ad) (hn : sta G F ad 22 st) (hm : un * st.1 ≤ st.2.1) : CV l yX5_pay cX5_pay 3 none rm_X5_pay G L F [.ref (ad 0), .int (nI (un))] (fun F1 => F1 (ad 22) = stO (ad 23) (payS st un).2.1 (payS st un).2.2.1 (payS st un).2.2.2.1 (payS st un).2.2.2.2.1 ∧ ∀ q, (∀ i, (i = 22) → q ≠ ad i) → F1 q = F q) := by
  refine CG_of (by decide) (Nat.le_of_ble_eq_true rfl) rfl ?_
  intro p e s m args below meth c Q C0 hr hlk hnm hQ hw ls hl
  have hx := C0.x
  have hb := C0.b
  refine lv_aload_n hx hb dX5_pay_0 rfl (lv_at hl 0 rfl) ?_
  refine lv_iload_n hx hb dX5_pay_1 rfl (lv_at hl 1 rfl) ?_
  refine q_calli hw (q_runV (As := [.int (nI (un))]) (c_X5_costOf l G L F ad hL hin un st fx hn) C0 hw vw_X5_228 ((hL 0 (by omega))) fx rfl rfl rfl hl.1 rfl (Nat.le_of_ble_eq_true rfl) dX5_pay_2 ⟨by decide, by decide⟩ ⟨by decide, by decide⟩) rfl rfl (fun r_1358 F_1356 H locs hw hp_1357 => ?_)
  obtain ⟨he_1359, o_1360⟩ := hp_1357
  subst he_1359
  refine lv_istore_n (lv' := [(2, .int (nI (un * st.1))), (0, .ref (ad 0)), (1, .int (nI (un)))]) hx hb dX5_pay_5 rfl hl (by decide) rfl (fun ls hl => ?_)
  refine lv_aload_n hx hb dX5_pay_6 rfl (lv_at hl 1 rfl) ?_
  have f_1361 : F_1356 (ad 0) = xO ad := (o_1360 (ad 0) ).trans fx
  refine q_get C0 hw ((hL 0 (by omega))) f_1361 fw_X5_12 rfl dX5_pay_7 ?_
  refine lv_dup hx hb dX5_pay_10 rfl ?_
  have f_1362 : F_1356 (ad 22) = .inr (3, [.ref (ad 23), .int (nI (st.2.1)), .int (nI (st.2.2.1)), .int (nI (st.2.2.2.1)), .int (nI (st.2.2.2.2.1))]) := (o_1360 (ad 22) ).trans hn.1
  refine q_get C0 hw ((hL 22 (by omega))) f_1362 fw_X5_98 rfl dX5_pay_11 ?_
  refine lv_iload_n hx hb dX5_pay_14 rfl (lv_at hl 0 rfl) ?_
  refine n_isub hx hb (by omega) dX5_pay_15 ?_
  refine q_put C0 hw ((hL 22 (by omega))) f_1362 fw_X5_98 pw_X3_1 rfl rfl rfl (Nat.le_of_ble_eq_true rfl) dX5_pay_16 (fun F_1363 H locs hw f_1364 o_1365 => ?_)
  have f_1364 : F_1363 (ad 22) = .inr (3, [.ref (ad 23), .int (nI (st.2.1 - (un * st.1))), .int (nI (st.2.2.1)), .int (nI (st.2.2.2.1)), .int (nI (st.2.2.2.2.1))]) := f_1364
  refine lv_aload_n hx hb dX5_pay_19 rfl (lv_at hl 1 rfl) ?_
  have f_1366 : F_1363 (ad 0) = xO ad := (o_1365 (ad 0) (hin 0 22 (by omega) (by omega) (by omega))).trans f_1361
  refine q_get C0 hw ((hL 0 (by omega))) f_1366 fw_X5_12 rfl dX5_pay_20 ?_
  refine lv_dup hx hb dX5_pay_23 rfl ?_
  refine q_get C0 hw ((hL 22 (by omega))) f_1364 fw_X5_237 rfl dX5_pay_24 ?_
  refine lv_iload_n hx hb dX5_pay_27 rfl (lv_at hl 0 rfl) ?_
  refine n_iadd hx hb dX5_pay_28 ?_
  refine q_put C0 hw ((hL 22 (by omega))) f_1364 fw_X5_237 pw_X3_2 rfl rfl rfl (Nat.le_of_ble_eq_true rfl) dX5_pay_29 (fun F_1367 H locs hw f_1368 o_1369 => ?_)
  have f_1368 : F_1367 (ad 22) = .inr (3, [.ref (ad 23), .int (nI (st.2.1 - (un * st.1))), .int (nI (st.2.2.1 + (un * st.1))), .int (nI (st.2.2.2.1)), .int (nI (st.2.2.2.2.1))]) := f_1368
  refine lv_aload_n hx hb dX5_pay_32 rfl (lv_at hl 1 rfl) ?_
  have f_1370 : F_1367 (ad 0) = xO ad := (o_1369 (ad 0) (hin 0 22 (by omega) (by omega) (by omega))).trans f_1366
  refine q_get C0 hw ((hL 0 (by omega))) f_1370 fw_X5_12 rfl dX5_pay_33 ?_
  refine lv_dup hx hb dX5_pay_36 rfl ?_
  refine q_get C0 hw ((hL 22 (by omega))) f_1368 fw_X5_240 rfl dX5_pay_37 ?_
  refine lv_iconst (v := nI 1) hx hb dX5_pay_40 (by decide) ?_
  refine n_iadd hx hb dX5_pay_41 ?_
  refine q_put C0 hw ((hL 22 (by omega))) f_1368 fw_X5_240 pw_X3_3 rfl rfl rfl (Nat.le_of_ble_eq_true rfl) dX5_pay_42 (fun F_1371 H locs hw f_1372 o_1373 => ?_)
  have f_1372 : F_1371 (ad 22) = .inr (3, [.ref (ad 23), .int (nI (st.2.1 - (un * st.1))), .int (nI (st.2.2.1 + (un * st.1))), .int (nI (st.2.2.2.1 + 1)), .int (nI (st.2.2.2.2.1))]) := f_1372
  exact r_v C0 hr hlk hw ⟨f_1372, (fun q hq => ((o_1373 q (hq 22 (by omega))).trans ((o_1369 q (hq 22 (by omega))).trans ((o_1365 q (hq 22 (by omega))).trans (o_1360 q )))))⟩ (Nat.le_refl _) (Nat.le_refl _) dX5_pay_45 hQ
abbrev rm_X5_put : Room := { frames := 1, cells := 0, slots := 0, locals := 40 }
set_option maxHeartbeats 4000000 in
set_option maxRecDepth 100000 in
theorem c_X5_put (l : Launch) (G : Gl) (L : List Nat) (F : Nat → va_E) (ad : Nat → Nat) (hL : ∀ i, i < 166 → ad i ∈ L) (hin : ∀ i j, i < 166 → j < 166 → i ≠ j → ad i ≠ ad j) (t9 : Nat) (u v : Nat → ZP) (fx : F (ad 0) = xO ad) (h134 : F (ad 134) = rw7 G u) (ht : F (ad (26 + t9)) = rw7 G v) (ht9 : t9 < 12) : CI l yX5_put cX5_put 2 (some .int) rm_X5_put G L F [.ref (ad 0), .ref (ad (26 + t9))] (fun r F1 => r = lowR u ∧ F1 (ad (26 + t9)) = rw7 G u ∧ ∀ q, (∀ i, (i = 26 + t9) → q ≠ ad i) → F1 q = F q) := by
  refine CG_of (by decide) (Nat.le_of_ble_eq_true rfl) rfl ?_
  intro p e s m args below meth c Q C0 hr hlk hnm hQ hw ls hl
  have hx := C0.x
  have hb := C0.b
  refine lv_aload_n hx hb dX5_put_0 rfl (lv_at hl 0 rfl) ?_
  refine q_get C0 hw ((hL 0 (by omega))) fx fw_X5_48 rfl dX5_put_1 ?_
  refine lv_iconst (v := nI 0) hx hb dX5_put_4 (by decide) ?_
  refine lv_aload_n hx hb dX5_put_5 rfl (lv_at hl 1 rfl) ?_
  refine lv_iconst (v := nI 0) hx hb dX5_put_6 (by decide) ?_
  refine lv_bipush (v := nI 7) hx hb dX5_put_7 (by decide) ?_
  refine q_copy C0 hw hl.1 aw_X5_289 ((hL 134 (by omega))) ((hL (26 + t9) (by omega))) h134 ht (n := 7) (by omega) (by decide) (by decide) dX5_put_9 (fun F_1374 H locs hw f_1375 o_1376 => ?_)
  obtain ⟨F_1377, hw, f_1378, o_1379⟩ := hw.rowE f_1375 (v := u) (fun k hk => if_pos hk)
  refine lv_aload_n hx hb dX5_put_12 rfl (lv_at hl 1 rfl) ?_
  refine q_calli hw (q_runS (As := [.ref (ad (26 + t9))]) (c_X1_lowestPower l G L F_1377 (ad (26 + t9)) u ((hL (26 + t9) (by omega))) f_1378) C0 hw sw_X5_202 rfl hl.1 rfl (Nat.le_of_ble_eq_true rfl) dX5_put_13 ⟨by decide, by decide⟩ ⟨by decide, by decide⟩) rfl rfl (fun r_1382 F_1380 H locs hw hp_1381 => ?_)
  obtain ⟨he_1383, o_1384⟩ := hp_1381
  subst he_1383
  have f_1385 : F_1380 (ad (26 + t9)) = rw7 G u := (o_1384 (ad (26 + t9)) ).trans f_1378
  exact r_i C0 hr hlk hw (v := (m_low (fun k => decide (u k ≠ 0)))) rfl ⟨rfl, f_1385, (fun q hq => ((o_1384 q ).trans ((o_1379 q (hq (26 + t9) (by omega))).trans (o_1376 q (hq (26 + t9) (by omega))))))⟩ (Nat.le_refl _) (Nat.le_refl _) dX5_put_16 hQ
abbrev rm_X5_needSlot : Room := { frames := 0, cells := 0, slots := 0, locals := 0 }
set_option maxHeartbeats 4000000 in
set_option maxRecDepth 100000 in
theorem c_X5_needSlot (l : Launch) (G : Gl) (L : List Nat) (F : Nat → va_E) (f9 : Nat) (hf9 : f9 < 6) : CV l yX5_needSlot cX5_needSlot 1 none rm_X5_needSlot G L F [.int (nI (f9))] (fun F1 => ∀ q, F1 q = F q) := by
  refine CG_of (by decide) (Nat.le_of_ble_eq_true rfl) rfl ?_
  intro p e s m args below meth c Q C0 hr hlk hnm hQ hw ls hl
  have hx := C0.x
  have hb := C0.b
  refine lv_iload_n hx hb dX5_needSlot_0 rfl (lv_at hl 0 rfl) ?_
  refine n_if_lt (tgt := 10) hx hb dX5_needSlot_1 (by decide) (by omega) ?_
  refine lv_iload_n hx hb dX5_needSlot_4 rfl (lv_at hl 0 rfl) ?_
  refine lv_bipush (v := nI 6) hx hb dX5_needSlot_5 (by decide) ?_
  refine n_icmp_lt (tgt := 21) hx hb dX5_needSlot_7 (by decide) (by omega) (by decide) (fun c_7 => ?_) (fun c_7 => ?_)
  · skip
    exact r_v C0 hr hlk hw (fun q  => rfl) (Nat.le_refl _) (Nat.le_refl _) dX5_needSlot_21 hQ
  · skip
    exact absurd c_7 (by omega)
abbrev rm_X5_needMoney : Room := { frames := 1, cells := 0, slots := 0, locals := 21 }
set_option maxHeartbeats 4000000 in
set_option maxRecDepth 100000 in
theorem c_X5_needMoney (l : Launch) (G : Gl) (L : List Nat) (F : Nat → va_E) (ad : Nat → Nat) (hL : ∀ i, i < 166 → ad i ∈ L) (hin : ∀ i j, i < 166 → j < 166 → i ≠ j → ad i ≠ ad j) (un : Nat) (st : Sta) (fx : F (ad 0) = xO ad) (hn : sta G F ad 22 st) (hm : un * st.1 ≤ st.2.1) (hpu : st.2.1 ≤ 100000) : CV l yX5_needMoney cX5_needMoney 2 none rm_X5_needMoney G L F [.ref (ad 0), .int (nI (un))] (fun F1 => ∀ q, F1 q = F q) := by
  refine CG_of (by decide) (Nat.le_of_ble_eq_true rfl) rfl ?_
  intro p e s m args below meth c Q C0 hr hlk hnm hQ hw ls hl
  have hx := C0.x
  have hb := C0.b
  refine lv_aload_n hx hb dX5_needMoney_0 rfl (lv_at hl 0 rfl) ?_
  refine q_get C0 hw ((hL 0 (by omega))) fx fw_X5_12 rfl dX5_needMoney_1 ?_
  refine q_get C0 hw ((hL 22 (by omega))) hn.1 fw_X5_98 rfl dX5_needMoney_4 ?_
  refine lv_aload_n hx hb dX5_needMoney_7 rfl (lv_at hl 0 rfl) ?_
  refine lv_iload_n hx hb dX5_needMoney_8 rfl (lv_at hl 1 rfl) ?_
  refine q_calli hw (q_runV (As := [.int (nI (un))]) (c_X5_costOf l G L F ad hL hin un st fx hn) C0 hw vw_X5_228 ((hL 0 (by omega))) fx rfl rfl rfl hl.1 rfl (Nat.le_of_ble_eq_true rfl) dX5_needMoney_9 ⟨by decide, by decide⟩ ⟨by decide, by decide⟩) rfl rfl (fun r_1388 F_1386 H locs hw hp_1387 => ?_)
  obtain ⟨he_1389, o_1390⟩ := hp_1387
  subst he_1389
  refine n_icmp_ge (tgt := 26) hx hb dX5_needMoney_12 (by decide) (by omega) (by omega) (fun c_12 => ?_) (fun c_12 => ?_)
  · skip
    exact r_v C0 hr hlk hw (fun q  => (o_1390 q )) (Nat.le_refl _) (Nat.le_refl _) dX5_needMoney_26 hQ
  · skip
    exact absurd c_12 (by omega)
abbrev rm_X5_carryOut : Room := { frames := 4, cells := 0, slots := 0, locals := 113 }
set_option maxHeartbeats 4000000 in
set_option maxRecDepth 100000 in
theorem c_X5_carryOut_98 (l : Launch) (G : Gl) (L : List Nat) (F : Nat → va_E) (ad : Nat → Nat) (hL : ∀ i, i < 166 → ad i ∈ L) (hin : ∀ i j, i < 166 → j < 166 → i ≠ j → ad i ≠ ad j) (f9 g9 t9 : Nat) (st : Sta) (u9 : Nat → ZP) (fx : F (ad 0) = xO ad) (hn : sta G F ad 22 st) (hrk : rkW G F ad) (h134 : F (ad 134) = rw7 G u9) (hf9 : f9 < 6) (hg9 : g9 < 6) (ht9 : t9 < 6) (hm : 2 * st.1 ≤ st.2.1) (hc : st.1 ≤ 6) (hc2 : 2 ≤ st.1) (hpu : st.2.1 ≤ 100000) : CI l yX5_carryOut cX5_carryOut 8 (some .int) rm_X5_carryOut G L F [.ref (ad 0), .int (nI (98)), .int (nI (f9)), .int (nI (g9)), .int (nI (t9))] (fun r F1 => r = lowR (ordR 98 f9 g9 st.1 st.2.2.2.2.2) ∧ sta G F1 ad 22 (ordS 98 f9 g9 t9 st) ∧ rkW G F1 ad ∧ (∃ u, F1 (ad 134) = rw7 G u) ∧ ∀ q, (∀ i, (i = 22 ∨ (26 ≤ i ∧ i < 38) ∨ (8 ≤ i ∧ i < 22) ∨ i = 134) → q ≠ ad i) → F1 q = F q) := by
  obtain ⟨s_13, hs_13⟩ := hrk.2 13 (by decide)
  obtain ⟨s_12, hs_12⟩ := hrk.2 12 (by decide)
  obtain ⟨s_11, hs_11⟩ := hrk.2 11 (by decide)
  obtain ⟨s_10, hs_10⟩ := hrk.2 10 (by decide)
  obtain ⟨s_9, hs_9⟩ := hrk.2 9 (by decide)
  obtain ⟨s_8, hs_8⟩ := hrk.2 8 (by decide)
  obtain ⟨s_7, hs_7⟩ := hrk.2 7 (by decide)
  obtain ⟨s_6, hs_6⟩ := hrk.2 6 (by decide)
  obtain ⟨s_5, hs_5⟩ := hrk.2 5 (by decide)
  obtain ⟨s_4, hs_4⟩ := hrk.2 4 (by decide)
  obtain ⟨s_3, hs_3⟩ := hrk.2 3 (by decide)
  obtain ⟨s_2, hs_2⟩ := hrk.2 2 (by decide)
  obtain ⟨s_1, hs_1⟩ := hrk.2 1 (by decide)
  obtain ⟨s_0, hs_0⟩ := hrk.2 0 (by decide)
  refine CG_of (by decide) (Nat.le_of_ble_eq_true rfl) rfl ?_
  intro p e s m args below meth c Q C0 hr hlk hnm hQ hw ls hl
  have hx := C0.x
  have hb := C0.b
  refine lv_aload_n hx hb dX5_carryOut_0 rfl (lv_at hl 0 rfl) ?_
  refine lv_iload_n hx hb dX5_carryOut_1 rfl (lv_at hl 1 rfl) ?_
  refine q_calli hw (q_runS (As := [.int (nI (98))]) (c_X5_unitsOf_98 l G L F ) C0 hw sw_X5_225 rfl hl.1 rfl (Nat.le_of_ble_eq_true rfl) dX5_carryOut_2 ⟨by decide, by decide⟩ ⟨by decide, by decide⟩) rfl rfl (fun r_1393 F_1391 H locs hw hp_1392 => ?_)
  obtain ⟨he_1394, o_1395⟩ := hp_1392
  subst he_1394
  have f_1396 : F_1391 (ad 0) = xO ad := (o_1395 (ad 0) ).trans fx
  refine q_callv hw (q_runV (As := [.int (nI (2))]) (c_X5_pay l G L F_1391 ad hL hin 2 st f_1396 (hn.keep (fun i0 hi => (o_1395 (ad (i0)) ))) (by omega)) C0 hw vw_X5_114 ((hL 0 (by omega))) f_1396 rfl rfl rfl hl.1 rfl (Nat.le_of_ble_eq_true rfl) dX5_carryOut_5 ⟨by decide, by decide⟩ ⟨by decide, by decide⟩) rfl rfl (fun F_1397 H locs hw hp_1398 => ?_)
  refine lv_iload_n hx hb dX5_carryOut_8 rfl (lv_at hl 1 rfl) ?_
  refine lv_bipush (v := nI 98) hx hb dX5_carryOut_9 (by decide) ?_
  refine n_icmp_ne (tgt := 27) hx hb dX5_carryOut_11 (by decide) (by decide) (by decide) (fun c_11 => ?_) (fun c_11 => ?_)
  · skip
    exact absurd c_11 (by omega)
  · skip
    refine lv_aload_n hx hb dX5_carryOut_14 rfl (lv_at hl 0 rfl) ?_
    have f_1399 : F_1397 (ad 0) = xO ad := (hp_1398.2 (ad 0) (fun i hS => hin 0 i (by omega) (by omega) (by omega))).trans f_1396
    refine q_get C0 hw ((hL 0 (by omega))) f_1399 fw_X5_12 rfl dX5_carryOut_15 ?_
    refine lv_dup hx hb dX5_carryOut_18 rfl ?_
    refine q_get C0 hw ((hL 22 (by omega))) hp_1398.1 fw_X5_243 rfl dX5_carryOut_19 ?_
    refine lv_iconst (v := nI 1) hx hb dX5_carryOut_22 (by decide) ?_
    refine n_iadd hx hb dX5_carryOut_23 ?_
    refine q_put C0 hw ((hL 22 (by omega))) hp_1398.1 fw_X5_243 pw_X3_4 rfl rfl rfl (Nat.le_of_ble_eq_true rfl) dX5_carryOut_24 (fun F_1400 H locs hw f_1401 o_1402 => ?_)
    have f_1401 : F_1400 (ad 22) = .inr (3, [.ref (ad 23), .int (nI (st.2.1 - 2 * st.1)), .int (nI (st.2.2.1 + 2 * st.1)), .int (nI (st.2.2.2.1 + 1)), .int (nI (st.2.2.2.2.1 + 1))]) := f_1401
    refine lv_aload_n hx hb dX5_carryOut_27 rfl (lv_at hl 0 rfl) ?_
    have f_1403 : F_1400 (ad 0) = xO ad := (o_1402 (ad 0) (hin 0 22 (by omega) (by omega) (by omega))).trans f_1399
    refine q_get C0 hw ((hL 0 (by omega))) f_1403 fw_X5_12 rfl dX5_carryOut_28 ?_
    refine q_get C0 hw ((hL 22 (by omega))) f_1401 fw_X5_66 rfl dX5_carryOut_31 ?_
    have f_1404 : F_1391 (ad 23) = .inr (2, [.int (nI (st.1)), .ref (ad 24), .ref (ad 25)]) := (o_1395 (ad 23) ).trans hn.2.1
    have f_1405 : F_1397 (ad 23) = .inr (2, [.int (nI (st.1)), .ref (ad 24), .ref (ad 25)]) := (hp_1398.2 (ad 23) (fun i hS => hin 23 i (by omega) (by omega) (by omega))).trans f_1404
    have f_1406 : F_1400 (ad 23) = .inr (2, [.int (nI (st.1)), .ref (ad 24), .ref (ad 25)]) := (o_1402 (ad 23) (hin 23 22 (by omega) (by omega) (by omega))).trans f_1405
    refine q_get C0 hw ((hL 23 (by omega))) f_1406 fw_X5_85 rfl dX5_carryOut_34 ?_
    refine lv_astore (lv' := [(5, .ref (ad 24)), (0, .ref (ad 0)), (1, .int (nI (98))), (2, .int (nI (f9))), (3, .int (nI (g9))), (4, .int (nI (t9)))]) hx hb dX5_carryOut_37 hl (by decide) rfl (fun ls hl => ?_)
    refine lv_aload_n hx hb dX5_carryOut_39 rfl (lv_at hl 1 rfl) ?_
    refine q_get C0 hw ((hL 0 (by omega))) f_1403 fw_X5_12 rfl dX5_carryOut_40 ?_
    refine q_get C0 hw ((hL 22 (by omega))) f_1401 fw_X5_66 rfl dX5_carryOut_43 ?_
    refine q_get C0 hw ((hL 23 (by omega))) f_1406 fw_X5_93 rfl dX5_carryOut_46 ?_
    refine lv_astore (lv' := [(6, .ref (ad 25)), (5, .ref (ad 24)), (0, .ref (ad 0)), (1, .int (nI (98))), (2, .int (nI (f9))), (3, .int (nI (g9))), (4, .int (nI (t9)))]) hx hb dX5_carryOut_49 hl (by decide) rfl (fun ls hl => ?_)
    refine lv_aload_n hx hb dX5_carryOut_51 rfl (lv_at hl 2 rfl) ?_
    refine q_get C0 hw ((hL 0 (by omega))) f_1403 fw_X5_12 rfl dX5_carryOut_52 ?_
    refine q_get C0 hw ((hL 22 (by omega))) f_1401 fw_X5_66 rfl dX5_carryOut_55 ?_
    refine q_get C0 hw ((hL 23 (by omega))) f_1406 fw_X5_70 rfl dX5_carryOut_58 ?_
    refine lv_istore (lv' := [(7, .int (nI (st.1))), (6, .ref (ad 25)), (5, .ref (ad 24)), (0, .ref (ad 0)), (1, .int (nI (98))), (2, .int (nI (f9))), (3, .int (nI (g9))), (4, .int (nI (t9)))]) hx hb dX5_carryOut_61 hl (by decide) rfl (fun ls hl => ?_)
    refine lv_iload_n hx hb dX5_carryOut_63 rfl (lv_at hl 4 rfl) ?_
    refine lv_tableIn (off := 104) (tgt := 168) hx hb dX5_carryOut_64 (by decide) (by decide) rfl (by decide) ?_
    refine lv_aload_n hx hb dX5_carryOut_168 rfl (lv_at hl 3 rfl) ?_
    refine q_get C0 hw ((hL 0 (by omega))) f_1403 fw_X5_44 rfl dX5_carryOut_169 ?_
    refine lv_aload hx hb dX5_carryOut_172 (lv_at hl 2 rfl) ?_
    refine lv_iload_n hx hb dX5_carryOut_174 rfl (lv_at hl 5 rfl) ?_
    have f_1407 : F_1391 (ad 24) = oE G (fun i => ad (26 + i)) := (o_1395 (ad 24) ).trans hn.2.2.1
    have f_1408 : F_1397 (ad 24) = oE G (fun i => ad (26 + i)) := (hp_1398.2 (ad 24) (fun i hS => hin 24 i (by omega) (by omega) (by omega))).trans f_1407
    have f_1409 : F_1400 (ad 24) = oE G (fun i => ad (26 + i)) := (o_1402 (ad 24) (hin 24 22 (by omega) (by omega) (by omega))).trans f_1408
    refine q_aaldi C0 hw ((hL 24 (by omega))) f_1409 (f9) (by omega) (by decide) (b := ad (26 + f9)) rfl dX5_carryOut_175 ?_
    refine lv_aload hx hb dX5_carryOut_176 (lv_at hl 2 rfl) ?_
    refine lv_iload_n hx hb dX5_carryOut_178 rfl (lv_at hl 6 rfl) ?_
    refine q_aaldi C0 hw ((hL 24 (by omega))) f_1409 (g9) (by omega) (by decide) (b := ad (26 + g9)) rfl dX5_carryOut_179 ?_
    refine lv_iload hx hb dX5_carryOut_180 (lv_at hl 0 rfl) ?_
    refine lv_aload_n hx hb dX5_carryOut_182 rfl (lv_at hl 3 rfl) ?_
    refine q_get C0 hw ((hL 0 (by omega))) f_1403 fw_X5_48 rfl dX5_carryOut_183 ?_
    have f_1410 : F_1391 (ad (26 + f9)) = rw7 G ((st.2.2.2.2.2 f9)) := (o_1395 (ad (26 + f9)) ).trans ((hn.2.2.2.2 f9 (by omega)))
    have f_1411 : F_1397 (ad (26 + f9)) = rw7 G ((st.2.2.2.2.2 f9)) := (hp_1398.2 (ad (26 + f9)) (fun i hS => hin (26 + f9) i (by omega) (by omega) (by omega))).trans f_1410
    have f_1412 : F_1400 (ad (26 + f9)) = rw7 G ((st.2.2.2.2.2 f9)) := (o_1402 (ad (26 + f9)) (hin (26 + f9) 22 (by omega) (by omega) (by omega))).trans f_1411
    have f_1413 : F_1391 (ad (26 + g9)) = rw7 G ((st.2.2.2.2.2 g9)) := (o_1395 (ad (26 + g9)) ).trans ((hn.2.2.2.2 g9 (by omega)))
    have f_1414 : F_1397 (ad (26 + g9)) = rw7 G ((st.2.2.2.2.2 g9)) := (hp_1398.2 (ad (26 + g9)) (fun i hS => hin (26 + g9) i (by omega) (by omega) (by omega))).trans f_1413
    have f_1415 : F_1400 (ad (26 + g9)) = rw7 G ((st.2.2.2.2.2 g9)) := (o_1402 (ad (26 + g9)) (hin (26 + g9) 22 (by omega) (by omega) (by omega))).trans f_1414
    have f_1416 : F_1391 (ad 134) = rw7 G u9 := (o_1395 (ad 134) ).trans h134
    have f_1417 : F_1397 (ad 134) = rw7 G u9 := (hp_1398.2 (ad 134) (fun i hS => hin 134 i (by omega) (by omega) (by omega))).trans f_1416
    have f_1418 : F_1400 (ad 134) = rw7 G u9 := (o_1402 (ad 134) (hin 134 22 (by omega) (by omega) (by omega))).trans f_1417
    have f_1419 : F_1391 (ad 8) = rw7 G s_0 := (o_1395 (ad 8) ).trans hs_0
    have f_1420 : F_1397 (ad 8) = rw7 G s_0 := (hp_1398.2 (ad 8) (fun i hS => hin 8 i (by omega) (by omega) (by omega))).trans f_1419
    have f_1421 : F_1400 (ad 8) = rw7 G s_0 := (o_1402 (ad 8) (hin 8 22 (by omega) (by omega) (by omega))).trans f_1420
    have f_1422 : F_1391 (ad 7) = rkO (fun i => ad (8 + i)) := (o_1395 (ad 7) ).trans hrk.1
    have f_1423 : F_1397 (ad 7) = rkO (fun i => ad (8 + i)) := (hp_1398.2 (ad 7) (fun i hS => hin 7 i (by omega) (by omega) (by omega))).trans f_1422
    have f_1424 : F_1400 (ad 7) = rkO (fun i => ad (8 + i)) := (o_1402 (ad 7) (hin 7 22 (by omega) (by omega) (by omega))).trans f_1423
    refine q_callv hw (q_runV (As := [.ref (ad (26 + f9)), .ref (ad (26 + g9)), .int (nI (st.1)), .ref (ad 134)]) (c_X1_takeBracket l G L F_1400 (ad 7) (fun i => ad (8 + i)) (ad (26 + f9)) (ad (26 + g9)) (ad 134) (st.1) ((st.2.2.2.2.2 f9)) ((st.2.2.2.2.2 g9)) u9 s_0  ((hL 7 (by omega))) f_1424 (fun i hi => hL (8 + i) (by omega)) (ra_inj hin) ((hL (26 + f9) (by omega))) f_1412 ((hL (26 + g9) (by omega))) f_1415 ((hL 134 (by omega))) f_1418 f_1421 (hin (26 + f9) 134 (by omega) (by omega) (by omega)) (hin (26 + g9) 134 (by omega) (by omega) (by omega)) (hin (26 + f9) 8 (by omega) (by omega) (by omega)) (hin (26 + g9) 8 (by omega) (by omega) (by omega)) (hin 134 8 (by omega) (by omega) (by omega)) (by omega) (by omega) ) C0 hw vw_X5_198 ((hL 7 (by omega))) f_1424 rfl rfl rfl hl.1 rfl (Nat.le_of_ble_eq_true rfl) dX5_carryOut_186 ⟨by decide, by decide⟩ ⟨by decide, by decide⟩) rfl rfl (fun F_1425 H locs hw hp_1426 => ?_)
    obtain ⟨f_1427, ⟨t_1429, f_1428⟩, o_1430⟩ := hp_1426
    refine lv_aload_n hx hb dX5_carryOut_189 rfl (lv_at hl 3 rfl) ?_
    refine lv_aload hx hb dX5_carryOut_190 (lv_at hl 2 rfl) ?_
    refine lv_iload hx hb dX5_carryOut_192 (lv_at hl 7 rfl) ?_
    have f_1431 : F_1425 (ad 24) = oE G (fun i => ad (26 + i)) := (o_1430 (ad 24) (hin 24 134 (by omega) (by omega) (by omega)) (hin 24 8 (by omega) (by omega) (by omega))).trans f_1409
    refine q_aaldi C0 hw ((hL 24 (by omega))) f_1431 (t9) (by omega) (by decide) (b := ad (26 + t9)) rfl dX5_carryOut_194 ?_
    have f_1432 : F_1391 (ad (26 + t9)) = rw7 G ((st.2.2.2.2.2 t9)) := (o_1395 (ad (26 + t9)) ).trans ((hn.2.2.2.2 t9 (by omega)))
    have f_1433 : F_1397 (ad (26 + t9)) = rw7 G ((st.2.2.2.2.2 t9)) := (hp_1398.2 (ad (26 + t9)) (fun i hS => hin (26 + t9) i (by omega) (by omega) (by omega))).trans f_1432
    have f_1434 : F_1400 (ad (26 + t9)) = rw7 G ((st.2.2.2.2.2 t9)) := (o_1402 (ad (26 + t9)) (hin (26 + t9) 22 (by omega) (by omega) (by omega))).trans f_1433
    have f_1435 : F_1425 (ad (26 + t9)) = rw7 G ((st.2.2.2.2.2 t9)) := (o_1430 (ad (26 + t9)) (hin (26 + t9) 134 (by omega) (by omega) (by omega)) (hin (26 + t9) 8 (by omega) (by omega) (by omega))).trans f_1434
    have f_1436 : F_1425 (ad 0) = xO ad := (o_1430 (ad 0) (hin 0 134 (by omega) (by omega) (by omega)) (hin 0 8 (by omega) (by omega) (by omega))).trans f_1403
    refine q_calli hw (q_runV (As := [.ref (ad (26 + t9))]) (c_X5_put l G L F_1425 ad hL hin t9 ((m_br ((st.2.2.2.2.2 f9)) ((st.2.2.2.2.2 g9)) (st.1))) ((st.2.2.2.2.2 t9)) f_1436 f_1427 f_1435 (by omega)) C0 hw vw_X5_127 ((hL 0 (by omega))) f_1436 rfl rfl rfl hl.1 rfl (Nat.le_of_ble_eq_true rfl) dX5_carryOut_195 ⟨by decide, by decide⟩ ⟨by decide, by decide⟩) rfl rfl (fun r_1439 F_1437 H locs hw hp_1438 => ?_)
    obtain ⟨he_1440, f_1441, o_1442⟩ := hp_1438
    subst he_1440
    have f_1443 : F_1425 (ad 22) = .inr (3, [.ref (ad 23), .int (nI (st.2.1 - 2 * st.1)), .int (nI (st.2.2.1 + 2 * st.1)), .int (nI (st.2.2.2.1 + 1)), .int (nI (st.2.2.2.2.1 + 1))]) := (o_1430 (ad 22) (hin 22 134 (by omega) (by omega) (by omega)) (hin 22 8 (by omega) (by omega) (by omega))).trans f_1401
    have f_1444 : F_1437 (ad 22) = .inr (3, [.ref (ad 23), .int (nI (st.2.1 - 2 * st.1)), .int (nI (st.2.2.1 + 2 * st.1)), .int (nI (st.2.2.2.1 + 1)), .int (nI (st.2.2.2.2.1 + 1))]) := (o_1442 (ad 22) (fun i hS => hin 22 i (by omega) (by omega) (by omega))).trans f_1443
    have f_1445 : F_1437 (ad 134) = rw7 G ((m_br ((st.2.2.2.2.2 f9)) ((st.2.2.2.2.2 g9)) (st.1))) := (o_1442 (ad 134) (fun i hS => hin 134 i (by omega) (by omega) (by omega))).trans f_1427
    have f_1446 : F_1425 (ad 7) = rkO (fun i => ad (8 + i)) := (o_1430 (ad 7) (hin 7 134 (by omega) (by omega) (by omega)) (hin 7 8 (by omega) (by omega) (by omega))).trans f_1424
    have f_1447 : F_1437 (ad 7) = rkO (fun i => ad (8 + i)) := (o_1442 (ad 7) (fun i hS => hin 7 i (by omega) (by omega) (by omega))).trans f_1446
    have f_1448 : F_1437 (ad 8) = rw7 G t_1429 := (o_1442 (ad 8) (fun i hS => hin 8 i (by omega) (by omega) (by omega))).trans f_1428
    have f_1449 : F_1391 (ad 9) = rw7 G s_1 := (o_1395 (ad 9) ).trans hs_1
    have f_1450 : F_1397 (ad 9) = rw7 G s_1 := (hp_1398.2 (ad 9) (fun i hS => hin 9 i (by omega) (by omega) (by omega))).trans f_1449
    have f_1451 : F_1400 (ad 9) = rw7 G s_1 := (o_1402 (ad 9) (hin 9 22 (by omega) (by omega) (by omega))).trans f_1450
    have f_1452 : F_1425 (ad 9) = rw7 G s_1 := (o_1430 (ad 9) (hin 9 134 (by omega) (by omega) (by omega)) (hin 9 8 (by omega) (by omega) (by omega))).trans f_1451
    have f_1453 : F_1437 (ad 9) = rw7 G s_1 := (o_1442 (ad 9) (fun i hS => hin 9 i (by omega) (by omega) (by omega))).trans f_1452
    have f_1454 : F_1391 (ad 10) = rw7 G s_2 := (o_1395 (ad 10) ).trans hs_2
    have f_1455 : F_1397 (ad 10) = rw7 G s_2 := (hp_1398.2 (ad 10) (fun i hS => hin 10 i (by omega) (by omega) (by omega))).trans f_1454
    have f_1456 : F_1400 (ad 10) = rw7 G s_2 := (o_1402 (ad 10) (hin 10 22 (by omega) (by omega) (by omega))).trans f_1455
    have f_1457 : F_1425 (ad 10) = rw7 G s_2 := (o_1430 (ad 10) (hin 10 134 (by omega) (by omega) (by omega)) (hin 10 8 (by omega) (by omega) (by omega))).trans f_1456
    have f_1458 : F_1437 (ad 10) = rw7 G s_2 := (o_1442 (ad 10) (fun i hS => hin 10 i (by omega) (by omega) (by omega))).trans f_1457
    have f_1459 : F_1391 (ad 11) = rw7 G s_3 := (o_1395 (ad 11) ).trans hs_3
    have f_1460 : F_1397 (ad 11) = rw7 G s_3 := (hp_1398.2 (ad 11) (fun i hS => hin 11 i (by omega) (by omega) (by omega))).trans f_1459
    have f_1461 : F_1400 (ad 11) = rw7 G s_3 := (o_1402 (ad 11) (hin 11 22 (by omega) (by omega) (by omega))).trans f_1460
    have f_1462 : F_1425 (ad 11) = rw7 G s_3 := (o_1430 (ad 11) (hin 11 134 (by omega) (by omega) (by omega)) (hin 11 8 (by omega) (by omega) (by omega))).trans f_1461
    have f_1463 : F_1437 (ad 11) = rw7 G s_3 := (o_1442 (ad 11) (fun i hS => hin 11 i (by omega) (by omega) (by omega))).trans f_1462
    have f_1464 : F_1391 (ad 12) = rw7 G s_4 := (o_1395 (ad 12) ).trans hs_4
    have f_1465 : F_1397 (ad 12) = rw7 G s_4 := (hp_1398.2 (ad 12) (fun i hS => hin 12 i (by omega) (by omega) (by omega))).trans f_1464
    have f_1466 : F_1400 (ad 12) = rw7 G s_4 := (o_1402 (ad 12) (hin 12 22 (by omega) (by omega) (by omega))).trans f_1465
    have f_1467 : F_1425 (ad 12) = rw7 G s_4 := (o_1430 (ad 12) (hin 12 134 (by omega) (by omega) (by omega)) (hin 12 8 (by omega) (by omega) (by omega))).trans f_1466
    have f_1468 : F_1437 (ad 12) = rw7 G s_4 := (o_1442 (ad 12) (fun i hS => hin 12 i (by omega) (by omega) (by omega))).trans f_1467
    have f_1469 : F_1391 (ad 13) = rw7 G s_5 := (o_1395 (ad 13) ).trans hs_5
    have f_1470 : F_1397 (ad 13) = rw7 G s_5 := (hp_1398.2 (ad 13) (fun i hS => hin 13 i (by omega) (by omega) (by omega))).trans f_1469
    have f_1471 : F_1400 (ad 13) = rw7 G s_5 := (o_1402 (ad 13) (hin 13 22 (by omega) (by omega) (by omega))).trans f_1470
    have f_1472 : F_1425 (ad 13) = rw7 G s_5 := (o_1430 (ad 13) (hin 13 134 (by omega) (by omega) (by omega)) (hin 13 8 (by omega) (by omega) (by omega))).trans f_1471
    have f_1473 : F_1437 (ad 13) = rw7 G s_5 := (o_1442 (ad 13) (fun i hS => hin 13 i (by omega) (by omega) (by omega))).trans f_1472
    have f_1474 : F_1391 (ad 14) = rw7 G s_6 := (o_1395 (ad 14) ).trans hs_6
    have f_1475 : F_1397 (ad 14) = rw7 G s_6 := (hp_1398.2 (ad 14) (fun i hS => hin 14 i (by omega) (by omega) (by omega))).trans f_1474
    have f_1476 : F_1400 (ad 14) = rw7 G s_6 := (o_1402 (ad 14) (hin 14 22 (by omega) (by omega) (by omega))).trans f_1475
    have f_1477 : F_1425 (ad 14) = rw7 G s_6 := (o_1430 (ad 14) (hin 14 134 (by omega) (by omega) (by omega)) (hin 14 8 (by omega) (by omega) (by omega))).trans f_1476
    have f_1478 : F_1437 (ad 14) = rw7 G s_6 := (o_1442 (ad 14) (fun i hS => hin 14 i (by omega) (by omega) (by omega))).trans f_1477
    have f_1479 : F_1391 (ad 15) = rw7 G s_7 := (o_1395 (ad 15) ).trans hs_7
    have f_1480 : F_1397 (ad 15) = rw7 G s_7 := (hp_1398.2 (ad 15) (fun i hS => hin 15 i (by omega) (by omega) (by omega))).trans f_1479
    have f_1481 : F_1400 (ad 15) = rw7 G s_7 := (o_1402 (ad 15) (hin 15 22 (by omega) (by omega) (by omega))).trans f_1480
    have f_1482 : F_1425 (ad 15) = rw7 G s_7 := (o_1430 (ad 15) (hin 15 134 (by omega) (by omega) (by omega)) (hin 15 8 (by omega) (by omega) (by omega))).trans f_1481
    have f_1483 : F_1437 (ad 15) = rw7 G s_7 := (o_1442 (ad 15) (fun i hS => hin 15 i (by omega) (by omega) (by omega))).trans f_1482
    have f_1484 : F_1391 (ad 16) = rw7 G s_8 := (o_1395 (ad 16) ).trans hs_8
    have f_1485 : F_1397 (ad 16) = rw7 G s_8 := (hp_1398.2 (ad 16) (fun i hS => hin 16 i (by omega) (by omega) (by omega))).trans f_1484
    have f_1486 : F_1400 (ad 16) = rw7 G s_8 := (o_1402 (ad 16) (hin 16 22 (by omega) (by omega) (by omega))).trans f_1485
    have f_1487 : F_1425 (ad 16) = rw7 G s_8 := (o_1430 (ad 16) (hin 16 134 (by omega) (by omega) (by omega)) (hin 16 8 (by omega) (by omega) (by omega))).trans f_1486
    have f_1488 : F_1437 (ad 16) = rw7 G s_8 := (o_1442 (ad 16) (fun i hS => hin 16 i (by omega) (by omega) (by omega))).trans f_1487
    have f_1489 : F_1391 (ad 17) = rw7 G s_9 := (o_1395 (ad 17) ).trans hs_9
    have f_1490 : F_1397 (ad 17) = rw7 G s_9 := (hp_1398.2 (ad 17) (fun i hS => hin 17 i (by omega) (by omega) (by omega))).trans f_1489
    have f_1491 : F_1400 (ad 17) = rw7 G s_9 := (o_1402 (ad 17) (hin 17 22 (by omega) (by omega) (by omega))).trans f_1490
    have f_1492 : F_1425 (ad 17) = rw7 G s_9 := (o_1430 (ad 17) (hin 17 134 (by omega) (by omega) (by omega)) (hin 17 8 (by omega) (by omega) (by omega))).trans f_1491
    have f_1493 : F_1437 (ad 17) = rw7 G s_9 := (o_1442 (ad 17) (fun i hS => hin 17 i (by omega) (by omega) (by omega))).trans f_1492
    have f_1494 : F_1391 (ad 18) = rw7 G s_10 := (o_1395 (ad 18) ).trans hs_10
    have f_1495 : F_1397 (ad 18) = rw7 G s_10 := (hp_1398.2 (ad 18) (fun i hS => hin 18 i (by omega) (by omega) (by omega))).trans f_1494
    have f_1496 : F_1400 (ad 18) = rw7 G s_10 := (o_1402 (ad 18) (hin 18 22 (by omega) (by omega) (by omega))).trans f_1495
    have f_1497 : F_1425 (ad 18) = rw7 G s_10 := (o_1430 (ad 18) (hin 18 134 (by omega) (by omega) (by omega)) (hin 18 8 (by omega) (by omega) (by omega))).trans f_1496
    have f_1498 : F_1437 (ad 18) = rw7 G s_10 := (o_1442 (ad 18) (fun i hS => hin 18 i (by omega) (by omega) (by omega))).trans f_1497
    have f_1499 : F_1391 (ad 19) = rw7 G s_11 := (o_1395 (ad 19) ).trans hs_11
    have f_1500 : F_1397 (ad 19) = rw7 G s_11 := (hp_1398.2 (ad 19) (fun i hS => hin 19 i (by omega) (by omega) (by omega))).trans f_1499
    have f_1501 : F_1400 (ad 19) = rw7 G s_11 := (o_1402 (ad 19) (hin 19 22 (by omega) (by omega) (by omega))).trans f_1500
    have f_1502 : F_1425 (ad 19) = rw7 G s_11 := (o_1430 (ad 19) (hin 19 134 (by omega) (by omega) (by omega)) (hin 19 8 (by omega) (by omega) (by omega))).trans f_1501
    have f_1503 : F_1437 (ad 19) = rw7 G s_11 := (o_1442 (ad 19) (fun i hS => hin 19 i (by omega) (by omega) (by omega))).trans f_1502
    have f_1504 : F_1391 (ad 20) = rw7 G s_12 := (o_1395 (ad 20) ).trans hs_12
    have f_1505 : F_1397 (ad 20) = rw7 G s_12 := (hp_1398.2 (ad 20) (fun i hS => hin 20 i (by omega) (by omega) (by omega))).trans f_1504
    have f_1506 : F_1400 (ad 20) = rw7 G s_12 := (o_1402 (ad 20) (hin 20 22 (by omega) (by omega) (by omega))).trans f_1505
    have f_1507 : F_1425 (ad 20) = rw7 G s_12 := (o_1430 (ad 20) (hin 20 134 (by omega) (by omega) (by omega)) (hin 20 8 (by omega) (by omega) (by omega))).trans f_1506
    have f_1508 : F_1437 (ad 20) = rw7 G s_12 := (o_1442 (ad 20) (fun i hS => hin 20 i (by omega) (by omega) (by omega))).trans f_1507
    have f_1509 : F_1391 (ad 21) = rw7 G s_13 := (o_1395 (ad 21) ).trans hs_13
    have f_1510 : F_1397 (ad 21) = rw7 G s_13 := (hp_1398.2 (ad 21) (fun i hS => hin 21 i (by omega) (by omega) (by omega))).trans f_1509
    have f_1511 : F_1400 (ad 21) = rw7 G s_13 := (o_1402 (ad 21) (hin 21 22 (by omega) (by omega) (by omega))).trans f_1510
    have f_1512 : F_1425 (ad 21) = rw7 G s_13 := (o_1430 (ad 21) (hin 21 134 (by omega) (by omega) (by omega)) (hin 21 8 (by omega) (by omega) (by omega))).trans f_1511
    have f_1513 : F_1437 (ad 21) = rw7 G s_13 := (o_1442 (ad 21) (fun i hS => hin 21 i (by omega) (by omega) (by omega))).trans f_1512
    exact r_i C0 hr hlk hw (v := (lowR ((m_br ((st.2.2.2.2.2 f9)) ((st.2.2.2.2.2 g9)) (st.1))))) rfl ⟨rfl, sta_row hn (t := ordT 98 t9) (u := ordR 98 f9 g9 st.1 st.2.2.2.2.2) (by unfold ordT; simp; omega) f_1444 rfl rfl (f_1441) (fun i0 hi => by simp [ordT] at hi; exact ((o_1442 (ad (i0)) (fun i hS => hin (i0) i (by omega) (by omega) (by omega)))).trans (((o_1430 (ad (i0)) (hin (i0) 134 (by omega) (by omega) (by omega)) (hin (i0) 8 (by omega) (by omega) (by omega)))).trans (((o_1402 (ad (i0)) (hin (i0) 22 (by omega) (by omega) (by omega)))).trans (((hp_1398.2 (ad (i0)) (fun i hS => hin (i0) i (by omega) (by omega) (by omega)))).trans ((o_1395 (ad (i0)) )))))), ⟨f_1447, lt14 ⟨_, f_1448⟩ ⟨_, f_1453⟩ ⟨_, f_1458⟩ ⟨_, f_1463⟩ ⟨_, f_1468⟩ ⟨_, f_1473⟩ ⟨_, f_1478⟩ ⟨_, f_1483⟩ ⟨_, f_1488⟩ ⟨_, f_1493⟩ ⟨_, f_1498⟩ ⟨_, f_1503⟩ ⟨_, f_1508⟩ ⟨_, f_1513⟩⟩, ⟨_, f_1445⟩, (fun q hq => ((o_1442 q (fun i hS => hq i (by omega))).trans ((o_1430 q (hq 134 (by omega)) (hq 8 (by omega))).trans ((o_1402 q (hq 22 (by omega))).trans ((hp_1398.2 q (fun i hS => hq i (by omega))).trans (o_1395 q ))))))⟩ (Nat.le_refl _) (Nat.le_refl _) dX5_carryOut_198 hQ
set_option maxHeartbeats 4000000 in
set_option maxRecDepth 100000 in
theorem c_X5_carryOut_115 (l : Launch) (G : Gl) (L : List Nat) (F : Nat → va_E) (ad : Nat → Nat) (hL : ∀ i, i < 166 → ad i ∈ L) (hin : ∀ i j, i < 166 → j < 166 → i ≠ j → ad i ≠ ad j) (f9 g9 t9 : Nat) (st : Sta) (u9 : Nat → ZP) (fx : F (ad 0) = xO ad) (hn : sta G F ad 22 st) (hrk : rkW G F ad) (h134 : F (ad 134) = rw7 G u9) (hf9 : f9 < 6) (hg9 : g9 < 6) (ht9 : t9 < 6) (hm : 1 * st.1 ≤ st.2.1) (hc : st.1 ≤ 6) (hc2 : 2 ≤ st.1) (hpu : st.2.1 ≤ 100000) : CI l yX5_carryOut cX5_carryOut 8 (some .int) rm_X5_carryOut G L F [.ref (ad 0), .int (nI (115)), .int (nI (f9)), .int (nI (g9)), .int (nI (t9))] (fun r F1 => r = lowR (ordR 115 f9 g9 st.1 st.2.2.2.2.2) ∧ sta G F1 ad 22 (ordS 115 f9 g9 t9 st) ∧ rkW G F1 ad ∧ (∃ u, F1 (ad 134) = rw7 G u) ∧ ∀ q, (∀ i, (i = 22 ∨ (26 ≤ i ∧ i < 38) ∨ (8 ≤ i ∧ i < 22) ∨ i = 134) → q ≠ ad i) → F1 q = F q) := by
  obtain ⟨s_13, hs_13⟩ := hrk.2 13 (by decide)
  obtain ⟨s_12, hs_12⟩ := hrk.2 12 (by decide)
  obtain ⟨s_11, hs_11⟩ := hrk.2 11 (by decide)
  obtain ⟨s_10, hs_10⟩ := hrk.2 10 (by decide)
  obtain ⟨s_9, hs_9⟩ := hrk.2 9 (by decide)
  obtain ⟨s_8, hs_8⟩ := hrk.2 8 (by decide)
  obtain ⟨s_7, hs_7⟩ := hrk.2 7 (by decide)
  obtain ⟨s_6, hs_6⟩ := hrk.2 6 (by decide)
  obtain ⟨s_5, hs_5⟩ := hrk.2 5 (by decide)
  obtain ⟨s_4, hs_4⟩ := hrk.2 4 (by decide)
  obtain ⟨s_3, hs_3⟩ := hrk.2 3 (by decide)
  obtain ⟨s_2, hs_2⟩ := hrk.2 2 (by decide)
  obtain ⟨s_1, hs_1⟩ := hrk.2 1 (by decide)
  obtain ⟨s_0, hs_0⟩ := hrk.2 0 (by decide)
  refine CG_of (by decide) (Nat.le_of_ble_eq_true rfl) rfl ?_
  intro p e s m args below meth c Q C0 hr hlk hnm hQ hw ls hl
  have hx := C0.x
  have hb := C0.b
  refine lv_aload_n hx hb dX5_carryOut_0 rfl (lv_at hl 0 rfl) ?_
  refine lv_iload_n hx hb dX5_carryOut_1 rfl (lv_at hl 1 rfl) ?_
  refine q_calli hw (q_runS (As := [.int (nI (115))]) (c_X5_unitsOf_115 l G L F ) C0 hw sw_X5_225 rfl hl.1 rfl (Nat.le_of_ble_eq_true rfl) dX5_carryOut_2 ⟨by decide, by decide⟩ ⟨by decide, by decide⟩) rfl rfl (fun r_1516 F_1514 H locs hw hp_1515 => ?_)
  obtain ⟨he_1517, o_1518⟩ := hp_1515
  subst he_1517
  have f_1519 : F_1514 (ad 0) = xO ad := (o_1518 (ad 0) ).trans fx
  refine q_callv hw (q_runV (As := [.int (nI (1))]) (c_X5_pay l G L F_1514 ad hL hin 1 st f_1519 (hn.keep (fun i0 hi => (o_1518 (ad (i0)) ))) (by omega)) C0 hw vw_X5_114 ((hL 0 (by omega))) f_1519 rfl rfl rfl hl.1 rfl (Nat.le_of_ble_eq_true rfl) dX5_carryOut_5 ⟨by decide, by decide⟩ ⟨by decide, by decide⟩) rfl rfl (fun F_1520 H locs hw hp_1521 => ?_)
  refine lv_iload_n hx hb dX5_carryOut_8 rfl (lv_at hl 1 rfl) ?_
  refine lv_bipush (v := nI 98) hx hb dX5_carryOut_9 (by decide) ?_
  refine n_icmp_ne (tgt := 27) hx hb dX5_carryOut_11 (by decide) (by decide) (by decide) (fun c_11 => ?_) (fun c_11 => ?_)
  · skip
    refine lv_aload_n hx hb dX5_carryOut_27 rfl (lv_at hl 0 rfl) ?_
    have f_1522 : F_1520 (ad 0) = xO ad := (hp_1521.2 (ad 0) (fun i hS => hin 0 i (by omega) (by omega) (by omega))).trans f_1519
    refine q_get C0 hw ((hL 0 (by omega))) f_1522 fw_X5_12 rfl dX5_carryOut_28 ?_
    refine q_get C0 hw ((hL 22 (by omega))) hp_1521.1 fw_X5_66 rfl dX5_carryOut_31 ?_
    have f_1523 : F_1514 (ad 23) = .inr (2, [.int (nI (st.1)), .ref (ad 24), .ref (ad 25)]) := (o_1518 (ad 23) ).trans hn.2.1
    have f_1524 : F_1520 (ad 23) = .inr (2, [.int (nI (st.1)), .ref (ad 24), .ref (ad 25)]) := (hp_1521.2 (ad 23) (fun i hS => hin 23 i (by omega) (by omega) (by omega))).trans f_1523
    refine q_get C0 hw ((hL 23 (by omega))) f_1524 fw_X5_85 rfl dX5_carryOut_34 ?_
    refine lv_astore (lv' := [(5, .ref (ad 24)), (0, .ref (ad 0)), (1, .int (nI (115))), (2, .int (nI (f9))), (3, .int (nI (g9))), (4, .int (nI (t9)))]) hx hb dX5_carryOut_37 hl (by decide) rfl (fun ls hl => ?_)
    refine lv_aload_n hx hb dX5_carryOut_39 rfl (lv_at hl 1 rfl) ?_
    refine q_get C0 hw ((hL 0 (by omega))) f_1522 fw_X5_12 rfl dX5_carryOut_40 ?_
    refine q_get C0 hw ((hL 22 (by omega))) hp_1521.1 fw_X5_66 rfl dX5_carryOut_43 ?_
    refine q_get C0 hw ((hL 23 (by omega))) f_1524 fw_X5_93 rfl dX5_carryOut_46 ?_
    refine lv_astore (lv' := [(6, .ref (ad 25)), (5, .ref (ad 24)), (0, .ref (ad 0)), (1, .int (nI (115))), (2, .int (nI (f9))), (3, .int (nI (g9))), (4, .int (nI (t9)))]) hx hb dX5_carryOut_49 hl (by decide) rfl (fun ls hl => ?_)
    refine lv_aload_n hx hb dX5_carryOut_51 rfl (lv_at hl 2 rfl) ?_
    refine q_get C0 hw ((hL 0 (by omega))) f_1522 fw_X5_12 rfl dX5_carryOut_52 ?_
    refine q_get C0 hw ((hL 22 (by omega))) hp_1521.1 fw_X5_66 rfl dX5_carryOut_55 ?_
    refine q_get C0 hw ((hL 23 (by omega))) f_1524 fw_X5_70 rfl dX5_carryOut_58 ?_
    refine lv_istore (lv' := [(7, .int (nI (st.1))), (6, .ref (ad 25)), (5, .ref (ad 24)), (0, .ref (ad 0)), (1, .int (nI (115))), (2, .int (nI (f9))), (3, .int (nI (g9))), (4, .int (nI (t9)))]) hx hb dX5_carryOut_61 hl (by decide) rfl (fun ls hl => ?_)
    refine lv_iload_n hx hb dX5_carryOut_63 rfl (lv_at hl 4 rfl) ?_
    refine lv_tableIn (off := 135) (tgt := 199) hx hb dX5_carryOut_64 (by decide) (by decide) rfl (by decide) ?_
    refine lv_aload hx hb dX5_carryOut_199 (lv_at hl 2 rfl) ?_
    refine lv_iload_n hx hb dX5_carryOut_201 rfl (lv_at hl 5 rfl) ?_
    have f_1525 : F_1514 (ad 24) = oE G (fun i => ad (26 + i)) := (o_1518 (ad 24) ).trans hn.2.2.1
    have f_1526 : F_1520 (ad 24) = oE G (fun i => ad (26 + i)) := (hp_1521.2 (ad 24) (fun i hS => hin 24 i (by omega) (by omega) (by omega))).trans f_1525
    refine q_aaldi C0 hw ((hL 24 (by omega))) f_1526 (f9) (by omega) (by decide) (b := ad (26 + f9)) rfl dX5_carryOut_202 ?_
    refine lv_aload hx hb dX5_carryOut_203 (lv_at hl 2 rfl) ?_
    refine lv_iload_n hx hb dX5_carryOut_205 rfl (lv_at hl 6 rfl) ?_
    refine q_aaldi C0 hw ((hL 24 (by omega))) f_1526 (g9) (by omega) (by decide) (b := ad (26 + g9)) rfl dX5_carryOut_206 ?_
    refine lv_aload_n hx hb dX5_carryOut_207 rfl (lv_at hl 3 rfl) ?_
    refine q_get C0 hw ((hL 0 (by omega))) f_1522 fw_X5_48 rfl dX5_carryOut_208 ?_
    have f_1527 : F_1514 (ad (26 + f9)) = rw7 G ((st.2.2.2.2.2 f9)) := (o_1518 (ad (26 + f9)) ).trans ((hn.2.2.2.2 f9 (by omega)))
    have f_1528 : F_1520 (ad (26 + f9)) = rw7 G ((st.2.2.2.2.2 f9)) := (hp_1521.2 (ad (26 + f9)) (fun i hS => hin (26 + f9) i (by omega) (by omega) (by omega))).trans f_1527
    have f_1529 : F_1514 (ad (26 + g9)) = rw7 G ((st.2.2.2.2.2 g9)) := (o_1518 (ad (26 + g9)) ).trans ((hn.2.2.2.2 g9 (by omega)))
    have f_1530 : F_1520 (ad (26 + g9)) = rw7 G ((st.2.2.2.2.2 g9)) := (hp_1521.2 (ad (26 + g9)) (fun i hS => hin (26 + g9) i (by omega) (by omega) (by omega))).trans f_1529
    have f_1531 : F_1514 (ad 134) = rw7 G u9 := (o_1518 (ad 134) ).trans h134
    have f_1532 : F_1520 (ad 134) = rw7 G u9 := (hp_1521.2 (ad 134) (fun i hS => hin 134 i (by omega) (by omega) (by omega))).trans f_1531
    refine q_callv hw (q_runS (As := [.ref (ad (26 + f9)), .ref (ad (26 + g9)), .ref (ad 134)]) (c_X1_addRows l G L F_1520 (ad (26 + f9)) (ad (26 + g9)) (ad 134) ((st.2.2.2.2.2 f9)) ((st.2.2.2.2.2 g9)) u9 ((hL (26 + f9) (by omega))) f_1528 ((hL (26 + g9) (by omega))) f_1530 ((hL 134 (by omega))) f_1532 (hin (26 + f9) 134 (by omega) (by omega) (by omega)) (hin (26 + g9) 134 (by omega) (by omega) (by omega))) C0 hw sw_X5_308 rfl hl.1 rfl (Nat.le_of_ble_eq_true rfl) dX5_carryOut_211 ⟨by decide, by decide⟩ ⟨by decide, by decide⟩) rfl rfl (fun F_1533 H locs hw hp_1534 => ?_)
    refine lv_aload_n hx hb dX5_carryOut_214 rfl (lv_at hl 3 rfl) ?_
    refine lv_aload hx hb dX5_carryOut_215 (lv_at hl 2 rfl) ?_
    refine lv_iload hx hb dX5_carryOut_217 (lv_at hl 7 rfl) ?_
    have f_1535 : F_1533 (ad 24) = oE G (fun i => ad (26 + i)) := (hp_1534.2 (ad 24) (hin 24 134 (by omega) (by omega) (by omega))).trans f_1526
    refine q_aaldi C0 hw ((hL 24 (by omega))) f_1535 (t9) (by omega) (by decide) (b := ad (26 + t9)) rfl dX5_carryOut_219 ?_
    have f_1536 : F_1514 (ad (26 + t9)) = rw7 G ((st.2.2.2.2.2 t9)) := (o_1518 (ad (26 + t9)) ).trans ((hn.2.2.2.2 t9 (by omega)))
    have f_1537 : F_1520 (ad (26 + t9)) = rw7 G ((st.2.2.2.2.2 t9)) := (hp_1521.2 (ad (26 + t9)) (fun i hS => hin (26 + t9) i (by omega) (by omega) (by omega))).trans f_1536
    have f_1538 : F_1533 (ad (26 + t9)) = rw7 G ((st.2.2.2.2.2 t9)) := (hp_1534.2 (ad (26 + t9)) (hin (26 + t9) 134 (by omega) (by omega) (by omega))).trans f_1537
    have f_1539 : F_1533 (ad 0) = xO ad := (hp_1534.2 (ad 0) (hin 0 134 (by omega) (by omega) (by omega))).trans f_1522
    refine q_calli hw (q_runV (As := [.ref (ad (26 + t9))]) (c_X5_put l G L F_1533 ad hL hin t9 ((m_add ((st.2.2.2.2.2 f9)) ((st.2.2.2.2.2 g9)))) ((st.2.2.2.2.2 t9)) f_1539 hp_1534.1 f_1538 (by omega)) C0 hw vw_X5_127 ((hL 0 (by omega))) f_1539 rfl rfl rfl hl.1 rfl (Nat.le_of_ble_eq_true rfl) dX5_carryOut_220 ⟨by decide, by decide⟩ ⟨by decide, by decide⟩) rfl rfl (fun r_1542 F_1540 H locs hw hp_1541 => ?_)
    obtain ⟨he_1543, f_1544, o_1545⟩ := hp_1541
    subst he_1543
    have f_1546 : F_1533 (ad 22) = .inr (3, [.ref (ad 23), .int (nI (st.2.1 - 1 * st.1)), .int (nI (st.2.2.1 + 1 * st.1)), .int (nI (st.2.2.2.1 + 1)), .int (nI (st.2.2.2.2.1))]) := (hp_1534.2 (ad 22) (hin 22 134 (by omega) (by omega) (by omega))).trans hp_1521.1
    have f_1547 : F_1540 (ad 22) = .inr (3, [.ref (ad 23), .int (nI (st.2.1 - 1 * st.1)), .int (nI (st.2.2.1 + 1 * st.1)), .int (nI (st.2.2.2.1 + 1)), .int (nI (st.2.2.2.2.1))]) := (o_1545 (ad 22) (fun i hS => hin 22 i (by omega) (by omega) (by omega))).trans f_1546
    have f_1548 : F_1540 (ad 134) = rw7 G ((m_add ((st.2.2.2.2.2 f9)) ((st.2.2.2.2.2 g9)))) := (o_1545 (ad 134) (fun i hS => hin 134 i (by omega) (by omega) (by omega))).trans hp_1534.1
    have f_1549 : F_1514 (ad 7) = rkO (fun i => ad (8 + i)) := (o_1518 (ad 7) ).trans hrk.1
    have f_1550 : F_1520 (ad 7) = rkO (fun i => ad (8 + i)) := (hp_1521.2 (ad 7) (fun i hS => hin 7 i (by omega) (by omega) (by omega))).trans f_1549
    have f_1551 : F_1533 (ad 7) = rkO (fun i => ad (8 + i)) := (hp_1534.2 (ad 7) (hin 7 134 (by omega) (by omega) (by omega))).trans f_1550
    have f_1552 : F_1540 (ad 7) = rkO (fun i => ad (8 + i)) := (o_1545 (ad 7) (fun i hS => hin 7 i (by omega) (by omega) (by omega))).trans f_1551
    have f_1553 : F_1514 (ad 8) = rw7 G s_0 := (o_1518 (ad 8) ).trans hs_0
    have f_1554 : F_1520 (ad 8) = rw7 G s_0 := (hp_1521.2 (ad 8) (fun i hS => hin 8 i (by omega) (by omega) (by omega))).trans f_1553
    have f_1555 : F_1533 (ad 8) = rw7 G s_0 := (hp_1534.2 (ad 8) (hin 8 134 (by omega) (by omega) (by omega))).trans f_1554
    have f_1556 : F_1540 (ad 8) = rw7 G s_0 := (o_1545 (ad 8) (fun i hS => hin 8 i (by omega) (by omega) (by omega))).trans f_1555
    have f_1557 : F_1514 (ad 9) = rw7 G s_1 := (o_1518 (ad 9) ).trans hs_1
    have f_1558 : F_1520 (ad 9) = rw7 G s_1 := (hp_1521.2 (ad 9) (fun i hS => hin 9 i (by omega) (by omega) (by omega))).trans f_1557
    have f_1559 : F_1533 (ad 9) = rw7 G s_1 := (hp_1534.2 (ad 9) (hin 9 134 (by omega) (by omega) (by omega))).trans f_1558
    have f_1560 : F_1540 (ad 9) = rw7 G s_1 := (o_1545 (ad 9) (fun i hS => hin 9 i (by omega) (by omega) (by omega))).trans f_1559
    have f_1561 : F_1514 (ad 10) = rw7 G s_2 := (o_1518 (ad 10) ).trans hs_2
    have f_1562 : F_1520 (ad 10) = rw7 G s_2 := (hp_1521.2 (ad 10) (fun i hS => hin 10 i (by omega) (by omega) (by omega))).trans f_1561
    have f_1563 : F_1533 (ad 10) = rw7 G s_2 := (hp_1534.2 (ad 10) (hin 10 134 (by omega) (by omega) (by omega))).trans f_1562
    have f_1564 : F_1540 (ad 10) = rw7 G s_2 := (o_1545 (ad 10) (fun i hS => hin 10 i (by omega) (by omega) (by omega))).trans f_1563
    have f_1565 : F_1514 (ad 11) = rw7 G s_3 := (o_1518 (ad 11) ).trans hs_3
    have f_1566 : F_1520 (ad 11) = rw7 G s_3 := (hp_1521.2 (ad 11) (fun i hS => hin 11 i (by omega) (by omega) (by omega))).trans f_1565
    have f_1567 : F_1533 (ad 11) = rw7 G s_3 := (hp_1534.2 (ad 11) (hin 11 134 (by omega) (by omega) (by omega))).trans f_1566
    have f_1568 : F_1540 (ad 11) = rw7 G s_3 := (o_1545 (ad 11) (fun i hS => hin 11 i (by omega) (by omega) (by omega))).trans f_1567
    have f_1569 : F_1514 (ad 12) = rw7 G s_4 := (o_1518 (ad 12) ).trans hs_4
    have f_1570 : F_1520 (ad 12) = rw7 G s_4 := (hp_1521.2 (ad 12) (fun i hS => hin 12 i (by omega) (by omega) (by omega))).trans f_1569
    have f_1571 : F_1533 (ad 12) = rw7 G s_4 := (hp_1534.2 (ad 12) (hin 12 134 (by omega) (by omega) (by omega))).trans f_1570
    have f_1572 : F_1540 (ad 12) = rw7 G s_4 := (o_1545 (ad 12) (fun i hS => hin 12 i (by omega) (by omega) (by omega))).trans f_1571
    have f_1573 : F_1514 (ad 13) = rw7 G s_5 := (o_1518 (ad 13) ).trans hs_5
    have f_1574 : F_1520 (ad 13) = rw7 G s_5 := (hp_1521.2 (ad 13) (fun i hS => hin 13 i (by omega) (by omega) (by omega))).trans f_1573
    have f_1575 : F_1533 (ad 13) = rw7 G s_5 := (hp_1534.2 (ad 13) (hin 13 134 (by omega) (by omega) (by omega))).trans f_1574
    have f_1576 : F_1540 (ad 13) = rw7 G s_5 := (o_1545 (ad 13) (fun i hS => hin 13 i (by omega) (by omega) (by omega))).trans f_1575
    have f_1577 : F_1514 (ad 14) = rw7 G s_6 := (o_1518 (ad 14) ).trans hs_6
    have f_1578 : F_1520 (ad 14) = rw7 G s_6 := (hp_1521.2 (ad 14) (fun i hS => hin 14 i (by omega) (by omega) (by omega))).trans f_1577
    have f_1579 : F_1533 (ad 14) = rw7 G s_6 := (hp_1534.2 (ad 14) (hin 14 134 (by omega) (by omega) (by omega))).trans f_1578
    have f_1580 : F_1540 (ad 14) = rw7 G s_6 := (o_1545 (ad 14) (fun i hS => hin 14 i (by omega) (by omega) (by omega))).trans f_1579
    have f_1581 : F_1514 (ad 15) = rw7 G s_7 := (o_1518 (ad 15) ).trans hs_7
    have f_1582 : F_1520 (ad 15) = rw7 G s_7 := (hp_1521.2 (ad 15) (fun i hS => hin 15 i (by omega) (by omega) (by omega))).trans f_1581
    have f_1583 : F_1533 (ad 15) = rw7 G s_7 := (hp_1534.2 (ad 15) (hin 15 134 (by omega) (by omega) (by omega))).trans f_1582
    have f_1584 : F_1540 (ad 15) = rw7 G s_7 := (o_1545 (ad 15) (fun i hS => hin 15 i (by omega) (by omega) (by omega))).trans f_1583
    have f_1585 : F_1514 (ad 16) = rw7 G s_8 := (o_1518 (ad 16) ).trans hs_8
    have f_1586 : F_1520 (ad 16) = rw7 G s_8 := (hp_1521.2 (ad 16) (fun i hS => hin 16 i (by omega) (by omega) (by omega))).trans f_1585
    have f_1587 : F_1533 (ad 16) = rw7 G s_8 := (hp_1534.2 (ad 16) (hin 16 134 (by omega) (by omega) (by omega))).trans f_1586
    have f_1588 : F_1540 (ad 16) = rw7 G s_8 := (o_1545 (ad 16) (fun i hS => hin 16 i (by omega) (by omega) (by omega))).trans f_1587
    have f_1589 : F_1514 (ad 17) = rw7 G s_9 := (o_1518 (ad 17) ).trans hs_9
    have f_1590 : F_1520 (ad 17) = rw7 G s_9 := (hp_1521.2 (ad 17) (fun i hS => hin 17 i (by omega) (by omega) (by omega))).trans f_1589
    have f_1591 : F_1533 (ad 17) = rw7 G s_9 := (hp_1534.2 (ad 17) (hin 17 134 (by omega) (by omega) (by omega))).trans f_1590
    have f_1592 : F_1540 (ad 17) = rw7 G s_9 := (o_1545 (ad 17) (fun i hS => hin 17 i (by omega) (by omega) (by omega))).trans f_1591
    have f_1593 : F_1514 (ad 18) = rw7 G s_10 := (o_1518 (ad 18) ).trans hs_10
    have f_1594 : F_1520 (ad 18) = rw7 G s_10 := (hp_1521.2 (ad 18) (fun i hS => hin 18 i (by omega) (by omega) (by omega))).trans f_1593
    have f_1595 : F_1533 (ad 18) = rw7 G s_10 := (hp_1534.2 (ad 18) (hin 18 134 (by omega) (by omega) (by omega))).trans f_1594
    have f_1596 : F_1540 (ad 18) = rw7 G s_10 := (o_1545 (ad 18) (fun i hS => hin 18 i (by omega) (by omega) (by omega))).trans f_1595
    have f_1597 : F_1514 (ad 19) = rw7 G s_11 := (o_1518 (ad 19) ).trans hs_11
    have f_1598 : F_1520 (ad 19) = rw7 G s_11 := (hp_1521.2 (ad 19) (fun i hS => hin 19 i (by omega) (by omega) (by omega))).trans f_1597
    have f_1599 : F_1533 (ad 19) = rw7 G s_11 := (hp_1534.2 (ad 19) (hin 19 134 (by omega) (by omega) (by omega))).trans f_1598
    have f_1600 : F_1540 (ad 19) = rw7 G s_11 := (o_1545 (ad 19) (fun i hS => hin 19 i (by omega) (by omega) (by omega))).trans f_1599
    have f_1601 : F_1514 (ad 20) = rw7 G s_12 := (o_1518 (ad 20) ).trans hs_12
    have f_1602 : F_1520 (ad 20) = rw7 G s_12 := (hp_1521.2 (ad 20) (fun i hS => hin 20 i (by omega) (by omega) (by omega))).trans f_1601
    have f_1603 : F_1533 (ad 20) = rw7 G s_12 := (hp_1534.2 (ad 20) (hin 20 134 (by omega) (by omega) (by omega))).trans f_1602
    have f_1604 : F_1540 (ad 20) = rw7 G s_12 := (o_1545 (ad 20) (fun i hS => hin 20 i (by omega) (by omega) (by omega))).trans f_1603
    have f_1605 : F_1514 (ad 21) = rw7 G s_13 := (o_1518 (ad 21) ).trans hs_13
    have f_1606 : F_1520 (ad 21) = rw7 G s_13 := (hp_1521.2 (ad 21) (fun i hS => hin 21 i (by omega) (by omega) (by omega))).trans f_1605
    have f_1607 : F_1533 (ad 21) = rw7 G s_13 := (hp_1534.2 (ad 21) (hin 21 134 (by omega) (by omega) (by omega))).trans f_1606
    have f_1608 : F_1540 (ad 21) = rw7 G s_13 := (o_1545 (ad 21) (fun i hS => hin 21 i (by omega) (by omega) (by omega))).trans f_1607
    exact r_i C0 hr hlk hw (v := (lowR ((m_add ((st.2.2.2.2.2 f9)) ((st.2.2.2.2.2 g9)))))) rfl ⟨rfl, sta_row hn (t := ordT 115 t9) (u := ordR 115 f9 g9 st.1 st.2.2.2.2.2) (by unfold ordT; simp; omega) f_1547 rfl rfl (f_1544) (fun i0 hi => by simp [ordT] at hi; exact ((o_1545 (ad (i0)) (fun i hS => hin (i0) i (by omega) (by omega) (by omega)))).trans (((hp_1534.2 (ad (i0)) (hin (i0) 134 (by omega) (by omega) (by omega)))).trans (((hp_1521.2 (ad (i0)) (fun i hS => hin (i0) i (by omega) (by omega) (by omega)))).trans ((o_1518 (ad (i0)) ))))), ⟨f_1552, lt14 ⟨_, f_1556⟩ ⟨_, f_1560⟩ ⟨_, f_1564⟩ ⟨_, f_1568⟩ ⟨_, f_1572⟩ ⟨_, f_1576⟩ ⟨_, f_1580⟩ ⟨_, f_1584⟩ ⟨_, f_1588⟩ ⟨_, f_1592⟩ ⟨_, f_1596⟩ ⟨_, f_1600⟩ ⟨_, f_1604⟩ ⟨_, f_1608⟩⟩, ⟨_, f_1548⟩, (fun q hq => ((o_1545 q (fun i hS => hq i (by omega))).trans ((hp_1534.2 q (hq 134 (by omega))).trans ((hp_1521.2 q (fun i hS => hq i (by omega))).trans (o_1518 q )))))⟩ (Nat.le_refl _) (Nat.le_refl _) dX5_carryOut_223 hQ
  · skip
    exact absurd c_11 (by omega)
set_option maxHeartbeats 4000000 in
set_option maxRecDepth 100000 in
theorem c_X5_carryOut_119 (l : Launch) (G : Gl) (L : List Nat) (F : Nat → va_E) (ad : Nat → Nat) (hL : ∀ i, i < 166 → ad i ∈ L) (hin : ∀ i j, i < 166 → j < 166 → i ≠ j → ad i ≠ ad j) (f9 g9 t9 : Nat) (st : Sta) (u9 : Nat → ZP) (fx : F (ad 0) = xO ad) (hn : sta G F ad 22 st) (hrk : rkW G F ad) (h134 : F (ad 134) = rw7 G u9) (hf9 : f9 < 6) (hg9 : g9 < 6) (ht9 : t9 < 6) (hm : 20 * st.1 ≤ st.2.1) (hc : st.1 ≤ 6) (hc2 : 2 ≤ st.1) (hpu : st.2.1 ≤ 100000) : CI l yX5_carryOut cX5_carryOut 8 (some .int) rm_X5_carryOut G L F [.ref (ad 0), .int (nI (119)), .int (nI (f9)), .int (nI (g9)), .int (nI (t9))] (fun r F1 => r = lowR (ordR 119 f9 g9 st.1 st.2.2.2.2.2) ∧ sta G F1 ad 22 (ordS 119 f9 g9 t9 st) ∧ rkW G F1 ad ∧ (∃ u, F1 (ad 134) = rw7 G u) ∧ ∀ q, (∀ i, (i = 22 ∨ (26 ≤ i ∧ i < 38) ∨ (8 ≤ i ∧ i < 22) ∨ i = 134) → q ≠ ad i) → F1 q = F q) := by
  obtain ⟨s_13, hs_13⟩ := hrk.2 13 (by decide)
  obtain ⟨s_12, hs_12⟩ := hrk.2 12 (by decide)
  obtain ⟨s_11, hs_11⟩ := hrk.2 11 (by decide)
  obtain ⟨s_10, hs_10⟩ := hrk.2 10 (by decide)
  obtain ⟨s_9, hs_9⟩ := hrk.2 9 (by decide)
  obtain ⟨s_8, hs_8⟩ := hrk.2 8 (by decide)
  obtain ⟨s_7, hs_7⟩ := hrk.2 7 (by decide)
  obtain ⟨s_6, hs_6⟩ := hrk.2 6 (by decide)
  obtain ⟨s_5, hs_5⟩ := hrk.2 5 (by decide)
  obtain ⟨s_4, hs_4⟩ := hrk.2 4 (by decide)
  obtain ⟨s_3, hs_3⟩ := hrk.2 3 (by decide)
  obtain ⟨s_2, hs_2⟩ := hrk.2 2 (by decide)
  obtain ⟨s_1, hs_1⟩ := hrk.2 1 (by decide)
  obtain ⟨s_0, hs_0⟩ := hrk.2 0 (by decide)
  refine CG_of (by decide) (Nat.le_of_ble_eq_true rfl) rfl ?_
  intro p e s m args below meth c Q C0 hr hlk hnm hQ hw ls hl
  have hx := C0.x
  have hb := C0.b
  refine lv_aload_n hx hb dX5_carryOut_0 rfl (lv_at hl 0 rfl) ?_
  refine lv_iload_n hx hb dX5_carryOut_1 rfl (lv_at hl 1 rfl) ?_
  refine q_calli hw (q_runS (As := [.int (nI (119))]) (c_X5_unitsOf_119 l G L F ) C0 hw sw_X5_225 rfl hl.1 rfl (Nat.le_of_ble_eq_true rfl) dX5_carryOut_2 ⟨by decide, by decide⟩ ⟨by decide, by decide⟩) rfl rfl (fun r_1611 F_1609 H locs hw hp_1610 => ?_)
  obtain ⟨he_1612, o_1613⟩ := hp_1610
  subst he_1612
  have f_1614 : F_1609 (ad 0) = xO ad := (o_1613 (ad 0) ).trans fx
  refine q_callv hw (q_runV (As := [.int (nI (20))]) (c_X5_pay l G L F_1609 ad hL hin 20 st f_1614 (hn.keep (fun i0 hi => (o_1613 (ad (i0)) ))) (by omega)) C0 hw vw_X5_114 ((hL 0 (by omega))) f_1614 rfl rfl rfl hl.1 rfl (Nat.le_of_ble_eq_true rfl) dX5_carryOut_5 ⟨by decide, by decide⟩ ⟨by decide, by decide⟩) rfl rfl (fun F_1615 H locs hw hp_1616 => ?_)
  refine lv_iload_n hx hb dX5_carryOut_8 rfl (lv_at hl 1 rfl) ?_
  refine lv_bipush (v := nI 98) hx hb dX5_carryOut_9 (by decide) ?_
  refine n_icmp_ne (tgt := 27) hx hb dX5_carryOut_11 (by decide) (by decide) (by decide) (fun c_11 => ?_) (fun c_11 => ?_)
  · skip
    refine lv_aload_n hx hb dX5_carryOut_27 rfl (lv_at hl 0 rfl) ?_
    have f_1617 : F_1615 (ad 0) = xO ad := (hp_1616.2 (ad 0) (fun i hS => hin 0 i (by omega) (by omega) (by omega))).trans f_1614
    refine q_get C0 hw ((hL 0 (by omega))) f_1617 fw_X5_12 rfl dX5_carryOut_28 ?_
    refine q_get C0 hw ((hL 22 (by omega))) hp_1616.1 fw_X5_66 rfl dX5_carryOut_31 ?_
    have f_1618 : F_1609 (ad 23) = .inr (2, [.int (nI (st.1)), .ref (ad 24), .ref (ad 25)]) := (o_1613 (ad 23) ).trans hn.2.1
    have f_1619 : F_1615 (ad 23) = .inr (2, [.int (nI (st.1)), .ref (ad 24), .ref (ad 25)]) := (hp_1616.2 (ad 23) (fun i hS => hin 23 i (by omega) (by omega) (by omega))).trans f_1618
    refine q_get C0 hw ((hL 23 (by omega))) f_1619 fw_X5_85 rfl dX5_carryOut_34 ?_
    refine lv_astore (lv' := [(5, .ref (ad 24)), (0, .ref (ad 0)), (1, .int (nI (119))), (2, .int (nI (f9))), (3, .int (nI (g9))), (4, .int (nI (t9)))]) hx hb dX5_carryOut_37 hl (by decide) rfl (fun ls hl => ?_)
    refine lv_aload_n hx hb dX5_carryOut_39 rfl (lv_at hl 1 rfl) ?_
    refine q_get C0 hw ((hL 0 (by omega))) f_1617 fw_X5_12 rfl dX5_carryOut_40 ?_
    refine q_get C0 hw ((hL 22 (by omega))) hp_1616.1 fw_X5_66 rfl dX5_carryOut_43 ?_
    refine q_get C0 hw ((hL 23 (by omega))) f_1619 fw_X5_93 rfl dX5_carryOut_46 ?_
    refine lv_astore (lv' := [(6, .ref (ad 25)), (5, .ref (ad 24)), (0, .ref (ad 0)), (1, .int (nI (119))), (2, .int (nI (f9))), (3, .int (nI (g9))), (4, .int (nI (t9)))]) hx hb dX5_carryOut_49 hl (by decide) rfl (fun ls hl => ?_)
    refine lv_aload_n hx hb dX5_carryOut_51 rfl (lv_at hl 2 rfl) ?_
    refine q_get C0 hw ((hL 0 (by omega))) f_1617 fw_X5_12 rfl dX5_carryOut_52 ?_
    refine q_get C0 hw ((hL 22 (by omega))) hp_1616.1 fw_X5_66 rfl dX5_carryOut_55 ?_
    refine q_get C0 hw ((hL 23 (by omega))) f_1619 fw_X5_70 rfl dX5_carryOut_58 ?_
    refine lv_istore (lv' := [(7, .int (nI (st.1))), (6, .ref (ad 25)), (5, .ref (ad 24)), (0, .ref (ad 0)), (1, .int (nI (119))), (2, .int (nI (f9))), (3, .int (nI (g9))), (4, .int (nI (t9)))]) hx hb dX5_carryOut_61 hl (by decide) rfl (fun ls hl => ?_)
    refine lv_iload_n hx hb dX5_carryOut_63 rfl (lv_at hl 4 rfl) ?_
    refine lv_tableIn (off := 160) (tgt := 224) hx hb dX5_carryOut_64 (by decide) (by decide) rfl (by decide) ?_
    refine lv_aload_n hx hb dX5_carryOut_224 rfl (lv_at hl 3 rfl) ?_
    refine q_get C0 hw ((hL 0 (by omega))) f_1617 fw_X5_44 rfl dX5_carryOut_225 ?_
    refine lv_aload hx hb dX5_carryOut_228 (lv_at hl 2 rfl) ?_
    refine lv_iload_n hx hb dX5_carryOut_230 rfl (lv_at hl 5 rfl) ?_
    have f_1620 : F_1609 (ad 24) = oE G (fun i => ad (26 + i)) := (o_1613 (ad 24) ).trans hn.2.2.1
    have f_1621 : F_1615 (ad 24) = oE G (fun i => ad (26 + i)) := (hp_1616.2 (ad 24) (fun i hS => hin 24 i (by omega) (by omega) (by omega))).trans f_1620
    refine q_aaldi C0 hw ((hL 24 (by omega))) f_1621 (f9) (by omega) (by decide) (b := ad (26 + f9)) rfl dX5_carryOut_231 ?_
    refine lv_aload hx hb dX5_carryOut_232 (lv_at hl 2 rfl) ?_
    refine lv_iload_n hx hb dX5_carryOut_234 rfl (lv_at hl 6 rfl) ?_
    refine q_aaldi C0 hw ((hL 24 (by omega))) f_1621 (g9) (by omega) (by decide) (b := ad (26 + g9)) rfl dX5_carryOut_235 ?_
    refine lv_iconst (v := nI 5) hx hb dX5_carryOut_236 (by decide) ?_
    refine lv_iload hx hb dX5_carryOut_237 (lv_at hl 0 rfl) ?_
    refine lv_aload_n hx hb dX5_carryOut_239 rfl (lv_at hl 3 rfl) ?_
    refine q_get C0 hw ((hL 0 (by omega))) f_1617 fw_X5_48 rfl dX5_carryOut_240 ?_
    have f_1622 : F_1609 (ad (26 + f9)) = rw7 G ((st.2.2.2.2.2 f9)) := (o_1613 (ad (26 + f9)) ).trans ((hn.2.2.2.2 f9 (by omega)))
    have f_1623 : F_1615 (ad (26 + f9)) = rw7 G ((st.2.2.2.2.2 f9)) := (hp_1616.2 (ad (26 + f9)) (fun i hS => hin (26 + f9) i (by omega) (by omega) (by omega))).trans f_1622
    have f_1624 : F_1609 (ad (26 + g9)) = rw7 G ((st.2.2.2.2.2 g9)) := (o_1613 (ad (26 + g9)) ).trans ((hn.2.2.2.2 g9 (by omega)))
    have f_1625 : F_1615 (ad (26 + g9)) = rw7 G ((st.2.2.2.2.2 g9)) := (hp_1616.2 (ad (26 + g9)) (fun i hS => hin (26 + g9) i (by omega) (by omega) (by omega))).trans f_1624
    have f_1626 : F_1609 (ad 134) = rw7 G u9 := (o_1613 (ad 134) ).trans h134
    have f_1627 : F_1615 (ad 134) = rw7 G u9 := (hp_1616.2 (ad 134) (fun i hS => hin 134 i (by omega) (by omega) (by omega))).trans f_1626
    have f_1628 : F_1609 (ad 16) = rw7 G s_8 := (o_1613 (ad 16) ).trans hs_8
    have f_1629 : F_1615 (ad 16) = rw7 G s_8 := (hp_1616.2 (ad 16) (fun i hS => hin 16 i (by omega) (by omega) (by omega))).trans f_1628
    have f_1630 : F_1609 (ad 17) = rw7 G s_9 := (o_1613 (ad 17) ).trans hs_9
    have f_1631 : F_1615 (ad 17) = rw7 G s_9 := (hp_1616.2 (ad 17) (fun i hS => hin 17 i (by omega) (by omega) (by omega))).trans f_1630
    have f_1632 : F_1609 (ad 18) = rw7 G s_10 := (o_1613 (ad 18) ).trans hs_10
    have f_1633 : F_1615 (ad 18) = rw7 G s_10 := (hp_1616.2 (ad 18) (fun i hS => hin 18 i (by omega) (by omega) (by omega))).trans f_1632
    have f_1634 : F_1609 (ad 8) = rw7 G s_0 := (o_1613 (ad 8) ).trans hs_0
    have f_1635 : F_1615 (ad 8) = rw7 G s_0 := (hp_1616.2 (ad 8) (fun i hS => hin 8 i (by omega) (by omega) (by omega))).trans f_1634
    have f_1636 : F_1609 (ad 7) = rkO (fun i => ad (8 + i)) := (o_1613 (ad 7) ).trans hrk.1
    have f_1637 : F_1615 (ad 7) = rkO (fun i => ad (8 + i)) := (hp_1616.2 (ad 7) (fun i hS => hin 7 i (by omega) (by omega) (by omega))).trans f_1636
    refine q_callv hw (q_runV (As := [.ref (ad (26 + f9)), .ref (ad (26 + g9)), .int (nI (5)), .int (nI (st.1)), .ref (ad 134)]) (c_X1_secondWay l G L F_1615 (ad 7) (fun i => ad (8 + i)) (ad (26 + f9)) (ad (26 + g9)) (ad 134) (st.1) ((st.2.2.2.2.2 f9)) ((st.2.2.2.2.2 g9)) u9 s_8 s_9 s_10 s_0 5 ((hL 7 (by omega))) f_1637 (fun i hi => hL (8 + i) (by omega)) (ra_inj hin) ((hL (26 + f9) (by omega))) f_1623 ((hL (26 + g9) (by omega))) f_1625 ((hL 134 (by omega))) f_1627 f_1629 f_1631 f_1633 f_1635 (hin (26 + f9) 134 (by omega) (by omega) (by omega)) (hin (26 + g9) 134 (by omega) (by omega) (by omega)) (hin (26 + f9) 16 (by omega) (by omega) (by omega)) (hin (26 + g9) 16 (by omega) (by omega) (by omega)) (hin 134 16 (by omega) (by omega) (by omega)) (hin (26 + f9) 17 (by omega) (by omega) (by omega)) (hin (26 + g9) 17 (by omega) (by omega) (by omega)) (hin 134 17 (by omega) (by omega) (by omega)) (hin (26 + f9) 18 (by omega) (by omega) (by omega)) (hin (26 + g9) 18 (by omega) (by omega) (by omega)) (hin 134 18 (by omega) (by omega) (by omega)) (hin (26 + f9) 8 (by omega) (by omega) (by omega)) (hin (26 + g9) 8 (by omega) (by omega) (by omega)) (hin 134 8 (by omega) (by omega) (by omega)) (by omega) (by omega) (by omega) (by omega)) C0 hw vw_X5_312 ((hL 7 (by omega))) f_1637 rfl rfl rfl hl.1 rfl (Nat.le_of_ble_eq_true rfl) dX5_carryOut_243 ⟨by decide, by decide⟩ ⟨by decide, by decide⟩) rfl rfl (fun F_1638 H locs hw hp_1639 => ?_)
    obtain ⟨f_1640, ⟨t_1645, f_1641⟩, ⟨t_1646, f_1642⟩, ⟨t_1647, f_1643⟩, ⟨t_1648, f_1644⟩, o_1649⟩ := hp_1639
    refine lv_aload_n hx hb dX5_carryOut_246 rfl (lv_at hl 3 rfl) ?_
    refine lv_aload hx hb dX5_carryOut_247 (lv_at hl 2 rfl) ?_
    refine lv_iload hx hb dX5_carryOut_249 (lv_at hl 7 rfl) ?_
    have f_1650 : F_1638 (ad 24) = oE G (fun i => ad (26 + i)) := (o_1649 (ad 24) (hin 24 134 (by omega) (by omega) (by omega)) (hin 24 16 (by omega) (by omega) (by omega)) (hin 24 17 (by omega) (by omega) (by omega)) (hin 24 18 (by omega) (by omega) (by omega)) (hin 24 8 (by omega) (by omega) (by omega))).trans f_1621
    refine q_aaldi C0 hw ((hL 24 (by omega))) f_1650 (t9) (by omega) (by decide) (b := ad (26 + t9)) rfl dX5_carryOut_251 ?_
    have f_1651 : F_1609 (ad (26 + t9)) = rw7 G ((st.2.2.2.2.2 t9)) := (o_1613 (ad (26 + t9)) ).trans ((hn.2.2.2.2 t9 (by omega)))
    have f_1652 : F_1615 (ad (26 + t9)) = rw7 G ((st.2.2.2.2.2 t9)) := (hp_1616.2 (ad (26 + t9)) (fun i hS => hin (26 + t9) i (by omega) (by omega) (by omega))).trans f_1651
    have f_1653 : F_1638 (ad (26 + t9)) = rw7 G ((st.2.2.2.2.2 t9)) := (o_1649 (ad (26 + t9)) (hin (26 + t9) 134 (by omega) (by omega) (by omega)) (hin (26 + t9) 16 (by omega) (by omega) (by omega)) (hin (26 + t9) 17 (by omega) (by omega) (by omega)) (hin (26 + t9) 18 (by omega) (by omega) (by omega)) (hin (26 + t9) 8 (by omega) (by omega) (by omega))).trans f_1652
    have f_1654 : F_1638 (ad 0) = xO ad := (o_1649 (ad 0) (hin 0 134 (by omega) (by omega) (by omega)) (hin 0 16 (by omega) (by omega) (by omega)) (hin 0 17 (by omega) (by omega) (by omega)) (hin 0 18 (by omega) (by omega) (by omega)) (hin 0 8 (by omega) (by omega) (by omega))).trans f_1617
    refine q_calli hw (q_runV (As := [.ref (ad (26 + t9))]) (c_X5_put l G L F_1638 ad hL hin t9 ((m_way ((st.2.2.2.2.2 f9)) ((st.2.2.2.2.2 g9)) 5 (st.1))) ((st.2.2.2.2.2 t9)) f_1654 f_1640 f_1653 (by omega)) C0 hw vw_X5_127 ((hL 0 (by omega))) f_1654 rfl rfl rfl hl.1 rfl (Nat.le_of_ble_eq_true rfl) dX5_carryOut_252 ⟨by decide, by decide⟩ ⟨by decide, by decide⟩) rfl rfl (fun r_1657 F_1655 H locs hw hp_1656 => ?_)
    obtain ⟨he_1658, f_1659, o_1660⟩ := hp_1656
    subst he_1658
    have f_1661 : F_1638 (ad 22) = .inr (3, [.ref (ad 23), .int (nI (st.2.1 - 20 * st.1)), .int (nI (st.2.2.1 + 20 * st.1)), .int (nI (st.2.2.2.1 + 1)), .int (nI (st.2.2.2.2.1))]) := (o_1649 (ad 22) (hin 22 134 (by omega) (by omega) (by omega)) (hin 22 16 (by omega) (by omega) (by omega)) (hin 22 17 (by omega) (by omega) (by omega)) (hin 22 18 (by omega) (by omega) (by omega)) (hin 22 8 (by omega) (by omega) (by omega))).trans hp_1616.1
    have f_1662 : F_1655 (ad 22) = .inr (3, [.ref (ad 23), .int (nI (st.2.1 - 20 * st.1)), .int (nI (st.2.2.1 + 20 * st.1)), .int (nI (st.2.2.2.1 + 1)), .int (nI (st.2.2.2.2.1))]) := (o_1660 (ad 22) (fun i hS => hin 22 i (by omega) (by omega) (by omega))).trans f_1661
    have f_1663 : F_1655 (ad 134) = rw7 G ((m_way ((st.2.2.2.2.2 f9)) ((st.2.2.2.2.2 g9)) 5 (st.1))) := (o_1660 (ad 134) (fun i hS => hin 134 i (by omega) (by omega) (by omega))).trans f_1640
    have f_1664 : F_1638 (ad 7) = rkO (fun i => ad (8 + i)) := (o_1649 (ad 7) (hin 7 134 (by omega) (by omega) (by omega)) (hin 7 16 (by omega) (by omega) (by omega)) (hin 7 17 (by omega) (by omega) (by omega)) (hin 7 18 (by omega) (by omega) (by omega)) (hin 7 8 (by omega) (by omega) (by omega))).trans f_1637
    have f_1665 : F_1655 (ad 7) = rkO (fun i => ad (8 + i)) := (o_1660 (ad 7) (fun i hS => hin 7 i (by omega) (by omega) (by omega))).trans f_1664
    have f_1666 : F_1655 (ad 8) = rw7 G t_1648 := (o_1660 (ad 8) (fun i hS => hin 8 i (by omega) (by omega) (by omega))).trans f_1644
    have f_1667 : F_1609 (ad 9) = rw7 G s_1 := (o_1613 (ad 9) ).trans hs_1
    have f_1668 : F_1615 (ad 9) = rw7 G s_1 := (hp_1616.2 (ad 9) (fun i hS => hin 9 i (by omega) (by omega) (by omega))).trans f_1667
    have f_1669 : F_1638 (ad 9) = rw7 G s_1 := (o_1649 (ad 9) (hin 9 134 (by omega) (by omega) (by omega)) (hin 9 16 (by omega) (by omega) (by omega)) (hin 9 17 (by omega) (by omega) (by omega)) (hin 9 18 (by omega) (by omega) (by omega)) (hin 9 8 (by omega) (by omega) (by omega))).trans f_1668
    have f_1670 : F_1655 (ad 9) = rw7 G s_1 := (o_1660 (ad 9) (fun i hS => hin 9 i (by omega) (by omega) (by omega))).trans f_1669
    have f_1671 : F_1609 (ad 10) = rw7 G s_2 := (o_1613 (ad 10) ).trans hs_2
    have f_1672 : F_1615 (ad 10) = rw7 G s_2 := (hp_1616.2 (ad 10) (fun i hS => hin 10 i (by omega) (by omega) (by omega))).trans f_1671
    have f_1673 : F_1638 (ad 10) = rw7 G s_2 := (o_1649 (ad 10) (hin 10 134 (by omega) (by omega) (by omega)) (hin 10 16 (by omega) (by omega) (by omega)) (hin 10 17 (by omega) (by omega) (by omega)) (hin 10 18 (by omega) (by omega) (by omega)) (hin 10 8 (by omega) (by omega) (by omega))).trans f_1672
    have f_1674 : F_1655 (ad 10) = rw7 G s_2 := (o_1660 (ad 10) (fun i hS => hin 10 i (by omega) (by omega) (by omega))).trans f_1673
    have f_1675 : F_1609 (ad 11) = rw7 G s_3 := (o_1613 (ad 11) ).trans hs_3
    have f_1676 : F_1615 (ad 11) = rw7 G s_3 := (hp_1616.2 (ad 11) (fun i hS => hin 11 i (by omega) (by omega) (by omega))).trans f_1675
    have f_1677 : F_1638 (ad 11) = rw7 G s_3 := (o_1649 (ad 11) (hin 11 134 (by omega) (by omega) (by omega)) (hin 11 16 (by omega) (by omega) (by omega)) (hin 11 17 (by omega) (by omega) (by omega)) (hin 11 18 (by omega) (by omega) (by omega)) (hin 11 8 (by omega) (by omega) (by omega))).trans f_1676
    have f_1678 : F_1655 (ad 11) = rw7 G s_3 := (o_1660 (ad 11) (fun i hS => hin 11 i (by omega) (by omega) (by omega))).trans f_1677
    have f_1679 : F_1609 (ad 12) = rw7 G s_4 := (o_1613 (ad 12) ).trans hs_4
    have f_1680 : F_1615 (ad 12) = rw7 G s_4 := (hp_1616.2 (ad 12) (fun i hS => hin 12 i (by omega) (by omega) (by omega))).trans f_1679
    have f_1681 : F_1638 (ad 12) = rw7 G s_4 := (o_1649 (ad 12) (hin 12 134 (by omega) (by omega) (by omega)) (hin 12 16 (by omega) (by omega) (by omega)) (hin 12 17 (by omega) (by omega) (by omega)) (hin 12 18 (by omega) (by omega) (by omega)) (hin 12 8 (by omega) (by omega) (by omega))).trans f_1680
    have f_1682 : F_1655 (ad 12) = rw7 G s_4 := (o_1660 (ad 12) (fun i hS => hin 12 i (by omega) (by omega) (by omega))).trans f_1681
    have f_1683 : F_1609 (ad 13) = rw7 G s_5 := (o_1613 (ad 13) ).trans hs_5
    have f_1684 : F_1615 (ad 13) = rw7 G s_5 := (hp_1616.2 (ad 13) (fun i hS => hin 13 i (by omega) (by omega) (by omega))).trans f_1683
    have f_1685 : F_1638 (ad 13) = rw7 G s_5 := (o_1649 (ad 13) (hin 13 134 (by omega) (by omega) (by omega)) (hin 13 16 (by omega) (by omega) (by omega)) (hin 13 17 (by omega) (by omega) (by omega)) (hin 13 18 (by omega) (by omega) (by omega)) (hin 13 8 (by omega) (by omega) (by omega))).trans f_1684
    have f_1686 : F_1655 (ad 13) = rw7 G s_5 := (o_1660 (ad 13) (fun i hS => hin 13 i (by omega) (by omega) (by omega))).trans f_1685
    have f_1687 : F_1609 (ad 14) = rw7 G s_6 := (o_1613 (ad 14) ).trans hs_6
    have f_1688 : F_1615 (ad 14) = rw7 G s_6 := (hp_1616.2 (ad 14) (fun i hS => hin 14 i (by omega) (by omega) (by omega))).trans f_1687
    have f_1689 : F_1638 (ad 14) = rw7 G s_6 := (o_1649 (ad 14) (hin 14 134 (by omega) (by omega) (by omega)) (hin 14 16 (by omega) (by omega) (by omega)) (hin 14 17 (by omega) (by omega) (by omega)) (hin 14 18 (by omega) (by omega) (by omega)) (hin 14 8 (by omega) (by omega) (by omega))).trans f_1688
    have f_1690 : F_1655 (ad 14) = rw7 G s_6 := (o_1660 (ad 14) (fun i hS => hin 14 i (by omega) (by omega) (by omega))).trans f_1689
    have f_1691 : F_1609 (ad 15) = rw7 G s_7 := (o_1613 (ad 15) ).trans hs_7
    have f_1692 : F_1615 (ad 15) = rw7 G s_7 := (hp_1616.2 (ad 15) (fun i hS => hin 15 i (by omega) (by omega) (by omega))).trans f_1691
    have f_1693 : F_1638 (ad 15) = rw7 G s_7 := (o_1649 (ad 15) (hin 15 134 (by omega) (by omega) (by omega)) (hin 15 16 (by omega) (by omega) (by omega)) (hin 15 17 (by omega) (by omega) (by omega)) (hin 15 18 (by omega) (by omega) (by omega)) (hin 15 8 (by omega) (by omega) (by omega))).trans f_1692
    have f_1694 : F_1655 (ad 15) = rw7 G s_7 := (o_1660 (ad 15) (fun i hS => hin 15 i (by omega) (by omega) (by omega))).trans f_1693
    have f_1695 : F_1655 (ad 16) = rw7 G t_1645 := (o_1660 (ad 16) (fun i hS => hin 16 i (by omega) (by omega) (by omega))).trans f_1641
    have f_1696 : F_1655 (ad 17) = rw7 G t_1646 := (o_1660 (ad 17) (fun i hS => hin 17 i (by omega) (by omega) (by omega))).trans f_1642
    have f_1697 : F_1655 (ad 18) = rw7 G t_1647 := (o_1660 (ad 18) (fun i hS => hin 18 i (by omega) (by omega) (by omega))).trans f_1643
    have f_1698 : F_1609 (ad 19) = rw7 G s_11 := (o_1613 (ad 19) ).trans hs_11
    have f_1699 : F_1615 (ad 19) = rw7 G s_11 := (hp_1616.2 (ad 19) (fun i hS => hin 19 i (by omega) (by omega) (by omega))).trans f_1698
    have f_1700 : F_1638 (ad 19) = rw7 G s_11 := (o_1649 (ad 19) (hin 19 134 (by omega) (by omega) (by omega)) (hin 19 16 (by omega) (by omega) (by omega)) (hin 19 17 (by omega) (by omega) (by omega)) (hin 19 18 (by omega) (by omega) (by omega)) (hin 19 8 (by omega) (by omega) (by omega))).trans f_1699
    have f_1701 : F_1655 (ad 19) = rw7 G s_11 := (o_1660 (ad 19) (fun i hS => hin 19 i (by omega) (by omega) (by omega))).trans f_1700
    have f_1702 : F_1609 (ad 20) = rw7 G s_12 := (o_1613 (ad 20) ).trans hs_12
    have f_1703 : F_1615 (ad 20) = rw7 G s_12 := (hp_1616.2 (ad 20) (fun i hS => hin 20 i (by omega) (by omega) (by omega))).trans f_1702
    have f_1704 : F_1638 (ad 20) = rw7 G s_12 := (o_1649 (ad 20) (hin 20 134 (by omega) (by omega) (by omega)) (hin 20 16 (by omega) (by omega) (by omega)) (hin 20 17 (by omega) (by omega) (by omega)) (hin 20 18 (by omega) (by omega) (by omega)) (hin 20 8 (by omega) (by omega) (by omega))).trans f_1703
    have f_1705 : F_1655 (ad 20) = rw7 G s_12 := (o_1660 (ad 20) (fun i hS => hin 20 i (by omega) (by omega) (by omega))).trans f_1704
    have f_1706 : F_1609 (ad 21) = rw7 G s_13 := (o_1613 (ad 21) ).trans hs_13
    have f_1707 : F_1615 (ad 21) = rw7 G s_13 := (hp_1616.2 (ad 21) (fun i hS => hin 21 i (by omega) (by omega) (by omega))).trans f_1706
    have f_1708 : F_1638 (ad 21) = rw7 G s_13 := (o_1649 (ad 21) (hin 21 134 (by omega) (by omega) (by omega)) (hin 21 16 (by omega) (by omega) (by omega)) (hin 21 17 (by omega) (by omega) (by omega)) (hin 21 18 (by omega) (by omega) (by omega)) (hin 21 8 (by omega) (by omega) (by omega))).trans f_1707
    have f_1709 : F_1655 (ad 21) = rw7 G s_13 := (o_1660 (ad 21) (fun i hS => hin 21 i (by omega) (by omega) (by omega))).trans f_1708
    exact r_i C0 hr hlk hw (v := (lowR ((m_way ((st.2.2.2.2.2 f9)) ((st.2.2.2.2.2 g9)) 5 (st.1))))) rfl ⟨rfl, sta_row hn (t := ordT 119 t9) (u := ordR 119 f9 g9 st.1 st.2.2.2.2.2) (by unfold ordT; simp; omega) f_1662 rfl rfl (f_1659) (fun i0 hi => by simp [ordT] at hi; exact ((o_1660 (ad (i0)) (fun i hS => hin (i0) i (by omega) (by omega) (by omega)))).trans (((o_1649 (ad (i0)) (hin (i0) 134 (by omega) (by omega) (by omega)) (hin (i0) 16 (by omega) (by omega) (by omega)) (hin (i0) 17 (by omega) (by omega) (by omega)) (hin (i0) 18 (by omega) (by omega) (by omega)) (hin (i0) 8 (by omega) (by omega) (by omega)))).trans (((hp_1616.2 (ad (i0)) (fun i hS => hin (i0) i (by omega) (by omega) (by omega)))).trans ((o_1613 (ad (i0)) ))))), ⟨f_1665, lt14 ⟨_, f_1666⟩ ⟨_, f_1670⟩ ⟨_, f_1674⟩ ⟨_, f_1678⟩ ⟨_, f_1682⟩ ⟨_, f_1686⟩ ⟨_, f_1690⟩ ⟨_, f_1694⟩ ⟨_, f_1695⟩ ⟨_, f_1696⟩ ⟨_, f_1697⟩ ⟨_, f_1701⟩ ⟨_, f_1705⟩ ⟨_, f_1709⟩⟩, ⟨_, f_1663⟩, (fun q hq => ((o_1660 q (fun i hS => hq i (by omega))).trans ((o_1649 q (hq 134 (by omega)) (hq 16 (by omega)) (hq 17 (by omega)) (hq 18 (by omega)) (hq 8 (by omega))).trans ((hp_1616.2 q (fun i hS => hq i (by omega))).trans (o_1613 q )))))⟩ (Nat.le_refl _) (Nat.le_refl _) dX5_carryOut_255 hQ
  · skip
    exact absurd c_11 (by omega)
set_option maxHeartbeats 4000000 in
set_option maxRecDepth 100000 in
theorem c_X5_carryOut_112 (l : Launch) (G : Gl) (L : List Nat) (F : Nat → va_E) (ad : Nat → Nat) (hL : ∀ i, i < 166 → ad i ∈ L) (hin : ∀ i j, i < 166 → j < 166 → i ≠ j → ad i ≠ ad j) (f9 g9 t9 : Nat) (st : Sta) (u9 : Nat → ZP) (fx : F (ad 0) = xO ad) (hn : sta G F ad 22 st) (hrk : rkW G F ad) (h134 : F (ad 134) = rw7 G u9) (hf9 : f9 < 6) (hg9 : g9 < 6) (ht9 : t9 < 6) (hm : 6 * st.1 ≤ st.2.1) (hc : st.1 ≤ 6) (hc2 : 2 ≤ st.1) (hpu : st.2.1 ≤ 100000) : CI l yX5_carryOut cX5_carryOut 8 (some .int) rm_X5_carryOut G L F [.ref (ad 0), .int (nI (112)), .int (nI (f9)), .int (nI (g9)), .int (nI (t9))] (fun r F1 => r = lowR (ordR 112 f9 g9 st.1 st.2.2.2.2.2) ∧ sta G F1 ad 22 (ordS 112 f9 g9 t9 st) ∧ rkW G F1 ad ∧ (∃ u, F1 (ad 134) = rw7 G u) ∧ ∀ q, (∀ i, (i = 22 ∨ (26 ≤ i ∧ i < 38) ∨ (8 ≤ i ∧ i < 22) ∨ i = 134) → q ≠ ad i) → F1 q = F q) := by
  obtain ⟨s_13, hs_13⟩ := hrk.2 13 (by decide)
  obtain ⟨s_12, hs_12⟩ := hrk.2 12 (by decide)
  obtain ⟨s_11, hs_11⟩ := hrk.2 11 (by decide)
  obtain ⟨s_10, hs_10⟩ := hrk.2 10 (by decide)
  obtain ⟨s_9, hs_9⟩ := hrk.2 9 (by decide)
  obtain ⟨s_8, hs_8⟩ := hrk.2 8 (by decide)
  obtain ⟨s_7, hs_7⟩ := hrk.2 7 (by decide)
  obtain ⟨s_6, hs_6⟩ := hrk.2 6 (by decide)
  obtain ⟨s_5, hs_5⟩ := hrk.2 5 (by decide)
  obtain ⟨s_4, hs_4⟩ := hrk.2 4 (by decide)
  obtain ⟨s_3, hs_3⟩ := hrk.2 3 (by decide)
  obtain ⟨s_2, hs_2⟩ := hrk.2 2 (by decide)
  obtain ⟨s_1, hs_1⟩ := hrk.2 1 (by decide)
  obtain ⟨s_0, hs_0⟩ := hrk.2 0 (by decide)
  refine CG_of (by decide) (Nat.le_of_ble_eq_true rfl) rfl ?_
  intro p e s m args below meth c Q C0 hr hlk hnm hQ hw ls hl
  have hx := C0.x
  have hb := C0.b
  refine lv_aload_n hx hb dX5_carryOut_0 rfl (lv_at hl 0 rfl) ?_
  refine lv_iload_n hx hb dX5_carryOut_1 rfl (lv_at hl 1 rfl) ?_
  refine q_calli hw (q_runS (As := [.int (nI (112))]) (c_X5_unitsOf_112 l G L F ) C0 hw sw_X5_225 rfl hl.1 rfl (Nat.le_of_ble_eq_true rfl) dX5_carryOut_2 ⟨by decide, by decide⟩ ⟨by decide, by decide⟩) rfl rfl (fun r_1712 F_1710 H locs hw hp_1711 => ?_)
  obtain ⟨he_1713, o_1714⟩ := hp_1711
  subst he_1713
  have f_1715 : F_1710 (ad 0) = xO ad := (o_1714 (ad 0) ).trans fx
  refine q_callv hw (q_runV (As := [.int (nI (6))]) (c_X5_pay l G L F_1710 ad hL hin 6 st f_1715 (hn.keep (fun i0 hi => (o_1714 (ad (i0)) ))) (by omega)) C0 hw vw_X5_114 ((hL 0 (by omega))) f_1715 rfl rfl rfl hl.1 rfl (Nat.le_of_ble_eq_true rfl) dX5_carryOut_5 ⟨by decide, by decide⟩ ⟨by decide, by decide⟩) rfl rfl (fun F_1716 H locs hw hp_1717 => ?_)
  refine lv_iload_n hx hb dX5_carryOut_8 rfl (lv_at hl 1 rfl) ?_
  refine lv_bipush (v := nI 98) hx hb dX5_carryOut_9 (by decide) ?_
  refine n_icmp_ne (tgt := 27) hx hb dX5_carryOut_11 (by decide) (by decide) (by decide) (fun c_11 => ?_) (fun c_11 => ?_)
  · skip
    refine lv_aload_n hx hb dX5_carryOut_27 rfl (lv_at hl 0 rfl) ?_
    have f_1718 : F_1716 (ad 0) = xO ad := (hp_1717.2 (ad 0) (fun i hS => hin 0 i (by omega) (by omega) (by omega))).trans f_1715
    refine q_get C0 hw ((hL 0 (by omega))) f_1718 fw_X5_12 rfl dX5_carryOut_28 ?_
    refine q_get C0 hw ((hL 22 (by omega))) hp_1717.1 fw_X5_66 rfl dX5_carryOut_31 ?_
    have f_1719 : F_1710 (ad 23) = .inr (2, [.int (nI (st.1)), .ref (ad 24), .ref (ad 25)]) := (o_1714 (ad 23) ).trans hn.2.1
    have f_1720 : F_1716 (ad 23) = .inr (2, [.int (nI (st.1)), .ref (ad 24), .ref (ad 25)]) := (hp_1717.2 (ad 23) (fun i hS => hin 23 i (by omega) (by omega) (by omega))).trans f_1719
    refine q_get C0 hw ((hL 23 (by omega))) f_1720 fw_X5_85 rfl dX5_carryOut_34 ?_
    refine lv_astore (lv' := [(5, .ref (ad 24)), (0, .ref (ad 0)), (1, .int (nI (112))), (2, .int (nI (f9))), (3, .int (nI (g9))), (4, .int (nI (t9)))]) hx hb dX5_carryOut_37 hl (by decide) rfl (fun ls hl => ?_)
    refine lv_aload_n hx hb dX5_carryOut_39 rfl (lv_at hl 1 rfl) ?_
    refine q_get C0 hw ((hL 0 (by omega))) f_1718 fw_X5_12 rfl dX5_carryOut_40 ?_
    refine q_get C0 hw ((hL 22 (by omega))) hp_1717.1 fw_X5_66 rfl dX5_carryOut_43 ?_
    refine q_get C0 hw ((hL 23 (by omega))) f_1720 fw_X5_93 rfl dX5_carryOut_46 ?_
    refine lv_astore (lv' := [(6, .ref (ad 25)), (5, .ref (ad 24)), (0, .ref (ad 0)), (1, .int (nI (112))), (2, .int (nI (f9))), (3, .int (nI (g9))), (4, .int (nI (t9)))]) hx hb dX5_carryOut_49 hl (by decide) rfl (fun ls hl => ?_)
    refine lv_aload_n hx hb dX5_carryOut_51 rfl (lv_at hl 2 rfl) ?_
    refine q_get C0 hw ((hL 0 (by omega))) f_1718 fw_X5_12 rfl dX5_carryOut_52 ?_
    refine q_get C0 hw ((hL 22 (by omega))) hp_1717.1 fw_X5_66 rfl dX5_carryOut_55 ?_
    refine q_get C0 hw ((hL 23 (by omega))) f_1720 fw_X5_70 rfl dX5_carryOut_58 ?_
    refine lv_istore (lv' := [(7, .int (nI (st.1))), (6, .ref (ad 25)), (5, .ref (ad 24)), (0, .ref (ad 0)), (1, .int (nI (112))), (2, .int (nI (f9))), (3, .int (nI (g9))), (4, .int (nI (t9)))]) hx hb dX5_carryOut_61 hl (by decide) rfl (fun ls hl => ?_)
    refine lv_iload_n hx hb dX5_carryOut_63 rfl (lv_at hl 4 rfl) ?_
    refine lv_tableIn (off := 192) (tgt := 256) hx hb dX5_carryOut_64 (by decide) (by decide) rfl (by decide) ?_
    refine lv_aload_n hx hb dX5_carryOut_256 rfl (lv_at hl 3 rfl) ?_
    refine q_get C0 hw ((hL 0 (by omega))) f_1718 fw_X5_44 rfl dX5_carryOut_257 ?_
    refine lv_aload hx hb dX5_carryOut_260 (lv_at hl 1 rfl) ?_
    refine lv_iload_n hx hb dX5_carryOut_262 rfl (lv_at hl 5 rfl) ?_
    have f_1721 : F_1710 (ad 25) = oE G (fun i => ad (32 + i)) := (o_1714 (ad 25) ).trans hn.2.2.2.1
    have f_1722 : F_1716 (ad 25) = oE G (fun i => ad (32 + i)) := (hp_1717.2 (ad 25) (fun i hS => hin 25 i (by omega) (by omega) (by omega))).trans f_1721
    refine q_aaldi C0 hw ((hL 25 (by omega))) f_1722 (f9) (by omega) (by decide) (b := ad (32 + f9)) rfl dX5_carryOut_263 ?_
    refine lv_aload hx hb dX5_carryOut_264 (lv_at hl 2 rfl) ?_
    refine lv_iload_n hx hb dX5_carryOut_266 rfl (lv_at hl 6 rfl) ?_
    have f_1723 : F_1710 (ad 24) = oE G (fun i => ad (26 + i)) := (o_1714 (ad 24) ).trans hn.2.2.1
    have f_1724 : F_1716 (ad 24) = oE G (fun i => ad (26 + i)) := (hp_1717.2 (ad 24) (fun i hS => hin 24 i (by omega) (by omega) (by omega))).trans f_1723
    refine q_aaldi C0 hw ((hL 24 (by omega))) f_1724 (g9) (by omega) (by decide) (b := ad (26 + g9)) rfl dX5_carryOut_267 ?_
    refine lv_iload hx hb dX5_carryOut_268 (lv_at hl 0 rfl) ?_
    refine lv_aload_n hx hb dX5_carryOut_270 rfl (lv_at hl 3 rfl) ?_
    refine q_get C0 hw ((hL 0 (by omega))) f_1718 fw_X5_48 rfl dX5_carryOut_271 ?_
    have f_1725 : F_1710 (ad (32 + f9)) = rw7 G ((st.2.2.2.2.2 (6 + f9))) := (o_1714 (ad (32 + f9)) ).trans ((show F (ad (32 + f9)) = _ from by have h9 := hn.2.2.2.2 (6 + f9) (by omega); rwa [show 22 + 4 + (6 + f9) = 32 + f9 by omega] at h9))
    have f_1726 : F_1716 (ad (32 + f9)) = rw7 G ((st.2.2.2.2.2 (6 + f9))) := (hp_1717.2 (ad (32 + f9)) (fun i hS => hin (32 + f9) i (by omega) (by omega) (by omega))).trans f_1725
    have f_1727 : F_1710 (ad (26 + g9)) = rw7 G ((st.2.2.2.2.2 g9)) := (o_1714 (ad (26 + g9)) ).trans ((hn.2.2.2.2 g9 (by omega)))
    have f_1728 : F_1716 (ad (26 + g9)) = rw7 G ((st.2.2.2.2.2 g9)) := (hp_1717.2 (ad (26 + g9)) (fun i hS => hin (26 + g9) i (by omega) (by omega) (by omega))).trans f_1727
    have f_1729 : F_1710 (ad 134) = rw7 G u9 := (o_1714 (ad 134) ).trans h134
    have f_1730 : F_1716 (ad 134) = rw7 G u9 := (hp_1717.2 (ad 134) (fun i hS => hin 134 i (by omega) (by omega) (by omega))).trans f_1729
    have f_1731 : F_1710 (ad 14) = rw7 G s_6 := (o_1714 (ad 14) ).trans hs_6
    have f_1732 : F_1716 (ad 14) = rw7 G s_6 := (hp_1717.2 (ad 14) (fun i hS => hin 14 i (by omega) (by omega) (by omega))).trans f_1731
    have f_1733 : F_1710 (ad 13) = rw7 G s_5 := (o_1714 (ad 13) ).trans hs_5
    have f_1734 : F_1716 (ad 13) = rw7 G s_5 := (hp_1717.2 (ad 13) (fun i hS => hin 13 i (by omega) (by omega) (by omega))).trans f_1733
    have f_1735 : F_1710 (ad 12) = rw7 G s_4 := (o_1714 (ad 12) ).trans hs_4
    have f_1736 : F_1716 (ad 12) = rw7 G s_4 := (hp_1717.2 (ad 12) (fun i hS => hin 12 i (by omega) (by omega) (by omega))).trans f_1735
    have f_1737 : F_1710 (ad 11) = rw7 G s_3 := (o_1714 (ad 11) ).trans hs_3
    have f_1738 : F_1716 (ad 11) = rw7 G s_3 := (hp_1717.2 (ad 11) (fun i hS => hin 11 i (by omega) (by omega) (by omega))).trans f_1737
    have f_1739 : F_1710 (ad 7) = rkO (fun i => ad (8 + i)) := (o_1714 (ad 7) ).trans hrk.1
    have f_1740 : F_1716 (ad 7) = rkO (fun i => ad (8 + i)) := (hp_1717.2 (ad 7) (fun i hS => hin 7 i (by omega) (by omega) (by omega))).trans f_1739
    refine q_callv hw (q_runV (As := [.ref (ad (32 + f9)), .ref (ad (26 + g9)), .int (nI (st.1)), .ref (ad 134)]) (c_X1_pushField l G L F_1716 (ad 7) (fun i => ad (8 + i)) (ad (32 + f9)) (ad (26 + g9)) (ad 134) (st.1) ((st.2.2.2.2.2 (6 + f9))) ((st.2.2.2.2.2 g9)) u9 s_6 s_5 s_4 s_3  ((hL 7 (by omega))) f_1740 (fun i hi => hL (8 + i) (by omega)) (ra_inj hin) ((hL (32 + f9) (by omega))) f_1726 ((hL (26 + g9) (by omega))) f_1728 ((hL 134 (by omega))) f_1730 f_1732 f_1734 f_1736 f_1738 (hin (32 + f9) 134 (by omega) (by omega) (by omega)) (hin (26 + g9) 134 (by omega) (by omega) (by omega)) (hin (32 + f9) 14 (by omega) (by omega) (by omega)) (hin (26 + g9) 14 (by omega) (by omega) (by omega)) (hin 134 14 (by omega) (by omega) (by omega)) (hin (32 + f9) 13 (by omega) (by omega) (by omega)) (hin (26 + g9) 13 (by omega) (by omega) (by omega)) (hin 134 13 (by omega) (by omega) (by omega)) (hin (32 + f9) 12 (by omega) (by omega) (by omega)) (hin (26 + g9) 12 (by omega) (by omega) (by omega)) (hin 134 12 (by omega) (by omega) (by omega)) (hin (32 + f9) 11 (by omega) (by omega) (by omega)) (hin (26 + g9) 11 (by omega) (by omega) (by omega)) (hin 134 11 (by omega) (by omega) (by omega)) (by omega) (by omega) ) C0 hw vw_X5_316 ((hL 7 (by omega))) f_1740 rfl rfl rfl hl.1 rfl (Nat.le_of_ble_eq_true rfl) dX5_carryOut_274 ⟨by decide, by decide⟩ ⟨by decide, by decide⟩) rfl rfl (fun F_1741 H locs hw hp_1742 => ?_)
    obtain ⟨f_1743, ⟨t_1748, f_1744⟩, ⟨t_1749, f_1745⟩, ⟨t_1750, f_1746⟩, ⟨t_1751, f_1747⟩, o_1752⟩ := hp_1742
    refine lv_aload_n hx hb dX5_carryOut_277 rfl (lv_at hl 3 rfl) ?_
    refine lv_aload hx hb dX5_carryOut_278 (lv_at hl 2 rfl) ?_
    refine lv_iload hx hb dX5_carryOut_280 (lv_at hl 7 rfl) ?_
    have f_1753 : F_1741 (ad 24) = oE G (fun i => ad (26 + i)) := (o_1752 (ad 24) (hin 24 134 (by omega) (by omega) (by omega)) (hin 24 14 (by omega) (by omega) (by omega)) (hin 24 13 (by omega) (by omega) (by omega)) (hin 24 12 (by omega) (by omega) (by omega)) (hin 24 11 (by omega) (by omega) (by omega))).trans f_1724
    refine q_aaldi C0 hw ((hL 24 (by omega))) f_1753 (t9) (by omega) (by decide) (b := ad (26 + t9)) rfl dX5_carryOut_282 ?_
    have f_1754 : F_1710 (ad (26 + t9)) = rw7 G ((st.2.2.2.2.2 t9)) := (o_1714 (ad (26 + t9)) ).trans ((hn.2.2.2.2 t9 (by omega)))
    have f_1755 : F_1716 (ad (26 + t9)) = rw7 G ((st.2.2.2.2.2 t9)) := (hp_1717.2 (ad (26 + t9)) (fun i hS => hin (26 + t9) i (by omega) (by omega) (by omega))).trans f_1754
    have f_1756 : F_1741 (ad (26 + t9)) = rw7 G ((st.2.2.2.2.2 t9)) := (o_1752 (ad (26 + t9)) (hin (26 + t9) 134 (by omega) (by omega) (by omega)) (hin (26 + t9) 14 (by omega) (by omega) (by omega)) (hin (26 + t9) 13 (by omega) (by omega) (by omega)) (hin (26 + t9) 12 (by omega) (by omega) (by omega)) (hin (26 + t9) 11 (by omega) (by omega) (by omega))).trans f_1755
    have f_1757 : F_1741 (ad 0) = xO ad := (o_1752 (ad 0) (hin 0 134 (by omega) (by omega) (by omega)) (hin 0 14 (by omega) (by omega) (by omega)) (hin 0 13 (by omega) (by omega) (by omega)) (hin 0 12 (by omega) (by omega) (by omega)) (hin 0 11 (by omega) (by omega) (by omega))).trans f_1718
    refine q_calli hw (q_runV (As := [.ref (ad (26 + t9))]) (c_X5_put l G L F_1741 ad hL hin t9 ((m_push ((st.2.2.2.2.2 (6 + f9))) ((st.2.2.2.2.2 g9)) (st.1))) ((st.2.2.2.2.2 t9)) f_1757 f_1743 f_1756 (by omega)) C0 hw vw_X5_127 ((hL 0 (by omega))) f_1757 rfl rfl rfl hl.1 rfl (Nat.le_of_ble_eq_true rfl) dX5_carryOut_283 ⟨by decide, by decide⟩ ⟨by decide, by decide⟩) rfl rfl (fun r_1760 F_1758 H locs hw hp_1759 => ?_)
    obtain ⟨he_1761, f_1762, o_1763⟩ := hp_1759
    subst he_1761
    have f_1764 : F_1741 (ad 22) = .inr (3, [.ref (ad 23), .int (nI (st.2.1 - 6 * st.1)), .int (nI (st.2.2.1 + 6 * st.1)), .int (nI (st.2.2.2.1 + 1)), .int (nI (st.2.2.2.2.1))]) := (o_1752 (ad 22) (hin 22 134 (by omega) (by omega) (by omega)) (hin 22 14 (by omega) (by omega) (by omega)) (hin 22 13 (by omega) (by omega) (by omega)) (hin 22 12 (by omega) (by omega) (by omega)) (hin 22 11 (by omega) (by omega) (by omega))).trans hp_1717.1
    have f_1765 : F_1758 (ad 22) = .inr (3, [.ref (ad 23), .int (nI (st.2.1 - 6 * st.1)), .int (nI (st.2.2.1 + 6 * st.1)), .int (nI (st.2.2.2.1 + 1)), .int (nI (st.2.2.2.2.1))]) := (o_1763 (ad 22) (fun i hS => hin 22 i (by omega) (by omega) (by omega))).trans f_1764
    have f_1766 : F_1758 (ad 134) = rw7 G ((m_push ((st.2.2.2.2.2 (6 + f9))) ((st.2.2.2.2.2 g9)) (st.1))) := (o_1763 (ad 134) (fun i hS => hin 134 i (by omega) (by omega) (by omega))).trans f_1743
    have f_1767 : F_1741 (ad 7) = rkO (fun i => ad (8 + i)) := (o_1752 (ad 7) (hin 7 134 (by omega) (by omega) (by omega)) (hin 7 14 (by omega) (by omega) (by omega)) (hin 7 13 (by omega) (by omega) (by omega)) (hin 7 12 (by omega) (by omega) (by omega)) (hin 7 11 (by omega) (by omega) (by omega))).trans f_1740
    have f_1768 : F_1758 (ad 7) = rkO (fun i => ad (8 + i)) := (o_1763 (ad 7) (fun i hS => hin 7 i (by omega) (by omega) (by omega))).trans f_1767
    have f_1769 : F_1710 (ad 8) = rw7 G s_0 := (o_1714 (ad 8) ).trans hs_0
    have f_1770 : F_1716 (ad 8) = rw7 G s_0 := (hp_1717.2 (ad 8) (fun i hS => hin 8 i (by omega) (by omega) (by omega))).trans f_1769
    have f_1771 : F_1741 (ad 8) = rw7 G s_0 := (o_1752 (ad 8) (hin 8 134 (by omega) (by omega) (by omega)) (hin 8 14 (by omega) (by omega) (by omega)) (hin 8 13 (by omega) (by omega) (by omega)) (hin 8 12 (by omega) (by omega) (by omega)) (hin 8 11 (by omega) (by omega) (by omega))).trans f_1770
    have f_1772 : F_1758 (ad 8) = rw7 G s_0 := (o_1763 (ad 8) (fun i hS => hin 8 i (by omega) (by omega) (by omega))).trans f_1771
    have f_1773 : F_1710 (ad 9) = rw7 G s_1 := (o_1714 (ad 9) ).trans hs_1
    have f_1774 : F_1716 (ad 9) = rw7 G s_1 := (hp_1717.2 (ad 9) (fun i hS => hin 9 i (by omega) (by omega) (by omega))).trans f_1773
    have f_1775 : F_1741 (ad 9) = rw7 G s_1 := (o_1752 (ad 9) (hin 9 134 (by omega) (by omega) (by omega)) (hin 9 14 (by omega) (by omega) (by omega)) (hin 9 13 (by omega) (by omega) (by omega)) (hin 9 12 (by omega) (by omega) (by omega)) (hin 9 11 (by omega) (by omega) (by omega))).trans f_1774
    have f_1776 : F_1758 (ad 9) = rw7 G s_1 := (o_1763 (ad 9) (fun i hS => hin 9 i (by omega) (by omega) (by omega))).trans f_1775
    have f_1777 : F_1710 (ad 10) = rw7 G s_2 := (o_1714 (ad 10) ).trans hs_2
    have f_1778 : F_1716 (ad 10) = rw7 G s_2 := (hp_1717.2 (ad 10) (fun i hS => hin 10 i (by omega) (by omega) (by omega))).trans f_1777
    have f_1779 : F_1741 (ad 10) = rw7 G s_2 := (o_1752 (ad 10) (hin 10 134 (by omega) (by omega) (by omega)) (hin 10 14 (by omega) (by omega) (by omega)) (hin 10 13 (by omega) (by omega) (by omega)) (hin 10 12 (by omega) (by omega) (by omega)) (hin 10 11 (by omega) (by omega) (by omega))).trans f_1778
    have f_1780 : F_1758 (ad 10) = rw7 G s_2 := (o_1763 (ad 10) (fun i hS => hin 10 i (by omega) (by omega) (by omega))).trans f_1779
    have f_1781 : F_1758 (ad 11) = rw7 G t_1751 := (o_1763 (ad 11) (fun i hS => hin 11 i (by omega) (by omega) (by omega))).trans f_1747
    have f_1782 : F_1758 (ad 12) = rw7 G t_1750 := (o_1763 (ad 12) (fun i hS => hin 12 i (by omega) (by omega) (by omega))).trans f_1746
    have f_1783 : F_1758 (ad 13) = rw7 G t_1749 := (o_1763 (ad 13) (fun i hS => hin 13 i (by omega) (by omega) (by omega))).trans f_1745
    have f_1784 : F_1758 (ad 14) = rw7 G t_1748 := (o_1763 (ad 14) (fun i hS => hin 14 i (by omega) (by omega) (by omega))).trans f_1744
    have f_1785 : F_1710 (ad 15) = rw7 G s_7 := (o_1714 (ad 15) ).trans hs_7
    have f_1786 : F_1716 (ad 15) = rw7 G s_7 := (hp_1717.2 (ad 15) (fun i hS => hin 15 i (by omega) (by omega) (by omega))).trans f_1785
    have f_1787 : F_1741 (ad 15) = rw7 G s_7 := (o_1752 (ad 15) (hin 15 134 (by omega) (by omega) (by omega)) (hin 15 14 (by omega) (by omega) (by omega)) (hin 15 13 (by omega) (by omega) (by omega)) (hin 15 12 (by omega) (by omega) (by omega)) (hin 15 11 (by omega) (by omega) (by omega))).trans f_1786
    have f_1788 : F_1758 (ad 15) = rw7 G s_7 := (o_1763 (ad 15) (fun i hS => hin 15 i (by omega) (by omega) (by omega))).trans f_1787
    have f_1789 : F_1710 (ad 16) = rw7 G s_8 := (o_1714 (ad 16) ).trans hs_8
    have f_1790 : F_1716 (ad 16) = rw7 G s_8 := (hp_1717.2 (ad 16) (fun i hS => hin 16 i (by omega) (by omega) (by omega))).trans f_1789
    have f_1791 : F_1741 (ad 16) = rw7 G s_8 := (o_1752 (ad 16) (hin 16 134 (by omega) (by omega) (by omega)) (hin 16 14 (by omega) (by omega) (by omega)) (hin 16 13 (by omega) (by omega) (by omega)) (hin 16 12 (by omega) (by omega) (by omega)) (hin 16 11 (by omega) (by omega) (by omega))).trans f_1790
    have f_1792 : F_1758 (ad 16) = rw7 G s_8 := (o_1763 (ad 16) (fun i hS => hin 16 i (by omega) (by omega) (by omega))).trans f_1791
    have f_1793 : F_1710 (ad 17) = rw7 G s_9 := (o_1714 (ad 17) ).trans hs_9
    have f_1794 : F_1716 (ad 17) = rw7 G s_9 := (hp_1717.2 (ad 17) (fun i hS => hin 17 i (by omega) (by omega) (by omega))).trans f_1793
    have f_1795 : F_1741 (ad 17) = rw7 G s_9 := (o_1752 (ad 17) (hin 17 134 (by omega) (by omega) (by omega)) (hin 17 14 (by omega) (by omega) (by omega)) (hin 17 13 (by omega) (by omega) (by omega)) (hin 17 12 (by omega) (by omega) (by omega)) (hin 17 11 (by omega) (by omega) (by omega))).trans f_1794
    have f_1796 : F_1758 (ad 17) = rw7 G s_9 := (o_1763 (ad 17) (fun i hS => hin 17 i (by omega) (by omega) (by omega))).trans f_1795
    have f_1797 : F_1710 (ad 18) = rw7 G s_10 := (o_1714 (ad 18) ).trans hs_10
    have f_1798 : F_1716 (ad 18) = rw7 G s_10 := (hp_1717.2 (ad 18) (fun i hS => hin 18 i (by omega) (by omega) (by omega))).trans f_1797
    have f_1799 : F_1741 (ad 18) = rw7 G s_10 := (o_1752 (ad 18) (hin 18 134 (by omega) (by omega) (by omega)) (hin 18 14 (by omega) (by omega) (by omega)) (hin 18 13 (by omega) (by omega) (by omega)) (hin 18 12 (by omega) (by omega) (by omega)) (hin 18 11 (by omega) (by omega) (by omega))).trans f_1798
    have f_1800 : F_1758 (ad 18) = rw7 G s_10 := (o_1763 (ad 18) (fun i hS => hin 18 i (by omega) (by omega) (by omega))).trans f_1799
    have f_1801 : F_1710 (ad 19) = rw7 G s_11 := (o_1714 (ad 19) ).trans hs_11
    have f_1802 : F_1716 (ad 19) = rw7 G s_11 := (hp_1717.2 (ad 19) (fun i hS => hin 19 i (by omega) (by omega) (by omega))).trans f_1801
    have f_1803 : F_1741 (ad 19) = rw7 G s_11 := (o_1752 (ad 19) (hin 19 134 (by omega) (by omega) (by omega)) (hin 19 14 (by omega) (by omega) (by omega)) (hin 19 13 (by omega) (by omega) (by omega)) (hin 19 12 (by omega) (by omega) (by omega)) (hin 19 11 (by omega) (by omega) (by omega))).trans f_1802
    have f_1804 : F_1758 (ad 19) = rw7 G s_11 := (o_1763 (ad 19) (fun i hS => hin 19 i (by omega) (by omega) (by omega))).trans f_1803
    have f_1805 : F_1710 (ad 20) = rw7 G s_12 := (o_1714 (ad 20) ).trans hs_12
    have f_1806 : F_1716 (ad 20) = rw7 G s_12 := (hp_1717.2 (ad 20) (fun i hS => hin 20 i (by omega) (by omega) (by omega))).trans f_1805
    have f_1807 : F_1741 (ad 20) = rw7 G s_12 := (o_1752 (ad 20) (hin 20 134 (by omega) (by omega) (by omega)) (hin 20 14 (by omega) (by omega) (by omega)) (hin 20 13 (by omega) (by omega) (by omega)) (hin 20 12 (by omega) (by omega) (by omega)) (hin 20 11 (by omega) (by omega) (by omega))).trans f_1806
    have f_1808 : F_1758 (ad 20) = rw7 G s_12 := (o_1763 (ad 20) (fun i hS => hin 20 i (by omega) (by omega) (by omega))).trans f_1807
    have f_1809 : F_1710 (ad 21) = rw7 G s_13 := (o_1714 (ad 21) ).trans hs_13
    have f_1810 : F_1716 (ad 21) = rw7 G s_13 := (hp_1717.2 (ad 21) (fun i hS => hin 21 i (by omega) (by omega) (by omega))).trans f_1809
    have f_1811 : F_1741 (ad 21) = rw7 G s_13 := (o_1752 (ad 21) (hin 21 134 (by omega) (by omega) (by omega)) (hin 21 14 (by omega) (by omega) (by omega)) (hin 21 13 (by omega) (by omega) (by omega)) (hin 21 12 (by omega) (by omega) (by omega)) (hin 21 11 (by omega) (by omega) (by omega))).trans f_1810
    have f_1812 : F_1758 (ad 21) = rw7 G s_13 := (o_1763 (ad 21) (fun i hS => hin 21 i (by omega) (by omega) (by omega))).trans f_1811
    exact r_i C0 hr hlk hw (v := (lowR ((m_push ((st.2.2.2.2.2 (6 + f9))) ((st.2.2.2.2.2 g9)) (st.1))))) rfl ⟨rfl, sta_row hn (t := ordT 112 t9) (u := ordR 112 f9 g9 st.1 st.2.2.2.2.2) (by unfold ordT; simp; omega) f_1765 rfl rfl (f_1762) (fun i0 hi => by simp [ordT] at hi; exact ((o_1763 (ad (i0)) (fun i hS => hin (i0) i (by omega) (by omega) (by omega)))).trans (((o_1752 (ad (i0)) (hin (i0) 134 (by omega) (by omega) (by omega)) (hin (i0) 14 (by omega) (by omega) (by omega)) (hin (i0) 13 (by omega) (by omega) (by omega)) (hin (i0) 12 (by omega) (by omega) (by omega)) (hin (i0) 11 (by omega) (by omega) (by omega)))).trans (((hp_1717.2 (ad (i0)) (fun i hS => hin (i0) i (by omega) (by omega) (by omega)))).trans ((o_1714 (ad (i0)) ))))), ⟨f_1768, lt14 ⟨_, f_1772⟩ ⟨_, f_1776⟩ ⟨_, f_1780⟩ ⟨_, f_1781⟩ ⟨_, f_1782⟩ ⟨_, f_1783⟩ ⟨_, f_1784⟩ ⟨_, f_1788⟩ ⟨_, f_1792⟩ ⟨_, f_1796⟩ ⟨_, f_1800⟩ ⟨_, f_1804⟩ ⟨_, f_1808⟩ ⟨_, f_1812⟩⟩, ⟨_, f_1766⟩, (fun q hq => ((o_1763 q (fun i hS => hq i (by omega))).trans ((o_1752 q (hq 134 (by omega)) (hq 14 (by omega)) (hq 13 (by omega)) (hq 12 (by omega)) (hq 11 (by omega))).trans ((hp_1717.2 q (fun i hS => hq i (by omega))).trans (o_1714 q )))))⟩ (Nat.le_refl _) (Nat.le_refl _) dX5_carryOut_286 hQ
  · skip
    exact absurd c_11 (by omega)
set_option maxHeartbeats 4000000 in
set_option maxRecDepth 100000 in
theorem c_X5_carryOut_108 (l : Launch) (G : Gl) (L : List Nat) (F : Nat → va_E) (ad : Nat → Nat) (hL : ∀ i, i < 166 → ad i ∈ L) (hin : ∀ i j, i < 166 → j < 166 → i ≠ j → ad i ≠ ad j) (f9 g9 t9 : Nat) (st : Sta) (u9 : Nat → ZP) (fx : F (ad 0) = xO ad) (hn : sta G F ad 22 st) (hrk : rkW G F ad) (h134 : F (ad 134) = rw7 G u9) (hf9 : f9 < 6) (hg9 : g9 < 6) (ht9 : t9 < 6) (hm : 6 * st.1 ≤ st.2.1) (hc : st.1 ≤ 6) (hc2 : 2 ≤ st.1) (hpu : st.2.1 ≤ 100000) : CI l yX5_carryOut cX5_carryOut 8 (some .int) rm_X5_carryOut G L F [.ref (ad 0), .int (nI (108)), .int (nI (f9)), .int (nI (g9)), .int (nI (t9))] (fun r F1 => r = lowR (ordR 108 f9 g9 st.1 st.2.2.2.2.2) ∧ sta G F1 ad 22 (ordS 108 f9 g9 t9 st) ∧ rkW G F1 ad ∧ (∃ u, F1 (ad 134) = rw7 G u) ∧ ∀ q, (∀ i, (i = 22 ∨ (26 ≤ i ∧ i < 38) ∨ (8 ≤ i ∧ i < 22) ∨ i = 134) → q ≠ ad i) → F1 q = F q) := by
  obtain ⟨s_13, hs_13⟩ := hrk.2 13 (by decide)
  obtain ⟨s_12, hs_12⟩ := hrk.2 12 (by decide)
  obtain ⟨s_11, hs_11⟩ := hrk.2 11 (by decide)
  obtain ⟨s_10, hs_10⟩ := hrk.2 10 (by decide)
  obtain ⟨s_9, hs_9⟩ := hrk.2 9 (by decide)
  obtain ⟨s_8, hs_8⟩ := hrk.2 8 (by decide)
  obtain ⟨s_7, hs_7⟩ := hrk.2 7 (by decide)
  obtain ⟨s_6, hs_6⟩ := hrk.2 6 (by decide)
  obtain ⟨s_5, hs_5⟩ := hrk.2 5 (by decide)
  obtain ⟨s_4, hs_4⟩ := hrk.2 4 (by decide)
  obtain ⟨s_3, hs_3⟩ := hrk.2 3 (by decide)
  obtain ⟨s_2, hs_2⟩ := hrk.2 2 (by decide)
  obtain ⟨s_1, hs_1⟩ := hrk.2 1 (by decide)
  obtain ⟨s_0, hs_0⟩ := hrk.2 0 (by decide)
  refine CG_of (by decide) (Nat.le_of_ble_eq_true rfl) rfl ?_
  intro p e s m args below meth c Q C0 hr hlk hnm hQ hw ls hl
  have hx := C0.x
  have hb := C0.b
  refine lv_aload_n hx hb dX5_carryOut_0 rfl (lv_at hl 0 rfl) ?_
  refine lv_iload_n hx hb dX5_carryOut_1 rfl (lv_at hl 1 rfl) ?_
  refine q_calli hw (q_runS (As := [.int (nI (108))]) (c_X5_unitsOf_108 l G L F ) C0 hw sw_X5_225 rfl hl.1 rfl (Nat.le_of_ble_eq_true rfl) dX5_carryOut_2 ⟨by decide, by decide⟩ ⟨by decide, by decide⟩) rfl rfl (fun r_1815 F_1813 H locs hw hp_1814 => ?_)
  obtain ⟨he_1816, o_1817⟩ := hp_1814
  subst he_1816
  have f_1818 : F_1813 (ad 0) = xO ad := (o_1817 (ad 0) ).trans fx
  refine q_callv hw (q_runV (As := [.int (nI (6))]) (c_X5_pay l G L F_1813 ad hL hin 6 st f_1818 (hn.keep (fun i0 hi => (o_1817 (ad (i0)) ))) (by omega)) C0 hw vw_X5_114 ((hL 0 (by omega))) f_1818 rfl rfl rfl hl.1 rfl (Nat.le_of_ble_eq_true rfl) dX5_carryOut_5 ⟨by decide, by decide⟩ ⟨by decide, by decide⟩) rfl rfl (fun F_1819 H locs hw hp_1820 => ?_)
  refine lv_iload_n hx hb dX5_carryOut_8 rfl (lv_at hl 1 rfl) ?_
  refine lv_bipush (v := nI 98) hx hb dX5_carryOut_9 (by decide) ?_
  refine n_icmp_ne (tgt := 27) hx hb dX5_carryOut_11 (by decide) (by decide) (by decide) (fun c_11 => ?_) (fun c_11 => ?_)
  · skip
    refine lv_aload_n hx hb dX5_carryOut_27 rfl (lv_at hl 0 rfl) ?_
    have f_1821 : F_1819 (ad 0) = xO ad := (hp_1820.2 (ad 0) (fun i hS => hin 0 i (by omega) (by omega) (by omega))).trans f_1818
    refine q_get C0 hw ((hL 0 (by omega))) f_1821 fw_X5_12 rfl dX5_carryOut_28 ?_
    refine q_get C0 hw ((hL 22 (by omega))) hp_1820.1 fw_X5_66 rfl dX5_carryOut_31 ?_
    have f_1822 : F_1813 (ad 23) = .inr (2, [.int (nI (st.1)), .ref (ad 24), .ref (ad 25)]) := (o_1817 (ad 23) ).trans hn.2.1
    have f_1823 : F_1819 (ad 23) = .inr (2, [.int (nI (st.1)), .ref (ad 24), .ref (ad 25)]) := (hp_1820.2 (ad 23) (fun i hS => hin 23 i (by omega) (by omega) (by omega))).trans f_1822
    refine q_get C0 hw ((hL 23 (by omega))) f_1823 fw_X5_85 rfl dX5_carryOut_34 ?_
    refine lv_astore (lv' := [(5, .ref (ad 24)), (0, .ref (ad 0)), (1, .int (nI (108))), (2, .int (nI (f9))), (3, .int (nI (g9))), (4, .int (nI (t9)))]) hx hb dX5_carryOut_37 hl (by decide) rfl (fun ls hl => ?_)
    refine lv_aload_n hx hb dX5_carryOut_39 rfl (lv_at hl 1 rfl) ?_
    refine q_get C0 hw ((hL 0 (by omega))) f_1821 fw_X5_12 rfl dX5_carryOut_40 ?_
    refine q_get C0 hw ((hL 22 (by omega))) hp_1820.1 fw_X5_66 rfl dX5_carryOut_43 ?_
    refine q_get C0 hw ((hL 23 (by omega))) f_1823 fw_X5_93 rfl dX5_carryOut_46 ?_
    refine lv_astore (lv' := [(6, .ref (ad 25)), (5, .ref (ad 24)), (0, .ref (ad 0)), (1, .int (nI (108))), (2, .int (nI (f9))), (3, .int (nI (g9))), (4, .int (nI (t9)))]) hx hb dX5_carryOut_49 hl (by decide) rfl (fun ls hl => ?_)
    refine lv_aload_n hx hb dX5_carryOut_51 rfl (lv_at hl 2 rfl) ?_
    refine q_get C0 hw ((hL 0 (by omega))) f_1821 fw_X5_12 rfl dX5_carryOut_52 ?_
    refine q_get C0 hw ((hL 22 (by omega))) hp_1820.1 fw_X5_66 rfl dX5_carryOut_55 ?_
    refine q_get C0 hw ((hL 23 (by omega))) f_1823 fw_X5_70 rfl dX5_carryOut_58 ?_
    refine lv_istore (lv' := [(7, .int (nI (st.1))), (6, .ref (ad 25)), (5, .ref (ad 24)), (0, .ref (ad 0)), (1, .int (nI (108))), (2, .int (nI (f9))), (3, .int (nI (g9))), (4, .int (nI (t9)))]) hx hb dX5_carryOut_61 hl (by decide) rfl (fun ls hl => ?_)
    refine lv_iload_n hx hb dX5_carryOut_63 rfl (lv_at hl 4 rfl) ?_
    refine lv_tableIn (off := 223) (tgt := 287) hx hb dX5_carryOut_64 (by decide) (by decide) rfl (by decide) ?_
    refine lv_aload_n hx hb dX5_carryOut_287 rfl (lv_at hl 3 rfl) ?_
    refine q_get C0 hw ((hL 0 (by omega))) f_1821 fw_X5_44 rfl dX5_carryOut_288 ?_
    refine lv_aload hx hb dX5_carryOut_291 (lv_at hl 1 rfl) ?_
    refine lv_iload_n hx hb dX5_carryOut_293 rfl (lv_at hl 5 rfl) ?_
    have f_1824 : F_1813 (ad 25) = oE G (fun i => ad (32 + i)) := (o_1817 (ad 25) ).trans hn.2.2.2.1
    have f_1825 : F_1819 (ad 25) = oE G (fun i => ad (32 + i)) := (hp_1820.2 (ad 25) (fun i hS => hin 25 i (by omega) (by omega) (by omega))).trans f_1824
    refine q_aaldi C0 hw ((hL 25 (by omega))) f_1825 (f9) (by omega) (by decide) (b := ad (32 + f9)) rfl dX5_carryOut_294 ?_
    refine lv_iload hx hb dX5_carryOut_295 (lv_at hl 0 rfl) ?_
    refine lv_aload_n hx hb dX5_carryOut_297 rfl (lv_at hl 3 rfl) ?_
    refine q_get C0 hw ((hL 0 (by omega))) f_1821 fw_X5_48 rfl dX5_carryOut_298 ?_
    have f_1826 : F_1813 (ad (32 + f9)) = rw7 G ((st.2.2.2.2.2 (6 + f9))) := (o_1817 (ad (32 + f9)) ).trans ((show F (ad (32 + f9)) = _ from by have h9 := hn.2.2.2.2 (6 + f9) (by omega); rwa [show 22 + 4 + (6 + f9) = 32 + f9 by omega] at h9))
    have f_1827 : F_1819 (ad (32 + f9)) = rw7 G ((st.2.2.2.2.2 (6 + f9))) := (hp_1820.2 (ad (32 + f9)) (fun i hS => hin (32 + f9) i (by omega) (by omega) (by omega))).trans f_1826
    have f_1828 : F_1813 (ad 134) = rw7 G u9 := (o_1817 (ad 134) ).trans h134
    have f_1829 : F_1819 (ad 134) = rw7 G u9 := (hp_1820.2 (ad 134) (fun i hS => hin 134 i (by omega) (by omega) (by omega))).trans f_1828
    have f_1830 : F_1813 (ad 12) = rw7 G s_4 := (o_1817 (ad 12) ).trans hs_4
    have f_1831 : F_1819 (ad 12) = rw7 G s_4 := (hp_1820.2 (ad 12) (fun i hS => hin 12 i (by omega) (by omega) (by omega))).trans f_1830
    have f_1832 : F_1813 (ad 9) = rw7 G s_1 := (o_1817 (ad 9) ).trans hs_1
    have f_1833 : F_1819 (ad 9) = rw7 G s_1 := (hp_1820.2 (ad 9) (fun i hS => hin 9 i (by omega) (by omega) (by omega))).trans f_1832
    have f_1834 : F_1813 (ad 10) = rw7 G s_2 := (o_1817 (ad 10) ).trans hs_2
    have f_1835 : F_1819 (ad 10) = rw7 G s_2 := (hp_1820.2 (ad 10) (fun i hS => hin 10 i (by omega) (by omega) (by omega))).trans f_1834
    have f_1836 : F_1813 (ad 7) = rkO (fun i => ad (8 + i)) := (o_1817 (ad 7) ).trans hrk.1
    have f_1837 : F_1819 (ad 7) = rkO (fun i => ad (8 + i)) := (hp_1820.2 (ad 7) (fun i hS => hin 7 i (by omega) (by omega) (by omega))).trans f_1836
    refine q_callv hw (q_runV (As := [.ref (ad (32 + f9)), .int (nI (st.1)), .ref (ad 134)]) (c_X1_logarithm l G L F_1819 (ad 7) (fun i => ad (8 + i)) (ad (32 + f9)) (ad 134) (st.1) ((st.2.2.2.2.2 (6 + f9))) u9 s_4 s_1 s_2  ((hL 7 (by omega))) f_1837 (fun i hi => hL (8 + i) (by omega)) (ra_inj hin) ((hL (32 + f9) (by omega))) f_1827 ((hL 134 (by omega))) f_1829 f_1831 f_1833 f_1835 (hin (32 + f9) 134 (by omega) (by omega) (by omega)) (hin (32 + f9) 12 (by omega) (by omega) (by omega)) (hin 134 12 (by omega) (by omega) (by omega)) (hin (32 + f9) 9 (by omega) (by omega) (by omega)) (hin 134 9 (by omega) (by omega) (by omega)) (hin (32 + f9) 10 (by omega) (by omega) (by omega)) (hin 134 10 (by omega) (by omega) (by omega)) (by omega) (by omega) ) C0 hw vw_X5_319 ((hL 7 (by omega))) f_1837 rfl rfl rfl hl.1 rfl (Nat.le_of_ble_eq_true rfl) dX5_carryOut_301 ⟨by decide, by decide⟩ ⟨by decide, by decide⟩) rfl rfl (fun F_1838 H locs hw hp_1839 => ?_)
    obtain ⟨f_1840, ⟨t_1844, f_1841⟩, ⟨t_1845, f_1842⟩, ⟨t_1846, f_1843⟩, o_1847⟩ := hp_1839
    refine lv_aload_n hx hb dX5_carryOut_304 rfl (lv_at hl 3 rfl) ?_
    refine lv_aload hx hb dX5_carryOut_305 (lv_at hl 2 rfl) ?_
    refine lv_iload hx hb dX5_carryOut_307 (lv_at hl 7 rfl) ?_
    have f_1848 : F_1813 (ad 24) = oE G (fun i => ad (26 + i)) := (o_1817 (ad 24) ).trans hn.2.2.1
    have f_1849 : F_1819 (ad 24) = oE G (fun i => ad (26 + i)) := (hp_1820.2 (ad 24) (fun i hS => hin 24 i (by omega) (by omega) (by omega))).trans f_1848
    have f_1850 : F_1838 (ad 24) = oE G (fun i => ad (26 + i)) := (o_1847 (ad 24) (hin 24 134 (by omega) (by omega) (by omega)) (hin 24 12 (by omega) (by omega) (by omega)) (hin 24 9 (by omega) (by omega) (by omega)) (hin 24 10 (by omega) (by omega) (by omega))).trans f_1849
    refine q_aaldi C0 hw ((hL 24 (by omega))) f_1850 (t9) (by omega) (by decide) (b := ad (26 + t9)) rfl dX5_carryOut_309 ?_
    have f_1851 : F_1813 (ad (26 + t9)) = rw7 G ((st.2.2.2.2.2 t9)) := (o_1817 (ad (26 + t9)) ).trans ((hn.2.2.2.2 t9 (by omega)))
    have f_1852 : F_1819 (ad (26 + t9)) = rw7 G ((st.2.2.2.2.2 t9)) := (hp_1820.2 (ad (26 + t9)) (fun i hS => hin (26 + t9) i (by omega) (by omega) (by omega))).trans f_1851
    have f_1853 : F_1838 (ad (26 + t9)) = rw7 G ((st.2.2.2.2.2 t9)) := (o_1847 (ad (26 + t9)) (hin (26 + t9) 134 (by omega) (by omega) (by omega)) (hin (26 + t9) 12 (by omega) (by omega) (by omega)) (hin (26 + t9) 9 (by omega) (by omega) (by omega)) (hin (26 + t9) 10 (by omega) (by omega) (by omega))).trans f_1852
    have f_1854 : F_1838 (ad 0) = xO ad := (o_1847 (ad 0) (hin 0 134 (by omega) (by omega) (by omega)) (hin 0 12 (by omega) (by omega) (by omega)) (hin 0 9 (by omega) (by omega) (by omega)) (hin 0 10 (by omega) (by omega) (by omega))).trans f_1821
    refine q_calli hw (q_runV (As := [.ref (ad (26 + t9))]) (c_X5_put l G L F_1838 ad hL hin t9 ((m_log ((st.2.2.2.2.2 (6 + f9))) (st.1))) ((st.2.2.2.2.2 t9)) f_1854 f_1840 f_1853 (by omega)) C0 hw vw_X5_127 ((hL 0 (by omega))) f_1854 rfl rfl rfl hl.1 rfl (Nat.le_of_ble_eq_true rfl) dX5_carryOut_310 ⟨by decide, by decide⟩ ⟨by decide, by decide⟩) rfl rfl (fun r_1857 F_1855 H locs hw hp_1856 => ?_)
    obtain ⟨he_1858, f_1859, o_1860⟩ := hp_1856
    subst he_1858
    have f_1861 : F_1838 (ad 22) = .inr (3, [.ref (ad 23), .int (nI (st.2.1 - 6 * st.1)), .int (nI (st.2.2.1 + 6 * st.1)), .int (nI (st.2.2.2.1 + 1)), .int (nI (st.2.2.2.2.1))]) := (o_1847 (ad 22) (hin 22 134 (by omega) (by omega) (by omega)) (hin 22 12 (by omega) (by omega) (by omega)) (hin 22 9 (by omega) (by omega) (by omega)) (hin 22 10 (by omega) (by omega) (by omega))).trans hp_1820.1
    have f_1862 : F_1855 (ad 22) = .inr (3, [.ref (ad 23), .int (nI (st.2.1 - 6 * st.1)), .int (nI (st.2.2.1 + 6 * st.1)), .int (nI (st.2.2.2.1 + 1)), .int (nI (st.2.2.2.2.1))]) := (o_1860 (ad 22) (fun i hS => hin 22 i (by omega) (by omega) (by omega))).trans f_1861
    have f_1863 : F_1855 (ad 134) = rw7 G ((m_log ((st.2.2.2.2.2 (6 + f9))) (st.1))) := (o_1860 (ad 134) (fun i hS => hin 134 i (by omega) (by omega) (by omega))).trans f_1840
    have f_1864 : F_1838 (ad 7) = rkO (fun i => ad (8 + i)) := (o_1847 (ad 7) (hin 7 134 (by omega) (by omega) (by omega)) (hin 7 12 (by omega) (by omega) (by omega)) (hin 7 9 (by omega) (by omega) (by omega)) (hin 7 10 (by omega) (by omega) (by omega))).trans f_1837
    have f_1865 : F_1855 (ad 7) = rkO (fun i => ad (8 + i)) := (o_1860 (ad 7) (fun i hS => hin 7 i (by omega) (by omega) (by omega))).trans f_1864
    have f_1866 : F_1813 (ad 8) = rw7 G s_0 := (o_1817 (ad 8) ).trans hs_0
    have f_1867 : F_1819 (ad 8) = rw7 G s_0 := (hp_1820.2 (ad 8) (fun i hS => hin 8 i (by omega) (by omega) (by omega))).trans f_1866
    have f_1868 : F_1838 (ad 8) = rw7 G s_0 := (o_1847 (ad 8) (hin 8 134 (by omega) (by omega) (by omega)) (hin 8 12 (by omega) (by omega) (by omega)) (hin 8 9 (by omega) (by omega) (by omega)) (hin 8 10 (by omega) (by omega) (by omega))).trans f_1867
    have f_1869 : F_1855 (ad 8) = rw7 G s_0 := (o_1860 (ad 8) (fun i hS => hin 8 i (by omega) (by omega) (by omega))).trans f_1868
    have f_1870 : F_1855 (ad 9) = rw7 G t_1845 := (o_1860 (ad 9) (fun i hS => hin 9 i (by omega) (by omega) (by omega))).trans f_1842
    have f_1871 : F_1855 (ad 10) = rw7 G t_1846 := (o_1860 (ad 10) (fun i hS => hin 10 i (by omega) (by omega) (by omega))).trans f_1843
    have f_1872 : F_1813 (ad 11) = rw7 G s_3 := (o_1817 (ad 11) ).trans hs_3
    have f_1873 : F_1819 (ad 11) = rw7 G s_3 := (hp_1820.2 (ad 11) (fun i hS => hin 11 i (by omega) (by omega) (by omega))).trans f_1872
    have f_1874 : F_1838 (ad 11) = rw7 G s_3 := (o_1847 (ad 11) (hin 11 134 (by omega) (by omega) (by omega)) (hin 11 12 (by omega) (by omega) (by omega)) (hin 11 9 (by omega) (by omega) (by omega)) (hin 11 10 (by omega) (by omega) (by omega))).trans f_1873
    have f_1875 : F_1855 (ad 11) = rw7 G s_3 := (o_1860 (ad 11) (fun i hS => hin 11 i (by omega) (by omega) (by omega))).trans f_1874
    have f_1876 : F_1855 (ad 12) = rw7 G t_1844 := (o_1860 (ad 12) (fun i hS => hin 12 i (by omega) (by omega) (by omega))).trans f_1841
    have f_1877 : F_1813 (ad 13) = rw7 G s_5 := (o_1817 (ad 13) ).trans hs_5
    have f_1878 : F_1819 (ad 13) = rw7 G s_5 := (hp_1820.2 (ad 13) (fun i hS => hin 13 i (by omega) (by omega) (by omega))).trans f_1877
    have f_1879 : F_1838 (ad 13) = rw7 G s_5 := (o_1847 (ad 13) (hin 13 134 (by omega) (by omega) (by omega)) (hin 13 12 (by omega) (by omega) (by omega)) (hin 13 9 (by omega) (by omega) (by omega)) (hin 13 10 (by omega) (by omega) (by omega))).trans f_1878
    have f_1880 : F_1855 (ad 13) = rw7 G s_5 := (o_1860 (ad 13) (fun i hS => hin 13 i (by omega) (by omega) (by omega))).trans f_1879
    have f_1881 : F_1813 (ad 14) = rw7 G s_6 := (o_1817 (ad 14) ).trans hs_6
    have f_1882 : F_1819 (ad 14) = rw7 G s_6 := (hp_1820.2 (ad 14) (fun i hS => hin 14 i (by omega) (by omega) (by omega))).trans f_1881
    have f_1883 : F_1838 (ad 14) = rw7 G s_6 := (o_1847 (ad 14) (hin 14 134 (by omega) (by omega) (by omega)) (hin 14 12 (by omega) (by omega) (by omega)) (hin 14 9 (by omega) (by omega) (by omega)) (hin 14 10 (by omega) (by omega) (by omega))).trans f_1882
    have f_1884 : F_1855 (ad 14) = rw7 G s_6 := (o_1860 (ad 14) (fun i hS => hin 14 i (by omega) (by omega) (by omega))).trans f_1883
    have f_1885 : F_1813 (ad 15) = rw7 G s_7 := (o_1817 (ad 15) ).trans hs_7
    have f_1886 : F_1819 (ad 15) = rw7 G s_7 := (hp_1820.2 (ad 15) (fun i hS => hin 15 i (by omega) (by omega) (by omega))).trans f_1885
    have f_1887 : F_1838 (ad 15) = rw7 G s_7 := (o_1847 (ad 15) (hin 15 134 (by omega) (by omega) (by omega)) (hin 15 12 (by omega) (by omega) (by omega)) (hin 15 9 (by omega) (by omega) (by omega)) (hin 15 10 (by omega) (by omega) (by omega))).trans f_1886
    have f_1888 : F_1855 (ad 15) = rw7 G s_7 := (o_1860 (ad 15) (fun i hS => hin 15 i (by omega) (by omega) (by omega))).trans f_1887
    have f_1889 : F_1813 (ad 16) = rw7 G s_8 := (o_1817 (ad 16) ).trans hs_8
    have f_1890 : F_1819 (ad 16) = rw7 G s_8 := (hp_1820.2 (ad 16) (fun i hS => hin 16 i (by omega) (by omega) (by omega))).trans f_1889
    have f_1891 : F_1838 (ad 16) = rw7 G s_8 := (o_1847 (ad 16) (hin 16 134 (by omega) (by omega) (by omega)) (hin 16 12 (by omega) (by omega) (by omega)) (hin 16 9 (by omega) (by omega) (by omega)) (hin 16 10 (by omega) (by omega) (by omega))).trans f_1890
    have f_1892 : F_1855 (ad 16) = rw7 G s_8 := (o_1860 (ad 16) (fun i hS => hin 16 i (by omega) (by omega) (by omega))).trans f_1891
    have f_1893 : F_1813 (ad 17) = rw7 G s_9 := (o_1817 (ad 17) ).trans hs_9
    have f_1894 : F_1819 (ad 17) = rw7 G s_9 := (hp_1820.2 (ad 17) (fun i hS => hin 17 i (by omega) (by omega) (by omega))).trans f_1893
    have f_1895 : F_1838 (ad 17) = rw7 G s_9 := (o_1847 (ad 17) (hin 17 134 (by omega) (by omega) (by omega)) (hin 17 12 (by omega) (by omega) (by omega)) (hin 17 9 (by omega) (by omega) (by omega)) (hin 17 10 (by omega) (by omega) (by omega))).trans f_1894
    have f_1896 : F_1855 (ad 17) = rw7 G s_9 := (o_1860 (ad 17) (fun i hS => hin 17 i (by omega) (by omega) (by omega))).trans f_1895
    have f_1897 : F_1813 (ad 18) = rw7 G s_10 := (o_1817 (ad 18) ).trans hs_10
    have f_1898 : F_1819 (ad 18) = rw7 G s_10 := (hp_1820.2 (ad 18) (fun i hS => hin 18 i (by omega) (by omega) (by omega))).trans f_1897
    have f_1899 : F_1838 (ad 18) = rw7 G s_10 := (o_1847 (ad 18) (hin 18 134 (by omega) (by omega) (by omega)) (hin 18 12 (by omega) (by omega) (by omega)) (hin 18 9 (by omega) (by omega) (by omega)) (hin 18 10 (by omega) (by omega) (by omega))).trans f_1898
    have f_1900 : F_1855 (ad 18) = rw7 G s_10 := (o_1860 (ad 18) (fun i hS => hin 18 i (by omega) (by omega) (by omega))).trans f_1899
    have f_1901 : F_1813 (ad 19) = rw7 G s_11 := (o_1817 (ad 19) ).trans hs_11
    have f_1902 : F_1819 (ad 19) = rw7 G s_11 := (hp_1820.2 (ad 19) (fun i hS => hin 19 i (by omega) (by omega) (by omega))).trans f_1901
    have f_1903 : F_1838 (ad 19) = rw7 G s_11 := (o_1847 (ad 19) (hin 19 134 (by omega) (by omega) (by omega)) (hin 19 12 (by omega) (by omega) (by omega)) (hin 19 9 (by omega) (by omega) (by omega)) (hin 19 10 (by omega) (by omega) (by omega))).trans f_1902
    have f_1904 : F_1855 (ad 19) = rw7 G s_11 := (o_1860 (ad 19) (fun i hS => hin 19 i (by omega) (by omega) (by omega))).trans f_1903
    have f_1905 : F_1813 (ad 20) = rw7 G s_12 := (o_1817 (ad 20) ).trans hs_12
    have f_1906 : F_1819 (ad 20) = rw7 G s_12 := (hp_1820.2 (ad 20) (fun i hS => hin 20 i (by omega) (by omega) (by omega))).trans f_1905
    have f_1907 : F_1838 (ad 20) = rw7 G s_12 := (o_1847 (ad 20) (hin 20 134 (by omega) (by omega) (by omega)) (hin 20 12 (by omega) (by omega) (by omega)) (hin 20 9 (by omega) (by omega) (by omega)) (hin 20 10 (by omega) (by omega) (by omega))).trans f_1906
    have f_1908 : F_1855 (ad 20) = rw7 G s_12 := (o_1860 (ad 20) (fun i hS => hin 20 i (by omega) (by omega) (by omega))).trans f_1907
    have f_1909 : F_1813 (ad 21) = rw7 G s_13 := (o_1817 (ad 21) ).trans hs_13
    have f_1910 : F_1819 (ad 21) = rw7 G s_13 := (hp_1820.2 (ad 21) (fun i hS => hin 21 i (by omega) (by omega) (by omega))).trans f_1909
    have f_1911 : F_1838 (ad 21) = rw7 G s_13 := (o_1847 (ad 21) (hin 21 134 (by omega) (by omega) (by omega)) (hin 21 12 (by omega) (by omega) (by omega)) (hin 21 9 (by omega) (by omega) (by omega)) (hin 21 10 (by omega) (by omega) (by omega))).trans f_1910
    have f_1912 : F_1855 (ad 21) = rw7 G s_13 := (o_1860 (ad 21) (fun i hS => hin 21 i (by omega) (by omega) (by omega))).trans f_1911
    exact r_i C0 hr hlk hw (v := (lowR ((m_log ((st.2.2.2.2.2 (6 + f9))) (st.1))))) rfl ⟨rfl, sta_row hn (t := ordT 108 t9) (u := ordR 108 f9 g9 st.1 st.2.2.2.2.2) (by unfold ordT; simp; omega) f_1862 rfl rfl (f_1859) (fun i0 hi => by simp [ordT] at hi; exact ((o_1860 (ad (i0)) (fun i hS => hin (i0) i (by omega) (by omega) (by omega)))).trans (((o_1847 (ad (i0)) (hin (i0) 134 (by omega) (by omega) (by omega)) (hin (i0) 12 (by omega) (by omega) (by omega)) (hin (i0) 9 (by omega) (by omega) (by omega)) (hin (i0) 10 (by omega) (by omega) (by omega)))).trans (((hp_1820.2 (ad (i0)) (fun i hS => hin (i0) i (by omega) (by omega) (by omega)))).trans ((o_1817 (ad (i0)) ))))), ⟨f_1865, lt14 ⟨_, f_1869⟩ ⟨_, f_1870⟩ ⟨_, f_1871⟩ ⟨_, f_1875⟩ ⟨_, f_1876⟩ ⟨_, f_1880⟩ ⟨_, f_1884⟩ ⟨_, f_1888⟩ ⟨_, f_1892⟩ ⟨_, f_1896⟩ ⟨_, f_1900⟩ ⟨_, f_1904⟩ ⟨_, f_1908⟩ ⟨_, f_1912⟩⟩, ⟨_, f_1863⟩, (fun q hq => ((o_1860 q (fun i hS => hq i (by omega))).trans ((o_1847 q (hq 134 (by omega)) (hq 12 (by omega)) (hq 9 (by omega)) (hq 10 (by omega))).trans ((hp_1820.2 q (fun i hS => hq i (by omega))).trans (o_1817 q )))))⟩ (Nat.le_refl _) (Nat.le_refl _) dX5_carryOut_313 hQ
  · skip
    exact absurd c_11 (by omega)
set_option maxHeartbeats 4000000 in
set_option maxRecDepth 100000 in
theorem c_X5_carryOut_101 (l : Launch) (G : Gl) (L : List Nat) (F : Nat → va_E) (ad : Nat → Nat) (hL : ∀ i, i < 166 → ad i ∈ L) (hin : ∀ i j, i < 166 → j < 166 → i ≠ j → ad i ≠ ad j) (f9 g9 t9 : Nat) (st : Sta) (u9 : Nat → ZP) (fx : F (ad 0) = xO ad) (hn : sta G F ad 22 st) (hrk : rkW G F ad) (h134 : F (ad 134) = rw7 G u9) (hf9 : f9 < 6) (hg9 : g9 < 6) (ht9 : t9 < 6) (hm : 5 * st.1 ≤ st.2.1) (hc : st.1 ≤ 6) (hc2 : 2 ≤ st.1) (hpu : st.2.1 ≤ 100000) : CI l yX5_carryOut cX5_carryOut 8 (some .int) rm_X5_carryOut G L F [.ref (ad 0), .int (nI (101)), .int (nI (f9)), .int (nI (g9)), .int (nI (t9))] (fun r F1 => r = lowR (ordR 101 f9 g9 st.1 st.2.2.2.2.2) ∧ sta G F1 ad 22 (ordS 101 f9 g9 t9 st) ∧ rkW G F1 ad ∧ (∃ u, F1 (ad 134) = rw7 G u) ∧ ∀ q, (∀ i, (i = 22 ∨ (26 ≤ i ∧ i < 38) ∨ (8 ≤ i ∧ i < 22) ∨ i = 134) → q ≠ ad i) → F1 q = F q) := by
  obtain ⟨s_13, hs_13⟩ := hrk.2 13 (by decide)
  obtain ⟨s_12, hs_12⟩ := hrk.2 12 (by decide)
  obtain ⟨s_11, hs_11⟩ := hrk.2 11 (by decide)
  obtain ⟨s_10, hs_10⟩ := hrk.2 10 (by decide)
  obtain ⟨s_9, hs_9⟩ := hrk.2 9 (by decide)
  obtain ⟨s_8, hs_8⟩ := hrk.2 8 (by decide)
  obtain ⟨s_7, hs_7⟩ := hrk.2 7 (by decide)
  obtain ⟨s_6, hs_6⟩ := hrk.2 6 (by decide)
  obtain ⟨s_5, hs_5⟩ := hrk.2 5 (by decide)
  obtain ⟨s_4, hs_4⟩ := hrk.2 4 (by decide)
  obtain ⟨s_3, hs_3⟩ := hrk.2 3 (by decide)
  obtain ⟨s_2, hs_2⟩ := hrk.2 2 (by decide)
  obtain ⟨s_1, hs_1⟩ := hrk.2 1 (by decide)
  obtain ⟨s_0, hs_0⟩ := hrk.2 0 (by decide)
  refine CG_of (by decide) (Nat.le_of_ble_eq_true rfl) rfl ?_
  intro p e s m args below meth c Q C0 hr hlk hnm hQ hw ls hl
  have hx := C0.x
  have hb := C0.b
  refine lv_aload_n hx hb dX5_carryOut_0 rfl (lv_at hl 0 rfl) ?_
  refine lv_iload_n hx hb dX5_carryOut_1 rfl (lv_at hl 1 rfl) ?_
  refine q_calli hw (q_runS (As := [.int (nI (101))]) (c_X5_unitsOf_101 l G L F ) C0 hw sw_X5_225 rfl hl.1 rfl (Nat.le_of_ble_eq_true rfl) dX5_carryOut_2 ⟨by decide, by decide⟩ ⟨by decide, by decide⟩) rfl rfl (fun r_1915 F_1913 H locs hw hp_1914 => ?_)
  obtain ⟨he_1916, o_1917⟩ := hp_1914
  subst he_1916
  have f_1918 : F_1913 (ad 0) = xO ad := (o_1917 (ad 0) ).trans fx
  refine q_callv hw (q_runV (As := [.int (nI (5))]) (c_X5_pay l G L F_1913 ad hL hin 5 st f_1918 (hn.keep (fun i0 hi => (o_1917 (ad (i0)) ))) (by omega)) C0 hw vw_X5_114 ((hL 0 (by omega))) f_1918 rfl rfl rfl hl.1 rfl (Nat.le_of_ble_eq_true rfl) dX5_carryOut_5 ⟨by decide, by decide⟩ ⟨by decide, by decide⟩) rfl rfl (fun F_1919 H locs hw hp_1920 => ?_)
  refine lv_iload_n hx hb dX5_carryOut_8 rfl (lv_at hl 1 rfl) ?_
  refine lv_bipush (v := nI 98) hx hb dX5_carryOut_9 (by decide) ?_
  refine n_icmp_ne (tgt := 27) hx hb dX5_carryOut_11 (by decide) (by decide) (by decide) (fun c_11 => ?_) (fun c_11 => ?_)
  · skip
    refine lv_aload_n hx hb dX5_carryOut_27 rfl (lv_at hl 0 rfl) ?_
    have f_1921 : F_1919 (ad 0) = xO ad := (hp_1920.2 (ad 0) (fun i hS => hin 0 i (by omega) (by omega) (by omega))).trans f_1918
    refine q_get C0 hw ((hL 0 (by omega))) f_1921 fw_X5_12 rfl dX5_carryOut_28 ?_
    refine q_get C0 hw ((hL 22 (by omega))) hp_1920.1 fw_X5_66 rfl dX5_carryOut_31 ?_
    have f_1922 : F_1913 (ad 23) = .inr (2, [.int (nI (st.1)), .ref (ad 24), .ref (ad 25)]) := (o_1917 (ad 23) ).trans hn.2.1
    have f_1923 : F_1919 (ad 23) = .inr (2, [.int (nI (st.1)), .ref (ad 24), .ref (ad 25)]) := (hp_1920.2 (ad 23) (fun i hS => hin 23 i (by omega) (by omega) (by omega))).trans f_1922
    refine q_get C0 hw ((hL 23 (by omega))) f_1923 fw_X5_85 rfl dX5_carryOut_34 ?_
    refine lv_astore (lv' := [(5, .ref (ad 24)), (0, .ref (ad 0)), (1, .int (nI (101))), (2, .int (nI (f9))), (3, .int (nI (g9))), (4, .int (nI (t9)))]) hx hb dX5_carryOut_37 hl (by decide) rfl (fun ls hl => ?_)
    refine lv_aload_n hx hb dX5_carryOut_39 rfl (lv_at hl 1 rfl) ?_
    refine q_get C0 hw ((hL 0 (by omega))) f_1921 fw_X5_12 rfl dX5_carryOut_40 ?_
    refine q_get C0 hw ((hL 22 (by omega))) hp_1920.1 fw_X5_66 rfl dX5_carryOut_43 ?_
    refine q_get C0 hw ((hL 23 (by omega))) f_1923 fw_X5_93 rfl dX5_carryOut_46 ?_
    refine lv_astore (lv' := [(6, .ref (ad 25)), (5, .ref (ad 24)), (0, .ref (ad 0)), (1, .int (nI (101))), (2, .int (nI (f9))), (3, .int (nI (g9))), (4, .int (nI (t9)))]) hx hb dX5_carryOut_49 hl (by decide) rfl (fun ls hl => ?_)
    refine lv_aload_n hx hb dX5_carryOut_51 rfl (lv_at hl 2 rfl) ?_
    refine q_get C0 hw ((hL 0 (by omega))) f_1921 fw_X5_12 rfl dX5_carryOut_52 ?_
    refine q_get C0 hw ((hL 22 (by omega))) hp_1920.1 fw_X5_66 rfl dX5_carryOut_55 ?_
    refine q_get C0 hw ((hL 23 (by omega))) f_1923 fw_X5_70 rfl dX5_carryOut_58 ?_
    refine lv_istore (lv' := [(7, .int (nI (st.1))), (6, .ref (ad 25)), (5, .ref (ad 24)), (0, .ref (ad 0)), (1, .int (nI (101))), (2, .int (nI (f9))), (3, .int (nI (g9))), (4, .int (nI (t9)))]) hx hb dX5_carryOut_61 hl (by decide) rfl (fun ls hl => ?_)
    refine lv_iload_n hx hb dX5_carryOut_63 rfl (lv_at hl 4 rfl) ?_
    refine lv_tableIn (off := 250) (tgt := 314) hx hb dX5_carryOut_64 (by decide) (by decide) rfl (by decide) ?_
    refine lv_aload_n hx hb dX5_carryOut_314 rfl (lv_at hl 3 rfl) ?_
    refine q_get C0 hw ((hL 0 (by omega))) f_1921 fw_X5_44 rfl dX5_carryOut_315 ?_
    refine lv_aload hx hb dX5_carryOut_318 (lv_at hl 2 rfl) ?_
    refine lv_iload_n hx hb dX5_carryOut_320 rfl (lv_at hl 5 rfl) ?_
    have f_1924 : F_1913 (ad 24) = oE G (fun i => ad (26 + i)) := (o_1917 (ad 24) ).trans hn.2.2.1
    have f_1925 : F_1919 (ad 24) = oE G (fun i => ad (26 + i)) := (hp_1920.2 (ad 24) (fun i hS => hin 24 i (by omega) (by omega) (by omega))).trans f_1924
    refine q_aaldi C0 hw ((hL 24 (by omega))) f_1925 (f9) (by omega) (by decide) (b := ad (26 + f9)) rfl dX5_carryOut_321 ?_
    refine lv_iload hx hb dX5_carryOut_322 (lv_at hl 0 rfl) ?_
    refine lv_aload_n hx hb dX5_carryOut_324 rfl (lv_at hl 3 rfl) ?_
    refine q_get C0 hw ((hL 0 (by omega))) f_1921 fw_X5_48 rfl dX5_carryOut_325 ?_
    have f_1926 : F_1913 (ad (26 + f9)) = rw7 G ((st.2.2.2.2.2 f9)) := (o_1917 (ad (26 + f9)) ).trans ((hn.2.2.2.2 f9 (by omega)))
    have f_1927 : F_1919 (ad (26 + f9)) = rw7 G ((st.2.2.2.2.2 f9)) := (hp_1920.2 (ad (26 + f9)) (fun i hS => hin (26 + f9) i (by omega) (by omega) (by omega))).trans f_1926
    have f_1928 : F_1913 (ad 134) = rw7 G u9 := (o_1917 (ad 134) ).trans h134
    have f_1929 : F_1919 (ad 134) = rw7 G u9 := (hp_1920.2 (ad 134) (fun i hS => hin 134 i (by omega) (by omega) (by omega))).trans f_1928
    have f_1930 : F_1913 (ad 9) = rw7 G s_1 := (o_1917 (ad 9) ).trans hs_1
    have f_1931 : F_1919 (ad 9) = rw7 G s_1 := (hp_1920.2 (ad 9) (fun i hS => hin 9 i (by omega) (by omega) (by omega))).trans f_1930
    have f_1932 : F_1913 (ad 10) = rw7 G s_2 := (o_1917 (ad 10) ).trans hs_2
    have f_1933 : F_1919 (ad 10) = rw7 G s_2 := (hp_1920.2 (ad 10) (fun i hS => hin 10 i (by omega) (by omega) (by omega))).trans f_1932
    have f_1934 : F_1913 (ad 7) = rkO (fun i => ad (8 + i)) := (o_1917 (ad 7) ).trans hrk.1
    have f_1935 : F_1919 (ad 7) = rkO (fun i => ad (8 + i)) := (hp_1920.2 (ad 7) (fun i hS => hin 7 i (by omega) (by omega) (by omega))).trans f_1934
    refine q_callv hw (q_runV (As := [.ref (ad (26 + f9)), .int (nI (st.1)), .ref (ad 134)]) (c_X1_exponential l G L F_1919 (ad 7) (fun i => ad (8 + i)) (ad (26 + f9)) (ad 134) (st.1) ((st.2.2.2.2.2 f9)) u9 s_1 s_2  ((hL 7 (by omega))) f_1935 (fun i hi => hL (8 + i) (by omega)) (ra_inj hin) ((hL (26 + f9) (by omega))) f_1927 ((hL 134 (by omega))) f_1929 f_1931 f_1933 (hin (26 + f9) 134 (by omega) (by omega) (by omega)) (hin (26 + f9) 9 (by omega) (by omega) (by omega)) (hin 134 9 (by omega) (by omega) (by omega)) (hin (26 + f9) 10 (by omega) (by omega) (by omega)) (hin 134 10 (by omega) (by omega) (by omega)) (by omega) (by omega) ) C0 hw vw_X5_322 ((hL 7 (by omega))) f_1935 rfl rfl rfl hl.1 rfl (Nat.le_of_ble_eq_true rfl) dX5_carryOut_328 ⟨by decide, by decide⟩ ⟨by decide, by decide⟩) rfl rfl (fun F_1936 H locs hw hp_1937 => ?_)
    obtain ⟨f_1938, ⟨t_1941, f_1939⟩, ⟨t_1942, f_1940⟩, o_1943⟩ := hp_1937
    refine lv_aload_n hx hb dX5_carryOut_331 rfl (lv_at hl 3 rfl) ?_
    refine lv_aload hx hb dX5_carryOut_332 (lv_at hl 1 rfl) ?_
    refine lv_iload hx hb dX5_carryOut_334 (lv_at hl 7 rfl) ?_
    have f_1944 : F_1913 (ad 25) = oE G (fun i => ad (32 + i)) := (o_1917 (ad 25) ).trans hn.2.2.2.1
    have f_1945 : F_1919 (ad 25) = oE G (fun i => ad (32 + i)) := (hp_1920.2 (ad 25) (fun i hS => hin 25 i (by omega) (by omega) (by omega))).trans f_1944
    have f_1946 : F_1936 (ad 25) = oE G (fun i => ad (32 + i)) := (o_1943 (ad 25) (hin 25 134 (by omega) (by omega) (by omega)) (hin 25 9 (by omega) (by omega) (by omega)) (hin 25 10 (by omega) (by omega) (by omega))).trans f_1945
    refine q_aaldi C0 hw ((hL 25 (by omega))) f_1946 (t9) (by omega) (by decide) (b := ad (32 + t9)) rfl dX5_carryOut_336 ?_
    refine n_top (show Value.ref (ad (32 + t9)) = Value.ref (ad (26 + (6 + t9))) by rw [show 32 + t9 = 26 + (6 + t9) by omega]) ?_
    have f_1947 : F_1913 (ad (26 + (6 + t9))) = rw7 G ((st.2.2.2.2.2 (6 + t9))) := (o_1917 (ad (26 + (6 + t9))) ).trans ((hn.2.2.2.2 (6 + t9) (by omega)))
    have f_1948 : F_1919 (ad (26 + (6 + t9))) = rw7 G ((st.2.2.2.2.2 (6 + t9))) := (hp_1920.2 (ad (26 + (6 + t9))) (fun i hS => hin ((26 + (6 + t9))) i (by omega) (by omega) (by omega))).trans f_1947
    have f_1949 : F_1936 (ad (26 + (6 + t9))) = rw7 G ((st.2.2.2.2.2 (6 + t9))) := (o_1943 (ad (26 + (6 + t9))) (hin ((26 + (6 + t9))) 134 (by omega) (by omega) (by omega)) (hin ((26 + (6 + t9))) 9 (by omega) (by omega) (by omega)) (hin ((26 + (6 + t9))) 10 (by omega) (by omega) (by omega))).trans f_1948
    have f_1950 : F_1936 (ad 0) = xO ad := (o_1943 (ad 0) (hin 0 134 (by omega) (by omega) (by omega)) (hin 0 9 (by omega) (by omega) (by omega)) (hin 0 10 (by omega) (by omega) (by omega))).trans f_1921
    refine q_calli hw (q_runV (As := [.ref (ad (26 + (6 + t9)))]) (c_X5_put l G L F_1936 ad hL hin (6 + t9) ((m_exp ((st.2.2.2.2.2 f9)) (st.1))) ((st.2.2.2.2.2 (6 + t9))) f_1950 f_1938 f_1949 (by omega)) C0 hw vw_X5_127 ((hL 0 (by omega))) f_1950 rfl rfl rfl hl.1 rfl (Nat.le_of_ble_eq_true rfl) dX5_carryOut_337 ⟨by decide, by decide⟩ ⟨by decide, by decide⟩) rfl rfl (fun r_1953 F_1951 H locs hw hp_1952 => ?_)
    obtain ⟨he_1954, f_1955, o_1956⟩ := hp_1952
    subst he_1954
    have f_1957 : F_1936 (ad 22) = .inr (3, [.ref (ad 23), .int (nI (st.2.1 - 5 * st.1)), .int (nI (st.2.2.1 + 5 * st.1)), .int (nI (st.2.2.2.1 + 1)), .int (nI (st.2.2.2.2.1))]) := (o_1943 (ad 22) (hin 22 134 (by omega) (by omega) (by omega)) (hin 22 9 (by omega) (by omega) (by omega)) (hin 22 10 (by omega) (by omega) (by omega))).trans hp_1920.1
    have f_1958 : F_1951 (ad 22) = .inr (3, [.ref (ad 23), .int (nI (st.2.1 - 5 * st.1)), .int (nI (st.2.2.1 + 5 * st.1)), .int (nI (st.2.2.2.1 + 1)), .int (nI (st.2.2.2.2.1))]) := (o_1956 (ad 22) (fun i hS => hin 22 i (by omega) (by omega) (by omega))).trans f_1957
    have f_1959 : F_1951 (ad 134) = rw7 G ((m_exp ((st.2.2.2.2.2 f9)) (st.1))) := (o_1956 (ad 134) (fun i hS => hin 134 i (by omega) (by omega) (by omega))).trans f_1938
    have f_1960 : F_1936 (ad 7) = rkO (fun i => ad (8 + i)) := (o_1943 (ad 7) (hin 7 134 (by omega) (by omega) (by omega)) (hin 7 9 (by omega) (by omega) (by omega)) (hin 7 10 (by omega) (by omega) (by omega))).trans f_1935
    have f_1961 : F_1951 (ad 7) = rkO (fun i => ad (8 + i)) := (o_1956 (ad 7) (fun i hS => hin 7 i (by omega) (by omega) (by omega))).trans f_1960
    have f_1962 : F_1913 (ad 8) = rw7 G s_0 := (o_1917 (ad 8) ).trans hs_0
    have f_1963 : F_1919 (ad 8) = rw7 G s_0 := (hp_1920.2 (ad 8) (fun i hS => hin 8 i (by omega) (by omega) (by omega))).trans f_1962
    have f_1964 : F_1936 (ad 8) = rw7 G s_0 := (o_1943 (ad 8) (hin 8 134 (by omega) (by omega) (by omega)) (hin 8 9 (by omega) (by omega) (by omega)) (hin 8 10 (by omega) (by omega) (by omega))).trans f_1963
    have f_1965 : F_1951 (ad 8) = rw7 G s_0 := (o_1956 (ad 8) (fun i hS => hin 8 i (by omega) (by omega) (by omega))).trans f_1964
    have f_1966 : F_1951 (ad 9) = rw7 G t_1941 := (o_1956 (ad 9) (fun i hS => hin 9 i (by omega) (by omega) (by omega))).trans f_1939
    have f_1967 : F_1951 (ad 10) = rw7 G t_1942 := (o_1956 (ad 10) (fun i hS => hin 10 i (by omega) (by omega) (by omega))).trans f_1940
    have f_1968 : F_1913 (ad 11) = rw7 G s_3 := (o_1917 (ad 11) ).trans hs_3
    have f_1969 : F_1919 (ad 11) = rw7 G s_3 := (hp_1920.2 (ad 11) (fun i hS => hin 11 i (by omega) (by omega) (by omega))).trans f_1968
    have f_1970 : F_1936 (ad 11) = rw7 G s_3 := (o_1943 (ad 11) (hin 11 134 (by omega) (by omega) (by omega)) (hin 11 9 (by omega) (by omega) (by omega)) (hin 11 10 (by omega) (by omega) (by omega))).trans f_1969
    have f_1971 : F_1951 (ad 11) = rw7 G s_3 := (o_1956 (ad 11) (fun i hS => hin 11 i (by omega) (by omega) (by omega))).trans f_1970
    have f_1972 : F_1913 (ad 12) = rw7 G s_4 := (o_1917 (ad 12) ).trans hs_4
    have f_1973 : F_1919 (ad 12) = rw7 G s_4 := (hp_1920.2 (ad 12) (fun i hS => hin 12 i (by omega) (by omega) (by omega))).trans f_1972
    have f_1974 : F_1936 (ad 12) = rw7 G s_4 := (o_1943 (ad 12) (hin 12 134 (by omega) (by omega) (by omega)) (hin 12 9 (by omega) (by omega) (by omega)) (hin 12 10 (by omega) (by omega) (by omega))).trans f_1973
    have f_1975 : F_1951 (ad 12) = rw7 G s_4 := (o_1956 (ad 12) (fun i hS => hin 12 i (by omega) (by omega) (by omega))).trans f_1974
    have f_1976 : F_1913 (ad 13) = rw7 G s_5 := (o_1917 (ad 13) ).trans hs_5
    have f_1977 : F_1919 (ad 13) = rw7 G s_5 := (hp_1920.2 (ad 13) (fun i hS => hin 13 i (by omega) (by omega) (by omega))).trans f_1976
    have f_1978 : F_1936 (ad 13) = rw7 G s_5 := (o_1943 (ad 13) (hin 13 134 (by omega) (by omega) (by omega)) (hin 13 9 (by omega) (by omega) (by omega)) (hin 13 10 (by omega) (by omega) (by omega))).trans f_1977
    have f_1979 : F_1951 (ad 13) = rw7 G s_5 := (o_1956 (ad 13) (fun i hS => hin 13 i (by omega) (by omega) (by omega))).trans f_1978
    have f_1980 : F_1913 (ad 14) = rw7 G s_6 := (o_1917 (ad 14) ).trans hs_6
    have f_1981 : F_1919 (ad 14) = rw7 G s_6 := (hp_1920.2 (ad 14) (fun i hS => hin 14 i (by omega) (by omega) (by omega))).trans f_1980
    have f_1982 : F_1936 (ad 14) = rw7 G s_6 := (o_1943 (ad 14) (hin 14 134 (by omega) (by omega) (by omega)) (hin 14 9 (by omega) (by omega) (by omega)) (hin 14 10 (by omega) (by omega) (by omega))).trans f_1981
    have f_1983 : F_1951 (ad 14) = rw7 G s_6 := (o_1956 (ad 14) (fun i hS => hin 14 i (by omega) (by omega) (by omega))).trans f_1982
    have f_1984 : F_1913 (ad 15) = rw7 G s_7 := (o_1917 (ad 15) ).trans hs_7
    have f_1985 : F_1919 (ad 15) = rw7 G s_7 := (hp_1920.2 (ad 15) (fun i hS => hin 15 i (by omega) (by omega) (by omega))).trans f_1984
    have f_1986 : F_1936 (ad 15) = rw7 G s_7 := (o_1943 (ad 15) (hin 15 134 (by omega) (by omega) (by omega)) (hin 15 9 (by omega) (by omega) (by omega)) (hin 15 10 (by omega) (by omega) (by omega))).trans f_1985
    have f_1987 : F_1951 (ad 15) = rw7 G s_7 := (o_1956 (ad 15) (fun i hS => hin 15 i (by omega) (by omega) (by omega))).trans f_1986
    have f_1988 : F_1913 (ad 16) = rw7 G s_8 := (o_1917 (ad 16) ).trans hs_8
    have f_1989 : F_1919 (ad 16) = rw7 G s_8 := (hp_1920.2 (ad 16) (fun i hS => hin 16 i (by omega) (by omega) (by omega))).trans f_1988
    have f_1990 : F_1936 (ad 16) = rw7 G s_8 := (o_1943 (ad 16) (hin 16 134 (by omega) (by omega) (by omega)) (hin 16 9 (by omega) (by omega) (by omega)) (hin 16 10 (by omega) (by omega) (by omega))).trans f_1989
    have f_1991 : F_1951 (ad 16) = rw7 G s_8 := (o_1956 (ad 16) (fun i hS => hin 16 i (by omega) (by omega) (by omega))).trans f_1990
    have f_1992 : F_1913 (ad 17) = rw7 G s_9 := (o_1917 (ad 17) ).trans hs_9
    have f_1993 : F_1919 (ad 17) = rw7 G s_9 := (hp_1920.2 (ad 17) (fun i hS => hin 17 i (by omega) (by omega) (by omega))).trans f_1992
    have f_1994 : F_1936 (ad 17) = rw7 G s_9 := (o_1943 (ad 17) (hin 17 134 (by omega) (by omega) (by omega)) (hin 17 9 (by omega) (by omega) (by omega)) (hin 17 10 (by omega) (by omega) (by omega))).trans f_1993
    have f_1995 : F_1951 (ad 17) = rw7 G s_9 := (o_1956 (ad 17) (fun i hS => hin 17 i (by omega) (by omega) (by omega))).trans f_1994
    have f_1996 : F_1913 (ad 18) = rw7 G s_10 := (o_1917 (ad 18) ).trans hs_10
    have f_1997 : F_1919 (ad 18) = rw7 G s_10 := (hp_1920.2 (ad 18) (fun i hS => hin 18 i (by omega) (by omega) (by omega))).trans f_1996
    have f_1998 : F_1936 (ad 18) = rw7 G s_10 := (o_1943 (ad 18) (hin 18 134 (by omega) (by omega) (by omega)) (hin 18 9 (by omega) (by omega) (by omega)) (hin 18 10 (by omega) (by omega) (by omega))).trans f_1997
    have f_1999 : F_1951 (ad 18) = rw7 G s_10 := (o_1956 (ad 18) (fun i hS => hin 18 i (by omega) (by omega) (by omega))).trans f_1998
    have f_2000 : F_1913 (ad 19) = rw7 G s_11 := (o_1917 (ad 19) ).trans hs_11
    have f_2001 : F_1919 (ad 19) = rw7 G s_11 := (hp_1920.2 (ad 19) (fun i hS => hin 19 i (by omega) (by omega) (by omega))).trans f_2000
    have f_2002 : F_1936 (ad 19) = rw7 G s_11 := (o_1943 (ad 19) (hin 19 134 (by omega) (by omega) (by omega)) (hin 19 9 (by omega) (by omega) (by omega)) (hin 19 10 (by omega) (by omega) (by omega))).trans f_2001
    have f_2003 : F_1951 (ad 19) = rw7 G s_11 := (o_1956 (ad 19) (fun i hS => hin 19 i (by omega) (by omega) (by omega))).trans f_2002
    have f_2004 : F_1913 (ad 20) = rw7 G s_12 := (o_1917 (ad 20) ).trans hs_12
    have f_2005 : F_1919 (ad 20) = rw7 G s_12 := (hp_1920.2 (ad 20) (fun i hS => hin 20 i (by omega) (by omega) (by omega))).trans f_2004
    have f_2006 : F_1936 (ad 20) = rw7 G s_12 := (o_1943 (ad 20) (hin 20 134 (by omega) (by omega) (by omega)) (hin 20 9 (by omega) (by omega) (by omega)) (hin 20 10 (by omega) (by omega) (by omega))).trans f_2005
    have f_2007 : F_1951 (ad 20) = rw7 G s_12 := (o_1956 (ad 20) (fun i hS => hin 20 i (by omega) (by omega) (by omega))).trans f_2006
    have f_2008 : F_1913 (ad 21) = rw7 G s_13 := (o_1917 (ad 21) ).trans hs_13
    have f_2009 : F_1919 (ad 21) = rw7 G s_13 := (hp_1920.2 (ad 21) (fun i hS => hin 21 i (by omega) (by omega) (by omega))).trans f_2008
    have f_2010 : F_1936 (ad 21) = rw7 G s_13 := (o_1943 (ad 21) (hin 21 134 (by omega) (by omega) (by omega)) (hin 21 9 (by omega) (by omega) (by omega)) (hin 21 10 (by omega) (by omega) (by omega))).trans f_2009
    have f_2011 : F_1951 (ad 21) = rw7 G s_13 := (o_1956 (ad 21) (fun i hS => hin 21 i (by omega) (by omega) (by omega))).trans f_2010
    exact r_i C0 hr hlk hw (v := (lowR ((m_exp ((st.2.2.2.2.2 f9)) (st.1))))) rfl ⟨rfl, sta_row hn (t := ordT 101 t9) (u := ordR 101 f9 g9 st.1 st.2.2.2.2.2) (by unfold ordT; simp; omega) f_1958 rfl rfl (f_1955) (fun i0 hi => by simp [ordT] at hi; exact ((o_1956 (ad (i0)) (fun i hS => hin (i0) i (by omega) (by omega) (by omega)))).trans (((o_1943 (ad (i0)) (hin (i0) 134 (by omega) (by omega) (by omega)) (hin (i0) 9 (by omega) (by omega) (by omega)) (hin (i0) 10 (by omega) (by omega) (by omega)))).trans (((hp_1920.2 (ad (i0)) (fun i hS => hin (i0) i (by omega) (by omega) (by omega)))).trans ((o_1917 (ad (i0)) ))))), ⟨f_1961, lt14 ⟨_, f_1965⟩ ⟨_, f_1966⟩ ⟨_, f_1967⟩ ⟨_, f_1971⟩ ⟨_, f_1975⟩ ⟨_, f_1979⟩ ⟨_, f_1983⟩ ⟨_, f_1987⟩ ⟨_, f_1991⟩ ⟨_, f_1995⟩ ⟨_, f_1999⟩ ⟨_, f_2003⟩ ⟨_, f_2007⟩ ⟨_, f_2011⟩⟩, ⟨_, f_1959⟩, (fun q hq => ((o_1956 q (fun i hS => hq i (by omega))).trans ((o_1943 q (hq 134 (by omega)) (hq 9 (by omega)) (hq 10 (by omega))).trans ((hp_1920.2 q (fun i hS => hq i (by omega))).trans (o_1917 q )))))⟩ (Nat.le_refl _) (Nat.le_refl _) dX5_carryOut_340 hQ
  · skip
    exact absurd c_11 (by omega)
set_option maxHeartbeats 4000000 in
set_option maxRecDepth 100000 in
theorem c_X5_carryOut_99 (l : Launch) (G : Gl) (L : List Nat) (F : Nat → va_E) (ad : Nat → Nat) (hL : ∀ i, i < 166 → ad i ∈ L) (hin : ∀ i j, i < 166 → j < 166 → i ≠ j → ad i ≠ ad j) (f9 g9 t9 : Nat) (st : Sta) (u9 : Nat → ZP) (fx : F (ad 0) = xO ad) (hn : sta G F ad 22 st) (hrk : rkW G F ad) (h134 : F (ad 134) = rw7 G u9) (hf9 : f9 < 6) (hg9 : g9 < 6) (ht9 : t9 < 6) (hm : 4 * st.1 ≤ st.2.1) (hc : st.1 ≤ 6) (hc2 : 2 ≤ st.1) (hpu : st.2.1 ≤ 100000) : CI l yX5_carryOut cX5_carryOut 8 (some .int) rm_X5_carryOut G L F [.ref (ad 0), .int (nI (99)), .int (nI (f9)), .int (nI (g9)), .int (nI (t9))] (fun r F1 => r = lowR (ordR 99 f9 g9 st.1 st.2.2.2.2.2) ∧ sta G F1 ad 22 (ordS 99 f9 g9 t9 st) ∧ rkW G F1 ad ∧ (∃ u, F1 (ad 134) = rw7 G u) ∧ ∀ q, (∀ i, (i = 22 ∨ (26 ≤ i ∧ i < 38) ∨ (8 ≤ i ∧ i < 22) ∨ i = 134) → q ≠ ad i) → F1 q = F q) := by
  obtain ⟨s_13, hs_13⟩ := hrk.2 13 (by decide)
  obtain ⟨s_12, hs_12⟩ := hrk.2 12 (by decide)
  obtain ⟨s_11, hs_11⟩ := hrk.2 11 (by decide)
  obtain ⟨s_10, hs_10⟩ := hrk.2 10 (by decide)
  obtain ⟨s_9, hs_9⟩ := hrk.2 9 (by decide)
  obtain ⟨s_8, hs_8⟩ := hrk.2 8 (by decide)
  obtain ⟨s_7, hs_7⟩ := hrk.2 7 (by decide)
  obtain ⟨s_6, hs_6⟩ := hrk.2 6 (by decide)
  obtain ⟨s_5, hs_5⟩ := hrk.2 5 (by decide)
  obtain ⟨s_4, hs_4⟩ := hrk.2 4 (by decide)
  obtain ⟨s_3, hs_3⟩ := hrk.2 3 (by decide)
  obtain ⟨s_2, hs_2⟩ := hrk.2 2 (by decide)
  obtain ⟨s_1, hs_1⟩ := hrk.2 1 (by decide)
  obtain ⟨s_0, hs_0⟩ := hrk.2 0 (by decide)
  refine CG_of (by decide) (Nat.le_of_ble_eq_true rfl) rfl ?_
  intro p e s m args below meth c Q C0 hr hlk hnm hQ hw ls hl
  have hx := C0.x
  have hb := C0.b
  refine lv_aload_n hx hb dX5_carryOut_0 rfl (lv_at hl 0 rfl) ?_
  refine lv_iload_n hx hb dX5_carryOut_1 rfl (lv_at hl 1 rfl) ?_
  refine q_calli hw (q_runS (As := [.int (nI (99))]) (c_X5_unitsOf_99 l G L F ) C0 hw sw_X5_225 rfl hl.1 rfl (Nat.le_of_ble_eq_true rfl) dX5_carryOut_2 ⟨by decide, by decide⟩ ⟨by decide, by decide⟩) rfl rfl (fun r_2014 F_2012 H locs hw hp_2013 => ?_)
  obtain ⟨he_2015, o_2016⟩ := hp_2013
  subst he_2015
  have f_2017 : F_2012 (ad 0) = xO ad := (o_2016 (ad 0) ).trans fx
  refine q_callv hw (q_runV (As := [.int (nI (4))]) (c_X5_pay l G L F_2012 ad hL hin 4 st f_2017 (hn.keep (fun i0 hi => (o_2016 (ad (i0)) ))) (by omega)) C0 hw vw_X5_114 ((hL 0 (by omega))) f_2017 rfl rfl rfl hl.1 rfl (Nat.le_of_ble_eq_true rfl) dX5_carryOut_5 ⟨by decide, by decide⟩ ⟨by decide, by decide⟩) rfl rfl (fun F_2018 H locs hw hp_2019 => ?_)
  refine lv_iload_n hx hb dX5_carryOut_8 rfl (lv_at hl 1 rfl) ?_
  refine lv_bipush (v := nI 98) hx hb dX5_carryOut_9 (by decide) ?_
  refine n_icmp_ne (tgt := 27) hx hb dX5_carryOut_11 (by decide) (by decide) (by decide) (fun c_11 => ?_) (fun c_11 => ?_)
  · skip
    refine lv_aload_n hx hb dX5_carryOut_27 rfl (lv_at hl 0 rfl) ?_
    have f_2020 : F_2018 (ad 0) = xO ad := (hp_2019.2 (ad 0) (fun i hS => hin 0 i (by omega) (by omega) (by omega))).trans f_2017
    refine q_get C0 hw ((hL 0 (by omega))) f_2020 fw_X5_12 rfl dX5_carryOut_28 ?_
    refine q_get C0 hw ((hL 22 (by omega))) hp_2019.1 fw_X5_66 rfl dX5_carryOut_31 ?_
    have f_2021 : F_2012 (ad 23) = .inr (2, [.int (nI (st.1)), .ref (ad 24), .ref (ad 25)]) := (o_2016 (ad 23) ).trans hn.2.1
    have f_2022 : F_2018 (ad 23) = .inr (2, [.int (nI (st.1)), .ref (ad 24), .ref (ad 25)]) := (hp_2019.2 (ad 23) (fun i hS => hin 23 i (by omega) (by omega) (by omega))).trans f_2021
    refine q_get C0 hw ((hL 23 (by omega))) f_2022 fw_X5_85 rfl dX5_carryOut_34 ?_
    refine lv_astore (lv' := [(5, .ref (ad 24)), (0, .ref (ad 0)), (1, .int (nI (99))), (2, .int (nI (f9))), (3, .int (nI (g9))), (4, .int (nI (t9)))]) hx hb dX5_carryOut_37 hl (by decide) rfl (fun ls hl => ?_)
    refine lv_aload_n hx hb dX5_carryOut_39 rfl (lv_at hl 1 rfl) ?_
    refine q_get C0 hw ((hL 0 (by omega))) f_2020 fw_X5_12 rfl dX5_carryOut_40 ?_
    refine q_get C0 hw ((hL 22 (by omega))) hp_2019.1 fw_X5_66 rfl dX5_carryOut_43 ?_
    refine q_get C0 hw ((hL 23 (by omega))) f_2022 fw_X5_93 rfl dX5_carryOut_46 ?_
    refine lv_astore (lv' := [(6, .ref (ad 25)), (5, .ref (ad 24)), (0, .ref (ad 0)), (1, .int (nI (99))), (2, .int (nI (f9))), (3, .int (nI (g9))), (4, .int (nI (t9)))]) hx hb dX5_carryOut_49 hl (by decide) rfl (fun ls hl => ?_)
    refine lv_aload_n hx hb dX5_carryOut_51 rfl (lv_at hl 2 rfl) ?_
    refine q_get C0 hw ((hL 0 (by omega))) f_2020 fw_X5_12 rfl dX5_carryOut_52 ?_
    refine q_get C0 hw ((hL 22 (by omega))) hp_2019.1 fw_X5_66 rfl dX5_carryOut_55 ?_
    refine q_get C0 hw ((hL 23 (by omega))) f_2022 fw_X5_70 rfl dX5_carryOut_58 ?_
    refine lv_istore (lv' := [(7, .int (nI (st.1))), (6, .ref (ad 25)), (5, .ref (ad 24)), (0, .ref (ad 0)), (1, .int (nI (99))), (2, .int (nI (f9))), (3, .int (nI (g9))), (4, .int (nI (t9)))]) hx hb dX5_carryOut_61 hl (by decide) rfl (fun ls hl => ?_)
    refine lv_iload_n hx hb dX5_carryOut_63 rfl (lv_at hl 4 rfl) ?_
    refine lv_tableIn (off := 277) (tgt := 341) hx hb dX5_carryOut_64 (by decide) (by decide) rfl (by decide) ?_
    refine lv_aload_n hx hb dX5_carryOut_341 rfl (lv_at hl 3 rfl) ?_
    refine q_get C0 hw ((hL 0 (by omega))) f_2020 fw_X5_44 rfl dX5_carryOut_342 ?_
    refine lv_aload hx hb dX5_carryOut_345 (lv_at hl 1 rfl) ?_
    refine lv_iload_n hx hb dX5_carryOut_347 rfl (lv_at hl 5 rfl) ?_
    have f_2023 : F_2012 (ad 25) = oE G (fun i => ad (32 + i)) := (o_2016 (ad 25) ).trans hn.2.2.2.1
    have f_2024 : F_2018 (ad 25) = oE G (fun i => ad (32 + i)) := (hp_2019.2 (ad 25) (fun i hS => hin 25 i (by omega) (by omega) (by omega))).trans f_2023
    refine q_aaldi C0 hw ((hL 25 (by omega))) f_2024 (f9) (by omega) (by decide) (b := ad (32 + f9)) rfl dX5_carryOut_348 ?_
    refine lv_aload hx hb dX5_carryOut_349 (lv_at hl 1 rfl) ?_
    refine lv_iload_n hx hb dX5_carryOut_351 rfl (lv_at hl 6 rfl) ?_
    refine q_aaldi C0 hw ((hL 25 (by omega))) f_2024 (g9) (by omega) (by decide) (b := ad (32 + g9)) rfl dX5_carryOut_352 ?_
    refine lv_iload hx hb dX5_carryOut_353 (lv_at hl 0 rfl) ?_
    refine lv_aload_n hx hb dX5_carryOut_355 rfl (lv_at hl 3 rfl) ?_
    refine q_get C0 hw ((hL 0 (by omega))) f_2020 fw_X5_48 rfl dX5_carryOut_356 ?_
    have f_2025 : F_2012 (ad (32 + f9)) = rw7 G ((st.2.2.2.2.2 (6 + f9))) := (o_2016 (ad (32 + f9)) ).trans ((show F (ad (32 + f9)) = _ from by have h9 := hn.2.2.2.2 (6 + f9) (by omega); rwa [show 22 + 4 + (6 + f9) = 32 + f9 by omega] at h9))
    have f_2026 : F_2018 (ad (32 + f9)) = rw7 G ((st.2.2.2.2.2 (6 + f9))) := (hp_2019.2 (ad (32 + f9)) (fun i hS => hin (32 + f9) i (by omega) (by omega) (by omega))).trans f_2025
    have f_2027 : F_2012 (ad (32 + g9)) = rw7 G ((st.2.2.2.2.2 (6 + g9))) := (o_2016 (ad (32 + g9)) ).trans ((show F (ad (32 + g9)) = _ from by have h9 := hn.2.2.2.2 (6 + g9) (by omega); rwa [show 22 + 4 + (6 + g9) = 32 + g9 by omega] at h9))
    have f_2028 : F_2018 (ad (32 + g9)) = rw7 G ((st.2.2.2.2.2 (6 + g9))) := (hp_2019.2 (ad (32 + g9)) (fun i hS => hin (32 + g9) i (by omega) (by omega) (by omega))).trans f_2027
    have f_2029 : F_2012 (ad 134) = rw7 G u9 := (o_2016 (ad 134) ).trans h134
    have f_2030 : F_2018 (ad 134) = rw7 G u9 := (hp_2019.2 (ad 134) (fun i hS => hin 134 i (by omega) (by omega) (by omega))).trans f_2029
    have f_2031 : F_2012 (ad 11) = rw7 G s_3 := (o_2016 (ad 11) ).trans hs_3
    have f_2032 : F_2018 (ad 11) = rw7 G s_3 := (hp_2019.2 (ad 11) (fun i hS => hin 11 i (by omega) (by omega) (by omega))).trans f_2031
    have f_2033 : F_2012 (ad 7) = rkO (fun i => ad (8 + i)) := (o_2016 (ad 7) ).trans hrk.1
    have f_2034 : F_2018 (ad 7) = rkO (fun i => ad (8 + i)) := (hp_2019.2 (ad 7) (fun i hS => hin 7 i (by omega) (by omega) (by omega))).trans f_2033
    refine q_callv hw (q_runV (As := [.ref (ad (32 + f9)), .ref (ad (32 + g9)), .int (nI (st.1)), .ref (ad 134)]) (c_X1_substitute l G L F_2018 (ad 7) (fun i => ad (8 + i)) (ad (32 + f9)) (ad (32 + g9)) (ad 134) (st.1) ((st.2.2.2.2.2 (6 + f9))) ((st.2.2.2.2.2 (6 + g9))) u9 s_3  ((hL 7 (by omega))) f_2034 (fun i hi => hL (8 + i) (by omega)) (ra_inj hin) ((hL (32 + f9) (by omega))) f_2026 ((hL (32 + g9) (by omega))) f_2028 ((hL 134 (by omega))) f_2030 f_2032 (hin (32 + f9) 134 (by omega) (by omega) (by omega)) (hin (32 + g9) 134 (by omega) (by omega) (by omega)) (hin (32 + f9) 11 (by omega) (by omega) (by omega)) (hin (32 + g9) 11 (by omega) (by omega) (by omega)) (hin 134 11 (by omega) (by omega) (by omega)) (by omega) (by omega) ) C0 hw vw_X5_205 ((hL 7 (by omega))) f_2034 rfl rfl rfl hl.1 rfl (Nat.le_of_ble_eq_true rfl) dX5_carryOut_359 ⟨by decide, by decide⟩ ⟨by decide, by decide⟩) rfl rfl (fun F_2035 H locs hw hp_2036 => ?_)
    obtain ⟨f_2037, ⟨t_2039, f_2038⟩, o_2040⟩ := hp_2036
    refine lv_aload_n hx hb dX5_carryOut_362 rfl (lv_at hl 3 rfl) ?_
    refine lv_aload hx hb dX5_carryOut_363 (lv_at hl 1 rfl) ?_
    refine lv_iload hx hb dX5_carryOut_365 (lv_at hl 7 rfl) ?_
    have f_2041 : F_2035 (ad 25) = oE G (fun i => ad (32 + i)) := (o_2040 (ad 25) (hin 25 134 (by omega) (by omega) (by omega)) (hin 25 11 (by omega) (by omega) (by omega))).trans f_2024
    refine q_aaldi C0 hw ((hL 25 (by omega))) f_2041 (t9) (by omega) (by decide) (b := ad (32 + t9)) rfl dX5_carryOut_367 ?_
    refine n_top (show Value.ref (ad (32 + t9)) = Value.ref (ad (26 + (6 + t9))) by rw [show 32 + t9 = 26 + (6 + t9) by omega]) ?_
    have f_2042 : F_2012 (ad (26 + (6 + t9))) = rw7 G ((st.2.2.2.2.2 (6 + t9))) := (o_2016 (ad (26 + (6 + t9))) ).trans ((hn.2.2.2.2 (6 + t9) (by omega)))
    have f_2043 : F_2018 (ad (26 + (6 + t9))) = rw7 G ((st.2.2.2.2.2 (6 + t9))) := (hp_2019.2 (ad (26 + (6 + t9))) (fun i hS => hin ((26 + (6 + t9))) i (by omega) (by omega) (by omega))).trans f_2042
    have f_2044 : F_2035 (ad (26 + (6 + t9))) = rw7 G ((st.2.2.2.2.2 (6 + t9))) := (o_2040 (ad (26 + (6 + t9))) (hin ((26 + (6 + t9))) 134 (by omega) (by omega) (by omega)) (hin ((26 + (6 + t9))) 11 (by omega) (by omega) (by omega))).trans f_2043
    have f_2045 : F_2035 (ad 0) = xO ad := (o_2040 (ad 0) (hin 0 134 (by omega) (by omega) (by omega)) (hin 0 11 (by omega) (by omega) (by omega))).trans f_2020
    refine q_calli hw (q_runV (As := [.ref (ad (26 + (6 + t9)))]) (c_X5_put l G L F_2035 ad hL hin (6 + t9) ((m_sub ((st.2.2.2.2.2 (6 + f9))) ((st.2.2.2.2.2 (6 + g9))) (st.1))) ((st.2.2.2.2.2 (6 + t9))) f_2045 f_2037 f_2044 (by omega)) C0 hw vw_X5_127 ((hL 0 (by omega))) f_2045 rfl rfl rfl hl.1 rfl (Nat.le_of_ble_eq_true rfl) dX5_carryOut_368 ⟨by decide, by decide⟩ ⟨by decide, by decide⟩) rfl rfl (fun r_2048 F_2046 H locs hw hp_2047 => ?_)
    obtain ⟨he_2049, f_2050, o_2051⟩ := hp_2047
    subst he_2049
    have f_2052 : F_2035 (ad 22) = .inr (3, [.ref (ad 23), .int (nI (st.2.1 - 4 * st.1)), .int (nI (st.2.2.1 + 4 * st.1)), .int (nI (st.2.2.2.1 + 1)), .int (nI (st.2.2.2.2.1))]) := (o_2040 (ad 22) (hin 22 134 (by omega) (by omega) (by omega)) (hin 22 11 (by omega) (by omega) (by omega))).trans hp_2019.1
    have f_2053 : F_2046 (ad 22) = .inr (3, [.ref (ad 23), .int (nI (st.2.1 - 4 * st.1)), .int (nI (st.2.2.1 + 4 * st.1)), .int (nI (st.2.2.2.1 + 1)), .int (nI (st.2.2.2.2.1))]) := (o_2051 (ad 22) (fun i hS => hin 22 i (by omega) (by omega) (by omega))).trans f_2052
    have f_2054 : F_2046 (ad 134) = rw7 G ((m_sub ((st.2.2.2.2.2 (6 + f9))) ((st.2.2.2.2.2 (6 + g9))) (st.1))) := (o_2051 (ad 134) (fun i hS => hin 134 i (by omega) (by omega) (by omega))).trans f_2037
    have f_2055 : F_2035 (ad 7) = rkO (fun i => ad (8 + i)) := (o_2040 (ad 7) (hin 7 134 (by omega) (by omega) (by omega)) (hin 7 11 (by omega) (by omega) (by omega))).trans f_2034
    have f_2056 : F_2046 (ad 7) = rkO (fun i => ad (8 + i)) := (o_2051 (ad 7) (fun i hS => hin 7 i (by omega) (by omega) (by omega))).trans f_2055
    have f_2057 : F_2012 (ad 8) = rw7 G s_0 := (o_2016 (ad 8) ).trans hs_0
    have f_2058 : F_2018 (ad 8) = rw7 G s_0 := (hp_2019.2 (ad 8) (fun i hS => hin 8 i (by omega) (by omega) (by omega))).trans f_2057
    have f_2059 : F_2035 (ad 8) = rw7 G s_0 := (o_2040 (ad 8) (hin 8 134 (by omega) (by omega) (by omega)) (hin 8 11 (by omega) (by omega) (by omega))).trans f_2058
    have f_2060 : F_2046 (ad 8) = rw7 G s_0 := (o_2051 (ad 8) (fun i hS => hin 8 i (by omega) (by omega) (by omega))).trans f_2059
    have f_2061 : F_2012 (ad 9) = rw7 G s_1 := (o_2016 (ad 9) ).trans hs_1
    have f_2062 : F_2018 (ad 9) = rw7 G s_1 := (hp_2019.2 (ad 9) (fun i hS => hin 9 i (by omega) (by omega) (by omega))).trans f_2061
    have f_2063 : F_2035 (ad 9) = rw7 G s_1 := (o_2040 (ad 9) (hin 9 134 (by omega) (by omega) (by omega)) (hin 9 11 (by omega) (by omega) (by omega))).trans f_2062
    have f_2064 : F_2046 (ad 9) = rw7 G s_1 := (o_2051 (ad 9) (fun i hS => hin 9 i (by omega) (by omega) (by omega))).trans f_2063
    have f_2065 : F_2012 (ad 10) = rw7 G s_2 := (o_2016 (ad 10) ).trans hs_2
    have f_2066 : F_2018 (ad 10) = rw7 G s_2 := (hp_2019.2 (ad 10) (fun i hS => hin 10 i (by omega) (by omega) (by omega))).trans f_2065
    have f_2067 : F_2035 (ad 10) = rw7 G s_2 := (o_2040 (ad 10) (hin 10 134 (by omega) (by omega) (by omega)) (hin 10 11 (by omega) (by omega) (by omega))).trans f_2066
    have f_2068 : F_2046 (ad 10) = rw7 G s_2 := (o_2051 (ad 10) (fun i hS => hin 10 i (by omega) (by omega) (by omega))).trans f_2067
    have f_2069 : F_2046 (ad 11) = rw7 G t_2039 := (o_2051 (ad 11) (fun i hS => hin 11 i (by omega) (by omega) (by omega))).trans f_2038
    have f_2070 : F_2012 (ad 12) = rw7 G s_4 := (o_2016 (ad 12) ).trans hs_4
    have f_2071 : F_2018 (ad 12) = rw7 G s_4 := (hp_2019.2 (ad 12) (fun i hS => hin 12 i (by omega) (by omega) (by omega))).trans f_2070
    have f_2072 : F_2035 (ad 12) = rw7 G s_4 := (o_2040 (ad 12) (hin 12 134 (by omega) (by omega) (by omega)) (hin 12 11 (by omega) (by omega) (by omega))).trans f_2071
    have f_2073 : F_2046 (ad 12) = rw7 G s_4 := (o_2051 (ad 12) (fun i hS => hin 12 i (by omega) (by omega) (by omega))).trans f_2072
    have f_2074 : F_2012 (ad 13) = rw7 G s_5 := (o_2016 (ad 13) ).trans hs_5
    have f_2075 : F_2018 (ad 13) = rw7 G s_5 := (hp_2019.2 (ad 13) (fun i hS => hin 13 i (by omega) (by omega) (by omega))).trans f_2074
    have f_2076 : F_2035 (ad 13) = rw7 G s_5 := (o_2040 (ad 13) (hin 13 134 (by omega) (by omega) (by omega)) (hin 13 11 (by omega) (by omega) (by omega))).trans f_2075
    have f_2077 : F_2046 (ad 13) = rw7 G s_5 := (o_2051 (ad 13) (fun i hS => hin 13 i (by omega) (by omega) (by omega))).trans f_2076
    have f_2078 : F_2012 (ad 14) = rw7 G s_6 := (o_2016 (ad 14) ).trans hs_6
    have f_2079 : F_2018 (ad 14) = rw7 G s_6 := (hp_2019.2 (ad 14) (fun i hS => hin 14 i (by omega) (by omega) (by omega))).trans f_2078
    have f_2080 : F_2035 (ad 14) = rw7 G s_6 := (o_2040 (ad 14) (hin 14 134 (by omega) (by omega) (by omega)) (hin 14 11 (by omega) (by omega) (by omega))).trans f_2079
    have f_2081 : F_2046 (ad 14) = rw7 G s_6 := (o_2051 (ad 14) (fun i hS => hin 14 i (by omega) (by omega) (by omega))).trans f_2080
    have f_2082 : F_2012 (ad 15) = rw7 G s_7 := (o_2016 (ad 15) ).trans hs_7
    have f_2083 : F_2018 (ad 15) = rw7 G s_7 := (hp_2019.2 (ad 15) (fun i hS => hin 15 i (by omega) (by omega) (by omega))).trans f_2082
    have f_2084 : F_2035 (ad 15) = rw7 G s_7 := (o_2040 (ad 15) (hin 15 134 (by omega) (by omega) (by omega)) (hin 15 11 (by omega) (by omega) (by omega))).trans f_2083
    have f_2085 : F_2046 (ad 15) = rw7 G s_7 := (o_2051 (ad 15) (fun i hS => hin 15 i (by omega) (by omega) (by omega))).trans f_2084
    have f_2086 : F_2012 (ad 16) = rw7 G s_8 := (o_2016 (ad 16) ).trans hs_8
    have f_2087 : F_2018 (ad 16) = rw7 G s_8 := (hp_2019.2 (ad 16) (fun i hS => hin 16 i (by omega) (by omega) (by omega))).trans f_2086
    have f_2088 : F_2035 (ad 16) = rw7 G s_8 := (o_2040 (ad 16) (hin 16 134 (by omega) (by omega) (by omega)) (hin 16 11 (by omega) (by omega) (by omega))).trans f_2087
    have f_2089 : F_2046 (ad 16) = rw7 G s_8 := (o_2051 (ad 16) (fun i hS => hin 16 i (by omega) (by omega) (by omega))).trans f_2088
    have f_2090 : F_2012 (ad 17) = rw7 G s_9 := (o_2016 (ad 17) ).trans hs_9
    have f_2091 : F_2018 (ad 17) = rw7 G s_9 := (hp_2019.2 (ad 17) (fun i hS => hin 17 i (by omega) (by omega) (by omega))).trans f_2090
    have f_2092 : F_2035 (ad 17) = rw7 G s_9 := (o_2040 (ad 17) (hin 17 134 (by omega) (by omega) (by omega)) (hin 17 11 (by omega) (by omega) (by omega))).trans f_2091
    have f_2093 : F_2046 (ad 17) = rw7 G s_9 := (o_2051 (ad 17) (fun i hS => hin 17 i (by omega) (by omega) (by omega))).trans f_2092
    have f_2094 : F_2012 (ad 18) = rw7 G s_10 := (o_2016 (ad 18) ).trans hs_10
    have f_2095 : F_2018 (ad 18) = rw7 G s_10 := (hp_2019.2 (ad 18) (fun i hS => hin 18 i (by omega) (by omega) (by omega))).trans f_2094
    have f_2096 : F_2035 (ad 18) = rw7 G s_10 := (o_2040 (ad 18) (hin 18 134 (by omega) (by omega) (by omega)) (hin 18 11 (by omega) (by omega) (by omega))).trans f_2095
    have f_2097 : F_2046 (ad 18) = rw7 G s_10 := (o_2051 (ad 18) (fun i hS => hin 18 i (by omega) (by omega) (by omega))).trans f_2096
    have f_2098 : F_2012 (ad 19) = rw7 G s_11 := (o_2016 (ad 19) ).trans hs_11
    have f_2099 : F_2018 (ad 19) = rw7 G s_11 := (hp_2019.2 (ad 19) (fun i hS => hin 19 i (by omega) (by omega) (by omega))).trans f_2098
    have f_2100 : F_2035 (ad 19) = rw7 G s_11 := (o_2040 (ad 19) (hin 19 134 (by omega) (by omega) (by omega)) (hin 19 11 (by omega) (by omega) (by omega))).trans f_2099
    have f_2101 : F_2046 (ad 19) = rw7 G s_11 := (o_2051 (ad 19) (fun i hS => hin 19 i (by omega) (by omega) (by omega))).trans f_2100
    have f_2102 : F_2012 (ad 20) = rw7 G s_12 := (o_2016 (ad 20) ).trans hs_12
    have f_2103 : F_2018 (ad 20) = rw7 G s_12 := (hp_2019.2 (ad 20) (fun i hS => hin 20 i (by omega) (by omega) (by omega))).trans f_2102
    have f_2104 : F_2035 (ad 20) = rw7 G s_12 := (o_2040 (ad 20) (hin 20 134 (by omega) (by omega) (by omega)) (hin 20 11 (by omega) (by omega) (by omega))).trans f_2103
    have f_2105 : F_2046 (ad 20) = rw7 G s_12 := (o_2051 (ad 20) (fun i hS => hin 20 i (by omega) (by omega) (by omega))).trans f_2104
    have f_2106 : F_2012 (ad 21) = rw7 G s_13 := (o_2016 (ad 21) ).trans hs_13
    have f_2107 : F_2018 (ad 21) = rw7 G s_13 := (hp_2019.2 (ad 21) (fun i hS => hin 21 i (by omega) (by omega) (by omega))).trans f_2106
    have f_2108 : F_2035 (ad 21) = rw7 G s_13 := (o_2040 (ad 21) (hin 21 134 (by omega) (by omega) (by omega)) (hin 21 11 (by omega) (by omega) (by omega))).trans f_2107
    have f_2109 : F_2046 (ad 21) = rw7 G s_13 := (o_2051 (ad 21) (fun i hS => hin 21 i (by omega) (by omega) (by omega))).trans f_2108
    exact r_i C0 hr hlk hw (v := (lowR ((m_sub ((st.2.2.2.2.2 (6 + f9))) ((st.2.2.2.2.2 (6 + g9))) (st.1))))) rfl ⟨rfl, sta_row hn (t := ordT 99 t9) (u := ordR 99 f9 g9 st.1 st.2.2.2.2.2) (by unfold ordT; simp; omega) f_2053 rfl rfl (f_2050) (fun i0 hi => by simp [ordT] at hi; exact ((o_2051 (ad (i0)) (fun i hS => hin (i0) i (by omega) (by omega) (by omega)))).trans (((o_2040 (ad (i0)) (hin (i0) 134 (by omega) (by omega) (by omega)) (hin (i0) 11 (by omega) (by omega) (by omega)))).trans (((hp_2019.2 (ad (i0)) (fun i hS => hin (i0) i (by omega) (by omega) (by omega)))).trans ((o_2016 (ad (i0)) ))))), ⟨f_2056, lt14 ⟨_, f_2060⟩ ⟨_, f_2064⟩ ⟨_, f_2068⟩ ⟨_, f_2069⟩ ⟨_, f_2073⟩ ⟨_, f_2077⟩ ⟨_, f_2081⟩ ⟨_, f_2085⟩ ⟨_, f_2089⟩ ⟨_, f_2093⟩ ⟨_, f_2097⟩ ⟨_, f_2101⟩ ⟨_, f_2105⟩ ⟨_, f_2109⟩⟩, ⟨_, f_2054⟩, (fun q hq => ((o_2051 q (fun i hS => hq i (by omega))).trans ((o_2040 q (hq 134 (by omega)) (hq 11 (by omega))).trans ((hp_2019.2 q (fun i hS => hq i (by omega))).trans (o_2016 q )))))⟩ (Nat.le_refl _) (Nat.le_refl _) dX5_carryOut_371 hQ
  · skip
    exact absurd c_11 (by omega)
set_option maxHeartbeats 4000000 in
set_option maxRecDepth 100000 in
theorem c_X5_carryOut_105 (l : Launch) (G : Gl) (L : List Nat) (F : Nat → va_E) (ad : Nat → Nat) (hL : ∀ i, i < 166 → ad i ∈ L) (hin : ∀ i j, i < 166 → j < 166 → i ≠ j → ad i ≠ ad j) (f9 g9 t9 : Nat) (st : Sta) (u9 : Nat → ZP) (fx : F (ad 0) = xO ad) (hn : sta G F ad 22 st) (hrk : rkW G F ad) (h134 : F (ad 134) = rw7 G u9) (hf9 : f9 < 6) (hg9 : g9 < 6) (ht9 : t9 < 6) (hm : 4 * st.1 ≤ st.2.1) (hc : st.1 ≤ 6) (hc2 : 2 ≤ st.1) (hpu : st.2.1 ≤ 100000) : CI l yX5_carryOut cX5_carryOut 8 (some .int) rm_X5_carryOut G L F [.ref (ad 0), .int (nI (105)), .int (nI (f9)), .int (nI (g9)), .int (nI (t9))] (fun r F1 => r = lowR (ordR 105 f9 g9 st.1 st.2.2.2.2.2) ∧ sta G F1 ad 22 (ordS 105 f9 g9 t9 st) ∧ rkW G F1 ad ∧ (∃ u, F1 (ad 134) = rw7 G u) ∧ ∀ q, (∀ i, (i = 22 ∨ (26 ≤ i ∧ i < 38) ∨ (8 ≤ i ∧ i < 22) ∨ i = 134) → q ≠ ad i) → F1 q = F q) := by
  obtain ⟨s_13, hs_13⟩ := hrk.2 13 (by decide)
  obtain ⟨s_12, hs_12⟩ := hrk.2 12 (by decide)
  obtain ⟨s_11, hs_11⟩ := hrk.2 11 (by decide)
  obtain ⟨s_10, hs_10⟩ := hrk.2 10 (by decide)
  obtain ⟨s_9, hs_9⟩ := hrk.2 9 (by decide)
  obtain ⟨s_8, hs_8⟩ := hrk.2 8 (by decide)
  obtain ⟨s_7, hs_7⟩ := hrk.2 7 (by decide)
  obtain ⟨s_6, hs_6⟩ := hrk.2 6 (by decide)
  obtain ⟨s_5, hs_5⟩ := hrk.2 5 (by decide)
  obtain ⟨s_4, hs_4⟩ := hrk.2 4 (by decide)
  obtain ⟨s_3, hs_3⟩ := hrk.2 3 (by decide)
  obtain ⟨s_2, hs_2⟩ := hrk.2 2 (by decide)
  obtain ⟨s_1, hs_1⟩ := hrk.2 1 (by decide)
  obtain ⟨s_0, hs_0⟩ := hrk.2 0 (by decide)
  refine CG_of (by decide) (Nat.le_of_ble_eq_true rfl) rfl ?_
  intro p e s m args below meth c Q C0 hr hlk hnm hQ hw ls hl
  have hx := C0.x
  have hb := C0.b
  refine lv_aload_n hx hb dX5_carryOut_0 rfl (lv_at hl 0 rfl) ?_
  refine lv_iload_n hx hb dX5_carryOut_1 rfl (lv_at hl 1 rfl) ?_
  refine q_calli hw (q_runS (As := [.int (nI (105))]) (c_X5_unitsOf_105 l G L F ) C0 hw sw_X5_225 rfl hl.1 rfl (Nat.le_of_ble_eq_true rfl) dX5_carryOut_2 ⟨by decide, by decide⟩ ⟨by decide, by decide⟩) rfl rfl (fun r_2112 F_2110 H locs hw hp_2111 => ?_)
  obtain ⟨he_2113, o_2114⟩ := hp_2111
  subst he_2113
  have f_2115 : F_2110 (ad 0) = xO ad := (o_2114 (ad 0) ).trans fx
  refine q_callv hw (q_runV (As := [.int (nI (4))]) (c_X5_pay l G L F_2110 ad hL hin 4 st f_2115 (hn.keep (fun i0 hi => (o_2114 (ad (i0)) ))) (by omega)) C0 hw vw_X5_114 ((hL 0 (by omega))) f_2115 rfl rfl rfl hl.1 rfl (Nat.le_of_ble_eq_true rfl) dX5_carryOut_5 ⟨by decide, by decide⟩ ⟨by decide, by decide⟩) rfl rfl (fun F_2116 H locs hw hp_2117 => ?_)
  refine lv_iload_n hx hb dX5_carryOut_8 rfl (lv_at hl 1 rfl) ?_
  refine lv_bipush (v := nI 98) hx hb dX5_carryOut_9 (by decide) ?_
  refine n_icmp_ne (tgt := 27) hx hb dX5_carryOut_11 (by decide) (by decide) (by decide) (fun c_11 => ?_) (fun c_11 => ?_)
  · skip
    refine lv_aload_n hx hb dX5_carryOut_27 rfl (lv_at hl 0 rfl) ?_
    have f_2118 : F_2116 (ad 0) = xO ad := (hp_2117.2 (ad 0) (fun i hS => hin 0 i (by omega) (by omega) (by omega))).trans f_2115
    refine q_get C0 hw ((hL 0 (by omega))) f_2118 fw_X5_12 rfl dX5_carryOut_28 ?_
    refine q_get C0 hw ((hL 22 (by omega))) hp_2117.1 fw_X5_66 rfl dX5_carryOut_31 ?_
    have f_2119 : F_2110 (ad 23) = .inr (2, [.int (nI (st.1)), .ref (ad 24), .ref (ad 25)]) := (o_2114 (ad 23) ).trans hn.2.1
    have f_2120 : F_2116 (ad 23) = .inr (2, [.int (nI (st.1)), .ref (ad 24), .ref (ad 25)]) := (hp_2117.2 (ad 23) (fun i hS => hin 23 i (by omega) (by omega) (by omega))).trans f_2119
    refine q_get C0 hw ((hL 23 (by omega))) f_2120 fw_X5_85 rfl dX5_carryOut_34 ?_
    refine lv_astore (lv' := [(5, .ref (ad 24)), (0, .ref (ad 0)), (1, .int (nI (105))), (2, .int (nI (f9))), (3, .int (nI (g9))), (4, .int (nI (t9)))]) hx hb dX5_carryOut_37 hl (by decide) rfl (fun ls hl => ?_)
    refine lv_aload_n hx hb dX5_carryOut_39 rfl (lv_at hl 1 rfl) ?_
    refine q_get C0 hw ((hL 0 (by omega))) f_2118 fw_X5_12 rfl dX5_carryOut_40 ?_
    refine q_get C0 hw ((hL 22 (by omega))) hp_2117.1 fw_X5_66 rfl dX5_carryOut_43 ?_
    refine q_get C0 hw ((hL 23 (by omega))) f_2120 fw_X5_93 rfl dX5_carryOut_46 ?_
    refine lv_astore (lv' := [(6, .ref (ad 25)), (5, .ref (ad 24)), (0, .ref (ad 0)), (1, .int (nI (105))), (2, .int (nI (f9))), (3, .int (nI (g9))), (4, .int (nI (t9)))]) hx hb dX5_carryOut_49 hl (by decide) rfl (fun ls hl => ?_)
    refine lv_aload_n hx hb dX5_carryOut_51 rfl (lv_at hl 2 rfl) ?_
    refine q_get C0 hw ((hL 0 (by omega))) f_2118 fw_X5_12 rfl dX5_carryOut_52 ?_
    refine q_get C0 hw ((hL 22 (by omega))) hp_2117.1 fw_X5_66 rfl dX5_carryOut_55 ?_
    refine q_get C0 hw ((hL 23 (by omega))) f_2120 fw_X5_70 rfl dX5_carryOut_58 ?_
    refine lv_istore (lv' := [(7, .int (nI (st.1))), (6, .ref (ad 25)), (5, .ref (ad 24)), (0, .ref (ad 0)), (1, .int (nI (105))), (2, .int (nI (f9))), (3, .int (nI (g9))), (4, .int (nI (t9)))]) hx hb dX5_carryOut_61 hl (by decide) rfl (fun ls hl => ?_)
    refine lv_iload_n hx hb dX5_carryOut_63 rfl (lv_at hl 4 rfl) ?_
    refine lv_tableIn (off := 308) (tgt := 372) hx hb dX5_carryOut_64 (by decide) (by decide) rfl (by decide) ?_
    refine lv_aload_n hx hb dX5_carryOut_372 rfl (lv_at hl 3 rfl) ?_
    refine q_get C0 hw ((hL 0 (by omega))) f_2118 fw_X5_44 rfl dX5_carryOut_373 ?_
    refine lv_aload hx hb dX5_carryOut_376 (lv_at hl 1 rfl) ?_
    refine lv_iload_n hx hb dX5_carryOut_378 rfl (lv_at hl 5 rfl) ?_
    have f_2121 : F_2110 (ad 25) = oE G (fun i => ad (32 + i)) := (o_2114 (ad 25) ).trans hn.2.2.2.1
    have f_2122 : F_2116 (ad 25) = oE G (fun i => ad (32 + i)) := (hp_2117.2 (ad 25) (fun i hS => hin 25 i (by omega) (by omega) (by omega))).trans f_2121
    refine q_aaldi C0 hw ((hL 25 (by omega))) f_2122 (f9) (by omega) (by decide) (b := ad (32 + f9)) rfl dX5_carryOut_379 ?_
    refine lv_iload hx hb dX5_carryOut_380 (lv_at hl 0 rfl) ?_
    refine lv_aload_n hx hb dX5_carryOut_382 rfl (lv_at hl 3 rfl) ?_
    refine q_get C0 hw ((hL 0 (by omega))) f_2118 fw_X5_48 rfl dX5_carryOut_383 ?_
    have f_2123 : F_2110 (ad (32 + f9)) = rw7 G ((st.2.2.2.2.2 (6 + f9))) := (o_2114 (ad (32 + f9)) ).trans ((show F (ad (32 + f9)) = _ from by have h9 := hn.2.2.2.2 (6 + f9) (by omega); rwa [show 22 + 4 + (6 + f9) = 32 + f9 by omega] at h9))
    have f_2124 : F_2116 (ad (32 + f9)) = rw7 G ((st.2.2.2.2.2 (6 + f9))) := (hp_2117.2 (ad (32 + f9)) (fun i hS => hin (32 + f9) i (by omega) (by omega) (by omega))).trans f_2123
    have f_2125 : F_2110 (ad 134) = rw7 G u9 := (o_2114 (ad 134) ).trans h134
    have f_2126 : F_2116 (ad 134) = rw7 G u9 := (hp_2117.2 (ad 134) (fun i hS => hin 134 i (by omega) (by omega) (by omega))).trans f_2125
    have f_2127 : F_2110 (ad 12) = rw7 G s_4 := (o_2114 (ad 12) ).trans hs_4
    have f_2128 : F_2116 (ad 12) = rw7 G s_4 := (hp_2117.2 (ad 12) (fun i hS => hin 12 i (by omega) (by omega) (by omega))).trans f_2127
    have f_2129 : F_2110 (ad 11) = rw7 G s_3 := (o_2114 (ad 11) ).trans hs_3
    have f_2130 : F_2116 (ad 11) = rw7 G s_3 := (hp_2117.2 (ad 11) (fun i hS => hin 11 i (by omega) (by omega) (by omega))).trans f_2129
    have f_2131 : F_2110 (ad 7) = rkO (fun i => ad (8 + i)) := (o_2114 (ad 7) ).trans hrk.1
    have f_2132 : F_2116 (ad 7) = rkO (fun i => ad (8 + i)) := (hp_2117.2 (ad 7) (fun i hS => hin 7 i (by omega) (by omega) (by omega))).trans f_2131
    refine q_callv hw (q_runV (As := [.ref (ad (32 + f9)), .int (nI (st.1)), .ref (ad 134)]) (c_X1_inverse l G L F_2116 (ad 7) (fun i => ad (8 + i)) (ad (32 + f9)) (ad 134) (st.1) ((st.2.2.2.2.2 (6 + f9))) u9 s_4 s_3  ((hL 7 (by omega))) f_2132 (fun i hi => hL (8 + i) (by omega)) (ra_inj hin) ((hL (32 + f9) (by omega))) f_2124 ((hL 134 (by omega))) f_2126 f_2128 f_2130 (hin (32 + f9) 134 (by omega) (by omega) (by omega)) (hin (32 + f9) 12 (by omega) (by omega) (by omega)) (hin 134 12 (by omega) (by omega) (by omega)) (hin (32 + f9) 11 (by omega) (by omega) (by omega)) (hin 134 11 (by omega) (by omega) (by omega)) (by omega) (by omega) ) C0 hw vw_X5_325 ((hL 7 (by omega))) f_2132 rfl rfl rfl hl.1 rfl (Nat.le_of_ble_eq_true rfl) dX5_carryOut_386 ⟨by decide, by decide⟩ ⟨by decide, by decide⟩) rfl rfl (fun F_2133 H locs hw hp_2134 => ?_)
    obtain ⟨f_2135, ⟨t_2138, f_2136⟩, ⟨t_2139, f_2137⟩, o_2140⟩ := hp_2134
    refine lv_aload_n hx hb dX5_carryOut_389 rfl (lv_at hl 3 rfl) ?_
    refine lv_aload hx hb dX5_carryOut_390 (lv_at hl 1 rfl) ?_
    refine lv_iload hx hb dX5_carryOut_392 (lv_at hl 7 rfl) ?_
    have f_2141 : F_2133 (ad 25) = oE G (fun i => ad (32 + i)) := (o_2140 (ad 25) (hin 25 134 (by omega) (by omega) (by omega)) (hin 25 12 (by omega) (by omega) (by omega)) (hin 25 11 (by omega) (by omega) (by omega))).trans f_2122
    refine q_aaldi C0 hw ((hL 25 (by omega))) f_2141 (t9) (by omega) (by decide) (b := ad (32 + t9)) rfl dX5_carryOut_394 ?_
    refine n_top (show Value.ref (ad (32 + t9)) = Value.ref (ad (26 + (6 + t9))) by rw [show 32 + t9 = 26 + (6 + t9) by omega]) ?_
    have f_2142 : F_2110 (ad (26 + (6 + t9))) = rw7 G ((st.2.2.2.2.2 (6 + t9))) := (o_2114 (ad (26 + (6 + t9))) ).trans ((hn.2.2.2.2 (6 + t9) (by omega)))
    have f_2143 : F_2116 (ad (26 + (6 + t9))) = rw7 G ((st.2.2.2.2.2 (6 + t9))) := (hp_2117.2 (ad (26 + (6 + t9))) (fun i hS => hin ((26 + (6 + t9))) i (by omega) (by omega) (by omega))).trans f_2142
    have f_2144 : F_2133 (ad (26 + (6 + t9))) = rw7 G ((st.2.2.2.2.2 (6 + t9))) := (o_2140 (ad (26 + (6 + t9))) (hin ((26 + (6 + t9))) 134 (by omega) (by omega) (by omega)) (hin ((26 + (6 + t9))) 12 (by omega) (by omega) (by omega)) (hin ((26 + (6 + t9))) 11 (by omega) (by omega) (by omega))).trans f_2143
    have f_2145 : F_2133 (ad 0) = xO ad := (o_2140 (ad 0) (hin 0 134 (by omega) (by omega) (by omega)) (hin 0 12 (by omega) (by omega) (by omega)) (hin 0 11 (by omega) (by omega) (by omega))).trans f_2118
    refine q_calli hw (q_runV (As := [.ref (ad (26 + (6 + t9)))]) (c_X5_put l G L F_2133 ad hL hin (6 + t9) ((m_inv ((st.2.2.2.2.2 (6 + f9))) (st.1))) ((st.2.2.2.2.2 (6 + t9))) f_2145 f_2135 f_2144 (by omega)) C0 hw vw_X5_127 ((hL 0 (by omega))) f_2145 rfl rfl rfl hl.1 rfl (Nat.le_of_ble_eq_true rfl) dX5_carryOut_395 ⟨by decide, by decide⟩ ⟨by decide, by decide⟩) rfl rfl (fun r_2148 F_2146 H locs hw hp_2147 => ?_)
    obtain ⟨he_2149, f_2150, o_2151⟩ := hp_2147
    subst he_2149
    have f_2152 : F_2133 (ad 22) = .inr (3, [.ref (ad 23), .int (nI (st.2.1 - 4 * st.1)), .int (nI (st.2.2.1 + 4 * st.1)), .int (nI (st.2.2.2.1 + 1)), .int (nI (st.2.2.2.2.1))]) := (o_2140 (ad 22) (hin 22 134 (by omega) (by omega) (by omega)) (hin 22 12 (by omega) (by omega) (by omega)) (hin 22 11 (by omega) (by omega) (by omega))).trans hp_2117.1
    have f_2153 : F_2146 (ad 22) = .inr (3, [.ref (ad 23), .int (nI (st.2.1 - 4 * st.1)), .int (nI (st.2.2.1 + 4 * st.1)), .int (nI (st.2.2.2.1 + 1)), .int (nI (st.2.2.2.2.1))]) := (o_2151 (ad 22) (fun i hS => hin 22 i (by omega) (by omega) (by omega))).trans f_2152
    have f_2154 : F_2146 (ad 134) = rw7 G ((m_inv ((st.2.2.2.2.2 (6 + f9))) (st.1))) := (o_2151 (ad 134) (fun i hS => hin 134 i (by omega) (by omega) (by omega))).trans f_2135
    have f_2155 : F_2133 (ad 7) = rkO (fun i => ad (8 + i)) := (o_2140 (ad 7) (hin 7 134 (by omega) (by omega) (by omega)) (hin 7 12 (by omega) (by omega) (by omega)) (hin 7 11 (by omega) (by omega) (by omega))).trans f_2132
    have f_2156 : F_2146 (ad 7) = rkO (fun i => ad (8 + i)) := (o_2151 (ad 7) (fun i hS => hin 7 i (by omega) (by omega) (by omega))).trans f_2155
    have f_2157 : F_2110 (ad 8) = rw7 G s_0 := (o_2114 (ad 8) ).trans hs_0
    have f_2158 : F_2116 (ad 8) = rw7 G s_0 := (hp_2117.2 (ad 8) (fun i hS => hin 8 i (by omega) (by omega) (by omega))).trans f_2157
    have f_2159 : F_2133 (ad 8) = rw7 G s_0 := (o_2140 (ad 8) (hin 8 134 (by omega) (by omega) (by omega)) (hin 8 12 (by omega) (by omega) (by omega)) (hin 8 11 (by omega) (by omega) (by omega))).trans f_2158
    have f_2160 : F_2146 (ad 8) = rw7 G s_0 := (o_2151 (ad 8) (fun i hS => hin 8 i (by omega) (by omega) (by omega))).trans f_2159
    have f_2161 : F_2110 (ad 9) = rw7 G s_1 := (o_2114 (ad 9) ).trans hs_1
    have f_2162 : F_2116 (ad 9) = rw7 G s_1 := (hp_2117.2 (ad 9) (fun i hS => hin 9 i (by omega) (by omega) (by omega))).trans f_2161
    have f_2163 : F_2133 (ad 9) = rw7 G s_1 := (o_2140 (ad 9) (hin 9 134 (by omega) (by omega) (by omega)) (hin 9 12 (by omega) (by omega) (by omega)) (hin 9 11 (by omega) (by omega) (by omega))).trans f_2162
    have f_2164 : F_2146 (ad 9) = rw7 G s_1 := (o_2151 (ad 9) (fun i hS => hin 9 i (by omega) (by omega) (by omega))).trans f_2163
    have f_2165 : F_2110 (ad 10) = rw7 G s_2 := (o_2114 (ad 10) ).trans hs_2
    have f_2166 : F_2116 (ad 10) = rw7 G s_2 := (hp_2117.2 (ad 10) (fun i hS => hin 10 i (by omega) (by omega) (by omega))).trans f_2165
    have f_2167 : F_2133 (ad 10) = rw7 G s_2 := (o_2140 (ad 10) (hin 10 134 (by omega) (by omega) (by omega)) (hin 10 12 (by omega) (by omega) (by omega)) (hin 10 11 (by omega) (by omega) (by omega))).trans f_2166
    have f_2168 : F_2146 (ad 10) = rw7 G s_2 := (o_2151 (ad 10) (fun i hS => hin 10 i (by omega) (by omega) (by omega))).trans f_2167
    have f_2169 : F_2146 (ad 11) = rw7 G t_2139 := (o_2151 (ad 11) (fun i hS => hin 11 i (by omega) (by omega) (by omega))).trans f_2137
    have f_2170 : F_2146 (ad 12) = rw7 G t_2138 := (o_2151 (ad 12) (fun i hS => hin 12 i (by omega) (by omega) (by omega))).trans f_2136
    have f_2171 : F_2110 (ad 13) = rw7 G s_5 := (o_2114 (ad 13) ).trans hs_5
    have f_2172 : F_2116 (ad 13) = rw7 G s_5 := (hp_2117.2 (ad 13) (fun i hS => hin 13 i (by omega) (by omega) (by omega))).trans f_2171
    have f_2173 : F_2133 (ad 13) = rw7 G s_5 := (o_2140 (ad 13) (hin 13 134 (by omega) (by omega) (by omega)) (hin 13 12 (by omega) (by omega) (by omega)) (hin 13 11 (by omega) (by omega) (by omega))).trans f_2172
    have f_2174 : F_2146 (ad 13) = rw7 G s_5 := (o_2151 (ad 13) (fun i hS => hin 13 i (by omega) (by omega) (by omega))).trans f_2173
    have f_2175 : F_2110 (ad 14) = rw7 G s_6 := (o_2114 (ad 14) ).trans hs_6
    have f_2176 : F_2116 (ad 14) = rw7 G s_6 := (hp_2117.2 (ad 14) (fun i hS => hin 14 i (by omega) (by omega) (by omega))).trans f_2175
    have f_2177 : F_2133 (ad 14) = rw7 G s_6 := (o_2140 (ad 14) (hin 14 134 (by omega) (by omega) (by omega)) (hin 14 12 (by omega) (by omega) (by omega)) (hin 14 11 (by omega) (by omega) (by omega))).trans f_2176
    have f_2178 : F_2146 (ad 14) = rw7 G s_6 := (o_2151 (ad 14) (fun i hS => hin 14 i (by omega) (by omega) (by omega))).trans f_2177
    have f_2179 : F_2110 (ad 15) = rw7 G s_7 := (o_2114 (ad 15) ).trans hs_7
    have f_2180 : F_2116 (ad 15) = rw7 G s_7 := (hp_2117.2 (ad 15) (fun i hS => hin 15 i (by omega) (by omega) (by omega))).trans f_2179
    have f_2181 : F_2133 (ad 15) = rw7 G s_7 := (o_2140 (ad 15) (hin 15 134 (by omega) (by omega) (by omega)) (hin 15 12 (by omega) (by omega) (by omega)) (hin 15 11 (by omega) (by omega) (by omega))).trans f_2180
    have f_2182 : F_2146 (ad 15) = rw7 G s_7 := (o_2151 (ad 15) (fun i hS => hin 15 i (by omega) (by omega) (by omega))).trans f_2181
    have f_2183 : F_2110 (ad 16) = rw7 G s_8 := (o_2114 (ad 16) ).trans hs_8
    have f_2184 : F_2116 (ad 16) = rw7 G s_8 := (hp_2117.2 (ad 16) (fun i hS => hin 16 i (by omega) (by omega) (by omega))).trans f_2183
    have f_2185 : F_2133 (ad 16) = rw7 G s_8 := (o_2140 (ad 16) (hin 16 134 (by omega) (by omega) (by omega)) (hin 16 12 (by omega) (by omega) (by omega)) (hin 16 11 (by omega) (by omega) (by omega))).trans f_2184
    have f_2186 : F_2146 (ad 16) = rw7 G s_8 := (o_2151 (ad 16) (fun i hS => hin 16 i (by omega) (by omega) (by omega))).trans f_2185
    have f_2187 : F_2110 (ad 17) = rw7 G s_9 := (o_2114 (ad 17) ).trans hs_9
    have f_2188 : F_2116 (ad 17) = rw7 G s_9 := (hp_2117.2 (ad 17) (fun i hS => hin 17 i (by omega) (by omega) (by omega))).trans f_2187
    have f_2189 : F_2133 (ad 17) = rw7 G s_9 := (o_2140 (ad 17) (hin 17 134 (by omega) (by omega) (by omega)) (hin 17 12 (by omega) (by omega) (by omega)) (hin 17 11 (by omega) (by omega) (by omega))).trans f_2188
    have f_2190 : F_2146 (ad 17) = rw7 G s_9 := (o_2151 (ad 17) (fun i hS => hin 17 i (by omega) (by omega) (by omega))).trans f_2189
    have f_2191 : F_2110 (ad 18) = rw7 G s_10 := (o_2114 (ad 18) ).trans hs_10
    have f_2192 : F_2116 (ad 18) = rw7 G s_10 := (hp_2117.2 (ad 18) (fun i hS => hin 18 i (by omega) (by omega) (by omega))).trans f_2191
    have f_2193 : F_2133 (ad 18) = rw7 G s_10 := (o_2140 (ad 18) (hin 18 134 (by omega) (by omega) (by omega)) (hin 18 12 (by omega) (by omega) (by omega)) (hin 18 11 (by omega) (by omega) (by omega))).trans f_2192
    have f_2194 : F_2146 (ad 18) = rw7 G s_10 := (o_2151 (ad 18) (fun i hS => hin 18 i (by omega) (by omega) (by omega))).trans f_2193
    have f_2195 : F_2110 (ad 19) = rw7 G s_11 := (o_2114 (ad 19) ).trans hs_11
    have f_2196 : F_2116 (ad 19) = rw7 G s_11 := (hp_2117.2 (ad 19) (fun i hS => hin 19 i (by omega) (by omega) (by omega))).trans f_2195
    have f_2197 : F_2133 (ad 19) = rw7 G s_11 := (o_2140 (ad 19) (hin 19 134 (by omega) (by omega) (by omega)) (hin 19 12 (by omega) (by omega) (by omega)) (hin 19 11 (by omega) (by omega) (by omega))).trans f_2196
    have f_2198 : F_2146 (ad 19) = rw7 G s_11 := (o_2151 (ad 19) (fun i hS => hin 19 i (by omega) (by omega) (by omega))).trans f_2197
    have f_2199 : F_2110 (ad 20) = rw7 G s_12 := (o_2114 (ad 20) ).trans hs_12
    have f_2200 : F_2116 (ad 20) = rw7 G s_12 := (hp_2117.2 (ad 20) (fun i hS => hin 20 i (by omega) (by omega) (by omega))).trans f_2199
    have f_2201 : F_2133 (ad 20) = rw7 G s_12 := (o_2140 (ad 20) (hin 20 134 (by omega) (by omega) (by omega)) (hin 20 12 (by omega) (by omega) (by omega)) (hin 20 11 (by omega) (by omega) (by omega))).trans f_2200
    have f_2202 : F_2146 (ad 20) = rw7 G s_12 := (o_2151 (ad 20) (fun i hS => hin 20 i (by omega) (by omega) (by omega))).trans f_2201
    have f_2203 : F_2110 (ad 21) = rw7 G s_13 := (o_2114 (ad 21) ).trans hs_13
    have f_2204 : F_2116 (ad 21) = rw7 G s_13 := (hp_2117.2 (ad 21) (fun i hS => hin 21 i (by omega) (by omega) (by omega))).trans f_2203
    have f_2205 : F_2133 (ad 21) = rw7 G s_13 := (o_2140 (ad 21) (hin 21 134 (by omega) (by omega) (by omega)) (hin 21 12 (by omega) (by omega) (by omega)) (hin 21 11 (by omega) (by omega) (by omega))).trans f_2204
    have f_2206 : F_2146 (ad 21) = rw7 G s_13 := (o_2151 (ad 21) (fun i hS => hin 21 i (by omega) (by omega) (by omega))).trans f_2205
    exact r_i C0 hr hlk hw (v := (lowR ((m_inv ((st.2.2.2.2.2 (6 + f9))) (st.1))))) rfl ⟨rfl, sta_row hn (t := ordT 105 t9) (u := ordR 105 f9 g9 st.1 st.2.2.2.2.2) (by unfold ordT; simp; omega) f_2153 rfl rfl (f_2150) (fun i0 hi => by simp [ordT] at hi; exact ((o_2151 (ad (i0)) (fun i hS => hin (i0) i (by omega) (by omega) (by omega)))).trans (((o_2140 (ad (i0)) (hin (i0) 134 (by omega) (by omega) (by omega)) (hin (i0) 12 (by omega) (by omega) (by omega)) (hin (i0) 11 (by omega) (by omega) (by omega)))).trans (((hp_2117.2 (ad (i0)) (fun i hS => hin (i0) i (by omega) (by omega) (by omega)))).trans ((o_2114 (ad (i0)) ))))), ⟨f_2156, lt14 ⟨_, f_2160⟩ ⟨_, f_2164⟩ ⟨_, f_2168⟩ ⟨_, f_2169⟩ ⟨_, f_2170⟩ ⟨_, f_2174⟩ ⟨_, f_2178⟩ ⟨_, f_2182⟩ ⟨_, f_2186⟩ ⟨_, f_2190⟩ ⟨_, f_2194⟩ ⟨_, f_2198⟩ ⟨_, f_2202⟩ ⟨_, f_2206⟩⟩, ⟨_, f_2154⟩, (fun q hq => ((o_2151 q (fun i hS => hq i (by omega))).trans ((o_2140 q (hq 134 (by omega)) (hq 12 (by omega)) (hq 11 (by omega))).trans ((hp_2117.2 q (fun i hS => hq i (by omega))).trans (o_2114 q )))))⟩ (Nat.le_refl _) (Nat.le_refl _) dX5_carryOut_398 hQ
  · skip
    exact absurd c_11 (by omega)
