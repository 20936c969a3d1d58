abbrev xO (ad : Nat → Nat) : va_E := .inr (5, [.ref (ad 22), .ref (ad 1), .ref (ad 3), .ref (ad 4), .ref (ad 5), .ref (ad 7), .ref (ad 134), .ref (ad 150)])
def rkW (G : Gl) (F : Nat → va_E) (ad : Nat → Nat) : Prop := F (ad 7) = rkO (fun i => ad (8 + i)) ∧ ∀ i, i < 14 → ∃ u, F (ad (8 + i)) = rw7 G u
theorem rkW.keep {G : Gl} {F F1 : Nat → va_E} {ad : Nat → Nat} (h : rkW G F ad) (k : ∀ i, (7 ≤ i ∧ i < 22) → F1 (ad i) = F (ad i)) : rkW G F1 ad :=
  ⟨(k 7 (by omega)).trans h.1, fun i hi => by obtain ⟨u, hu⟩ := h.2 i hi; exact ⟨u, (k (8 + i) (by omega)).trans hu⟩⟩
theorem ra_inj {ad : Nat → Nat} (hin : ∀ i j, i < 166 → j < 166 → i ≠ j → ad i ≠ ad j) : ∀ i j, i < 14 → j < 14 → (fun i => ad (8 + i)) i = (fun i => ad (8 + i)) j → i = j := fun i j hi hj h => Decidable.byContradiction (fun n => hin (8 + i) (8 + j) (by omega) (by omega) (by omega) h)
theorem lt14 {P : Nat → Prop} (h0 : P 0) (h1 : P 1) (h2 : P 2) (h3 : P 3) (h4 : P 4) (h5 : P 5) (h6 : P 6) (h7 : P 7) (h8 : P 8) (h9 : P 9) (h10 : P 10) (h11 : P 11) (h12 : P 12) (h13 : P 13) : ∀ i, i < 14 → P i := by
  intro i hi
  rcases (show i = 0 ∨ i = 1 ∨ i = 2 ∨ i = 3 ∨ i = 4 ∨ i = 5 ∨ i = 6 ∨ i = 7 ∨ i = 8 ∨ i = 9 ∨ i = 10 ∨ i = 11 ∨ i = 12 ∨ i = 13 by omega) with rfl | rfl | rfl | rfl | rfl | rfl | rfl | rfl | rfl | rfl | rfl | rfl | rfl | rfl
  all_goals assumption
def payS (st : Sta) (un : Nat) : Sta := (st.1, st.2.1 - un * st.1, st.2.2.1 + un * st.1, st.2.2.2.1 + 1, st.2.2.2.2.1, st.2.2.2.2.2)
def ordU (lt : Nat) : Nat := if lt = 98 then 2 else if lt = 115 then 1 else if lt = 119 then 20 else if lt = 112 then 6 else if lt = 108 then 6 else if lt = 101 then 5 else 4
def ordR (lt f g cu : Nat) (r : Rws) : Nat → ZP := if lt = 98 then m_br (r f) (r g) cu else if lt = 115 then m_add (r f) (r g) else if lt = 119 then m_way (r f) (r g) 5 cu else if lt = 112 then m_push (r (6 + f)) (r g) cu else if lt = 108 then m_log (r (6 + f)) cu else if lt = 101 then m_exp (r f) cu else if lt = 99 then m_sub (r (6 + f)) (r (6 + g)) cu else m_inv (r (6 + f)) cu
def ordT (lt to : Nat) : Nat := if lt = 101 then 6 + to else if lt = 99 then 6 + to else if lt = 105 then 6 + to else to
def isOrd (lt : Nat) : Prop := lt = 98 ∨ lt = 115 ∨ lt = 119 ∨ lt = 112 ∨ lt = 108 ∨ lt = 101 ∨ lt = 99 ∨ lt = 105
def ordS (lt f g to : Nat) (st : Sta) : Sta := (st.1, st.2.1 - ordU lt * st.1, st.2.2.1 + ordU lt * st.1, st.2.2.2.1 + 1, st.2.2.2.2.1 + (if lt = 98 then 1 else 0), va_up st.2.2.2.2.2 (ordT lt to) (ordR lt f g st.1 st.2.2.2.2.2))
def lowR (u : Nat → ZP) : Int32 := m_low (fun k => decide (u k ≠ 0))
/-- a row is put: the state with one row anew -/
theorem sta_row {G : Gl} {F F1 : Nat → va_E} {ad : Nat → Nat} {st st2 : Sta} {t : Nat} {u : Nat → ZP} (h : sta G F ad 22 st) (ht : t < 12) (h1 : F1 (ad 22) = stO (ad 23) st2.2.1 st2.2.2.1 st2.2.2.2.1 st2.2.2.2.2.1) (hc : st2.1 = st.1) (hr : st2.2.2.2.2.2 = va_up st.2.2.2.2.2 t u) (hn : F1 (ad (26 + t)) = rw7 G u) (k : ∀ i, (23 ≤ i ∧ i < 38 ∧ i ≠ 26 + t) → F1 (ad i) = F (ad i)) : sta G F1 ad 22 st2 := by
  refine ⟨h1, ?_, (k 24 (by omega)).trans h.2.2.1, (k 25 (by omega)).trans h.2.2.2.1, fun i hi => ?_⟩
  · rw [hc]
    exact (k 23 (by omega)).trans h.2.1
  · rw [hr]
    by_cases e : i = t
    · subst e
      rw [va_up_self, show 22 + 4 + i = 26 + i by omega]
      exact hn
    · rw [va_up_ne _ _ e]
      exact (k (22 + 4 + i) (by omega)).trans (h.2.2.2.2 i hi)

abbrev rm_X5_unitsOf : Room := { frames := 0, cells := 0, slots := 0, locals := 0 }
set_option maxHeartbeats 4000000 in
set_option maxRecDepth 100000 in
theorem c_X5_unitsOf_98 (l : Launch) (G : Gl) (L : List Nat) (F : Nat → va_E) : CI l yX5_unitsOf cX5_unitsOf 1 (some .int) rm_X5_unitsOf G L F [.int (nI (98))] (fun r F1 => r = nI 2 ∧ ∀ q, F1 q = F q) := by
  refine CG_of (by decide) (Nat.le_of_ble_eq_true rfl) rfl ?_
  intro p e s m args below meth c Q C0 hr hlk hnm hQ hw ls hl
  have hx := C0.x
  have hb := C0.b
  refine lv_iload_n hx hb dX5_unitsOf_0 rfl (lv_at hl 0 rfl) ?_
  refine lv_tableIn (off := 103) (tgt := 104) hx hb dX5_unitsOf_1 (by decide) (by decide) rfl (by decide) ?_
  refine lv_iconst (v := nI 2) hx hb dX5_unitsOf_104 (by decide) ?_
  exact r_i C0 hr hlk hw (v := nI 2) rfl ⟨rfl, (fun q  => rfl)⟩ (Nat.le_refl _) (Nat.le_refl _) dX5_unitsOf_105 hQ
set_option maxHeartbeats 4000000 in
set_option maxRecDepth 100000 in
theorem c_X5_unitsOf_115 (l : Launch) (G : Gl) (L : List Nat) (F : Nat → va_E) : CI l yX5_unitsOf cX5_unitsOf 1 (some .int) rm_X5_unitsOf G L F [.int (nI (115))] (fun r F1 => r = nI 1 ∧ ∀ q, F1 q = F q) := by
  refine CG_of (by decide) (Nat.le_of_ble_eq_true rfl) rfl ?_
  intro p e s m args below meth c Q C0 hr hlk hnm hQ hw ls hl
  have hx := C0.x
  have hb := C0.b
  refine lv_iload_n hx hb dX5_unitsOf_0 rfl (lv_at hl 0 rfl) ?_
  refine lv_tableIn (off := 105) (tgt := 106) hx hb dX5_unitsOf_1 (by decide) (by decide) rfl (by decide) ?_
  refine lv_iconst (v := nI 1) hx hb dX5_unitsOf_106 (by decide) ?_
  exact r_i C0 hr hlk hw (v := nI 1) rfl ⟨rfl, (fun q  => rfl)⟩ (Nat.le_refl _) (Nat.le_refl _) dX5_unitsOf_107 hQ
set_option maxHeartbeats 4000000 in
set_option maxRecDepth 100000 in
theorem c_X5_unitsOf_119 (l : Launch) (G : Gl) (L : List Nat) (F : Nat → va_E) : CI l yX5_unitsOf cX5_unitsOf 1 (some .int) rm_X5_unitsOf G L F [.int (nI (119))] (fun r F1 => r = nI 20 ∧ ∀ q, F1 q = F q) := by
  refine CG_of (by decide) (Nat.le_of_ble_eq_true rfl) rfl ?_
  intro p e s m args below meth c Q C0 hr hlk hnm hQ hw ls hl
  have hx := C0.x
  have hb := C0.b
  refine lv_iload_n hx hb dX5_unitsOf_0 rfl (lv_at hl 0 rfl) ?_
  refine lv_tableIn (off := 107) (tgt := 108) hx hb dX5_unitsOf_1 (by decide) (by decide) rfl (by decide) ?_
  refine lv_bipush (v := nI 20) hx hb dX5_unitsOf_108 (by decide) ?_
  exact r_i C0 hr hlk hw (v := nI 20) rfl ⟨rfl, (fun q  => rfl)⟩ (Nat.le_refl _) (Nat.le_refl _) dX5_unitsOf_110 hQ
set_option maxHeartbeats 4000000 in
set_option maxRecDepth 100000 in
theorem c_X5_unitsOf_112 (l : Launch) (G : Gl) (L : List Nat) (F : Nat → va_E) : CI l yX5_unitsOf cX5_unitsOf 1 (some .int) rm_X5_unitsOf G L F [.int (nI (112))] (fun r F1 => r = nI 6 ∧ ∀ q, F1 q = F q) := by
  refine CG_of (by decide) (Nat.le_of_ble_eq_true rfl) rfl ?_
  intro p e s m args below meth c Q C0 hr hlk hnm hQ hw ls hl
  have hx := C0.x
  have hb := C0.b
  refine lv_iload_n hx hb dX5_unitsOf_0 rfl (lv_at hl 0 rfl) ?_
  refine lv_tableIn (off := 110) (tgt := 111) hx hb dX5_unitsOf_1 (by decide) (by decide) rfl (by decide) ?_
  refine lv_bipush (v := nI 6) hx hb dX5_unitsOf_111 (by decide) ?_
  exact r_i C0 hr hlk hw (v := nI 6) rfl ⟨rfl, (fun q  => rfl)⟩ (Nat.le_refl _) (Nat.le_refl _) dX5_unitsOf_113 hQ
set_option maxHeartbeats 4000000 in
set_option maxRecDepth 100000 in
theorem c_X5_unitsOf_108 (l : Launch) (G : Gl) (L : List Nat) (F : Nat → va_E) : CI l yX5_unitsOf cX5_unitsOf 1 (some .int) rm_X5_unitsOf G L F [.int (nI (108))] (fun r F1 => r = nI 6 ∧ ∀ q, F1 q = F q) := by
  refine CG_of (by decide) (Nat.le_of_ble_eq_true rfl) rfl ?_
  intro p e s m args below meth c Q C0 hr hlk hnm hQ hw ls hl
  have hx := C0.x
  have hb := C0.b
  refine lv_iload_n hx hb dX5_unitsOf_0 rfl (lv_at hl 0 rfl) ?_
  refine lv_tableIn (off := 110) (tgt := 111) hx hb dX5_unitsOf_1 (by decide) (by decide) rfl (by decide) ?_
  refine lv_bipush (v := nI 6) hx hb dX5_unitsOf_111 (by decide) ?_
  exact r_i C0 hr hlk hw (v := nI 6) rfl ⟨rfl, (fun q  => rfl)⟩ (Nat.le_refl _) (Nat.le_refl _) dX5_unitsOf_113 hQ
set_option maxHeartbeats 4000000 in
set_option maxRecDepth 100000 in
theorem c_X5_unitsOf_101 (l : Launch) (G : Gl) (L : List Nat) (F : Nat → va_E) : CI l yX5_unitsOf cX5_unitsOf 1 (some .int) rm_X5_unitsOf G L F [.int (nI (101))] (fun r F1 => r = nI 5 ∧ ∀ q, F1 q = F q) := by
  refine CG_of (by decide) (Nat.le_of_ble_eq_true rfl) rfl ?_
  intro p e s m args below meth c Q C0 hr hlk hnm hQ hw ls hl
  have hx := C0.x
  have hb := C0.b
  refine lv_iload_n hx hb dX5_unitsOf_0 rfl (lv_at hl 0 rfl) ?_
  refine lv_tableIn (off := 113) (tgt := 114) hx hb dX5_unitsOf_1 (by decide) (by decide) rfl (by decide) ?_
  refine lv_iconst (v := nI 5) hx hb dX5_unitsOf_114 (by decide) ?_
  exact r_i C0 hr hlk hw (v := nI 5) rfl ⟨rfl, (fun q  => rfl)⟩ (Nat.le_refl _) (Nat.le_refl _) dX5_unitsOf_115 hQ
set_option maxHeartbeats 4000000 in
set_option maxRecDepth 100000 in
theorem c_X5_unitsOf_99 (l : Launch) (G : Gl) (L : List Nat) (F : Nat → va_E) : CI l yX5_unitsOf cX5_unitsOf 1 (some .int) rm_X5_unitsOf G L F [.int (nI (99))] (fun r F1 => r = nI 4 ∧ ∀ q, F1 q = F q) := by
  refine CG_of (by decide) (Nat.le_of_ble_eq_true rfl) rfl ?_
  intro p e s m args below meth c Q C0 hr hlk hnm hQ hw ls hl
  have hx := C0.x
  have hb := C0.b
  refine lv_iload_n hx hb dX5_unitsOf_0 rfl (lv_at hl 0 rfl) ?_
  refine lv_tableIn (off := 115) (tgt := 116) hx hb dX5_unitsOf_1 (by decide) (by decide) rfl (by decide) ?_
  refine lv_iconst (v := nI 4) hx hb dX5_unitsOf_116 (by decide) ?_
  exact r_i C0 hr hlk hw (v := nI 4) rfl ⟨rfl, (fun q  => rfl)⟩ (Nat.le_refl _) (Nat.le_refl _) dX5_unitsOf_117 hQ
set_option maxHeartbeats 4000000 in
set_option maxRecDepth 100000 in
theorem c_X5_unitsOf_105 (l : Launch) (G : Gl) (L : List Nat) (F : Nat → va_E) : CI l yX5_unitsOf cX5_unitsOf 1 (some .int) rm_X5_unitsOf G L F [.int (nI (105))] (fun r F1 => r = nI 4 ∧ ∀ q, F1 q = F q) := by
  refine CG_of (by decide) (Nat.le_of_ble_eq_true rfl) rfl ?_
  intro p e s m args below meth c Q C0 hr hlk hnm hQ hw ls hl
  have hx := C0.x
  have hb := C0.b
  refine lv_iload_n hx hb dX5_unitsOf_0 rfl (lv_at hl 0 rfl) ?_
  refine lv_tableIn (off := 115) (tgt := 116) hx hb dX5_unitsOf_1 (by decide) (by decide) rfl (by decide) ?_
  refine lv_iconst (v := nI 4) hx hb dX5_unitsOf_116 (by decide) ?_
  exact r_i C0 hr hlk hw (v := nI 4) rfl ⟨rfl, (fun q  => rfl)⟩ (Nat.le_refl _) (Nat.le_refl _) dX5_unitsOf_117 hQ
abbrev rm_X5_costOf : Room := { frames := 0, cells := 0, slots := 0, locals := 0 }
set_option maxHeartbeats 4000000 in
set_option maxRecDepth 100000 in
theorem c_X5_costOf (l : Launch) (G : Gl) (L : List Nat) (F : Nat → va_E) (ad : Nat → Nat) (hL : ∀ i, i < 166 → ad i ∈ L) (hin : ∀ i j, i < 166 → j < 166 → i ≠ j → ad i ≠ ad j) (un : Nat) (st : Sta) (fx : F (ad 0) = xO ad) (hn : sta G F ad 22 st) : CI l yX5_costOf cX5_costOf 2 (some .int) rm_X5_costOf G L F [.ref (ad 0), .int (nI (un))] (fun r F1 => r = nI (un * st.1) ∧ ∀ q, F1 q = F q) := by
  refine CG_of (by decide) (Nat.le_of_ble_eq_true rfl) rfl ?_
  intro p e s m args below meth c Q C0 hr hlk hnm hQ hw ls hl
  have hx := C0.x
  have hb := C0.b
  refine lv_iload_n hx hb dX5_costOf_0 rfl (lv_at hl 1 rfl) ?_
  refine lv_aload_n hx hb dX5_costOf_1 rfl (lv_at hl 0 rfl) ?_
  refine q_get C0 hw ((hL 0 (by omega))) fx fw_X5_12 rfl dX5_costOf_2 ?_
  refine q_get C0 hw ((hL 22 (by omega))) hn.1 fw_X5_66 rfl dX5_costOf_5 ?_
  refine q_get C0 hw ((hL 23 (by omega))) hn.2.1 fw_X5_70 rfl dX5_costOf_8 ?_
  refine n_imul hx hb dX5_costOf_11 ?_
  exact r_i C0 hr hlk hw (v := nI (un * st.1)) rfl ⟨rfl, (fun q  => rfl)⟩ (Nat.le_refl _) (Nat.le_refl _) dX5_costOf_12 hQ
abbrev rm_X5_pay : Room := { frames := 1, cells := 0, slots := 0, locals := 21 }
set_option maxHeartbeats 4000000 in
set_option maxRecDepth 100000 in
theorem c_X5_pay (l : Launch) (G : Gl) (L : List Nat) (F : Nat → va_E) (ad : Nat → Nat) (hL : ∀ i, i < 166 → ad i ∈ L) (hin : ∀ i j, i < 166 → j < 166 → i ≠ j → ad i ≠ ad j) (un : Nat) (st : Sta) (fx : F (ad 0) = xO ad) (hn : sta G F ad 22 st) (hm : un * st.1 ≤ st.2.1) : CV l yX5_pay cX5_pay 3 none rm_X5_pay G L F [.ref (ad 0), .int (nI (un))] (fun F1 => F1 (ad 22) = stO (ad 23) (payS st un).2.1 (payS st un).2.2.1 (payS st un).2.2.2.1 (payS st un).2.2.2.2.1 ∧ ∀ q, (∀ i, (i = 22) → q ≠ ad i) → F1 q = F q) := by
  refine CG_of (by decide) (Nat.le_of_ble_eq_true rfl) rfl ?_
  intro p e s m args below meth c Q C0 hr hlk hnm hQ hw ls hl
  have hx := C0.x
  have hb := C0.b
  refine lv_aload_n hx hb dX5_pay_0 rfl (lv_at hl 0 rfl) ?_
  refine lv_iload_n hx hb dX5_pay_1 rfl (lv_at hl 1 rfl) ?_
  refine q_calli hw (q_runV (As := [.int (nI (un))]) (c_X5_costOf l G L F ad hL hin un st fx hn) C0 hw vw_X5_228 ((hL 0 (by omega))) fx rfl rfl rfl hl.1 rfl (Nat.le_of_ble_eq_true rfl) dX5_pay_2 ⟨by decide, by decide⟩ ⟨by decide, by decide⟩) rfl rfl (fun r_558 F_556 H locs hw hp_557 => ?_)
  obtain ⟨he_559, o_560⟩ := hp_557
  subst he_559
  refine lv_istore_n (lv' := [(2, .int (nI (un * st.1))), (0, .ref (ad 0)), (1, .int (nI (un)))]) hx hb dX5_pay_5 rfl hl (by decide) rfl (fun ls hl => ?_)
  refine lv_aload_n hx hb dX5_pay_6 rfl (lv_at hl 1 rfl) ?_
  have f_561 : F_556 (ad 0) = xO ad := (o_560 (ad 0) ).trans fx
  refine q_get C0 hw ((hL 0 (by omega))) f_561 fw_X5_12 rfl dX5_pay_7 ?_
  refine lv_dup hx hb dX5_pay_10 rfl ?_
  have f_562 : F_556 (ad 22) = .inr (3, [.ref (ad 23), .int (nI (st.2.1)), .int (nI (st.2.2.1)), .int (nI (st.2.2.2.1)), .int (nI (st.2.2.2.2.1))]) := (o_560 (ad 22) ).trans hn.1
  refine q_get C0 hw ((hL 22 (by omega))) f_562 fw_X5_98 rfl dX5_pay_11 ?_
  refine lv_iload_n hx hb dX5_pay_14 rfl (lv_at hl 0 rfl) ?_
  refine n_isub hx hb (by omega) dX5_pay_15 ?_
  refine q_put C0 hw ((hL 22 (by omega))) f_562 fw_X5_98 pw_X3_1 rfl rfl rfl (Nat.le_of_ble_eq_true rfl) dX5_pay_16 (fun F_563 H locs hw f_564 o_565 => ?_)
  have f_564 : F_563 (ad 22) = .inr (3, [.ref (ad 23), .int (nI (st.2.1 - (un * st.1))), .int (nI (st.2.2.1)), .int (nI (st.2.2.2.1)), .int (nI (st.2.2.2.2.1))]) := f_564
  refine lv_aload_n hx hb dX5_pay_19 rfl (lv_at hl 1 rfl) ?_
  have f_566 : F_563 (ad 0) = xO ad := (o_565 (ad 0) (hin 0 22 (by omega) (by omega) (by omega))).trans f_561
  refine q_get C0 hw ((hL 0 (by omega))) f_566 fw_X5_12 rfl dX5_pay_20 ?_
  refine lv_dup hx hb dX5_pay_23 rfl ?_
  refine q_get C0 hw ((hL 22 (by omega))) f_564 fw_X5_237 rfl dX5_pay_24 ?_
  refine lv_iload_n hx hb dX5_pay_27 rfl (lv_at hl 0 rfl) ?_
  refine n_iadd hx hb dX5_pay_28 ?_
  refine q_put C0 hw ((hL 22 (by omega))) f_564 fw_X5_237 pw_X3_2 rfl rfl rfl (Nat.le_of_ble_eq_true rfl) dX5_pay_29 (fun F_567 H locs hw f_568 o_569 => ?_)
  have f_568 : F_567 (ad 22) = .inr (3, [.ref (ad 23), .int (nI (st.2.1 - (un * st.1))), .int (nI (st.2.2.1 + (un * st.1))), .int (nI (st.2.2.2.1)), .int (nI (st.2.2.2.2.1))]) := f_568
  refine lv_aload_n hx hb dX5_pay_32 rfl (lv_at hl 1 rfl) ?_
  have f_570 : F_567 (ad 0) = xO ad := (o_569 (ad 0) (hin 0 22 (by omega) (by omega) (by omega))).trans f_566
  refine q_get C0 hw ((hL 0 (by omega))) f_570 fw_X5_12 rfl dX5_pay_33 ?_
  refine lv_dup hx hb dX5_pay_36 rfl ?_
  refine q_get C0 hw ((hL 22 (by omega))) f_568 fw_X5_240 rfl dX5_pay_37 ?_
  refine lv_iconst (v := nI 1) hx hb dX5_pay_40 (by decide) ?_
  refine n_iadd hx hb dX5_pay_41 ?_
  refine q_put C0 hw ((hL 22 (by omega))) f_568 fw_X5_240 pw_X3_3 rfl rfl rfl (Nat.le_of_ble_eq_true rfl) dX5_pay_42 (fun F_571 H locs hw f_572 o_573 => ?_)
  have f_572 : F_571 (ad 22) = .inr (3, [.ref (ad 23), .int (nI (st.2.1 - (un * st.1))), .int (nI (st.2.2.1 + (un * st.1))), .int (nI (st.2.2.2.1 + 1)), .int (nI (st.2.2.2.2.1))]) := f_572
  exact r_v C0 hr hlk hw ⟨f_572, (fun q hq => ((o_573 q (hq 22 (by omega))).trans ((o_569 q (hq 22 (by omega))).trans ((o_565 q (hq 22 (by omega))).trans (o_560 q )))))⟩ (Nat.le_refl _) (Nat.le_refl _) dX5_pay_45 hQ
abbrev rm_X5_put : Room := { frames := 1, cells := 0, slots := 0, locals := 40 }
set_option maxHeartbeats 4000000 in
set_option maxRecDepth 100000 in
theorem c_X5_put (l : Launch) (G : Gl) (L : List Nat) (F : Nat → va_E) (ad : Nat → Nat) (hL : ∀ i, i < 166 → ad i ∈ L) (hin : ∀ i j, i < 166 → j < 166 → i ≠ j → ad i ≠ ad j) (t9 : Nat) (u v : Nat → ZP) (fx : F (ad 0) = xO ad) (h134 : F (ad 134) = rw7 G u) (ht : F (ad (26 + t9)) = rw7 G v) (ht9 : t9 < 12) : CI l yX5_put cX5_put 2 (some .int) rm_X5_put G L F [.ref (ad 0), .ref (ad (26 + t9))] (fun r F1 => r = lowR u ∧ F1 (ad (26 + t9)) = rw7 G u ∧ ∀ q, (∀ i, (i = 26 + t9) → q ≠ ad i) → F1 q = F q) := by
  refine CG_of (by decide) (Nat.le_of_ble_eq_true rfl) rfl ?_
  intro p e s m args below meth c Q C0 hr hlk hnm hQ hw ls hl
  have hx := C0.x
  have hb := C0.b
  refine lv_aload_n hx hb dX5_put_0 rfl (lv_at hl 0 rfl) ?_
  refine q_get C0 hw ((hL 0 (by omega))) fx fw_X5_48 rfl dX5_put_1 ?_
  refine lv_iconst (v := nI 0) hx hb dX5_put_4 (by decide) ?_
  refine lv_aload_n hx hb dX5_put_5 rfl (lv_at hl 1 rfl) ?_
  refine lv_iconst (v := nI 0) hx hb dX5_put_6 (by decide) ?_
  refine lv_bipush (v := nI 7) hx hb dX5_put_7 (by decide) ?_
  refine q_copy C0 hw hl.1 aw_X5_289 ((hL 134 (by omega))) ((hL (26 + t9) (by omega))) h134 ht (n := 7) (by omega) (by decide) (by decide) dX5_put_9 (fun F_574 H locs hw f_575 o_576 => ?_)
  obtain ⟨F_577, hw, f_578, o_579⟩ := hw.rowE f_575 (v := u) (fun k hk => if_pos hk)
  refine lv_aload_n hx hb dX5_put_12 rfl (lv_at hl 1 rfl) ?_
  refine q_calli hw (q_runS (As := [.ref (ad (26 + t9))]) (c_X1_lowestPower l G L F_577 (ad (26 + t9)) u ((hL (26 + t9) (by omega))) f_578) C0 hw sw_X5_202 rfl hl.1 rfl (Nat.le_of_ble_eq_true rfl) dX5_put_13 ⟨by decide, by decide⟩ ⟨by decide, by decide⟩) rfl rfl (fun r_582 F_580 H locs hw hp_581 => ?_)
  obtain ⟨he_583, o_584⟩ := hp_581
  subst he_583
  have f_585 : F_580 (ad (26 + t9)) = rw7 G u := (o_584 (ad (26 + t9)) ).trans f_578
  exact r_i C0 hr hlk hw (v := (m_low (fun k => decide (u k ≠ 0)))) rfl ⟨rfl, f_585, (fun q hq => ((o_584 q ).trans ((o_579 q (hq (26 + t9) (by omega))).trans (o_576 q (hq (26 + t9) (by omega))))))⟩ (Nat.le_refl _) (Nat.le_refl _) dX5_put_16 hQ
abbrev rm_X5_needSlot : Room := { frames := 0, cells := 0, slots := 0, locals := 0 }
set_option maxHeartbeats 4000000 in
set_option maxRecDepth 100000 in
theorem c_X5_needSlot (l : Launch) (G : Gl) (L : List Nat) (F : Nat → va_E) (f9 : Nat) (hf9 : f9 < 6) : CV l yX5_needSlot cX5_needSlot 1 none rm_X5_needSlot G L F [.int (nI (f9))] (fun F1 => ∀ q, F1 q = F q) := by
  refine CG_of (by decide) (Nat.le_of_ble_eq_true rfl) rfl ?_
  intro p e s m args below meth c Q C0 hr hlk hnm hQ hw ls hl
  have hx := C0.x
  have hb := C0.b
  refine lv_iload_n hx hb dX5_needSlot_0 rfl (lv_at hl 0 rfl) ?_
  refine n_if_lt (tgt := 10) hx hb dX5_needSlot_1 (by decide) (by omega) ?_
  refine lv_iload_n hx hb dX5_needSlot_4 rfl (lv_at hl 0 rfl) ?_
  refine lv_bipush (v := nI 6) hx hb dX5_needSlot_5 (by decide) ?_
  refine n_icmp_lt (tgt := 21) hx hb dX5_needSlot_7 (by decide) (by omega) (by decide) (fun c_7 => ?_) (fun c_7 => ?_)
  · skip
    exact r_v C0 hr hlk hw (fun q  => rfl) (Nat.le_refl _) (Nat.le_refl _) dX5_needSlot_21 hQ
  · skip
    exact absurd c_7 (by omega)
abbrev rm_X5_needMoney : Room := { frames := 1, cells := 0, slots := 0, locals := 21 }
set_option maxHeartbeats 4000000 in
set_option maxRecDepth 100000 in
theorem c_X5_needMoney (l : Launch) (G : Gl) (L : List Nat) (F : Nat → va_E) (ad : Nat → Nat) (hL : ∀ i, i < 166 → ad i ∈ L) (hin : ∀ i j, i < 166 → j < 166 → i ≠ j → ad i ≠ ad j) (un : Nat) (st : Sta) (fx : F (ad 0) = xO ad) (hn : sta G F ad 22 st) (hm : un * st.1 ≤ st.2.1) (hpu : st.2.1 ≤ 100000) : CV l yX5_needMoney cX5_needMoney 2 none rm_X5_needMoney G L F [.ref (ad 0), .int (nI (un))] (fun F1 => ∀ q, F1 q = F q) := by
  refine CG_of (by decide) (Nat.le_of_ble_eq_true rfl) rfl ?_
  intro p e s m args below meth c Q C0 hr hlk hnm hQ hw ls hl
  have hx := C0.x
  have hb := C0.b
  refine lv_aload_n hx hb dX5_needMoney_0 rfl (lv_at hl 0 rfl) ?_
  refine q_get C0 hw ((hL 0 (by omega))) fx fw_X5_12 rfl dX5_needMoney_1 ?_
  refine q_get C0 hw ((hL 22 (by omega))) hn.1 fw_X5_98 rfl dX5_needMoney_4 ?_
  refine lv_aload_n hx hb dX5_needMoney_7 rfl (lv_at hl 0 rfl) ?_
  refine lv_iload_n hx hb dX5_needMoney_8 rfl (lv_at hl 1 rfl) ?_
  refine q_calli hw (q_runV (As := [.int (nI (un))]) (c_X5_costOf l G L F ad hL hin un st fx hn) C0 hw vw_X5_228 ((hL 0 (by omega))) fx rfl rfl rfl hl.1 rfl (Nat.le_of_ble_eq_true rfl) dX5_needMoney_9 ⟨by decide, by decide⟩ ⟨by decide, by decide⟩) rfl rfl (fun r_588 F_586 H locs hw hp_587 => ?_)
  obtain ⟨he_589, o_590⟩ := hp_587
  subst he_589
  refine n_icmp_ge (tgt := 26) hx hb dX5_needMoney_12 (by decide) (by omega) (by omega) (fun c_12 => ?_) (fun c_12 => ?_)
  · skip
    exact r_v C0 hr hlk hw (fun q  => (o_590 q )) (Nat.le_refl _) (Nat.le_refl _) dX5_needMoney_26 hQ
  · skip
    exact absurd c_12 (by omega)
abbrev rm_X5_carryOut : Room := { frames := 4, cells := 0, slots := 0, locals := 113 }
set_option maxHeartbeats 4000000 in
set_option maxRecDepth 100000 in
theorem c_X5_carryOut_98 (l : Launch) (G : Gl) (L : List Nat) (F : Nat → va_E) (ad : Nat → Nat) (hL : ∀ i, i < 166 → ad i ∈ L) (hin : ∀ i j, i < 166 → j < 166 → i ≠ j → ad i ≠ ad j) (f9 g9 t9 : Nat) (st : Sta) (u9 : Nat → ZP) (fx : F (ad 0) = xO ad) (hn : sta G F ad 22 st) (hrk : rkW G F ad) (h134 : F (ad 134) = rw7 G u9) (hf9 : f9 < 6) (hg9 : g9 < 6) (ht9 : t9 < 6) (hm : 2 * st.1 ≤ st.2.1) (hc : st.1 ≤ 6) (hc2 : 2 ≤ st.1) (hpu : st.2.1 ≤ 100000) : CI l yX5_carryOut cX5_carryOut 8 (some .int) rm_X5_carryOut G L F [.ref (ad 0), .int (nI (98)), .int (nI (f9)), .int (nI (g9)), .int (nI (t9))] (fun r F1 => r = lowR (ordR 98 f9 g9 st.1 st.2.2.2.2.2) ∧ sta G F1 ad 22 (ordS 98 f9 g9 t9 st) ∧ rkW G F1 ad ∧ (∃ u, F1 (ad 134) = rw7 G u) ∧ ∀ q, (∀ i, (i = 22 ∨ (26 ≤ i ∧ i < 38) ∨ (8 ≤ i ∧ i < 22) ∨ i = 134) → q ≠ ad i) → F1 q = F q) := by
  obtain ⟨s_13, hs_13⟩ := hrk.2 13 (by decide)
  obtain ⟨s_12, hs_12⟩ := hrk.2 12 (by decide)
  obtain ⟨s_11, hs_11⟩ := hrk.2 11 (by decide)
  obtain ⟨s_10, hs_10⟩ := hrk.2 10 (by decide)
  obtain ⟨s_9, hs_9⟩ := hrk.2 9 (by decide)
  obtain ⟨s_8, hs_8⟩ := hrk.2 8 (by decide)
  obtain ⟨s_7, hs_7⟩ := hrk.2 7 (by decide)
  obtain ⟨s_6, hs_6⟩ := hrk.2 6 (by decide)
  obtain ⟨s_5, hs_5⟩ := hrk.2 5 (by decide)
  obtain ⟨s_4, hs_4⟩ := hrk.2 4 (by decide)
  obtain ⟨s_3, hs_3⟩ := hrk.2 3 (by decide)
  obtain ⟨s_2, hs_2⟩ := hrk.2 2 (by decide)
  obtain ⟨s_1, hs_1⟩ := hrk.2 1 (by decide)
  obtain ⟨s_0, hs_0⟩ := hrk.2 0 (by decide)
  refine CG_of (by decide) (Nat.le_of_ble_eq_true rfl) rfl ?_
  intro p e s m args below meth c Q C0 hr hlk hnm hQ hw ls hl
  have hx := C0.x
  have hb := C0.b
  refine lv_aload_n hx hb dX5_carryOut_0 rfl (lv_at hl 0 rfl) ?_
  refine lv_iload_n hx hb dX5_carryOut_1 rfl (lv_at hl 1 rfl) ?_
  refine q_calli hw (q_runS (As := [.int (nI (98))]) (c_X5_unitsOf_98 l G L F ) C0 hw sw_X5_225 rfl hl.1 rfl (Nat.le_of_ble_eq_true rfl) dX5_carryOut_2 ⟨by decide, by decide⟩ ⟨by decide, by decide⟩) rfl rfl (fun r_593 F_591 H locs hw hp_592 => ?_)
  obtain ⟨he_594, o_595⟩ := hp_592
  subst he_594
  have f_596 : F_591 (ad 0) = xO ad := (o_595 (ad 0) ).trans fx
  refine q_callv hw (q_runV (As := [.int (nI (2))]) (c_X5_pay l G L F_591 ad hL hin 2 st f_596 (hn.keep (fun i0 hi => (o_595 (ad (i0)) ))) (by omega)) C0 hw vw_X5_114 ((hL 0 (by omega))) f_596 rfl rfl rfl hl.1 rfl (Nat.le_of_ble_eq_true rfl) dX5_carryOut_5 ⟨by decide, by decide⟩ ⟨by decide, by decide⟩) rfl rfl (fun F_597 H locs hw hp_598 => ?_)
  refine lv_iload_n hx hb dX5_carryOut_8 rfl (lv_at hl 1 rfl) ?_
  refine lv_bipush (v := nI 98) hx hb dX5_carryOut_9 (by decide) ?_
  refine n_icmp_ne (tgt := 27) hx hb dX5_carryOut_11 (by decide) (by decide) (by decide) (fun c_11 => ?_) (fun c_11 => ?_)
  · skip
    exact absurd c_11 (by omega)
  · skip
    refine lv_aload_n hx hb dX5_carryOut_14 rfl (lv_at hl 0 rfl) ?_
    have f_599 : F_597 (ad 0) = xO ad := (hp_598.2 (ad 0) (fun i hS => hin 0 i (by omega) (by omega) (by omega))).trans f_596
    refine q_get C0 hw ((hL 0 (by omega))) f_599 fw_X5_12 rfl dX5_carryOut_15 ?_
    refine lv_dup hx hb dX5_carryOut_18 rfl ?_
    refine q_get C0 hw ((hL 22 (by omega))) hp_598.1 fw_X5_243 rfl dX5_carryOut_19 ?_
    refine lv_iconst (v := nI 1) hx hb dX5_carryOut_22 (by decide) ?_
    refine n_iadd hx hb dX5_carryOut_23 ?_
    refine q_put C0 hw ((hL 22 (by omega))) hp_598.1 fw_X5_243 pw_X3_4 rfl rfl rfl (Nat.le_of_ble_eq_true rfl) dX5_carryOut_24 (fun F_600 H locs hw f_601 o_602 => ?_)
    have f_601 : F_600 (ad 22) = .inr (3, [.ref (ad 23), .int (nI (st.2.1 - 2 * st.1)), .int (nI (st.2.2.1 + 2 * st.1)), .int (nI (st.2.2.2.1 + 1)), .int (nI (st.2.2.2.2.1 + 1))]) := f_601
    refine lv_aload_n hx hb dX5_carryOut_27 rfl (lv_at hl 0 rfl) ?_
    have f_603 : F_600 (ad 0) = xO ad := (o_602 (ad 0) (hin 0 22 (by omega) (by omega) (by omega))).trans f_599
    refine q_get C0 hw ((hL 0 (by omega))) f_603 fw_X5_12 rfl dX5_carryOut_28 ?_
    refine q_get C0 hw ((hL 22 (by omega))) f_601 fw_X5_66 rfl dX5_carryOut_31 ?_
    have f_604 : F_591 (ad 23) = .inr (2, [.int (nI (st.1)), .ref (ad 24), .ref (ad 25)]) := (o_595 (ad 23) ).trans hn.2.1
    have f_605 : F_597 (ad 23) = .inr (2, [.int (nI (st.1)), .ref (ad 24), .ref (ad 25)]) := (hp_598.2 (ad 23) (fun i hS => hin 23 i (by omega) (by omega) (by omega))).trans f_604
    have f_606 : F_600 (ad 23) = .inr (2, [.int (nI (st.1)), .ref (ad 24), .ref (ad 25)]) := (o_602 (ad 23) (hin 23 22 (by omega) (by omega) (by omega))).trans f_605
    refine q_get C0 hw ((hL 23 (by omega))) f_606 fw_X5_85 rfl dX5_carryOut_34 ?_
    refine lv_astore (lv' := [(5, .ref (ad 24)), (0, .ref (ad 0)), (1, .int (nI (98))), (2, .int (nI (f9))), (3, .int (nI (g9))), (4, .int (nI (t9)))]) hx hb dX5_carryOut_37 hl (by decide) rfl (fun ls hl => ?_)
    refine lv_aload_n hx hb dX5_carryOut_39 rfl (lv_at hl 1 rfl) ?_
    refine q_get C0 hw ((hL 0 (by omega))) f_603 fw_X5_12 rfl dX5_carryOut_40 ?_
    refine q_get C0 hw ((hL 22 (by omega))) f_601 fw_X5_66 rfl dX5_carryOut_43 ?_
    refine q_get C0 hw ((hL 23 (by omega))) f_606 fw_X5_93 rfl dX5_carryOut_46 ?_
    refine lv_astore (lv' := [(6, .ref (ad 25)), (5, .ref (ad 24)), (0, .ref (ad 0)), (1, .int (nI (98))), (2, .int (nI (f9))), (3, .int (nI (g9))), (4, .int (nI (t9)))]) hx hb dX5_carryOut_49 hl (by decide) rfl (fun ls hl => ?_)
    refine lv_aload_n hx hb dX5_carryOut_51 rfl (lv_at hl 2 rfl) ?_
    refine q_get C0 hw ((hL 0 (by omega))) f_603 fw_X5_12 rfl dX5_carryOut_52 ?_
    refine q_get C0 hw ((hL 22 (by omega))) f_601 fw_X5_66 rfl dX5_carryOut_55 ?_
    refine q_get C0 hw ((hL 23 (by omega))) f_606 fw_X5_70 rfl dX5_carryOut_58 ?_
    refine lv_istore (lv' := [(7, .int (nI (st.1))), (6, .ref (ad 25)), (5, .ref (ad 24)), (0, .ref (ad 0)), (1, .int (nI (98))), (2, .int (nI (f9))), (3, .int (nI (g9))), (4, .int (nI (t9)))]) hx hb dX5_carryOut_61 hl (by decide) rfl (fun ls hl => ?_)
    refine lv_iload_n hx hb dX5_carryOut_63 rfl (lv_at hl 4 rfl) ?_
    refine lv_tableIn (off := 104) (tgt := 168) hx hb dX5_carryOut_64 (by decide) (by decide) rfl (by decide) ?_
    refine lv_aload_n hx hb dX5_carryOut_168 rfl (lv_at hl 3 rfl) ?_
    refine q_get C0 hw ((hL 0 (by omega))) f_603 fw_X5_44 rfl dX5_carryOut_169 ?_
    refine lv_aload hx hb dX5_carryOut_172 (lv_at hl 2 rfl) ?_
    refine lv_iload_n hx hb dX5_carryOut_174 rfl (lv_at hl 5 rfl) ?_
    have f_607 : F_591 (ad 24) = oE G (fun i => ad (26 + i)) := (o_595 (ad 24) ).trans hn.2.2.1
    have f_608 : F_597 (ad 24) = oE G (fun i => ad (26 + i)) := (hp_598.2 (ad 24) (fun i hS => hin 24 i (by omega) (by omega) (by omega))).trans f_607
    have f_609 : F_600 (ad 24) = oE G (fun i => ad (26 + i)) := (o_602 (ad 24) (hin 24 22 (by omega) (by omega) (by omega))).trans f_608
    refine q_aaldi C0 hw ((hL 24 (by omega))) f_609 (f9) (by omega) (by decide) (b := ad (26 + f9)) rfl dX5_carryOut_175 ?_
    refine lv_aload hx hb dX5_carryOut_176 (lv_at hl 2 rfl) ?_
    refine lv_iload_n hx hb dX5_carryOut_178 rfl (lv_at hl 6 rfl) ?_
    refine q_aaldi C0 hw ((hL 24 (by omega))) f_609 (g9) (by omega) (by decide) (b := ad (26 + g9)) rfl dX5_carryOut_179 ?_
    refine lv_iload hx hb dX5_carryOut_180 (lv_at hl 0 rfl) ?_
    refine lv_aload_n hx hb dX5_carryOut_182 rfl (lv_at hl 3 rfl) ?_
    refine q_get C0 hw ((hL 0 (by omega))) f_603 fw_X5_48 rfl dX5_carryOut_183 ?_
    have f_610 : F_591 (ad (26 + f9)) = rw7 G ((st.2.2.2.2.2 f9)) := (o_595 (ad (26 + f9)) ).trans ((hn.2.2.2.2 f9 (by omega)))
    have f_611 : F_597 (ad (26 + f9)) = rw7 G ((st.2.2.2.2.2 f9)) := (hp_598.2 (ad (26 + f9)) (fun i hS => hin (26 + f9) i (by omega) (by omega) (by omega))).trans f_610
    have f_612 : F_600 (ad (26 + f9)) = rw7 G ((st.2.2.2.2.2 f9)) := (o_602 (ad (26 + f9)) (hin (26 + f9) 22 (by omega) (by omega) (by omega))).trans f_611
    have f_613 : F_591 (ad (26 + g9)) = rw7 G ((st.2.2.2.2.2 g9)) := (o_595 (ad (26 + g9)) ).trans ((hn.2.2.2.2 g9 (by omega)))
    have f_614 : F_597 (ad (26 + g9)) = rw7 G ((st.2.2.2.2.2 g9)) := (hp_598.2 (ad (26 + g9)) (fun i hS => hin (26 + g9) i (by omega) (by omega) (by omega))).trans f_613
    have f_615 : F_600 (ad (26 + g9)) = rw7 G ((st.2.2.2.2.2 g9)) := (o_602 (ad (26 + g9)) (hin (26 + g9) 22 (by omega) (by omega) (by omega))).trans f_614
    have f_616 : F_591 (ad 134) = rw7 G u9 := (o_595 (ad 134) ).trans h134
    have f_617 : F_597 (ad 134) = rw7 G u9 := (hp_598.2 (ad 134) (fun i hS => hin 134 i (by omega) (by omega) (by omega))).trans f_616
    have f_618 : F_600 (ad 134) = rw7 G u9 := (o_602 (ad 134) (hin 134 22 (by omega) (by omega) (by omega))).trans f_617
    have f_619 : F_591 (ad 8) = rw7 G s_0 := (o_595 (ad 8) ).trans hs_0
    have f_620 : F_597 (ad 8) = rw7 G s_0 := (hp_598.2 (ad 8) (fun i hS => hin 8 i (by omega) (by omega) (by omega))).trans f_619
    have f_621 : F_600 (ad 8) = rw7 G s_0 := (o_602 (ad 8) (hin 8 22 (by omega) (by omega) (by omega))).trans f_620
    have f_622 : F_591 (ad 7) = rkO (fun i => ad (8 + i)) := (o_595 (ad 7) ).trans hrk.1
    have f_623 : F_597 (ad 7) = rkO (fun i => ad (8 + i)) := (hp_598.2 (ad 7) (fun i hS => hin 7 i (by omega) (by omega) (by omega))).trans f_622
    have f_624 : F_600 (ad 7) = rkO (fun i => ad (8 + i)) := (o_602 (ad 7) (hin 7 22 (by omega) (by omega) (by omega))).trans f_623
    refine q_callv hw (q_runV (As := [.ref (ad (26 + f9)), .ref (ad (26 + g9)), .int (nI (st.1)), .ref (ad 134)]) (c_X1_takeBracket l G L F_600 (ad 7) (fun i => ad (8 + i)) (ad (26 + f9)) (ad (26 + g9)) (ad 134) (st.1) ((st.2.2.2.2.2 f9)) ((st.2.2.2.2.2 g9)) u9 s_0  ((hL 7 (by omega))) f_624 (fun i hi => hL (8 + i) (by omega)) (ra_inj hin) ((hL (26 + f9) (by omega))) f_612 ((hL (26 + g9) (by omega))) f_615 ((hL 134 (by omega))) f_618 f_621 (hin (26 + f9) 134 (by omega) (by omega) (by omega)) (hin (26 + g9) 134 (by omega) (by omega) (by omega)) (hin (26 + f9) 8 (by omega) (by omega) (by omega)) (hin (26 + g9) 8 (by omega) (by omega) (by omega)) (hin 134 8 (by omega) (by omega) (by omega)) (by omega) (by omega) ) C0 hw vw_X5_198 ((hL 7 (by omega))) f_624 rfl rfl rfl hl.1 rfl (Nat.le_of_ble_eq_true rfl) dX5_carryOut_186 ⟨by decide, by decide⟩ ⟨by decide, by decide⟩) rfl rfl (fun F_625 H locs hw hp_626 => ?_)
    obtain ⟨f_627, ⟨t_629, f_628⟩, o_630⟩ := hp_626
    refine lv_aload_n hx hb dX5_carryOut_189 rfl (lv_at hl 3 rfl) ?_
    refine lv_aload hx hb dX5_carryOut_190 (lv_at hl 2 rfl) ?_
    refine lv_iload hx hb dX5_carryOut_192 (lv_at hl 7 rfl) ?_
    have f_631 : F_625 (ad 24) = oE G (fun i => ad (26 + i)) := (o_630 (ad 24) (hin 24 134 (by omega) (by omega) (by omega)) (hin 24 8 (by omega) (by omega) (by omega))).trans f_609
    refine q_aaldi C0 hw ((hL 24 (by omega))) f_631 (t9) (by omega) (by decide) (b := ad (26 + t9)) rfl dX5_carryOut_194 ?_
    have f_632 : F_591 (ad (26 + t9)) = rw7 G ((st.2.2.2.2.2 t9)) := (o_595 (ad (26 + t9)) ).trans ((hn.2.2.2.2 t9 (by omega)))
    have f_633 : F_597 (ad (26 + t9)) = rw7 G ((st.2.2.2.2.2 t9)) := (hp_598.2 (ad (26 + t9)) (fun i hS => hin (26 + t9) i (by omega) (by omega) (by omega))).trans f_632
    have f_634 : F_600 (ad (26 + t9)) = rw7 G ((st.2.2.2.2.2 t9)) := (o_602 (ad (26 + t9)) (hin (26 + t9) 22 (by omega) (by omega) (by omega))).trans f_633
    have f_635 : F_625 (ad (26 + t9)) = rw7 G ((st.2.2.2.2.2 t9)) := (o_630 (ad (26 + t9)) (hin (26 + t9) 134 (by omega) (by omega) (by omega)) (hin (26 + t9) 8 (by omega) (by omega) (by omega))).trans f_634
    have f_636 : F_625 (ad 0) = xO ad := (o_630 (ad 0) (hin 0 134 (by omega) (by omega) (by omega)) (hin 0 8 (by omega) (by omega) (by omega))).trans f_603
    refine q_calli hw (q_runV (As := [.ref (ad (26 + t9))]) (c_X5_put l G L F_625 ad hL hin t9 ((m_br ((st.2.2.2.2.2 f9)) ((st.2.2.2.2.2 g9)) (st.1))) ((st.2.2.2.2.2 t9)) f_636 f_627 f_635 (by omega)) C0 hw vw_X5_127 ((hL 0 (by omega))) f_636 rfl rfl rfl hl.1 rfl (Nat.le_of_ble_eq_true rfl) dX5_carryOut_195 ⟨by decide, by decide⟩ ⟨by decide, by decide⟩) rfl rfl (fun r_639 F_637 H locs hw hp_638 => ?_)
    obtain ⟨he_640, f_641, o_642⟩ := hp_638
    subst he_640
    have f_643 : F_625 (ad 22) = .inr (3, [.ref (ad 23), .int (nI (st.2.1 - 2 * st.1)), .int (nI (st.2.2.1 + 2 * st.1)), .int (nI (st.2.2.2.1 + 1)), .int (nI (st.2.2.2.2.1 + 1))]) := (o_630 (ad 22) (hin 22 134 (by omega) (by omega) (by omega)) (hin 22 8 (by omega) (by omega) (by omega))).trans f_601
    have f_644 : F_637 (ad 22) = .inr (3, [.ref (ad 23), .int (nI (st.2.1 - 2 * st.1)), .int (nI (st.2.2.1 + 2 * st.1)), .int (nI (st.2.2.2.1 + 1)), .int (nI (st.2.2.2.2.1 + 1))]) := (o_642 (ad 22) (fun i hS => hin 22 i (by omega) (by omega) (by omega))).trans f_643
    have f_645 : F_637 (ad 134) = rw7 G ((m_br ((st.2.2.2.2.2 f9)) ((st.2.2.2.2.2 g9)) (st.1))) := (o_642 (ad 134) (fun i hS => hin 134 i (by omega) (by omega) (by omega))).trans f_627
    have f_646 : F_625 (ad 7) = rkO (fun i => ad (8 + i)) := (o_630 (ad 7) (hin 7 134 (by omega) (by omega) (by omega)) (hin 7 8 (by omega) (by omega) (by omega))).trans f_624
    have f_647 : F_637 (ad 7) = rkO (fun i => ad (8 + i)) := (o_642 (ad 7) (fun i hS => hin 7 i (by omega) (by omega) (by omega))).trans f_646
    have f_648 : F_637 (ad 8) = rw7 G t_629 := (o_642 (ad 8) (fun i hS => hin 8 i (by omega) (by omega) (by omega))).trans f_628
    have f_649 : F_591 (ad 9) = rw7 G s_1 := (o_595 (ad 9) ).trans hs_1
    have f_650 : F_597 (ad 9) = rw7 G s_1 := (hp_598.2 (ad 9) (fun i hS => hin 9 i (by omega) (by omega) (by omega))).trans f_649
    have f_651 : F_600 (ad 9) = rw7 G s_1 := (o_602 (ad 9) (hin 9 22 (by omega) (by omega) (by omega))).trans f_650
    have f_652 : F_625 (ad 9) = rw7 G s_1 := (o_630 (ad 9) (hin 9 134 (by omega) (by omega) (by omega)) (hin 9 8 (by omega) (by omega) (by omega))).trans f_651
    have f_653 : F_637 (ad 9) = rw7 G s_1 := (o_642 (ad 9) (fun i hS => hin 9 i (by omega) (by omega) (by omega))).trans f_652
    have f_654 : F_591 (ad 10) = rw7 G s_2 := (o_595 (ad 10) ).trans hs_2
    have f_655 : F_597 (ad 10) = rw7 G s_2 := (hp_598.2 (ad 10) (fun i hS => hin 10 i (by omega) (by omega) (by omega))).trans f_654
    have f_656 : F_600 (ad 10) = rw7 G s_2 := (o_602 (ad 10) (hin 10 22 (by omega) (by omega) (by omega))).trans f_655
    have f_657 : F_625 (ad 10) = rw7 G s_2 := (o_630 (ad 10) (hin 10 134 (by omega) (by omega) (by omega)) (hin 10 8 (by omega) (by omega) (by omega))).trans f_656
    have f_658 : F_637 (ad 10) = rw7 G s_2 := (o_642 (ad 10) (fun i hS => hin 10 i (by omega) (by omega) (by omega))).trans f_657
    have f_659 : F_591 (ad 11) = rw7 G s_3 := (o_595 (ad 11) ).trans hs_3
    have f_660 : F_597 (ad 11) = rw7 G s_3 := (hp_598.2 (ad 11) (fun i hS => hin 11 i (by omega) (by omega) (by omega))).trans f_659
    have f_661 : F_600 (ad 11) = rw7 G s_3 := (o_602 (ad 11) (hin 11 22 (by omega) (by omega) (by omega))).trans f_660
    have f_662 : F_625 (ad 11) = rw7 G s_3 := (o_630 (ad 11) (hin 11 134 (by omega) (by omega) (by omega)) (hin 11 8 (by omega) (by omega) (by omega))).trans f_661
    have f_663 : F_637 (ad 11) = rw7 G s_3 := (o_642 (ad 11) (fun i hS => hin 11 i (by omega) (by omega) (by omega))).trans f_662
    have f_664 : F_591 (ad 12) = rw7 G s_4 := (o_595 (ad 12) ).trans hs_4
    have f_665 : F_597 (ad 12) = rw7 G s_4 := (hp_598.2 (ad 12) (fun i hS => hin 12 i (by omega) (by omega) (by omega))).trans f_664
    have f_666 : F_600 (ad 12) = rw7 G s_4 := (o_602 (ad 12) (hin 12 22 (by omega) (by omega) (by omega))).trans f_665
    have f_667 : F_625 (ad 12) = rw7 G s_4 := (o_630 (ad 12) (hin 12 134 (by omega) (by omega) (by omega)) (hin 12 8 (by omega) (by omega) (by omega))).trans f_666
    have f_668 : F_637 (ad 12) = rw7 G s_4 := (o_642 (ad 12) (fun i hS => hin 12 i (by omega) (by omega) (by omega))).trans f_667
    have f_669 : F_591 (ad 13) = rw7 G s_5 := (o_595 (ad 13) ).trans hs_5
    have f_670 : F_597 (ad 13) = rw7 G s_5 := (hp_598.2 (ad 13) (fun i hS => hin 13 i (by omega) (by omega) (by omega))).trans f_669
    have f_671 : F_600 (ad 13) = rw7 G s_5 := (o_602 (ad 13) (hin 13 22 (by omega) (by omega) (by omega))).trans f_670
    have f_672 : F_625 (ad 13) = rw7 G s_5 := (o_630 (ad 13) (hin 13 134 (by omega) (by omega) (by omega)) (hin 13 8 (by omega) (by omega) (by omega))).trans f_671
    have f_673 : F_637 (ad 13) = rw7 G s_5 := (o_642 (ad 13) (fun i hS => hin 13 i (by omega) (by omega) (by omega))).trans f_672
    have f_674 : F_591 (ad 14) = rw7 G s_6 := (o_595 (ad 14) ).trans hs_6
    have f_675 : F_597 (ad 14) = rw7 G s_6 := (hp_598.2 (ad 14) (fun i hS => hin 14 i (by omega) (by omega) (by omega))).trans f_674
    have f_676 : F_600 (ad 14) = rw7 G s_6 := (o_602 (ad 14) (hin 14 22 (by omega) (by omega) (by omega))).trans f_675
    have f_677 : F_625 (ad 14) = rw7 G s_6 := (o_630 (ad 14) (hin 14 134 (by omega) (by omega) (by omega)) (hin 14 8 (by omega) (by omega) (by omega))).trans f_676
    have f_678 : F_637 (ad 14) = rw7 G s_6 := (o_642 (ad 14) (fun i hS => hin 14 i (by omega) (by omega) (by omega))).trans f_677
    have f_679 : F_591 (ad 15) = rw7 G s_7 := (o_595 (ad 15) ).trans hs_7
    have f_680 : F_597 (ad 15) = rw7 G s_7 := (hp_598.2 (ad 15) (fun i hS => hin 15 i (by omega) (by omega) (by omega))).trans f_679
    have f_681 : F_600 (ad 15) = rw7 G s_7 := (o_602 (ad 15) (hin 15 22 (by omega) (by omega) (by omega))).trans f_680
    have f_682 : F_625 (ad 15) = rw7 G s_7 := (o_630 (ad 15) (hin 15 134 (by omega) (by omega) (by omega)) (hin 15 8 (by omega) (by omega) (by omega))).trans f_681
    have f_683 : F_637 (ad 15) = rw7 G s_7 := (o_642 (ad 15) (fun i hS => hin 15 i (by omega) (by omega) (by omega))).trans f_682
    have f_684 : F_591 (ad 16) = rw7 G s_8 := (o_595 (ad 16) ).trans hs_8
    have f_685 : F_597 (ad 16) = rw7 G s_8 := (hp_598.2 (ad 16) (fun i hS => hin 16 i (by omega) (by omega) (by omega))).trans f_684
    have f_686 : F_600 (ad 16) = rw7 G s_8 := (o_602 (ad 16) (hin 16 22 (by omega) (by omega) (by omega))).trans f_685
    have f_687 : F_625 (ad 16) = rw7 G s_8 := (o_630 (ad 16) (hin 16 134 (by omega) (by omega) (by omega)) (hin 16 8 (by omega) (by omega) (by omega))).trans f_686
    have f_688 : F_637 (ad 16) = rw7 G s_8 := (o_642 (ad 16) (fun i hS => hin 16 i (by omega) (by omega) (by omega))).trans f_687
    have f_689 : F_591 (ad 17) = rw7 G s_9 := (o_595 (ad 17) ).trans hs_9
    have f_690 : F_597 (ad 17) = rw7 G s_9 := (hp_598.2 (ad 17) (fun i hS => hin 17 i (by omega) (by omega) (by omega))).trans f_689
    have f_691 : F_600 (ad 17) = rw7 G s_9 := (o_602 (ad 17) (hin 17 22 (by omega) (by omega) (by omega))).trans f_690
    have f_692 : F_625 (ad 17) = rw7 G s_9 := (o_630 (ad 17) (hin 17 134 (by omega) (by omega) (by omega)) (hin 17 8 (by omega) (by omega) (by omega))).trans f_691
    have f_693 : F_637 (ad 17) = rw7 G s_9 := (o_642 (ad 17) (fun i hS => hin 17 i (by omega) (by omega) (by omega))).trans f_692
    have f_694 : F_591 (ad 18) = rw7 G s_10 := (o_595 (ad 18) ).trans hs_10
    have f_695 : F_597 (ad 18) = rw7 G s_10 := (hp_598.2 (ad 18) (fun i hS => hin 18 i (by omega) (by omega) (by omega))).trans f_694
    have f_696 : F_600 (ad 18) = rw7 G s_10 := (o_602 (ad 18) (hin 18 22 (by omega) (by omega) (by omega))).trans f_695
    have f_697 : F_625 (ad 18) = rw7 G s_10 := (o_630 (ad 18) (hin 18 134 (by omega) (by omega) (by omega)) (hin 18 8 (by omega) (by omega) (by omega))).trans f_696
    have f_698 : F_637 (ad 18) = rw7 G s_10 := (o_642 (ad 18) (fun i hS => hin 18 i (by omega) (by omega) (by omega))).trans f_697
    have f_699 : F_591 (ad 19) = rw7 G s_11 := (o_595 (ad 19) ).trans hs_11
    have f_700 : F_597 (ad 19) = rw7 G s_11 := (hp_598.2 (ad 19) (fun i hS => hin 19 i (by omega) (by omega) (by omega))).trans f_699
    have f_701 : F_600 (ad 19) = rw7 G s_11 := (o_602 (ad 19) (hin 19 22 (by omega) (by omega) (by omega))).trans f_700
    have f_702 : F_625 (ad 19) = rw7 G s_11 := (o_630 (ad 19) (hin 19 134 (by omega) (by omega) (by omega)) (hin 19 8 (by omega) (by omega) (by omega))).trans f_701
    have f_703 : F_637 (ad 19) = rw7 G s_11 := (o_642 (ad 19) (fun i hS => hin 19 i (by omega) (by omega) (by omega))).trans f_702
    have f_704 : F_591 (ad 20) = rw7 G s_12 := (o_595 (ad 20) ).trans hs_12
    have f_705 : F_597 (ad 20) = rw7 G s_12 := (hp_598.2 (ad 20) (fun i hS => hin 20 i (by omega) (by omega) (by omega))).trans f_704
    have f_706 : F_600 (ad 20) = rw7 G s_12 := (o_602 (ad 20) (hin 20 22 (by omega) (by omega) (by omega))).trans f_705
    have f_707 : F_625 (ad 20) = rw7 G s_12 := (o_630 (ad 20) (hin 20 134 (by omega) (by omega) (by omega)) (hin 20 8 (by omega) (by omega) (by omega))).trans f_706
    have f_708 : F_637 (ad 20) = rw7 G s_12 := (o_642 (ad 20) (fun i hS => hin 20 i (by omega) (by omega) (by omega))).trans f_707
    have f_709 : F_591 (ad 21) = rw7 G s_13 := (o_595 (ad 21) ).trans hs_13
    have f_710 : F_597 (ad 21) = rw7 G s_13 := (hp_598.2 (ad 21) (fun i hS => hin 21 i (by omega) (by omega) (by omega))).trans f_709
    have f_711 : F_600 (ad 21) = rw7 G s_13 := (o_602 (ad 21) (hin 21 22 (by omega) (by omega) (by omega))).trans f_710
    have f_712 : F_625 (ad 21) = rw7 G s_13 := (o_630 (ad 21) (hin 21 134 (by omega) (by omega) (by omega)) (hin 21 8 (by omega) (by omega) (by omega))).trans f_711
    have f_713 : F_637 (ad 21) = rw7 G s_13 := (o_642 (ad 21) (fun i hS => hin 21 i (by omega) (by omega) (by omega))).trans f_712
    exact r_i C0 hr hlk hw (v := (lowR ((m_br ((st.2.2.2.2.2 f9)) ((st.2.2.2.2.2 g9)) (st.1))))) rfl ⟨rfl, sta_row hn (t := ordT 98 t9) (u := ordR 98 f9 g9 st.1 st.2.2.2.2.2) (by unfold ordT; simp; omega) f_644 rfl rfl (f_641) (fun i0 hi => by simp [ordT] at hi; exact ((o_642 (ad (i0)) (fun i hS => hin (i0) i (by omega) (by omega) (by omega)))).trans (((o_630 (ad (i0)) (hin (i0) 134 (by omega) (by omega) (by omega)) (hin (i0) 8 (by omega) (by omega) (by omega)))).trans (((o_602 (ad (i0)) (hin (i0) 22 (by omega) (by omega) (by omega)))).trans (((hp_598.2 (ad (i0)) (fun i hS => hin (i0) i (by omega) (by omega) (by omega)))).trans ((o_595 (ad (i0)) )))))), ⟨f_647, lt14 ⟨_, f_648⟩ ⟨_, f_653⟩ ⟨_, f_658⟩ ⟨_, f_663⟩ ⟨_, f_668⟩ ⟨_, f_673⟩ ⟨_, f_678⟩ ⟨_, f_683⟩ ⟨_, f_688⟩ ⟨_, f_693⟩ ⟨_, f_698⟩ ⟨_, f_703⟩ ⟨_, f_708⟩ ⟨_, f_713⟩⟩, ⟨_, f_645⟩, (fun q hq => ((o_642 q (fun i hS => hq i (by omega))).trans ((o_630 q (hq 134 (by omega)) (hq 8 (by omega))).trans ((o_602 q (hq 22 (by omega))).trans ((hp_598.2 q (fun i hS => hq i (by omega))).trans (o_595 q ))))))⟩ (Nat.le_refl _) (Nat.le_refl _) dX5_carryOut_198 hQ
set_option maxHeartbeats 4000000 in
set_option maxRecDepth 100000 in
theorem c_X5_carryOut_115 (l : Launch) (G : Gl) (L : List Nat) (F : Nat → va_E) (ad : Nat → Nat) (hL : ∀ i, i < 166 → ad i ∈ L) (hin : ∀ i j, i < 166 → j < 166 → i ≠ j → ad i ≠ ad j) (f9 g9 t9 : Nat) (st : Sta) (u9 : Nat → ZP) (fx : F (ad 0) = xO ad) (hn : sta G F ad 22 st) (hrk : rkW G F ad) (h134 : F (ad 134) = rw7 G u9) (hf9 : f9 < 6) (hg9 : g9 < 6) (ht9 : t9 < 6) (hm : 1 * st.1 ≤ st.2.1) (hc : st.1 ≤ 6) (hc2 : 2 ≤ st.1) (hpu : st.2.1 ≤ 100000) : CI l yX5_carryOut cX5_carryOut 8 (some .int) rm_X5_carryOut G L F [.ref (ad 0), .int (nI (115)), .int (nI (f9)), .int (nI (g9)), .int (nI (t9))] (fun r F1 => r = lowR (ordR 115 f9 g9 st.1 st.2.2.2.2.2) ∧ sta G F1 ad 22 (ordS 115 f9 g9 t9 st) ∧ rkW G F1 ad ∧ (∃ u, F1 (ad 134) = rw7 G u) ∧ ∀ q, (∀ i, (i = 22 ∨ (26 ≤ i ∧ i < 38) ∨ (8 ≤ i ∧ i < 22) ∨ i = 134) → q ≠ ad i) → F1 q = F q) := by
  obtain ⟨s_13, hs_13⟩ := hrk.2 13 (by decide)
  obtain ⟨s_12, hs_12⟩ := hrk.2 12 (by decide)
  obtain ⟨s_11, hs_11⟩ := hrk.2 11 (by decide)
  obtain ⟨s_10, hs_10⟩ := hrk.2 10 (by decide)
  obtain ⟨s_9, hs_9⟩ := hrk.2 9 (by decide)
  obtain ⟨s_8, hs_8⟩ := hrk.2 8 (by decide)
  obtain ⟨s_7, hs_7⟩ := hrk.2 7 (by decide)
  obtain ⟨s_6, hs_6⟩ := hrk.2 6 (by decide)
  obtain ⟨s_5, hs_5⟩ := hrk.2 5 (by decide)
  obtain ⟨s_4, hs_4⟩ := hrk.2 4 (by decide)
  obtain ⟨s_3, hs_3⟩ := hrk.2 3 (by decide)
  obtain ⟨s_2, hs_2⟩ := hrk.2 2 (by decide)
  obtain ⟨s_1, hs_1⟩ := hrk.2 1 (by decide)
  obtain ⟨s_0, hs_0⟩ := hrk.2 0 (by decide)
  refine CG_of (by decide) (Nat.le_of_ble_eq_true rfl) rfl ?_
  intro p e s m args below meth c Q C0 hr hlk hnm hQ hw ls hl
  have hx := C0.x
  have hb := C0.b
  refine lv_aload_n hx hb dX5_carryOut_0 rfl (lv_at hl 0 rfl) ?_
  refine lv_iload_n hx hb dX5_carryOut_1 rfl (lv_at hl 1 rfl) ?_
  refine q_calli hw (q_runS (As := [.int (nI (115))]) (c_X5_unitsOf_115 l G L F ) C0 hw sw_X5_225 rfl hl.1 rfl (Nat.le_of_ble_eq_true rfl) dX5_carryOut_2 ⟨by decide, by decide⟩ ⟨by decide, by decide⟩) rfl rfl (fun r_716 F_714 H locs hw hp_715 => ?_)
  obtain ⟨he_717, o_718⟩ := hp_715
  subst he_717
  have f_719 : F_714 (ad 0) = xO ad := (o_718 (ad 0) ).trans fx
  refine q_callv hw (q_runV (As := [.int (nI (1))]) (c_X5_pay l G L F_714 ad hL hin 1 st f_719 (hn.keep (fun i0 hi => (o_718 (ad (i0)) ))) (by omega)) C0 hw vw_X5_114 ((hL 0 (by omega))) f_719 rfl rfl rfl hl.1 rfl (Nat.le_of_ble_eq_true rfl) dX5_carryOut_5 ⟨by decide, by decide⟩ ⟨by decide, by decide⟩) rfl rfl (fun F_720 H locs hw hp_721 => ?_)
  refine lv_iload_n hx hb dX5_carryOut_8 rfl (lv_at hl 1 rfl) ?_
  refine lv_bipush (v := nI 98) hx hb dX5_carryOut_9 (by decide) ?_
  refine n_icmp_ne (tgt := 27) hx hb dX5_carryOut_11 (by decide) (by decide) (by decide) (fun c_11 => ?_) (fun c_11 => ?_)
  · skip
    refine lv_aload_n hx hb dX5_carryOut_27 rfl (lv_at hl 0 rfl) ?_
    have f_722 : F_720 (ad 0) = xO ad := (hp_721.2 (ad 0) (fun i hS => hin 0 i (by omega) (by omega) (by omega))).trans f_719
    refine q_get C0 hw ((hL 0 (by omega))) f_722 fw_X5_12 rfl dX5_carryOut_28 ?_
    refine q_get C0 hw ((hL 22 (by omega))) hp_721.1 fw_X5_66 rfl dX5_carryOut_31 ?_
    have f_723 : F_714 (ad 23) = .inr (2, [.int (nI (st.1)), .ref (ad 24), .ref (ad 25)]) := (o_718 (ad 23) ).trans hn.2.1
    have f_724 : F_720 (ad 23) = .inr (2, [.int (nI (st.1)), .ref (ad 24), .ref (ad 25)]) := (hp_721.2 (ad 23) (fun i hS => hin 23 i (by omega) (by omega) (by omega))).trans f_723
    refine q_get C0 hw ((hL 23 (by omega))) f_724 fw_X5_85 rfl dX5_carryOut_34 ?_
    refine lv_astore (lv' := [(5, .ref (ad 24)), (0, .ref (ad 0)), (1, .int (nI (115))), (2, .int (nI (f9))), (3, .int (nI (g9))), (4, .int (nI (t9)))]) hx hb dX5_carryOut_37 hl (by decide) rfl (fun ls hl => ?_)
    refine lv_aload_n hx hb dX5_carryOut_39 rfl (lv_at hl 1 rfl) ?_
    refine q_get C0 hw ((hL 0 (by omega))) f_722 fw_X5_12 rfl dX5_carryOut_40 ?_
    refine q_get C0 hw ((hL 22 (by omega))) hp_721.1 fw_X5_66 rfl dX5_carryOut_43 ?_
    refine q_get C0 hw ((hL 23 (by omega))) f_724 fw_X5_93 rfl dX5_carryOut_46 ?_
    refine lv_astore (lv' := [(6, .ref (ad 25)), (5, .ref (ad 24)), (0, .ref (ad 0)), (1, .int (nI (115))), (2, .int (nI (f9))), (3, .int (nI (g9))), (4, .int (nI (t9)))]) hx hb dX5_carryOut_49 hl (by decide) rfl (fun ls hl => ?_)
    refine lv_aload_n hx hb dX5_carryOut_51 rfl (lv_at hl 2 rfl) ?_
    refine q_get C0 hw ((hL 0 (by omega))) f_722 fw_X5_12 rfl dX5_carryOut_52 ?_
    refine q_get C0 hw ((hL 22 (by omega))) hp_721.1 fw_X5_66 rfl dX5_carryOut_55 ?_
    refine q_get C0 hw ((hL 23 (by omega))) f_724 fw_X5_70 rfl dX5_carryOut_58 ?_
    refine lv_istore (lv' := [(7, .int (nI (st.1))), (6, .ref (ad 25)), (5, .ref (ad 24)), (0, .ref (ad 0)), (1, .int (nI (115))), (2, .int (nI (f9))), (3, .int (nI (g9))), (4, .int (nI (t9)))]) hx hb dX5_carryOut_61 hl (by decide) rfl (fun ls hl => ?_)
    refine lv_iload_n hx hb dX5_carryOut_63 rfl (lv_at hl 4 rfl) ?_
    refine lv_tableIn (off := 135) (tgt := 199) hx hb dX5_carryOut_64 (by decide) (by decide) rfl (by decide) ?_
    refine lv_aload hx hb dX5_carryOut_199 (lv_at hl 2 rfl) ?_
    refine lv_iload_n hx hb dX5_carryOut_201 rfl (lv_at hl 5 rfl) ?_
    have f_725 : F_714 (ad 24) = oE G (fun i => ad (26 + i)) := (o_718 (ad 24) ).trans hn.2.2.1
    have f_726 : F_720 (ad 24) = oE G (fun i => ad (26 + i)) := (hp_721.2 (ad 24) (fun i hS => hin 24 i (by omega) (by omega) (by omega))).trans f_725
    refine q_aaldi C0 hw ((hL 24 (by omega))) f_726 (f9) (by omega) (by decide) (b := ad (26 + f9)) rfl dX5_carryOut_202 ?_
    refine lv_aload hx hb dX5_carryOut_203 (lv_at hl 2 rfl) ?_
    refine lv_iload_n hx hb dX5_carryOut_205 rfl (lv_at hl 6 rfl) ?_
    refine q_aaldi C0 hw ((hL 24 (by omega))) f_726 (g9) (by omega) (by decide) (b := ad (26 + g9)) rfl dX5_carryOut_206 ?_
    refine lv_aload_n hx hb dX5_carryOut_207 rfl (lv_at hl 3 rfl) ?_
    refine q_get C0 hw ((hL 0 (by omega))) f_722 fw_X5_48 rfl dX5_carryOut_208 ?_
    have f_727 : F_714 (ad (26 + f9)) = rw7 G ((st.2.2.2.2.2 f9)) := (o_718 (ad (26 + f9)) ).trans ((hn.2.2.2.2 f9 (by omega)))
    have f_728 : F_720 (ad (26 + f9)) = rw7 G ((st.2.2.2.2.2 f9)) := (hp_721.2 (ad (26 + f9)) (fun i hS => hin (26 + f9) i (by omega) (by omega) (by omega))).trans f_727
    have f_729 : F_714 (ad (26 + g9)) = rw7 G ((st.2.2.2.2.2 g9)) := (o_718 (ad (26 + g9)) ).trans ((hn.2.2.2.2 g9 (by omega)))
    have f_730 : F_720 (ad (26 + g9)) = rw7 G ((st.2.2.2.2.2 g9)) := (hp_721.2 (ad (26 + g9)) (fun i hS => hin (26 + g9) i (by omega) (by omega) (by omega))).trans f_729
    have f_731 : F_714 (ad 134) = rw7 G u9 := (o_718 (ad 134) ).trans h134
    have f_732 : F_720 (ad 134) = rw7 G u9 := (hp_721.2 (ad 134) (fun i hS => hin 134 i (by omega) (by omega) (by omega))).trans f_731
    refine q_callv hw (q_runS (As := [.ref (ad (26 + f9)), .ref (ad (26 + g9)), .ref (ad 134)]) (c_X1_addRows l G L F_720 (ad (26 + f9)) (ad (26 + g9)) (ad 134) ((st.2.2.2.2.2 f9)) ((st.2.2.2.2.2 g9)) u9 ((hL (26 + f9) (by omega))) f_728 ((hL (26 + g9) (by omega))) f_730 ((hL 134 (by omega))) f_732 (hin (26 + f9) 134 (by omega) (by omega) (by omega)) (hin (26 + g9) 134 (by omega) (by omega) (by omega))) C0 hw sw_X5_308 rfl hl.1 rfl (Nat.le_of_ble_eq_true rfl) dX5_carryOut_211 ⟨by decide, by decide⟩ ⟨by decide, by decide⟩) rfl rfl (fun F_733 H locs hw hp_734 => ?_)
    refine lv_aload_n hx hb dX5_carryOut_214 rfl (lv_at hl 3 rfl) ?_
    refine lv_aload hx hb dX5_carryOut_215 (lv_at hl 2 rfl) ?_
    refine lv_iload hx hb dX5_carryOut_217 (lv_at hl 7 rfl) ?_
    have f_735 : F_733 (ad 24) = oE G (fun i => ad (26 + i)) := (hp_734.2 (ad 24) (hin 24 134 (by omega) (by omega) (by omega))).trans f_726
    refine q_aaldi C0 hw ((hL 24 (by omega))) f_735 (t9) (by omega) (by decide) (b := ad (26 + t9)) rfl dX5_carryOut_219 ?_
    have f_736 : F_714 (ad (26 + t9)) = rw7 G ((st.2.2.2.2.2 t9)) := (o_718 (ad (26 + t9)) ).trans ((hn.2.2.2.2 t9 (by omega)))
    have f_737 : F_720 (ad (26 + t9)) = rw7 G ((st.2.2.2.2.2 t9)) := (hp_721.2 (ad (26 + t9)) (fun i hS => hin (26 + t9) i (by omega) (by omega) (by omega))).trans f_736
    have f_738 : F_733 (ad (26 + t9)) = rw7 G ((st.2.2.2.2.2 t9)) := (hp_734.2 (ad (26 + t9)) (hin (26 + t9) 134 (by omega) (by omega) (by omega))).trans f_737
    have f_739 : F_733 (ad 0) = xO ad := (hp_734.2 (ad 0) (hin 0 134 (by omega) (by omega) (by omega))).trans f_722
    refine q_calli hw (q_runV (As := [.ref (ad (26 + t9))]) (c_X5_put l G L F_733 ad hL hin t9 ((m_add ((st.2.2.2.2.2 f9)) ((st.2.2.2.2.2 g9)))) ((st.2.2.2.2.2 t9)) f_739 hp_734.1 f_738 (by omega)) C0 hw vw_X5_127 ((hL 0 (by omega))) f_739 rfl rfl rfl hl.1 rfl (Nat.le_of_ble_eq_true rfl) dX5_carryOut_220 ⟨by decide, by decide⟩ ⟨by decide, by decide⟩) rfl rfl (fun r_742 F_740 H locs hw hp_741 => ?_)
    obtain ⟨he_743, f_744, o_745⟩ := hp_741
    subst he_743
    have f_746 : F_733 (ad 22) = .inr (3, [.ref (ad 23), .int (nI (st.2.1 - 1 * st.1)), .int (nI (st.2.2.1 + 1 * st.1)), .int (nI (st.2.2.2.1 + 1)), .int (nI (st.2.2.2.2.1))]) := (hp_734.2 (ad 22) (hin 22 134 (by omega) (by omega) (by omega))).trans hp_721.1
    have f_747 : F_740 (ad 22) = .inr (3, [.ref (ad 23), .int (nI (st.2.1 - 1 * st.1)), .int (nI (st.2.2.1 + 1 * st.1)), .int (nI (st.2.2.2.1 + 1)), .int (nI (st.2.2.2.2.1))]) := (o_745 (ad 22) (fun i hS => hin 22 i (by omega) (by omega) (by omega))).trans f_746
    have f_748 : F_740 (ad 134) = rw7 G ((m_add ((st.2.2.2.2.2 f9)) ((st.2.2.2.2.2 g9)))) := (o_745 (ad 134) (fun i hS => hin 134 i (by omega) (by omega) (by omega))).trans hp_734.1
    have f_749 : F_714 (ad 7) = rkO (fun i => ad (8 + i)) := (o_718 (ad 7) ).trans hrk.1
    have f_750 : F_720 (ad 7) = rkO (fun i => ad (8 + i)) := (hp_721.2 (ad 7) (fun i hS => hin 7 i (by omega) (by omega) (by omega))).trans f_749
    have f_751 : F_733 (ad 7) = rkO (fun i => ad (8 + i)) := (hp_734.2 (ad 7) (hin 7 134 (by omega) (by omega) (by omega))).trans f_750
    have f_752 : F_740 (ad 7) = rkO (fun i => ad (8 + i)) := (o_745 (ad 7) (fun i hS => hin 7 i (by omega) (by omega) (by omega))).trans f_751
    have f_753 : F_714 (ad 8) = rw7 G s_0 := (o_718 (ad 8) ).trans hs_0
    have f_754 : F_720 (ad 8) = rw7 G s_0 := (hp_721.2 (ad 8) (fun i hS => hin 8 i (by omega) (by omega) (by omega))).trans f_753
    have f_755 : F_733 (ad 8) = rw7 G s_0 := (hp_734.2 (ad 8) (hin 8 134 (by omega) (by omega) (by omega))).trans f_754
    have f_756 : F_740 (ad 8) = rw7 G s_0 := (o_745 (ad 8) (fun i hS => hin 8 i (by omega) (by omega) (by omega))).trans f_755
    have f_757 : F_714 (ad 9) = rw7 G s_1 := (o_718 (ad 9) ).trans hs_1
    have f_758 : F_720 (ad 9) = rw7 G s_1 := (hp_721.2 (ad 9) (fun i hS => hin 9 i (by omega) (by omega) (by omega))).trans f_757
    have f_759 : F_733 (ad 9) = rw7 G s_1 := (hp_734.2 (ad 9) (hin 9 134 (by omega) (by omega) (by omega))).trans f_758
    have f_760 : F_740 (ad 9) = rw7 G s_1 := (o_745 (ad 9) (fun i hS => hin 9 i (by omega) (by omega) (by omega))).trans f_759
    have f_761 : F_714 (ad 10) = rw7 G s_2 := (o_718 (ad 10) ).trans hs_2
    have f_762 : F_720 (ad 10) = rw7 G s_2 := (hp_721.2 (ad 10) (fun i hS => hin 10 i (by omega) (by omega) (by omega))).trans f_761
    have f_763 : F_733 (ad 10) = rw7 G s_2 := (hp_734.2 (ad 10) (hin 10 134 (by omega) (by omega) (by omega))).trans f_762
    have f_764 : F_740 (ad 10) = rw7 G s_2 := (o_745 (ad 10) (fun i hS => hin 10 i (by omega) (by omega) (by omega))).trans f_763
    have f_765 : F_714 (ad 11) = rw7 G s_3 := (o_718 (ad 11) ).trans hs_3
    have f_766 : F_720 (ad 11) = rw7 G s_3 := (hp_721.2 (ad 11) (fun i hS => hin 11 i (by omega) (by omega) (by omega))).trans f_765
    have f_767 : F_733 (ad 11) = rw7 G s_3 := (hp_734.2 (ad 11) (hin 11 134 (by omega) (by omega) (by omega))).trans f_766
    have f_768 : F_740 (ad 11) = rw7 G s_3 := (o_745 (ad 11) (fun i hS => hin 11 i (by omega) (by omega) (by omega))).trans f_767
    have f_769 : F_714 (ad 12) = rw7 G s_4 := (o_718 (ad 12) ).trans hs_4
    have f_770 : F_720 (ad 12) = rw7 G s_4 := (hp_721.2 (ad 12) (fun i hS => hin 12 i (by omega) (by omega) (by omega))).trans f_769
    have f_771 : F_733 (ad 12) = rw7 G s_4 := (hp_734.2 (ad 12) (hin 12 134 (by omega) (by omega) (by omega))).trans f_770
    have f_772 : F_740 (ad 12) = rw7 G s_4 := (o_745 (ad 12) (fun i hS => hin 12 i (by omega) (by omega) (by omega))).trans f_771
    have f_773 : F_714 (ad 13) = rw7 G s_5 := (o_718 (ad 13) ).trans hs_5
    have f_774 : F_720 (ad 13) = rw7 G s_5 := (hp_721.2 (ad 13) (fun i hS => hin 13 i (by omega) (by omega) (by omega))).trans f_773
    have f_775 : F_733 (ad 13) = rw7 G s_5 := (hp_734.2 (ad 13) (hin 13 134 (by omega) (by omega) (by omega))).trans f_774
    have f_776 : F_740 (ad 13) = rw7 G s_5 := (o_745 (ad 13) (fun i hS => hin 13 i (by omega) (by omega) (by omega))).trans f_775
    have f_777 : F_714 (ad 14) = rw7 G s_6 := (o_718 (ad 14) ).trans hs_6
    have f_778 : F_720 (ad 14) = rw7 G s_6 := (hp_721.2 (ad 14) (fun i hS => hin 14 i (by omega) (by omega) (by omega))).trans f_777
    have f_779 : F_733 (ad 14) = rw7 G s_6 := (hp_734.2 (ad 14) (hin 14 134 (by omega) (by omega) (by omega))).trans f_778
    have f_780 : F_740 (ad 14) = rw7 G s_6 := (o_745 (ad 14) (fun i hS => hin 14 i (by omega) (by omega) (by omega))).trans f_779
    have f_781 : F_714 (ad 15) = rw7 G s_7 := (o_718 (ad 15) ).trans hs_7
    have f_782 : F_720 (ad 15) = rw7 G s_7 := (hp_721.2 (ad 15) (fun i hS => hin 15 i (by omega) (by omega) (by omega))).trans f_781
    have f_783 : F_733 (ad 15) = rw7 G s_7 := (hp_734.2 (ad 15) (hin 15 134 (by omega) (by omega) (by omega))).trans f_782
    have f_784 : F_740 (ad 15) = rw7 G s_7 := (o_745 (ad 15) (fun i hS => hin 15 i (by omega) (by omega) (by omega))).trans f_783
    have f_785 : F_714 (ad 16) = rw7 G s_8 := (o_718 (ad 16) ).trans hs_8
    have f_786 : F_720 (ad 16) = rw7 G s_8 := (hp_721.2 (ad 16) (fun i hS => hin 16 i (by omega) (by omega) (by omega))).trans f_785
    have f_787 : F_733 (ad 16) = rw7 G s_8 := (hp_734.2 (ad 16) (hin 16 134 (by omega) (by omega) (by omega))).trans f_786
    have f_788 : F_740 (ad 16) = rw7 G s_8 := (o_745 (ad 16) (fun i hS => hin 16 i (by omega) (by omega) (by omega))).trans f_787
    have f_789 : F_714 (ad 17) = rw7 G s_9 := (o_718 (ad 17) ).trans hs_9
    have f_790 : F_720 (ad 17) = rw7 G s_9 := (hp_721.2 (ad 17) (fun i hS => hin 17 i (by omega) (by omega) (by omega))).trans f_789
    have f_791 : F_733 (ad 17) = rw7 G s_9 := (hp_734.2 (ad 17) (hin 17 134 (by omega) (by omega) (by omega))).trans f_790
    have f_792 : F_740 (ad 17) = rw7 G s_9 := (o_745 (ad 17) (fun i hS => hin 17 i (by omega) (by omega) (by omega))).trans f_791
    have f_793 : F_714 (ad 18) = rw7 G s_10 := (o_718 (ad 18) ).trans hs_10
    have f_794 : F_720 (ad 18) = rw7 G s_10 := (hp_721.2 (ad 18) (fun i hS => hin 18 i (by omega) (by omega) (by omega))).trans f_793
    have f_795 : F_733 (ad 18) = rw7 G s_10 := (hp_734.2 (ad 18) (hin 18 134 (by omega) (by omega) (by omega))).trans f_794
    have f_796 : F_740 (ad 18) = rw7 G s_10 := (o_745 (ad 18) (fun i hS => hin 18 i (by omega) (by omega) (by omega))).trans f_795
    have f_797 : F_714 (ad 19) = rw7 G s_11 := (o_718 (ad 19) ).trans hs_11
    have f_798 : F_720 (ad 19) = rw7 G s_11 := (hp_721.2 (ad 19) (fun i hS => hin 19 i (by omega) (by omega) (by omega))).trans f_797
    have f_799 : F_733 (ad 19) = rw7 G s_11 := (hp_734.2 (ad 19) (hin 19 134 (by omega) (by omega) (by omega))).trans f_798
    have f_800 : F_740 (ad 19) = rw7 G s_11 := (o_745 (ad 19) (fun i hS => hin 19 i (by omega) (by omega) (by omega))).trans f_799
    have f_801 : F_714 (ad 20) = rw7 G s_12 := (o_718 (ad 20) ).trans hs_12
    have f_802 : F_720 (ad 20) = rw7 G s_12 := (hp_721.2 (ad 20) (fun i hS => hin 20 i (by omega) (by omega) (by omega))).trans f_801
    have f_803 : F_733 (ad 20) = rw7 G s_12 := (hp_734.2 (ad 20) (hin 20 134 (by omega) (by omega) (by omega))).trans f_802
    have f_804 : F_740 (ad 20) = rw7 G s_12 := (o_745 (ad 20) (fun i hS => hin 20 i (by omega) (by omega) (by omega))).trans f_803
    have f_805 : F_714 (ad 21) = rw7 G s_13 := (o_718 (ad 21) ).trans hs_13
    have f_806 : F_720 (ad 21) = rw7 G s_13 := (hp_721.2 (ad 21) (fun i hS => hin 21 i (by omega) (by omega) (by omega))).trans f_805
    have f_807 : F_733 (ad 21) = rw7 G s_13 := (hp_734.2 (ad 21) (hin 21 134 (by omega) (by omega) (by omega))).trans f_806
    have f_808 : F_740 (ad 21) = rw7 G s_13 := (o_745 (ad 21) (fun i hS => hin 21 i (by omega) (by omega) (by omega))).trans f_807
    exact r_i C0 hr hlk hw (v := (lowR ((m_add ((st.2.2.2.2.2 f9)) ((st.2.2.2.2.2 g9)))))) rfl ⟨rfl, sta_row hn (t := ordT 115 t9) (u := ordR 115 f9 g9 st.1 st.2.2.2.2.2) (by unfold ordT; simp; omega) f_747 rfl rfl (f_744) (fun i0 hi => by simp [ordT] at hi; exact ((o_745 (ad (i0)) (fun i hS => hin (i0) i (by omega) (by omega) (by omega)))).trans (((hp_734.2 (ad (i0)) (hin (i0) 134 (by omega) (by omega) (by omega)))).trans (((hp_721.2 (ad (i0)) (fun i hS => hin (i0) i (by omega) (by omega) (by omega)))).trans ((o_718 (ad (i0)) ))))), ⟨f_752, lt14 ⟨_, f_756⟩ ⟨_, f_760⟩ ⟨_, f_764⟩ ⟨_, f_768⟩ ⟨_, f_772⟩ ⟨_, f_776⟩ ⟨_, f_780⟩ ⟨_, f_784⟩ ⟨_, f_788⟩ ⟨_, f_792⟩ ⟨_, f_796⟩ ⟨_, f_800⟩ ⟨_, f_804⟩ ⟨_, f_808⟩⟩, ⟨_, f_748⟩, (fun q hq => ((o_745 q (fun i hS => hq i (by omega))).trans ((hp_734.2 q (hq 134 (by omega))).trans ((hp_721.2 q (fun i hS => hq i (by omega))).trans (o_718 q )))))⟩ (Nat.le_refl _) (Nat.le_refl _) dX5_carryOut_223 hQ
  · skip
    exact absurd c_11 (by omega)
set_option maxHeartbeats 4000000 in
set_option maxRecDepth 100000 in
theorem c_X5_carryOut_119 (l : Launch) (G : Gl) (L : List Nat) (F : Nat → va_E) (ad : Nat → Nat) (hL : ∀ i, i < 166 → ad i ∈ L) (hin : ∀ i j, i < 166 → j < 166 → i ≠ j → ad i ≠ ad j) (f9 g9 t9 : Nat) (st : Sta) (u9 : Nat → ZP) (fx : F (ad 0) = xO ad) (hn : sta G F ad 22 st) (hrk : rkW G F ad) (h134 : F (ad 134) = rw7 G u9) (hf9 : f9 < 6) (hg9 : g9 < 6) (ht9 : t9 < 6) (hm : 20 * st.1 ≤ st.2.1) (hc : st.1 ≤ 6) (hc2 : 2 ≤ st.1) (hpu : st.2.1 ≤ 100000) : CI l yX5_carryOut cX5_carryOut 8 (some .int) rm_X5_carryOut G L F [.ref (ad 0), .int (nI (119)), .int (nI (f9)), .int (nI (g9)), .int (nI (t9))] (fun r F1 => r = lowR (ordR 119 f9 g9 st.1 st.2.2.2.2.2) ∧ sta G F1 ad 22 (ordS 119 f9 g9 t9 st) ∧ rkW G F1 ad ∧ (∃ u, F1 (ad 134) = rw7 G u) ∧ ∀ q, (∀ i, (i = 22 ∨ (26 ≤ i ∧ i < 38) ∨ (8 ≤ i ∧ i < 22) ∨ i = 134) → q ≠ ad i) → F1 q = F q) := by
  obtain ⟨s_13, hs_13⟩ := hrk.2 13 (by decide)
  obtain ⟨s_12, hs_12⟩ := hrk.2 12 (by decide)
  obtain ⟨s_11, hs_11⟩ := hrk.2 11 (by decide)
  obtain ⟨s_10, hs_10⟩ := hrk.2 10 (by decide)
  obtain ⟨s_9, hs_9⟩ := hrk.2 9 (by decide)
  obtain ⟨s_8, hs_8⟩ := hrk.2 8 (by decide)
  obtain ⟨s_7, hs_7⟩ := hrk.2 7 (by decide)
  obtain ⟨s_6, hs_6⟩ := hrk.2 6 (by decide)
  obtain ⟨s_5, hs_5⟩ := hrk.2 5 (by decide)
  obtain ⟨s_4, hs_4⟩ := hrk.2 4 (by decide)
  obtain ⟨s_3, hs_3⟩ := hrk.2 3 (by decide)
  obtain ⟨s_2, hs_2⟩ := hrk.2 2 (by decide)
  obtain ⟨s_1, hs_1⟩ := hrk.2 1 (by decide)
  obtain ⟨s_0, hs_0⟩ := hrk.2 0 (by decide)
  refine CG_of (by decide) (Nat.le_of_ble_eq_true rfl) rfl ?_
  intro p e s m args below meth c Q C0 hr hlk hnm hQ hw ls hl
  have hx := C0.x
  have hb := C0.b
  refine lv_aload_n hx hb dX5_carryOut_0 rfl (lv_at hl 0 rfl) ?_
  refine lv_iload_n hx hb dX5_carryOut_1 rfl (lv_at hl 1 rfl) ?_
  refine q_calli hw (q_runS (As := [.int (nI (119))]) (c_X5_unitsOf_119 l G L F ) C0 hw sw_X5_225 rfl hl.1 rfl (Nat.le_of_ble_eq_true rfl) dX5_carryOut_2 ⟨by decide, by decide⟩ ⟨by decide, by decide⟩) rfl rfl (fun r_811 F_809 H locs hw hp_810 => ?_)
  obtain ⟨he_812, o_813⟩ := hp_810
  subst he_812
  have f_814 : F_809 (ad 0) = xO ad := (o_813 (ad 0) ).trans fx
  refine q_callv hw (q_runV (As := [.int (nI (20))]) (c_X5_pay l G L F_809 ad hL hin 20 st f_814 (hn.keep (fun i0 hi => (o_813 (ad (i0)) ))) (by omega)) C0 hw vw_X5_114 ((hL 0 (by omega))) f_814 rfl rfl rfl hl.1 rfl (Nat.le_of_ble_eq_true rfl) dX5_carryOut_5 ⟨by decide, by decide⟩ ⟨by decide, by decide⟩) rfl rfl (fun F_815 H locs hw hp_816 => ?_)
  refine lv_iload_n hx hb dX5_carryOut_8 rfl (lv_at hl 1 rfl) ?_
  refine lv_bipush (v := nI 98) hx hb dX5_carryOut_9 (by decide) ?_
  refine n_icmp_ne (tgt := 27) hx hb dX5_carryOut_11 (by decide) (by decide) (by decide) (fun c_11 => ?_) (fun c_11 => ?_)
  · skip
    refine lv_aload_n hx hb dX5_carryOut_27 rfl (lv_at hl 0 rfl) ?_
    have f_817 : F_815 (ad 0) = xO ad := (hp_816.2 (ad 0) (fun i hS => hin 0 i (by omega) (by omega) (by omega))).trans f_814
    refine q_get C0 hw ((hL 0 (by omega))) f_817 fw_X5_12 rfl dX5_carryOut_28 ?_
    refine q_get C0 hw ((hL 22 (by omega))) hp_816.1 fw_X5_66 rfl dX5_carryOut_31 ?_
    have f_818 : F_809 (ad 23) = .inr (2, [.int (nI (st.1)), .ref (ad 24), .ref (ad 25)]) := (o_813 (ad 23) ).trans hn.2.1
    have f_819 : F_815 (ad 23) = .inr (2, [.int (nI (st.1)), .ref (ad 24), .ref (ad 25)]) := (hp_816.2 (ad 23) (fun i hS => hin 23 i (by omega) (by omega) (by omega))).trans f_818
    refine q_get C0 hw ((hL 23 (by omega))) f_819 fw_X5_85 rfl dX5_carryOut_34 ?_
    refine lv_astore (lv' := [(5, .ref (ad 24)), (0, .ref (ad 0)), (1, .int (nI (119))), (2, .int (nI (f9))), (3, .int (nI (g9))), (4, .int (nI (t9)))]) hx hb dX5_carryOut_37 hl (by decide) rfl (fun ls hl => ?_)
    refine lv_aload_n hx hb dX5_carryOut_39 rfl (lv_at hl 1 rfl) ?_
    refine q_get C0 hw ((hL 0 (by omega))) f_817 fw_X5_12 rfl dX5_carryOut_40 ?_
    refine q_get C0 hw ((hL 22 (by omega))) hp_816.1 fw_X5_66 rfl dX5_carryOut_43 ?_
    refine q_get C0 hw ((hL 23 (by omega))) f_819 fw_X5_93 rfl dX5_carryOut_46 ?_
    refine lv_astore (lv' := [(6, .ref (ad 25)), (5, .ref (ad 24)), (0, .ref (ad 0)), (1, .int (nI (119))), (2, .int (nI (f9))), (3, .int (nI (g9))), (4, .int (nI (t9)))]) hx hb dX5_carryOut_49 hl (by decide) rfl (fun ls hl => ?_)
    refine lv_aload_n hx hb dX5_carryOut_51 rfl (lv_at hl 2 rfl) ?_
    refine q_get C0 hw ((hL 0 (by omega))) f_817 fw_X5_12 rfl dX5_carryOut_52 ?_
    refine q_get C0 hw ((hL 22 (by omega))) hp_816.1 fw_X5_66 rfl dX5_carryOut_55 ?_
    refine q_get C0 hw ((hL 23 (by omega))) f_819 fw_X5_70 rfl dX5_carryOut_58 ?_
    refine lv_istore (lv' := [(7, .int (nI (st.1))), (6, .ref (ad 25)), (5, .ref (ad 24)), (0, .ref (ad 0)), (1, .int (nI (119))), (2, .int (nI (f9))), (3, .int (nI (g9))), (4, .int (nI (t9)))]) hx hb dX5_carryOut_61 hl (by decide) rfl (fun ls hl => ?_)
    refine lv_iload_n hx hb dX5_carryOut_63 rfl (lv_at hl 4 rfl) ?_
    refine lv_tableIn (off := 160) (tgt := 224) hx hb dX5_carryOut_64 (by decide) (by decide) rfl (by decide) ?_
    refine lv_aload_n hx hb dX5_carryOut_224 rfl (lv_at hl 3 rfl) ?_
    refine q_get C0 hw ((hL 0 (by omega))) f_817 fw_X5_44 rfl dX5_carryOut_225 ?_
    refine lv_aload hx hb dX5_carryOut_228 (lv_at hl 2 rfl) ?_
    refine lv_iload_n hx hb dX5_carryOut_230 rfl (lv_at hl 5 rfl) ?_
    have f_820 : F_809 (ad 24) = oE G (fun i => ad (26 + i)) := (o_813 (ad 24) ).trans hn.2.2.1
    have f_821 : F_815 (ad 24) = oE G (fun i => ad (26 + i)) := (hp_816.2 (ad 24) (fun i hS => hin 24 i (by omega) (by omega) (by omega))).trans f_820
    refine q_aaldi C0 hw ((hL 24 (by omega))) f_821 (f9) (by omega) (by decide) (b := ad (26 + f9)) rfl dX5_carryOut_231 ?_
    refine lv_aload hx hb dX5_carryOut_232 (lv_at hl 2 rfl) ?_
    refine lv_iload_n hx hb dX5_carryOut_234 rfl (lv_at hl 6 rfl) ?_
    refine q_aaldi C0 hw ((hL 24 (by omega))) f_821 (g9) (by omega) (by decide) (b := ad (26 + g9)) rfl dX5_carryOut_235 ?_
    refine lv_iconst (v := nI 5) hx hb dX5_carryOut_236 (by decide) ?_
    refine lv_iload hx hb dX5_carryOut_237 (lv_at hl 0 rfl) ?_
    refine lv_aload_n hx hb dX5_carryOut_239 rfl (lv_at hl 3 rfl) ?_
    refine q_get C0 hw ((hL 0 (by omega))) f_817 fw_X5_48 rfl dX5_carryOut_240 ?_
    have f_822 : F_809 (ad (26 + f9)) = rw7 G ((st.2.2.2.2.2 f9)) := (o_813 (ad (26 + f9)) ).trans ((hn.2.2.2.2 f9 (by omega)))
    have f_823 : F_815 (ad (26 + f9)) = rw7 G ((st.2.2.2.2.2 f9)) := (hp_816.2 (ad (26 + f9)) (fun i hS => hin (26 + f9) i (by omega) (by omega) (by omega))).trans f_822
    have f_824 : F_809 (ad (26 + g9)) = rw7 G ((st.2.2.2.2.2 g9)) := (o_813 (ad (26 + g9)) ).trans ((hn.2.2.2.2 g9 (by omega)))
    have f_825 : F_815 (ad (26 + g9)) = rw7 G ((st.2.2.2.2.2 g9)) := (hp_816.2 (ad (26 + g9)) (fun i hS => hin (26 + g9) i (by omega) (by omega) (by omega))).trans f_824
    have f_826 : F_809 (ad 134) = rw7 G u9 := (o_813 (ad 134) ).trans h134
    have f_827 : F_815 (ad 134) = rw7 G u9 := (hp_816.2 (ad 134) (fun i hS => hin 134 i (by omega) (by omega) (by omega))).trans f_826
    have f_828 : F_809 (ad 16) = rw7 G s_8 := (o_813 (ad 16) ).trans hs_8
    have f_829 : F_815 (ad 16) = rw7 G s_8 := (hp_816.2 (ad 16) (fun i hS => hin 16 i (by omega) (by omega) (by omega))).trans f_828
    have f_830 : F_809 (ad 17) = rw7 G s_9 := (o_813 (ad 17) ).trans hs_9
    have f_831 : F_815 (ad 17) = rw7 G s_9 := (hp_816.2 (ad 17) (fun i hS => hin 17 i (by omega) (by omega) (by omega))).trans f_830
    have f_832 : F_809 (ad 18) = rw7 G s_10 := (o_813 (ad 18) ).trans hs_10
    have f_833 : F_815 (ad 18) = rw7 G s_10 := (hp_816.2 (ad 18) (fun i hS => hin 18 i (by omega) (by omega) (by omega))).trans f_832
    have f_834 : F_809 (ad 8) = rw7 G s_0 := (o_813 (ad 8) ).trans hs_0
    have f_835 : F_815 (ad 8) = rw7 G s_0 := (hp_816.2 (ad 8) (fun i hS => hin 8 i (by omega) (by omega) (by omega))).trans f_834
    have f_836 : F_809 (ad 7) = rkO (fun i => ad (8 + i)) := (o_813 (ad 7) ).trans hrk.1
    have f_837 : F_815 (ad 7) = rkO (fun i => ad (8 + i)) := (hp_816.2 (ad 7) (fun i hS => hin 7 i (by omega) (by omega) (by omega))).trans f_836
    refine q_callv hw (q_runV (As := [.ref (ad (26 + f9)), .ref (ad (26 + g9)), .int (nI (5)), .int (nI (st.1)), .ref (ad 134)]) (c_X1_secondWay l G L F_815 (ad 7) (fun i => ad (8 + i)) (ad (26 + f9)) (ad (26 + g9)) (ad 134) (st.1) ((st.2.2.2.2.2 f9)) ((st.2.2.2.2.2 g9)) u9 s_8 s_9 s_10 s_0 5 ((hL 7 (by omega))) f_837 (fun i hi => hL (8 + i) (by omega)) (ra_inj hin) ((hL (26 + f9) (by omega))) f_823 ((hL (26 + g9) (by omega))) f_825 ((hL 134 (by omega))) f_827 f_829 f_831 f_833 f_835 (hin (26 + f9) 134 (by omega) (by omega) (by omega)) (hin (26 + g9) 134 (by omega) (by omega) (by omega)) (hin (26 + f9) 16 (by omega) (by omega) (by omega)) (hin (26 + g9) 16 (by omega) (by omega) (by omega)) (hin 134 16 (by omega) (by omega) (by omega)) (hin (26 + f9) 17 (by omega) (by omega) (by omega)) (hin (26 + g9) 17 (by omega) (by omega) (by omega)) (hin 134 17 (by omega) (by omega) (by omega)) (hin (26 + f9) 18 (by omega) (by omega) (by omega)) (hin (26 + g9) 18 (by omega) (by omega) (by omega)) (hin 134 18 (by omega) (by omega) (by omega)) (hin (26 + f9) 8 (by omega) (by omega) (by omega)) (hin (26 + g9) 8 (by omega) (by omega) (by omega)) (hin 134 8 (by omega) (by omega) (by omega)) (by omega) (by omega) (by omega) (by omega)) C0 hw vw_X5_312 ((hL 7 (by omega))) f_837 rfl rfl rfl hl.1 rfl (Nat.le_of_ble_eq_true rfl) dX5_carryOut_243 ⟨by decide, by decide⟩ ⟨by decide, by decide⟩) rfl rfl (fun F_838 H locs hw hp_839 => ?_)
    obtain ⟨f_840, ⟨t_845, f_841⟩, ⟨t_846, f_842⟩, ⟨t_847, f_843⟩, ⟨t_848, f_844⟩, o_849⟩ := hp_839
    refine lv_aload_n hx hb dX5_carryOut_246 rfl (lv_at hl 3 rfl) ?_
    refine lv_aload hx hb dX5_carryOut_247 (lv_at hl 2 rfl) ?_
    refine lv_iload hx hb dX5_carryOut_249 (lv_at hl 7 rfl) ?_
    have f_850 : F_838 (ad 24) = oE G (fun i => ad (26 + i)) := (o_849 (ad 24) (hin 24 134 (by omega) (by omega) (by omega)) (hin 24 16 (by omega) (by omega) (by omega)) (hin 24 17 (by omega) (by omega) (by omega)) (hin 24 18 (by omega) (by omega) (by omega)) (hin 24 8 (by omega) (by omega) (by omega))).trans f_821
    refine q_aaldi C0 hw ((hL 24 (by omega))) f_850 (t9) (by omega) (by decide) (b := ad (26 + t9)) rfl dX5_carryOut_251 ?_
    have f_851 : F_809 (ad (26 + t9)) = rw7 G ((st.2.2.2.2.2 t9)) := (o_813 (ad (26 + t9)) ).trans ((hn.2.2.2.2 t9 (by omega)))
    have f_852 : F_815 (ad (26 + t9)) = rw7 G ((st.2.2.2.2.2 t9)) := (hp_816.2 (ad (26 + t9)) (fun i hS => hin (26 + t9) i (by omega) (by omega) (by omega))).trans f_851
    have f_853 : F_838 (ad (26 + t9)) = rw7 G ((st.2.2.2.2.2 t9)) := (o_849 (ad (26 + t9)) (hin (26 + t9) 134 (by omega) (by omega) (by omega)) (hin (26 + t9) 16 (by omega) (by omega) (by omega)) (hin (26 + t9) 17 (by omega) (by omega) (by omega)) (hin (26 + t9) 18 (by omega) (by omega) (by omega)) (hin (26 + t9) 8 (by omega) (by omega) (by omega))).trans f_852
    have f_854 : F_838 (ad 0) = xO ad := (o_849 (ad 0) (hin 0 134 (by omega) (by omega) (by omega)) (hin 0 16 (by omega) (by omega) (by omega)) (hin 0 17 (by omega) (by omega) (by omega)) (hin 0 18 (by omega) (by omega) (by omega)) (hin 0 8 (by omega) (by omega) (by omega))).trans f_817
    refine q_calli hw (q_runV (As := [.ref (ad (26 + t9))]) (c_X5_put l G L F_838 ad hL hin t9 ((m_way ((st.2.2.2.2.2 f9)) ((st.2.2.2.2.2 g9)) 5 (st.1))) ((st.2.2.2.2.2 t9)) f_854 f_840 f_853 (by omega)) C0 hw vw_X5_127 ((hL 0 (by omega))) f_854 rfl rfl rfl hl.1 rfl (Nat.le_of_ble_eq_true rfl) dX5_carryOut_252 ⟨by decide, by decide⟩ ⟨by decide, by decide⟩) rfl rfl (fun r_857 F_855 H locs hw hp_856 => ?_)
    obtain ⟨he_858, f_859, o_860⟩ := hp_856
    subst he_858
    have f_861 : F_838 (ad 22) = .inr (3, [.ref (ad 23), .int (nI (st.2.1 - 20 * st.1)), .int (nI (st.2.2.1 + 20 * st.1)), .int (nI (st.2.2.2.1 + 1)), .int (nI (st.2.2.2.2.1))]) := (o_849 (ad 22) (hin 22 134 (by omega) (by omega) (by omega)) (hin 22 16 (by omega) (by omega) (by omega)) (hin 22 17 (by omega) (by omega) (by omega)) (hin 22 18 (by omega) (by omega) (by omega)) (hin 22 8 (by omega) (by omega) (by omega))).trans hp_816.1
    have f_862 : F_855 (ad 22) = .inr (3, [.ref (ad 23), .int (nI (st.2.1 - 20 * st.1)), .int (nI (st.2.2.1 + 20 * st.1)), .int (nI (st.2.2.2.1 + 1)), .int (nI (st.2.2.2.2.1))]) := (o_860 (ad 22) (fun i hS => hin 22 i (by omega) (by omega) (by omega))).trans f_861
    have f_863 : F_855 (ad 134) = rw7 G ((m_way ((st.2.2.2.2.2 f9)) ((st.2.2.2.2.2 g9)) 5 (st.1))) := (o_860 (ad 134) (fun i hS => hin 134 i (by omega) (by omega) (by omega))).trans f_840
    have f_864 : F_838 (ad 7) = rkO (fun i => ad (8 + i)) := (o_849 (ad 7) (hin 7 134 (by omega) (by omega) (by omega)) (hin 7 16 (by omega) (by omega) (by omega)) (hin 7 17 (by omega) (by omega) (by omega)) (hin 7 18 (by omega) (by omega) (by omega)) (hin 7 8 (by omega) (by omega) (by omega))).trans f_837
    have f_865 : F_855 (ad 7) = rkO (fun i => ad (8 + i)) := (o_860 (ad 7) (fun i hS => hin 7 i (by omega) (by omega) (by omega))).trans f_864
    have f_866 : F_855 (ad 8) = rw7 G t_848 := (o_860 (ad 8) (fun i hS => hin 8 i (by omega) (by omega) (by omega))).trans f_844
    have f_867 : F_809 (ad 9) = rw7 G s_1 := (o_813 (ad 9) ).trans hs_1
    have f_868 : F_815 (ad 9) = rw7 G s_1 := (hp_816.2 (ad 9) (fun i hS => hin 9 i (by omega) (by omega) (by omega))).trans f_867
    have f_869 : F_838 (ad 9) = rw7 G s_1 := (o_849 (ad 9) (hin 9 134 (by omega) (by omega) (by omega)) (hin 9 16 (by omega) (by omega) (by omega)) (hin 9 17 (by omega) (by omega) (by omega)) (hin 9 18 (by omega) (by omega) (by omega)) (hin 9 8 (by omega) (by omega) (by omega))).trans f_868
    have f_870 : F_855 (ad 9) = rw7 G s_1 := (o_860 (ad 9) (fun i hS => hin 9 i (by omega) (by omega) (by omega))).trans f_869
    have f_871 : F_809 (ad 10) = rw7 G s_2 := (o_813 (ad 10) ).trans hs_2
    have f_872 : F_815 (ad 10) = rw7 G s_2 := (hp_816.2 (ad 10) (fun i hS => hin 10 i (by omega) (by omega) (by omega))).trans f_871
    have f_873 : F_838 (ad 10) = rw7 G s_2 := (o_849 (ad 10) (hin 10 134 (by omega) (by omega) (by omega)) (hin 10 16 (by omega) (by omega) (by omega)) (hin 10 17 (by omega) (by omega) (by omega)) (hin 10 18 (by omega) (by omega) (by omega)) (hin 10 8 (by omega) (by omega) (by omega))).trans f_872
    have f_874 : F_855 (ad 10) = rw7 G s_2 := (o_860 (ad 10) (fun i hS => hin 10 i (by omega) (by omega) (by omega))).trans f_873
    have f_875 : F_809 (ad 11) = rw7 G s_3 := (o_813 (ad 11) ).trans hs_3
    have f_876 : F_815 (ad 11) = rw7 G s_3 := (hp_816.2 (ad 11) (fun i hS => hin 11 i (by omega) (by omega) (by omega))).trans f_875
    have f_877 : F_838 (ad 11) = rw7 G s_3 := (o_849 (ad 11) (hin 11 134 (by omega) (by omega) (by omega)) (hin 11 16 (by omega) (by omega) (by omega)) (hin 11 17 (by omega) (by omega) (by omega)) (hin 11 18 (by omega) (by omega) (by omega)) (hin 11 8 (by omega) (by omega) (by omega))).trans f_876
    have f_878 : F_855 (ad 11) = rw7 G s_3 := (o_860 (ad 11) (fun i hS => hin 11 i (by omega) (by omega) (by omega))).trans f_877
    have f_879 : F_809 (ad 12) = rw7 G s_4 := (o_813 (ad 12) ).trans hs_4
    have f_880 : F_815 (ad 12) = rw7 G s_4 := (hp_816.2 (ad 12) (fun i hS => hin 12 i (by omega) (by omega) (by omega))).trans f_879
    have f_881 : F_838 (ad 12) = rw7 G s_4 := (o_849 (ad 12) (hin 12 134 (by omega) (by omega) (by omega)) (hin 12 16 (by omega) (by omega) (by omega)) (hin 12 17 (by omega) (by omega) (by omega)) (hin 12 18 (by omega) (by omega) (by omega)) (hin 12 8 (by omega) (by omega) (by omega))).trans f_880
    have f_882 : F_855 (ad 12) = rw7 G s_4 := (o_860 (ad 12) (fun i hS => hin 12 i (by omega) (by omega) (by omega))).trans f_881
    have f_883 : F_809 (ad 13) = rw7 G s_5 := (o_813 (ad 13) ).trans hs_5
    have f_884 : F_815 (ad 13) = rw7 G s_5 := (hp_816.2 (ad 13) (fun i hS => hin 13 i (by omega) (by omega) (by omega))).trans f_883
    have f_885 : F_838 (ad 13) = rw7 G s_5 := (o_849 (ad 13) (hin 13 134 (by omega) (by omega) (by omega)) (hin 13 16 (by omega) (by omega) (by omega)) (hin 13 17 (by omega) (by omega) (by omega)) (hin 13 18 (by omega) (by omega) (by omega)) (hin 13 8 (by omega) (by omega) (by omega))).trans f_884
    have f_886 : F_855 (ad 13) = rw7 G s_5 := (o_860 (ad 13) (fun i hS => hin 13 i (by omega) (by omega) (by omega))).trans f_885
    have f_887 : F_809 (ad 14) = rw7 G s_6 := (o_813 (ad 14) ).trans hs_6
    have f_888 : F_815 (ad 14) = rw7 G s_6 := (hp_816.2 (ad 14) (fun i hS => hin 14 i (by omega) (by omega) (by omega))).trans f_887
    have f_889 : F_838 (ad 14) = rw7 G s_6 := (o_849 (ad 14) (hin 14 134 (by omega) (by omega) (by omega)) (hin 14 16 (by omega) (by omega) (by omega)) (hin 14 17 (by omega) (by omega) (by omega)) (hin 14 18 (by omega) (by omega) (by omega)) (hin 14 8 (by omega) (by omega) (by omega))).trans f_888
    have f_890 : F_855 (ad 14) = rw7 G s_6 := (o_860 (ad 14) (fun i hS => hin 14 i (by omega) (by omega) (by omega))).trans f_889
    have f_891 : F_809 (ad 15) = rw7 G s_7 := (o_813 (ad 15) ).trans hs_7
    have f_892 : F_815 (ad 15) = rw7 G s_7 := (hp_816.2 (ad 15) (fun i hS => hin 15 i (by omega) (by omega) (by omega))).trans f_891
    have f_893 : F_838 (ad 15) = rw7 G s_7 := (o_849 (ad 15) (hin 15 134 (by omega) (by omega) (by omega)) (hin 15 16 (by omega) (by omega) (by omega)) (hin 15 17 (by omega) (by omega) (by omega)) (hin 15 18 (by omega) (by omega) (by omega)) (hin 15 8 (by omega) (by omega) (by omega))).trans f_892
    have f_894 : F_855 (ad 15) = rw7 G s_7 := (o_860 (ad 15) (fun i hS => hin 15 i (by omega) (by omega) (by omega))).trans f_893
    have f_895 : F_855 (ad 16) = rw7 G t_845 := (o_860 (ad 16) (fun i hS => hin 16 i (by omega) (by omega) (by omega))).trans f_841
    have f_896 : F_855 (ad 17) = rw7 G t_846 := (o_860 (ad 17) (fun i hS => hin 17 i (by omega) (by omega) (by omega))).trans f_842
    have f_897 : F_855 (ad 18) = rw7 G t_847 := (o_860 (ad 18) (fun i hS => hin 18 i (by omega) (by omega) (by omega))).trans f_843
    have f_898 : F_809 (ad 19) = rw7 G s_11 := (o_813 (ad 19) ).trans hs_11
    have f_899 : F_815 (ad 19) = rw7 G s_11 := (hp_816.2 (ad 19) (fun i hS => hin 19 i (by omega) (by omega) (by omega))).trans f_898
    have f_900 : F_838 (ad 19) = rw7 G s_11 := (o_849 (ad 19) (hin 19 134 (by omega) (by omega) (by omega)) (hin 19 16 (by omega) (by omega) (by omega)) (hin 19 17 (by omega) (by omega) (by omega)) (hin 19 18 (by omega) (by omega) (by omega)) (hin 19 8 (by omega) (by omega) (by omega))).trans f_899
    have f_901 : F_855 (ad 19) = rw7 G s_11 := (o_860 (ad 19) (fun i hS => hin 19 i (by omega) (by omega) (by omega))).trans f_900
    have f_902 : F_809 (ad 20) = rw7 G s_12 := (o_813 (ad 20) ).trans hs_12
    have f_903 : F_815 (ad 20) = rw7 G s_12 := (hp_816.2 (ad 20) (fun i hS => hin 20 i (by omega) (by omega) (by omega))).trans f_902
    have f_904 : F_838 (ad 20) = rw7 G s_12 := (o_849 (ad 20) (hin 20 134 (by omega) (by omega) (by omega)) (hin 20 16 (by omega) (by omega) (by omega)) (hin 20 17 (by omega) (by omega) (by omega)) (hin 20 18 (by omega) (by omega) (by omega)) (hin 20 8 (by omega) (by omega) (by omega))).trans f_903
    have f_905 : F_855 (ad 20) = rw7 G s_12 := (o_860 (ad 20) (fun i hS => hin 20 i (by omega) (by omega) (by omega))).trans f_904
    have f_906 : F_809 (ad 21) = rw7 G s_13 := (o_813 (ad 21) ).trans hs_13
    have f_907 : F_815 (ad 21) = rw7 G s_13 := (hp_816.2 (ad 21) (fun i hS => hin 21 i (by omega) (by omega) (by omega))).trans f_906
    have f_908 : F_838 (ad 21) = rw7 G s_13 := (o_849 (ad 21) (hin 21 134 (by omega) (by omega) (by omega)) (hin 21 16 (by omega) (by omega) (by omega)) (hin 21 17 (by omega) (by omega) (by omega)) (hin 21 18 (by omega) (by omega) (by omega)) (hin 21 8 (by omega) (by omega) (by omega))).trans f_907
    have f_909 : F_855 (ad 21) = rw7 G s_13 := (o_860 (ad 21) (fun i hS => hin 21 i (by omega) (by omega) (by omega))).trans f_908
    exact r_i C0 hr hlk hw (v := (lowR ((m_way ((st.2.2.2.2.2 f9)) ((st.2.2.2.2.2 g9)) 5 (st.1))))) rfl ⟨rfl, sta_row hn (t := ordT 119 t9) (u := ordR 119 f9 g9 st.1 st.2.2.2.2.2) (by unfold ordT; simp; omega) f_862 rfl rfl (f_859) (fun i0 hi => by simp [ordT] at hi; exact ((o_860 (ad (i0)) (fun i hS => hin (i0) i (by omega) (by omega) (by omega)))).trans (((o_849 (ad (i0)) (hin (i0) 134 (by omega) (by omega) (by omega)) (hin (i0) 16 (by omega) (by omega) (by omega)) (hin (i0) 17 (by omega) (by omega) (by omega)) (hin (i0) 18 (by omega) (by omega) (by omega)) (hin (i0) 8 (by omega) (by omega) (by omega)))).trans (((hp_816.2 (ad (i0)) (fun i hS => hin (i0) i (by omega) (by omega) (by omega)))).trans ((o_813 (ad (i0)) ))))), ⟨f_865, lt14 ⟨_, f_866⟩ ⟨_, f_870⟩ ⟨_, f_874⟩ ⟨_, f_878⟩ ⟨_, f_882⟩ ⟨_, f_886⟩ ⟨_, f_890⟩ ⟨_, f_894⟩ ⟨_, f_895⟩ ⟨_, f_896⟩ ⟨_, f_897⟩ ⟨_, f_901⟩ ⟨_, f_905⟩ ⟨_, f_909⟩⟩, ⟨_, f_863⟩, (fun q hq => ((o_860 q (fun i hS => hq i (by omega))).trans ((o_849 q (hq 134 (by omega)) (hq 16 (by omega)) (hq 17 (by omega)) (hq 18 (by omega)) (hq 8 (by omega))).trans ((hp_816.2 q (fun i hS => hq i (by omega))).trans (o_813 q )))))⟩ (Nat.le_refl _) (Nat.le_refl _) dX5_carryOut_255 hQ
  · skip
    exact absurd c_11 (by omega)
set_option maxHeartbeats 4000000 in
set_option maxRecDepth 100000 in
theorem c_X5_carryOut_112 (l : Launch) (G : Gl) (L : List Nat) (F : Nat → va_E) (ad : Nat → Nat) (hL : ∀ i, i < 166 → ad i ∈ L) (hin : ∀ i j, i < 166 → j < 166 → i ≠ j → ad i ≠ ad j) (f9 g9 t9 : Nat) (st : Sta) (u9 : Nat → ZP) (fx : F (ad 0) = xO ad) (hn : sta G F ad 22 st) (hrk : rkW G F ad) (h134 : F (ad 134) = rw7 G u9) (hf9 : f9 < 6) (hg9 : g9 < 6) (ht9 : t9 < 6) (hm : 6 * st.1 ≤ st.2.1) (hc : st.1 ≤ 6) (hc2 : 2 ≤ st.1) (hpu : st.2.1 ≤ 100000) : CI l yX5_carryOut cX5_carryOut 8 (some .int) rm_X5_carryOut G L F [.ref (ad 0), .int (nI (112)), .int (nI (f9)), .int (nI (g9)), .int (nI (t9))] (fun r F1 => r = lowR (ordR 112 f9 g9 st.1 st.2.2.2.2.2) ∧ sta G F1 ad 22 (ordS 112 f9 g9 t9 st) ∧ rkW G F1 ad ∧ (∃ u, F1 (ad 134) = rw7 G u) ∧ ∀ q, (∀ i, (i = 22 ∨ (26 ≤ i ∧ i < 38) ∨ (8 ≤ i ∧ i < 22) ∨ i = 134) → q ≠ ad i) → F1 q = F q) := by
  obtain ⟨s_13, hs_13⟩ := hrk.2 13 (by decide)
  obtain ⟨s_12, hs_12⟩ := hrk.2 12 (by decide)
  obtain ⟨s_11, hs_11⟩ := hrk.2 11 (by decide)
  obtain ⟨s_10, hs_10⟩ := hrk.2 10 (by decide)
  obtain ⟨s_9, hs_9⟩ := hrk.2 9 (by decide)
  obtain ⟨s_8, hs_8⟩ := hrk.2 8 (by decide)
  obtain ⟨s_7, hs_7⟩ := hrk.2 7 (by decide)
  obtain ⟨s_6, hs_6⟩ := hrk.2 6 (by decide)
  obtain ⟨s_5, hs_5⟩ := hrk.2 5 (by decide)
  obtain ⟨s_4, hs_4⟩ := hrk.2 4 (by decide)
  obtain ⟨s_3, hs_3⟩ := hrk.2 3 (by decide)
  obtain ⟨s_2, hs_2⟩ := hrk.2 2 (by decide)
  obtain ⟨s_1, hs_1⟩ := hrk.2 1 (by decide)
  obtain ⟨s_0, hs_0⟩ := hrk.2 0 (by decide)
  refine CG_of (by decide) (Nat.le_of_ble_eq_true rfl) rfl ?_
  intro p e s m args below meth c Q C0 hr hlk hnm hQ hw ls hl
  have hx := C0.x
  have hb := C0.b
  refine lv_aload_n hx hb dX5_carryOut_0 rfl (lv_at hl 0 rfl) ?_
  refine lv_iload_n hx hb dX5_carryOut_1 rfl (lv_at hl 1 rfl) ?_
  refine q_calli hw (q_runS (As := [.int (nI (112))]) (c_X5_unitsOf_112 l G L F ) C0 hw sw_X5_225 rfl hl.1 rfl (Nat.le_of_ble_eq_true rfl) dX5_carryOut_2 ⟨by decide, by decide⟩ ⟨by decide, by decide⟩) rfl rfl (fun r_912 F_910 H locs hw hp_911 => ?_)
  obtain ⟨he_913, o_914⟩ := hp_911
  subst he_913
  have f_915 : F_910 (ad 0) = xO ad := (o_914 (ad 0) ).trans fx
  refine q_callv hw (q_runV (As := [.int (nI (6))]) (c_X5_pay l G L F_910 ad hL hin 6 st f_915 (hn.keep (fun i0 hi => (o_914 (ad (i0)) ))) (by omega)) C0 hw vw_X5_114 ((hL 0 (by omega))) f_915 rfl rfl rfl hl.1 rfl (Nat.le_of_ble_eq_true rfl) dX5_carryOut_5 ⟨by decide, by decide⟩ ⟨by decide, by decide⟩) rfl rfl (fun F_916 H locs hw hp_917 => ?_)
  refine lv_iload_n hx hb dX5_carryOut_8 rfl (lv_at hl 1 rfl) ?_
  refine lv_bipush (v := nI 98) hx hb dX5_carryOut_9 (by decide) ?_
  refine n_icmp_ne (tgt := 27) hx hb dX5_carryOut_11 (by decide) (by decide) (by decide) (fun c_11 => ?_) (fun c_11 => ?_)
  · skip
    refine lv_aload_n hx hb dX5_carryOut_27 rfl (lv_at hl 0 rfl) ?_
    have f_918 : F_916 (ad 0) = xO ad := (hp_917.2 (ad 0) (fun i hS => hin 0 i (by omega) (by omega) (by omega))).trans f_915
    refine q_get C0 hw ((hL 0 (by omega))) f_918 fw_X5_12 rfl dX5_carryOut_28 ?_
    refine q_get C0 hw ((hL 22 (by omega))) hp_917.1 fw_X5_66 rfl dX5_carryOut_31 ?_
    have f_919 : F_910 (ad 23) = .inr (2, [.int (nI (st.1)), .ref (ad 24), .ref (ad 25)]) := (o_914 (ad 23) ).trans hn.2.1
    have f_920 : F_916 (ad 23) = .inr (2, [.int (nI (st.1)), .ref (ad 24), .ref (ad 25)]) := (hp_917.2 (ad 23) (fun i hS => hin 23 i (by omega) (by omega) (by omega))).trans f_919
    refine q_get C0 hw ((hL 23 (by omega))) f_920 fw_X5_85 rfl dX5_carryOut_34 ?_
    refine lv_astore (lv' := [(5, .ref (ad 24)), (0, .ref (ad 0)), (1, .int (nI (112))), (2, .int (nI (f9))), (3, .int (nI (g9))), (4, .int (nI (t9)))]) hx hb dX5_carryOut_37 hl (by decide) rfl (fun ls hl => ?_)
    refine lv_aload_n hx hb dX5_carryOut_39 rfl (lv_at hl 1 rfl) ?_
    refine q_get C0 hw ((hL 0 (by omega))) f_918 fw_X5_12 rfl dX5_carryOut_40 ?_
    refine q_get C0 hw ((hL 22 (by omega))) hp_917.1 fw_X5_66 rfl dX5_carryOut_43 ?_
    refine q_get C0 hw ((hL 23 (by omega))) f_920 fw_X5_93 rfl dX5_carryOut_46 ?_
    refine lv_astore (lv' := [(6, .ref (ad 25)), (5, .ref (ad 24)), (0, .ref (ad 0)), (1, .int (nI (112))), (2, .int (nI (f9))), (3, .int (nI (g9))), (4, .int (nI (t9)))]) hx hb dX5_carryOut_49 hl (by decide) rfl (fun ls hl => ?_)
    refine lv_aload_n hx hb dX5_carryOut_51 rfl (lv_at hl 2 rfl) ?_
    refine q_get C0 hw ((hL 0 (by omega))) f_918 fw_X5_12 rfl dX5_carryOut_52 ?_
    refine q_get C0 hw ((hL 22 (by omega))) hp_917.1 fw_X5_66 rfl dX5_carryOut_55 ?_
    refine q_get C0 hw ((hL 23 (by omega))) f_920 fw_X5_70 rfl dX5_carryOut_58 ?_
    refine lv_istore (lv' := [(7, .int (nI (st.1))), (6, .ref (ad 25)), (5, .ref (ad 24)), (0, .ref (ad 0)), (1, .int (nI (112))), (2, .int (nI (f9))), (3, .int (nI (g9))), (4, .int (nI (t9)))]) hx hb dX5_carryOut_61 hl (by decide) rfl (fun ls hl => ?_)
    refine lv_iload_n hx hb dX5_carryOut_63 rfl (lv_at hl 4 rfl) ?_
    refine lv_tableIn (off := 192) (tgt := 256) hx hb dX5_carryOut_64 (by decide) (by decide) rfl (by decide) ?_
    refine lv_aload_n hx hb dX5_carryOut_256 rfl (lv_at hl 3 rfl) ?_
    refine q_get C0 hw ((hL 0 (by omega))) f_918 fw_X5_44 rfl dX5_carryOut_257 ?_
    refine lv_aload hx hb dX5_carryOut_260 (lv_at hl 1 rfl) ?_
    refine lv_iload_n hx hb dX5_carryOut_262 rfl (lv_at hl 5 rfl) ?_
    have f_921 : F_910 (ad 25) = oE G (fun i => ad (32 + i)) := (o_914 (ad 25) ).trans hn.2.2.2.1
    have f_922 : F_916 (ad 25) = oE G (fun i => ad (32 + i)) := (hp_917.2 (ad 25) (fun i hS => hin 25 i (by omega) (by omega) (by omega))).trans f_921
    refine q_aaldi C0 hw ((hL 25 (by omega))) f_922 (f9) (by omega) (by decide) (b := ad (32 + f9)) rfl dX5_carryOut_263 ?_
    refine lv_aload hx hb dX5_carryOut_264 (lv_at hl 2 rfl) ?_
    refine lv_iload_n hx hb dX5_carryOut_266 rfl (lv_at hl 6 rfl) ?_
    have f_923 : F_910 (ad 24) = oE G (fun i => ad (26 + i)) := (o_914 (ad 24) ).trans hn.2.2.1
    have f_924 : F_916 (ad 24) = oE G (fun i => ad (26 + i)) := (hp_917.2 (ad 24) (fun i hS => hin 24 i (by omega) (by omega) (by omega))).trans f_923
    refine q_aaldi C0 hw ((hL 24 (by omega))) f_924 (g9) (by omega) (by decide) (b := ad (26 + g9)) rfl dX5_carryOut_267 ?_
    refine lv_iload hx hb dX5_carryOut_268 (lv_at hl 0 rfl) ?_
    refine lv_aload_n hx hb dX5_carryOut_270 rfl (lv_at hl 3 rfl) ?_
    refine q_get C0 hw ((hL 0 (by omega))) f_918 fw_X5_48 rfl dX5_carryOut_271 ?_
    have f_925 : F_910 (ad (32 + f9)) = rw7 G ((st.2.2.2.2.2 (6 + f9))) := (o_914 (ad (32 + f9)) ).trans ((show F (ad (32 + f9)) = _ from by have h9 := hn.2.2.2.2 (6 + f9) (by omega); rwa [show 22 + 4 + (6 + f9) = 32 + f9 by omega] at h9))
    have f_926 : F_916 (ad (32 + f9)) = rw7 G ((st.2.2.2.2.2 (6 + f9))) := (hp_917.2 (ad (32 + f9)) (fun i hS => hin (32 + f9) i (by omega) (by omega) (by omega))).trans f_925
    have f_927 : F_910 (ad (26 + g9)) = rw7 G ((st.2.2.2.2.2 g9)) := (o_914 (ad (26 + g9)) ).trans ((hn.2.2.2.2 g9 (by omega)))
    have f_928 : F_916 (ad (26 + g9)) = rw7 G ((st.2.2.2.2.2 g9)) := (hp_917.2 (ad (26 + g9)) (fun i hS => hin (26 + g9) i (by omega) (by omega) (by omega))).trans f_927
    have f_929 : F_910 (ad 134) = rw7 G u9 := (o_914 (ad 134) ).trans h134
    have f_930 : F_916 (ad 134) = rw7 G u9 := (hp_917.2 (ad 134) (fun i hS => hin 134 i (by omega) (by omega) (by omega))).trans f_929
    have f_931 : F_910 (ad 14) = rw7 G s_6 := (o_914 (ad 14) ).trans hs_6
    have f_932 : F_916 (ad 14) = rw7 G s_6 := (hp_917.2 (ad 14) (fun i hS => hin 14 i (by omega) (by omega) (by omega))).trans f_931
    have f_933 : F_910 (ad 13) = rw7 G s_5 := (o_914 (ad 13) ).trans hs_5
    have f_934 : F_916 (ad 13) = rw7 G s_5 := (hp_917.2 (ad 13) (fun i hS => hin 13 i (by omega) (by omega) (by omega))).trans f_933
    have f_935 : F_910 (ad 12) = rw7 G s_4 := (o_914 (ad 12) ).trans hs_4
    have f_936 : F_916 (ad 12) = rw7 G s_4 := (hp_917.2 (ad 12) (fun i hS => hin 12 i (by omega) (by omega) (by omega))).trans f_935
    have f_937 : F_910 (ad 11) = rw7 G s_3 := (o_914 (ad 11) ).trans hs_3
    have f_938 : F_916 (ad 11) = rw7 G s_3 := (hp_917.2 (ad 11) (fun i hS => hin 11 i (by omega) (by omega) (by omega))).trans f_937
    have f_939 : F_910 (ad 7) = rkO (fun i => ad (8 + i)) := (o_914 (ad 7) ).trans hrk.1
    have f_940 : F_916 (ad 7) = rkO (fun i => ad (8 + i)) := (hp_917.2 (ad 7) (fun i hS => hin 7 i (by omega) (by omega) (by omega))).trans f_939
    refine q_callv hw (q_runV (As := [.ref (ad (32 + f9)), .ref (ad (26 + g9)), .int (nI (st.1)), .ref (ad 134)]) (c_X1_pushField l G L F_916 (ad 7) (fun i => ad (8 + i)) (ad (32 + f9)) (ad (26 + g9)) (ad 134) (st.1) ((st.2.2.2.2.2 (6 + f9))) ((st.2.2.2.2.2 g9)) u9 s_6 s_5 s_4 s_3  ((hL 7 (by omega))) f_940 (fun i hi => hL (8 + i) (by omega)) (ra_inj hin) ((hL (32 + f9) (by omega))) f_926 ((hL (26 + g9) (by omega))) f_928 ((hL 134 (by omega))) f_930 f_932 f_934 f_936 f_938 (hin (32 + f9) 134 (by omega) (by omega) (by omega)) (hin (26 + g9) 134 (by omega) (by omega) (by omega)) (hin (32 + f9) 14 (by omega) (by omega) (by omega)) (hin (26 + g9) 14 (by omega) (by omega) (by omega)) (hin 134 14 (by omega) (by omega) (by omega)) (hin (32 + f9) 13 (by omega) (by omega) (by omega)) (hin (26 + g9) 13 (by omega) (by omega) (by omega)) (hin 134 13 (by omega) (by omega) (by omega)) (hin (32 + f9) 12 (by omega) (by omega) (by omega)) (hin (26 + g9) 12 (by omega) (by omega) (by omega)) (hin 134 12 (by omega) (by omega) (by omega)) (hin (32 + f9) 11 (by omega) (by omega) (by omega)) (hin (26 + g9) 11 (by omega) (by omega) (by omega)) (hin 134 11 (by omega) (by omega) (by omega)) (by omega) (by omega) ) C0 hw vw_X5_316 ((hL 7 (by omega))) f_940 rfl rfl rfl hl.1 rfl (Nat.le_of_ble_eq_true rfl) dX5_carryOut_274 ⟨by decide, by decide⟩ ⟨by decide, by decide⟩) rfl rfl (fun F_941 H locs hw hp_942 => ?_)
    obtain ⟨f_943, ⟨t_948, f_944⟩, ⟨t_949, f_945⟩, ⟨t_950, f_946⟩, ⟨t_951, f_947⟩, o_952⟩ := hp_942
    refine lv_aload_n hx hb dX5_carryOut_277 rfl (lv_at hl 3 rfl) ?_
    refine lv_aload hx hb dX5_carryOut_278 (lv_at hl 2 rfl) ?_
    refine lv_iload hx hb dX5_carryOut_280 (lv_at hl 7 rfl) ?_
    have f_953 : F_941 (ad 24) = oE G (fun i => ad (26 + i)) := (o_952 (ad 24) (hin 24 134 (by omega) (by omega) (by omega)) (hin 24 14 (by omega) (by omega) (by omega)) (hin 24 13 (by omega) (by omega) (by omega)) (hin 24 12 (by omega) (by omega) (by omega)) (hin 24 11 (by omega) (by omega) (by omega))).trans f_924
    refine q_aaldi C0 hw ((hL 24 (by omega))) f_953 (t9) (by omega) (by decide) (b := ad (26 + t9)) rfl dX5_carryOut_282 ?_
    have f_954 : F_910 (ad (26 + t9)) = rw7 G ((st.2.2.2.2.2 t9)) := (o_914 (ad (26 + t9)) ).trans ((hn.2.2.2.2 t9 (by omega)))
    have f_955 : F_916 (ad (26 + t9)) = rw7 G ((st.2.2.2.2.2 t9)) := (hp_917.2 (ad (26 + t9)) (fun i hS => hin (26 + t9) i (by omega) (by omega) (by omega))).trans f_954
    have f_956 : F_941 (ad (26 + t9)) = rw7 G ((st.2.2.2.2.2 t9)) := (o_952 (ad (26 + t9)) (hin (26 + t9) 134 (by omega) (by omega) (by omega)) (hin (26 + t9) 14 (by omega) (by omega) (by omega)) (hin (26 + t9) 13 (by omega) (by omega) (by omega)) (hin (26 + t9) 12 (by omega) (by omega) (by omega)) (hin (26 + t9) 11 (by omega) (by omega) (by omega))).trans f_955
    have f_957 : F_941 (ad 0) = xO ad := (o_952 (ad 0) (hin 0 134 (by omega) (by omega) (by omega)) (hin 0 14 (by omega) (by omega) (by omega)) (hin 0 13 (by omega) (by omega) (by omega)) (hin 0 12 (by omega) (by omega) (by omega)) (hin 0 11 (by omega) (by omega) (by omega))).trans f_918
    refine q_calli hw (q_runV (As := [.ref (ad (26 + t9))]) (c_X5_put l G L F_941 ad hL hin t9 ((m_push ((st.2.2.2.2.2 (6 + f9))) ((st.2.2.2.2.2 g9)) (st.1))) ((st.2.2.2.2.2 t9)) f_957 f_943 f_956 (by omega)) C0 hw vw_X5_127 ((hL 0 (by omega))) f_957 rfl rfl rfl hl.1 rfl (Nat.le_of_ble_eq_true rfl) dX5_carryOut_283 ⟨by decide, by decide⟩ ⟨by decide, by decide⟩) rfl rfl (fun r_960 F_958 H locs hw hp_959 => ?_)
    obtain ⟨he_961, f_962, o_963⟩ := hp_959
    subst he_961
    have f_964 : F_941 (ad 22) = .inr (3, [.ref (ad 23), .int (nI (st.2.1 - 6 * st.1)), .int (nI (st.2.2.1 + 6 * st.1)), .int (nI (st.2.2.2.1 + 1)), .int (nI (st.2.2.2.2.1))]) := (o_952 (ad 22) (hin 22 134 (by omega) (by omega) (by omega)) (hin 22 14 (by omega) (by omega) (by omega)) (hin 22 13 (by omega) (by omega) (by omega)) (hin 22 12 (by omega) (by omega) (by omega)) (hin 22 11 (by omega) (by omega) (by omega))).trans hp_917.1
    have f_965 : F_958 (ad 22) = .inr (3, [.ref (ad 23), .int (nI (st.2.1 - 6 * st.1)), .int (nI (st.2.2.1 + 6 * st.1)), .int (nI (st.2.2.2.1 + 1)), .int (nI (st.2.2.2.2.1))]) := (o_963 (ad 22) (fun i hS => hin 22 i (by omega) (by omega) (by omega))).trans f_964
    have f_966 : F_958 (ad 134) = rw7 G ((m_push ((st.2.2.2.2.2 (6 + f9))) ((st.2.2.2.2.2 g9)) (st.1))) := (o_963 (ad 134) (fun i hS => hin 134 i (by omega) (by omega) (by omega))).trans f_943
    have f_967 : F_941 (ad 7) = rkO (fun i => ad (8 + i)) := (o_952 (ad 7) (hin 7 134 (by omega) (by omega) (by omega)) (hin 7 14 (by omega) (by omega) (by omega)) (hin 7 13 (by omega) (by omega) (by omega)) (hin 7 12 (by omega) (by omega) (by omega)) (hin 7 11 (by omega) (by omega) (by omega))).trans f_940
    have f_968 : F_958 (ad 7) = rkO (fun i => ad (8 + i)) := (o_963 (ad 7) (fun i hS => hin 7 i (by omega) (by omega) (by omega))).trans f_967
    have f_969 : F_910 (ad 8) = rw7 G s_0 := (o_914 (ad 8) ).trans hs_0
    have f_970 : F_916 (ad 8) = rw7 G s_0 := (hp_917.2 (ad 8) (fun i hS => hin 8 i (by omega) (by omega) (by omega))).trans f_969
    have f_971 : F_941 (ad 8) = rw7 G s_0 := (o_952 (ad 8) (hin 8 134 (by omega) (by omega) (by omega)) (hin 8 14 (by omega) (by omega) (by omega)) (hin 8 13 (by omega) (by omega) (by omega)) (hin 8 12 (by omega) (by omega) (by omega)) (hin 8 11 (by omega) (by omega) (by omega))).trans f_970
    have f_972 : F_958 (ad 8) = rw7 G s_0 := (o_963 (ad 8) (fun i hS => hin 8 i (by omega) (by omega) (by omega))).trans f_971
    have f_973 : F_910 (ad 9) = rw7 G s_1 := (o_914 (ad 9) ).trans hs_1
    have f_974 : F_916 (ad 9) = rw7 G s_1 := (hp_917.2 (ad 9) (fun i hS => hin 9 i (by omega) (by omega) (by omega))).trans f_973
    have f_975 : F_941 (ad 9) = rw7 G s_1 := (o_952 (ad 9) (hin 9 134 (by omega) (by omega) (by omega)) (hin 9 14 (by omega) (by omega) (by omega)) (hin 9 13 (by omega) (by omega) (by omega)) (hin 9 12 (by omega) (by omega) (by omega)) (hin 9 11 (by omega) (by omega) (by omega))).trans f_974
    have f_976 : F_958 (ad 9) = rw7 G s_1 := (o_963 (ad 9) (fun i hS => hin 9 i (by omega) (by omega) (by omega))).trans f_975
    have f_977 : F_910 (ad 10) = rw7 G s_2 := (o_914 (ad 10) ).trans hs_2
    have f_978 : F_916 (ad 10) = rw7 G s_2 := (hp_917.2 (ad 10) (fun i hS => hin 10 i (by omega) (by omega) (by omega))).trans f_977
    have f_979 : F_941 (ad 10) = rw7 G s_2 := (o_952 (ad 10) (hin 10 134 (by omega) (by omega) (by omega)) (hin 10 14 (by omega) (by omega) (by omega)) (hin 10 13 (by omega) (by omega) (by omega)) (hin 10 12 (by omega) (by omega) (by omega)) (hin 10 11 (by omega) (by omega) (by omega))).trans f_978
    have f_980 : F_958 (ad 10) = rw7 G s_2 := (o_963 (ad 10) (fun i hS => hin 10 i (by omega) (by omega) (by omega))).trans f_979
    have f_981 : F_958 (ad 11) = rw7 G t_951 := (o_963 (ad 11) (fun i hS => hin 11 i (by omega) (by omega) (by omega))).trans f_947
    have f_982 : F_958 (ad 12) = rw7 G t_950 := (o_963 (ad 12) (fun i hS => hin 12 i (by omega) (by omega) (by omega))).trans f_946
    have f_983 : F_958 (ad 13) = rw7 G t_949 := (o_963 (ad 13) (fun i hS => hin 13 i (by omega) (by omega) (by omega))).trans f_945
    have f_984 : F_958 (ad 14) = rw7 G t_948 := (o_963 (ad 14) (fun i hS => hin 14 i (by omega) (by omega) (by omega))).trans f_944
    have f_985 : F_910 (ad 15) = rw7 G s_7 := (o_914 (ad 15) ).trans hs_7
    have f_986 : F_916 (ad 15) = rw7 G s_7 := (hp_917.2 (ad 15) (fun i hS => hin 15 i (by omega) (by omega) (by omega))).trans f_985
    have f_987 : F_941 (ad 15) = rw7 G s_7 := (o_952 (ad 15) (hin 15 134 (by omega) (by omega) (by omega)) (hin 15 14 (by omega) (by omega) (by omega)) (hin 15 13 (by omega) (by omega) (by omega)) (hin 15 12 (by omega) (by omega) (by omega)) (hin 15 11 (by omega) (by omega) (by omega))).trans f_986
    have f_988 : F_958 (ad 15) = rw7 G s_7 := (o_963 (ad 15) (fun i hS => hin 15 i (by omega) (by omega) (by omega))).trans f_987
    have f_989 : F_910 (ad 16) = rw7 G s_8 := (o_914 (ad 16) ).trans hs_8
    have f_990 : F_916 (ad 16) = rw7 G s_8 := (hp_917.2 (ad 16) (fun i hS => hin 16 i (by omega) (by omega) (by omega))).trans f_989
    have f_991 : F_941 (ad 16) = rw7 G s_8 := (o_952 (ad 16) (hin 16 134 (by omega) (by omega) (by omega)) (hin 16 14 (by omega) (by omega) (by omega)) (hin 16 13 (by omega) (by omega) (by omega)) (hin 16 12 (by omega) (by omega) (by omega)) (hin 16 11 (by omega) (by omega) (by omega))).trans f_990
    have f_992 : F_958 (ad 16) = rw7 G s_8 := (o_963 (ad 16) (fun i hS => hin 16 i (by omega) (by omega) (by omega))).trans f_991
    have f_993 : F_910 (ad 17) = rw7 G s_9 := (o_914 (ad 17) ).trans hs_9
    have f_994 : F_916 (ad 17) = rw7 G s_9 := (hp_917.2 (ad 17) (fun i hS => hin 17 i (by omega) (by omega) (by omega))).trans f_993
    have f_995 : F_941 (ad 17) = rw7 G s_9 := (o_952 (ad 17) (hin 17 134 (by omega) (by omega) (by omega)) (hin 17 14 (by omega) (by omega) (by omega)) (hin 17 13 (by omega) (by omega) (by omega)) (hin 17 12 (by omega) (by omega) (by omega)) (hin 17 11 (by omega) (by omega) (by omega))).trans f_994
    have f_996 : F_958 (ad 17) = rw7 G s_9 := (o_963 (ad 17) (fun i hS => hin 17 i (by omega) (by omega) (by omega))).trans f_995
    have f_997 : F_910 (ad 18) = rw7 G s_10 := (o_914 (ad 18) ).trans hs_10
    have f_998 : F_916 (ad 18) = rw7 G s_10 := (hp_917.2 (ad 18) (fun i hS => hin 18 i (by omega) (by omega) (by omega))).trans f_997
    have f_999 : F_941 (ad 18) = rw7 G s_10 := (o_952 (ad 18) (hin 18 134 (by omega) (by omega) (by omega)) (hin 18 14 (by omega) (by omega) (by omega)) (hin 18 13 (by omega) (by omega) (by omega)) (hin 18 12 (by omega) (by omega) (by omega)) (hin 18 11 (by omega) (by omega) (by omega))).trans f_998
    have f_1000 : F_958 (ad 18) = rw7 G s_10 := (o_963 (ad 18) (fun i hS => hin 18 i (by omega) (by omega) (by omega))).trans f_999
    have f_1001 : F_910 (ad 19) = rw7 G s_11 := (o_914 (ad 19) ).trans hs_11
    have f_1002 : F_916 (ad 19) = rw7 G s_11 := (hp_917.2 (ad 19) (fun i hS => hin 19 i (by omega) (by omega) (by omega))).trans f_1001
    have f_1003 : F_941 (ad 19) = rw7 G s_11 := (o_952 (ad 19) (hin 19 134 (by omega) (by omega) (by omega)) (hin 19 14 (by omega) (by omega) (by omega)) (hin 19 13 (by omega) (by omega) (by omega)) (hin 19 12 (by omega) (by omega) (by omega)) (hin 19 11 (by omega) (by omega) (by omega))).trans f_1002
    have f_1004 : F_958 (ad 19) = rw7 G s_11 := (o_963 (ad 19) (fun i hS => hin 19 i (by omega) (by omega) (by omega))).trans f_1003
    have f_1005 : F_910 (ad 20) = rw7 G s_12 := (o_914 (ad 20) ).trans hs_12
    have f_1006 : F_916 (ad 20) = rw7 G s_12 := (hp_917.2 (ad 20) (fun i hS => hin 20 i (by omega) (by omega) (by omega))).trans f_1005
    have f_1007 : F_941 (ad 20) = rw7 G s_12 := (o_952 (ad 20) (hin 20 134 (by omega) (by omega) (by omega)) (hin 20 14 (by omega) (by omega) (by omega)) (hin 20 13 (by omega) (by omega) (by omega)) (hin 20 12 (by omega) (by omega) (by omega)) (hin 20 11 (by omega) (by omega) (by omega))).trans f_1006
    have f_1008 : F_958 (ad 20) = rw7 G s_12 := (o_963 (ad 20) (fun i hS => hin 20 i (by omega) (by omega) (by omega))).trans f_1007
    have f_1009 : F_910 (ad 21) = rw7 G s_13 := (o_914 (ad 21) ).trans hs_13
    have f_1010 : F_916 (ad 21) = rw7 G s_13 := (hp_917.2 (ad 21) (fun i hS => hin 21 i (by omega) (by omega) (by omega))).trans f_1009
    have f_1011 : F_941 (ad 21) = rw7 G s_13 := (o_952 (ad 21) (hin 21 134 (by omega) (by omega) (by omega)) (hin 21 14 (by omega) (by omega) (by omega)) (hin 21 13 (by omega) (by omega) (by omega)) (hin 21 12 (by omega) (by omega) (by omega)) (hin 21 11 (by omega) (by omega) (by omega))).trans f_1010
    have f_1012 : F_958 (ad 21) = rw7 G s_13 := (o_963 (ad 21) (fun i hS => hin 21 i (by omega) (by omega) (by omega))).trans f_1011
    exact r_i C0 hr hlk hw (v := (lowR ((m_push ((st.2.2.2.2.2 (6 + f9))) ((st.2.2.2.2.2 g9)) (st.1))))) rfl ⟨rfl, sta_row hn (t := ordT 112 t9) (u := ordR 112 f9 g9 st.1 st.2.2.2.2.2) (by unfold ordT; simp; omega) f_965 rfl rfl (f_962) (fun i0 hi => by simp [ordT] at hi; exact ((o_963 (ad (i0)) (fun i hS => hin (i0) i (by omega) (by omega) (by omega)))).trans (((o_952 (ad (i0)) (hin (i0) 134 (by omega) (by omega) (by omega)) (hin (i0) 14 (by omega) (by omega) (by omega)) (hin (i0) 13 (by omega) (by omega) (by omega)) (hin (i0) 12 (by omega) (by omega) (by omega)) (hin (i0) 11 (by omega) (by omega) (by omega)))).trans (((hp_917.2 (ad (i0)) (fun i hS => hin (i0) i (by omega) (by omega) (by omega)))).trans ((o_914 (ad (i0)) ))))), ⟨f_968, lt14 ⟨_, f_972⟩ ⟨_, f_976⟩ ⟨_, f_980⟩ ⟨_, f_981⟩ ⟨_, f_982⟩ ⟨_, f_983⟩ ⟨_, f_984⟩ ⟨_, f_988⟩ ⟨_, f_992⟩ ⟨_, f_996⟩ ⟨_, f_1000⟩ ⟨_, f_1004⟩ ⟨_, f_1008⟩ ⟨_, f_1012⟩⟩, ⟨_, f_966⟩, (fun q hq => ((o_963 q (fun i hS => hq i (by omega))).trans ((o_952 q (hq 134 (by omega)) (hq 14 (by omega)) (hq 13 (by omega)) (hq 12 (by omega)) (hq 11 (by omega))).trans ((hp_917.2 q (fun i hS => hq i (by omega))).trans (o_914 q )))))⟩ (Nat.le_refl _) (Nat.le_refl _) dX5_carryOut_286 hQ
  · skip
    exact absurd c_11 (by omega)
set_option maxHeartbeats 4000000 in
set_option maxRecDepth 100000 in
theorem c_X5_carryOut_108 (l : Launch) (G : Gl) (L : List Nat) (F : Nat → va_E) (ad : Nat → Nat) (hL : ∀ i, i < 166 → ad i ∈ L) (hin : ∀ i j, i < 166 → j < 166 → i ≠ j → ad i ≠ ad j) (f9 g9 t9 : Nat) (st : Sta) (u9 : Nat → ZP) (fx : F (ad 0) = xO ad) (hn : sta G F ad 22 st) (hrk : rkW G F ad) (h134 : F (ad 134) = rw7 G u9) (hf9 : f9 < 6) (hg9 : g9 < 6) (ht9 : t9 < 6) (hm : 6 * st.1 ≤ st.2.1) (hc : st.1 ≤ 6) (hc2 : 2 ≤ st.1) (hpu : st.2.1 ≤ 100000) : CI l yX5_carryOut cX5_carryOut 8 (some .int) rm_X5_carryOut G L F [.ref (ad 0), .int (nI (108)), .int (nI (f9)), .int (nI (g9)), .int (nI (t9))] (fun r F1 => r = lowR (ordR 108 f9 g9 st.1 st.2.2.2.2.2) ∧ sta G F1 ad 22 (ordS 108 f9 g9 t9 st) ∧ rkW G F1 ad ∧ (∃ u, F1 (ad 134) = rw7 G u) ∧ ∀ q, (∀ i, (i = 22 ∨ (26 ≤ i ∧ i < 38) ∨ (8 ≤ i ∧ i < 22) ∨ i = 134) → q ≠ ad i) → F1 q = F q) := by
  obtain ⟨s_13, hs_13⟩ := hrk.2 13 (by decide)
  obtain ⟨s_12, hs_12⟩ := hrk.2 12 (by decide)
  obtain ⟨s_11, hs_11⟩ := hrk.2 11 (by decide)
  obtain ⟨s_10, hs_10⟩ := hrk.2 10 (by decide)
  obtain ⟨s_9, hs_9⟩ := hrk.2 9 (by decide)
  obtain ⟨s_8, hs_8⟩ := hrk.2 8 (by decide)
  obtain ⟨s_7, hs_7⟩ := hrk.2 7 (by decide)
  obtain ⟨s_6, hs_6⟩ := hrk.2 6 (by decide)
  obtain ⟨s_5, hs_5⟩ := hrk.2 5 (by decide)
  obtain ⟨s_4, hs_4⟩ := hrk.2 4 (by decide)
  obtain ⟨s_3, hs_3⟩ := hrk.2 3 (by decide)
  obtain ⟨s_2, hs_2⟩ := hrk.2 2 (by decide)
  obtain ⟨s_1, hs_1⟩ := hrk.2 1 (by decide)
  obtain ⟨s_0, hs_0⟩ := hrk.2 0 (by decide)
  refine CG_of (by decide) (Nat.le_of_ble_eq_true rfl) rfl ?_
  intro p e s m args below meth c Q C0 hr hlk hnm hQ hw ls hl
  have hx := C0.x
  have hb := C0.b
  refine lv_aload_n hx hb dX5_carryOut_0 rfl (lv_at hl 0 rfl) ?_
  refine lv_iload_n hx hb dX5_carryOut_1 rfl (lv_at hl 1 rfl) ?_
  refine q_calli hw (q_runS (As := [.int (nI (108))]) (c_X5_unitsOf_108 l G L F ) C0 hw sw_X5_225 rfl hl.1 rfl (Nat.le_of_ble_eq_true rfl) dX5_carryOut_2 ⟨by decide, by decide⟩ ⟨by decide, by decide⟩) rfl rfl (fun r_1015 F_1013 H locs hw hp_1014 => ?_)
  obtain ⟨he_1016, o_1017⟩ := hp_1014
  subst he_1016
  have f_1018 : F_1013 (ad 0) = xO ad := (o_1017 (ad 0) ).trans fx
  refine q_callv hw (q_runV (As := [.int (nI (6))]) (c_X5_pay l G L F_1013 ad hL hin 6 st f_1018 (hn.keep (fun i0 hi => (o_1017 (ad (i0)) ))) (by omega)) C0 hw vw_X5_114 ((hL 0 (by omega))) f_1018 rfl rfl rfl hl.1 rfl (Nat.le_of_ble_eq_true rfl) dX5_carryOut_5 ⟨by decide, by decide⟩ ⟨by decide, by decide⟩) rfl rfl (fun F_1019 H locs hw hp_1020 => ?_)
  refine lv_iload_n hx hb dX5_carryOut_8 rfl (lv_at hl 1 rfl) ?_
  refine lv_bipush (v := nI 98) hx hb dX5_carryOut_9 (by decide) ?_
  refine n_icmp_ne (tgt := 27) hx hb dX5_carryOut_11 (by decide) (by decide) (by decide) (fun c_11 => ?_) (fun c_11 => ?_)
  · skip
    refine lv_aload_n hx hb dX5_carryOut_27 rfl (lv_at hl 0 rfl) ?_
    have f_1021 : F_1019 (ad 0) = xO ad := (hp_1020.2 (ad 0) (fun i hS => hin 0 i (by omega) (by omega) (by omega))).trans f_1018
    refine q_get C0 hw ((hL 0 (by omega))) f_1021 fw_X5_12 rfl dX5_carryOut_28 ?_
    refine q_get C0 hw ((hL 22 (by omega))) hp_1020.1 fw_X5_66 rfl dX5_carryOut_31 ?_
    have f_1022 : F_1013 (ad 23) = .inr (2, [.int (nI (st.1)), .ref (ad 24), .ref (ad 25)]) := (o_1017 (ad 23) ).trans hn.2.1
    have f_1023 : F_1019 (ad 23) = .inr (2, [.int (nI (st.1)), .ref (ad 24), .ref (ad 25)]) := (hp_1020.2 (ad 23) (fun i hS => hin 23 i (by omega) (by omega) (by omega))).trans f_1022
    refine q_get C0 hw ((hL 23 (by omega))) f_1023 fw_X5_85 rfl dX5_carryOut_34 ?_
    refine lv_astore (lv' := [(5, .ref (ad 24)), (0, .ref (ad 0)), (1, .int (nI (108))), (2, .int (nI (f9))), (3, .int (nI (g9))), (4, .int (nI (t9)))]) hx hb dX5_carryOut_37 hl (by decide) rfl (fun ls hl => ?_)
    refine lv_aload_n hx hb dX5_carryOut_39 rfl (lv_at hl 1 rfl) ?_
    refine q_get C0 hw ((hL 0 (by omega))) f_1021 fw_X5_12 rfl dX5_carryOut_40 ?_
    refine q_get C0 hw ((hL 22 (by omega))) hp_1020.1 fw_X5_66 rfl dX5_carryOut_43 ?_
    refine q_get C0 hw ((hL 23 (by omega))) f_1023 fw_X5_93 rfl dX5_carryOut_46 ?_
    refine lv_astore (lv' := [(6, .ref (ad 25)), (5, .ref (ad 24)), (0, .ref (ad 0)), (1, .int (nI (108))), (2, .int (nI (f9))), (3, .int (nI (g9))), (4, .int (nI (t9)))]) hx hb dX5_carryOut_49 hl (by decide) rfl (fun ls hl => ?_)
    refine lv_aload_n hx hb dX5_carryOut_51 rfl (lv_at hl 2 rfl) ?_
    refine q_get C0 hw ((hL 0 (by omega))) f_1021 fw_X5_12 rfl dX5_carryOut_52 ?_
    refine q_get C0 hw ((hL 22 (by omega))) hp_1020.1 fw_X5_66 rfl dX5_carryOut_55 ?_
    refine q_get C0 hw ((hL 23 (by omega))) f_1023 fw_X5_70 rfl dX5_carryOut_58 ?_
    refine lv_istore (lv' := [(7, .int (nI (st.1))), (6, .ref (ad 25)), (5, .ref (ad 24)), (0, .ref (ad 0)), (1, .int (nI (108))), (2, .int (nI (f9))), (3, .int (nI (g9))), (4, .int (nI (t9)))]) hx hb dX5_carryOut_61 hl (by decide) rfl (fun ls hl => ?_)
    refine lv_iload_n hx hb dX5_carryOut_63 rfl (lv_at hl 4 rfl) ?_
    refine lv_tableIn (off := 223) (tgt := 287) hx hb dX5_carryOut_64 (by decide) (by decide) rfl (by decide) ?_
    refine lv_aload_n hx hb dX5_carryOut_287 rfl (lv_at hl 3 rfl) ?_
    refine q_get C0 hw ((hL 0 (by omega))) f_1021 fw_X5_44 rfl dX5_carryOut_288 ?_
    refine lv_aload hx hb dX5_carryOut_291 (lv_at hl 1 rfl) ?_
    refine lv_iload_n hx hb dX5_carryOut_293 rfl (lv_at hl 5 rfl) ?_
    have f_1024 : F_1013 (ad 25) = oE G (fun i => ad (32 + i)) := (o_1017 (ad 25) ).trans hn.2.2.2.1
    have f_1025 : F_1019 (ad 25) = oE G (fun i => ad (32 + i)) := (hp_1020.2 (ad 25) (fun i hS => hin 25 i (by omega) (by omega) (by omega))).trans f_1024
    refine q_aaldi C0 hw ((hL 25 (by omega))) f_1025 (f9) (by omega) (by decide) (b := ad (32 + f9)) rfl dX5_carryOut_294 ?_
    refine lv_iload hx hb dX5_carryOut_295 (lv_at hl 0 rfl) ?_
    refine lv_aload_n hx hb dX5_carryOut_297 rfl (lv_at hl 3 rfl) ?_
    refine q_get C0 hw ((hL 0 (by omega))) f_1021 fw_X5_48 rfl dX5_carryOut_298 ?_
    have f_1026 : F_1013 (ad (32 + f9)) = rw7 G ((st.2.2.2.2.2 (6 + f9))) := (o_1017 (ad (32 + f9)) ).trans ((show F (ad (32 + f9)) = _ from by have h9 := hn.2.2.2.2 (6 + f9) (by omega); rwa [show 22 + 4 + (6 + f9) = 32 + f9 by omega] at h9))
    have f_1027 : F_1019 (ad (32 + f9)) = rw7 G ((st.2.2.2.2.2 (6 + f9))) := (hp_1020.2 (ad (32 + f9)) (fun i hS => hin (32 + f9) i (by omega) (by omega) (by omega))).trans f_1026
    have f_1028 : F_1013 (ad 134) = rw7 G u9 := (o_1017 (ad 134) ).trans h134
    have f_1029 : F_1019 (ad 134) = rw7 G u9 := (hp_1020.2 (ad 134) (fun i hS => hin 134 i (by omega) (by omega) (by omega))).trans f_1028
    have f_1030 : F_1013 (ad 12) = rw7 G s_4 := (o_1017 (ad 12) ).trans hs_4
    have f_1031 : F_1019 (ad 12) = rw7 G s_4 := (hp_1020.2 (ad 12) (fun i hS => hin 12 i (by omega) (by omega) (by omega))).trans f_1030
    have f_1032 : F_1013 (ad 9) = rw7 G s_1 := (o_1017 (ad 9) ).trans hs_1
    have f_1033 : F_1019 (ad 9) = rw7 G s_1 := (hp_1020.2 (ad 9) (fun i hS => hin 9 i (by omega) (by omega) (by omega))).trans f_1032
    have f_1034 : F_1013 (ad 10) = rw7 G s_2 := (o_1017 (ad 10) ).trans hs_2
    have f_1035 : F_1019 (ad 10) = rw7 G s_2 := (hp_1020.2 (ad 10) (fun i hS => hin 10 i (by omega) (by omega) (by omega))).trans f_1034
    have f_1036 : F_1013 (ad 7) = rkO (fun i => ad (8 + i)) := (o_1017 (ad 7) ).trans hrk.1
    have f_1037 : F_1019 (ad 7) = rkO (fun i => ad (8 + i)) := (hp_1020.2 (ad 7) (fun i hS => hin 7 i (by omega) (by omega) (by omega))).trans f_1036
    refine q_callv hw (q_runV (As := [.ref (ad (32 + f9)), .int (nI (st.1)), .ref (ad 134)]) (c_X1_logarithm l G L F_1019 (ad 7) (fun i => ad (8 + i)) (ad (32 + f9)) (ad 134) (st.1) ((st.2.2.2.2.2 (6 + f9))) u9 s_4 s_1 s_2  ((hL 7 (by omega))) f_1037 (fun i hi => hL (8 + i) (by omega)) (ra_inj hin) ((hL (32 + f9) (by omega))) f_1027 ((hL 134 (by omega))) f_1029 f_1031 f_1033 f_1035 (hin (32 + f9) 134 (by omega) (by omega) (by omega)) (hin (32 + f9) 12 (by omega) (by omega) (by omega)) (hin 134 12 (by omega) (by omega) (by omega)) (hin (32 + f9) 9 (by omega) (by omega) (by omega)) (hin 134 9 (by omega) (by omega) (by omega)) (hin (32 + f9) 10 (by omega) (by omega) (by omega)) (hin 134 10 (by omega) (by omega) (by omega)) (by omega) (by omega) ) C0 hw vw_X5_319 ((hL 7 (by omega))) f_1037 rfl rfl rfl hl.1 rfl (Nat.le_of_ble_eq_true rfl) dX5_carryOut_301 ⟨by decide, by decide⟩ ⟨by decide, by decide⟩) rfl rfl (fun F_1038 H locs hw hp_1039 => ?_)
    obtain ⟨f_1040, ⟨t_1044, f_1041⟩, ⟨t_1045, f_1042⟩, ⟨t_1046, f_1043⟩, o_1047⟩ := hp_1039
    refine lv_aload_n hx hb dX5_carryOut_304 rfl (lv_at hl 3 rfl) ?_
    refine lv_aload hx hb dX5_carryOut_305 (lv_at hl 2 rfl) ?_
    refine lv_iload hx hb dX5_carryOut_307 (lv_at hl 7 rfl) ?_
    have f_1048 : F_1013 (ad 24) = oE G (fun i => ad (26 + i)) := (o_1017 (ad 24) ).trans hn.2.2.1
    have f_1049 : F_1019 (ad 24) = oE G (fun i => ad (26 + i)) := (hp_1020.2 (ad 24) (fun i hS => hin 24 i (by omega) (by omega) (by omega))).trans f_1048
    have f_1050 : F_1038 (ad 24) = oE G (fun i => ad (26 + i)) := (o_1047 (ad 24) (hin 24 134 (by omega) (by omega) (by omega)) (hin 24 12 (by omega) (by omega) (by omega)) (hin 24 9 (by omega) (by omega) (by omega)) (hin 24 10 (by omega) (by omega) (by omega))).trans f_1049
    refine q_aaldi C0 hw ((hL 24 (by omega))) f_1050 (t9) (by omega) (by decide) (b := ad (26 + t9)) rfl dX5_carryOut_309 ?_
    have f_1051 : F_1013 (ad (26 + t9)) = rw7 G ((st.2.2.2.2.2 t9)) := (o_1017 (ad (26 + t9)) ).trans ((hn.2.2.2.2 t9 (by omega)))
    have f_1052 : F_1019 (ad (26 + t9)) = rw7 G ((st.2.2.2.2.2 t9)) := (hp_1020.2 (ad (26 + t9)) (fun i hS => hin (26 + t9) i (by omega) (by omega) (by omega))).trans f_1051
    have f_1053 : F_1038 (ad (26 + t9)) = rw7 G ((st.2.2.2.2.2 t9)) := (o_1047 (ad (26 + t9)) (hin (26 + t9) 134 (by omega) (by omega) (by omega)) (hin (26 + t9) 12 (by omega) (by omega) (by omega)) (hin (26 + t9) 9 (by omega) (by omega) (by omega)) (hin (26 + t9) 10 (by omega) (by omega) (by omega))).trans f_1052
    have f_1054 : F_1038 (ad 0) = xO ad := (o_1047 (ad 0) (hin 0 134 (by omega) (by omega) (by omega)) (hin 0 12 (by omega) (by omega) (by omega)) (hin 0 9 (by omega) (by omega) (by omega)) (hin 0 10 (by omega) (by omega) (by omega))).trans f_1021
    refine q_calli hw (q_runV (As := [.ref (ad (26 + t9))]) (c_X5_put l G L F_1038 ad hL hin t9 ((m_log ((st.2.2.2.2.2 (6 + f9))) (st.1))) ((st.2.2.2.2.2 t9)) f_1054 f_1040 f_1053 (by omega)) C0 hw vw_X5_127 ((hL 0 (by omega))) f_1054 rfl rfl rfl hl.1 rfl (Nat.le_of_ble_eq_true rfl) dX5_carryOut_310 ⟨by decide, by decide⟩ ⟨by decide, by decide⟩) rfl rfl (fun r_1057 F_1055 H locs hw hp_1056 => ?_)
    obtain ⟨he_1058, f_1059, o_1060⟩ := hp_1056
    subst he_1058
    have f_1061 : F_1038 (ad 22) = .inr (3, [.ref (ad 23), .int (nI (st.2.1 - 6 * st.1)), .int (nI (st.2.2.1 + 6 * st.1)), .int (nI (st.2.2.2.1 + 1)), .int (nI (st.2.2.2.2.1))]) := (o_1047 (ad 22) (hin 22 134 (by omega) (by omega) (by omega)) (hin 22 12 (by omega) (by omega) (by omega)) (hin 22 9 (by omega) (by omega) (by omega)) (hin 22 10 (by omega) (by omega) (by omega))).trans hp_1020.1
    have f_1062 : F_1055 (ad 22) = .inr (3, [.ref (ad 23), .int (nI (st.2.1 - 6 * st.1)), .int (nI (st.2.2.1 + 6 * st.1)), .int (nI (st.2.2.2.1 + 1)), .int (nI (st.2.2.2.2.1))]) := (o_1060 (ad 22) (fun i hS => hin 22 i (by omega) (by omega) (by omega))).trans f_1061
    have f_1063 : F_1055 (ad 134) = rw7 G ((m_log ((st.2.2.2.2.2 (6 + f9))) (st.1))) := (o_1060 (ad 134) (fun i hS => hin 134 i (by omega) (by omega) (by omega))).trans f_1040
    have f_1064 : F_1038 (ad 7) = rkO (fun i => ad (8 + i)) := (o_1047 (ad 7) (hin 7 134 (by omega) (by omega) (by omega)) (hin 7 12 (by omega) (by omega) (by omega)) (hin 7 9 (by omega) (by omega) (by omega)) (hin 7 10 (by omega) (by omega) (by omega))).trans f_1037
    have f_1065 : F_1055 (ad 7) = rkO (fun i => ad (8 + i)) := (o_1060 (ad 7) (fun i hS => hin 7 i (by omega) (by omega) (by omega))).trans f_1064
    have f_1066 : F_1013 (ad 8) = rw7 G s_0 := (o_1017 (ad 8) ).trans hs_0
    have f_1067 : F_1019 (ad 8) = rw7 G s_0 := (hp_1020.2 (ad 8) (fun i hS => hin 8 i (by omega) (by omega) (by omega))).trans f_1066
    have f_1068 : F_1038 (ad 8) = rw7 G s_0 := (o_1047 (ad 8) (hin 8 134 (by omega) (by omega) (by omega)) (hin 8 12 (by omega) (by omega) (by omega)) (hin 8 9 (by omega) (by omega) (by omega)) (hin 8 10 (by omega) (by omega) (by omega))).trans f_1067
    have f_1069 : F_1055 (ad 8) = rw7 G s_0 := (o_1060 (ad 8) (fun i hS => hin 8 i (by omega) (by omega) (by omega))).trans f_1068
    have f_1070 : F_1055 (ad 9) = rw7 G t_1045 := (o_1060 (ad 9) (fun i hS => hin 9 i (by omega) (by omega) (by omega))).trans f_1042
    have f_1071 : F_1055 (ad 10) = rw7 G t_1046 := (o_1060 (ad 10) (fun i hS => hin 10 i (by omega) (by omega) (by omega))).trans f_1043
    have f_1072 : F_1013 (ad 11) = rw7 G s_3 := (o_1017 (ad 11) ).trans hs_3
    have f_1073 : F_1019 (ad 11) = rw7 G s_3 := (hp_1020.2 (ad 11) (fun i hS => hin 11 i (by omega) (by omega) (by omega))).trans f_1072
    have f_1074 : F_1038 (ad 11) = rw7 G s_3 := (o_1047 (ad 11) (hin 11 134 (by omega) (by omega) (by omega)) (hin 11 12 (by omega) (by omega) (by omega)) (hin 11 9 (by omega) (by omega) (by omega)) (hin 11 10 (by omega) (by omega) (by omega))).trans f_1073
    have f_1075 : F_1055 (ad 11) = rw7 G s_3 := (o_1060 (ad 11) (fun i hS => hin 11 i (by omega) (by omega) (by omega))).trans f_1074
    have f_1076 : F_1055 (ad 12) = rw7 G t_1044 := (o_1060 (ad 12) (fun i hS => hin 12 i (by omega) (by omega) (by omega))).trans f_1041
    have f_1077 : F_1013 (ad 13) = rw7 G s_5 := (o_1017 (ad 13) ).trans hs_5
    have f_1078 : F_1019 (ad 13) = rw7 G s_5 := (hp_1020.2 (ad 13) (fun i hS => hin 13 i (by omega) (by omega) (by omega))).trans f_1077
    have f_1079 : F_1038 (ad 13) = rw7 G s_5 := (o_1047 (ad 13) (hin 13 134 (by omega) (by omega) (by omega)) (hin 13 12 (by omega) (by omega) (by omega)) (hin 13 9 (by omega) (by omega) (by omega)) (hin 13 10 (by omega) (by omega) (by omega))).trans f_1078
    have f_1080 : F_1055 (ad 13) = rw7 G s_5 := (o_1060 (ad 13) (fun i hS => hin 13 i (by omega) (by omega) (by omega))).trans f_1079
    have f_1081 : F_1013 (ad 14) = rw7 G s_6 := (o_1017 (ad 14) ).trans hs_6
    have f_1082 : F_1019 (ad 14) = rw7 G s_6 := (hp_1020.2 (ad 14) (fun i hS => hin 14 i (by omega) (by omega) (by omega))).trans f_1081
    have f_1083 : F_1038 (ad 14) = rw7 G s_6 := (o_1047 (ad 14) (hin 14 134 (by omega) (by omega) (by omega)) (hin 14 12 (by omega) (by omega) (by omega)) (hin 14 9 (by omega) (by omega) (by omega)) (hin 14 10 (by omega) (by omega) (by omega))).trans f_1082
    have f_1084 : F_1055 (ad 14) = rw7 G s_6 := (o_1060 (ad 14) (fun i hS => hin 14 i (by omega) (by omega) (by omega))).trans f_1083
    have f_1085 : F_1013 (ad 15) = rw7 G s_7 := (o_1017 (ad 15) ).trans hs_7
    have f_1086 : F_1019 (ad 15) = rw7 G s_7 := (hp_1020.2 (ad 15) (fun i hS => hin 15 i (by omega) (by omega) (by omega))).trans f_1085
    have f_1087 : F_1038 (ad 15) = rw7 G s_7 := (o_1047 (ad 15) (hin 15 134 (by omega) (by omega) (by omega)) (hin 15 12 (by omega) (by omega) (by omega)) (hin 15 9 (by omega) (by omega) (by omega)) (hin 15 10 (by omega) (by omega) (by omega))).trans f_1086
    have f_1088 : F_1055 (ad 15) = rw7 G s_7 := (o_1060 (ad 15) (fun i hS => hin 15 i (by omega) (by omega) (by omega))).trans f_1087
    have f_1089 : F_1013 (ad 16) = rw7 G s_8 := (o_1017 (ad 16) ).trans hs_8
    have f_1090 : F_1019 (ad 16) = rw7 G s_8 := (hp_1020.2 (ad 16) (fun i hS => hin 16 i (by omega) (by omega) (by omega))).trans f_1089
    have f_1091 : F_1038 (ad 16) = rw7 G s_8 := (o_1047 (ad 16) (hin 16 134 (by omega) (by omega) (by omega)) (hin 16 12 (by omega) (by omega) (by omega)) (hin 16 9 (by omega) (by omega) (by omega)) (hin 16 10 (by omega) (by omega) (by omega))).trans f_1090
    have f_1092 : F_1055 (ad 16) = rw7 G s_8 := (o_1060 (ad 16) (fun i hS => hin 16 i (by omega) (by omega) (by omega))).trans f_1091
    have f_1093 : F_1013 (ad 17) = rw7 G s_9 := (o_1017 (ad 17) ).trans hs_9
    have f_1094 : F_1019 (ad 17) = rw7 G s_9 := (hp_1020.2 (ad 17) (fun i hS => hin 17 i (by omega) (by omega) (by omega))).trans f_1093
    have f_1095 : F_1038 (ad 17) = rw7 G s_9 := (o_1047 (ad 17) (hin 17 134 (by omega) (by omega) (by omega)) (hin 17 12 (by omega) (by omega) (by omega)) (hin 17 9 (by omega) (by omega) (by omega)) (hin 17 10 (by omega) (by omega) (by omega))).trans f_1094
    have f_1096 : F_1055 (ad 17) = rw7 G s_9 := (o_1060 (ad 17) (fun i hS => hin 17 i (by omega) (by omega) (by omega))).trans f_1095
    have f_1097 : F_1013 (ad 18) = rw7 G s_10 := (o_1017 (ad 18) ).trans hs_10
    have f_1098 : F_1019 (ad 18) = rw7 G s_10 := (hp_1020.2 (ad 18) (fun i hS => hin 18 i (by omega) (by omega) (by omega))).trans f_1097
    have f_1099 : F_1038 (ad 18) = rw7 G s_10 := (o_1047 (ad 18) (hin 18 134 (by omega) (by omega) (by omega)) (hin 18 12 (by omega) (by omega) (by omega)) (hin 18 9 (by omega) (by omega) (by omega)) (hin 18 10 (by omega) (by omega) (by omega))).trans f_1098
    have f_1100 : F_1055 (ad 18) = rw7 G s_10 := (o_1060 (ad 18) (fun i hS => hin 18 i (by omega) (by omega) (by omega))).trans f_1099
    have f_1101 : F_1013 (ad 19) = rw7 G s_11 := (o_1017 (ad 19) ).trans hs_11
    have f_1102 : F_1019 (ad 19) = rw7 G s_11 := (hp_1020.2 (ad 19) (fun i hS => hin 19 i (by omega) (by omega) (by omega))).trans f_1101
    have f_1103 : F_1038 (ad 19) = rw7 G s_11 := (o_1047 (ad 19) (hin 19 134 (by omega) (by omega) (by omega)) (hin 19 12 (by omega) (by omega) (by omega)) (hin 19 9 (by omega) (by omega) (by omega)) (hin 19 10 (by omega) (by omega) (by omega))).trans f_1102
    have f_1104 : F_1055 (ad 19) = rw7 G s_11 := (o_1060 (ad 19) (fun i hS => hin 19 i (by omega) (by omega) (by omega))).trans f_1103
    have f_1105 : F_1013 (ad 20) = rw7 G s_12 := (o_1017 (ad 20) ).trans hs_12
    have f_1106 : F_1019 (ad 20) = rw7 G s_12 := (hp_1020.2 (ad 20) (fun i hS => hin 20 i (by omega) (by omega) (by omega))).trans f_1105
    have f_1107 : F_1038 (ad 20) = rw7 G s_12 := (o_1047 (ad 20) (hin 20 134 (by omega) (by omega) (by omega)) (hin 20 12 (by omega) (by omega) (by omega)) (hin 20 9 (by omega) (by omega) (by omega)) (hin 20 10 (by omega) (by omega) (by omega))).trans f_1106
    have f_1108 : F_1055 (ad 20) = rw7 G s_12 := (o_1060 (ad 20) (fun i hS => hin 20 i (by omega) (by omega) (by omega))).trans f_1107
    have f_1109 : F_1013 (ad 21) = rw7 G s_13 := (o_1017 (ad 21) ).trans hs_13
    have f_1110 : F_1019 (ad 21) = rw7 G s_13 := (hp_1020.2 (ad 21) (fun i hS => hin 21 i (by omega) (by omega) (by omega))).trans f_1109
    have f_1111 : F_1038 (ad 21) = rw7 G s_13 := (o_1047 (ad 21) (hin 21 134 (by omega) (by omega) (by omega)) (hin 21 12 (by omega) (by omega) (by omega)) (hin 21 9 (by omega) (by omega) (by omega)) (hin 21 10 (by omega) (by omega) (by omega))).trans f_1110
    have f_1112 : F_1055 (ad 21) = rw7 G s_13 := (o_1060 (ad 21) (fun i hS => hin 21 i (by omega) (by omega) (by omega))).trans f_1111
    exact r_i C0 hr hlk hw (v := (lowR ((m_log ((st.2.2.2.2.2 (6 + f9))) (st.1))))) rfl ⟨rfl, sta_row hn (t := ordT 108 t9) (u := ordR 108 f9 g9 st.1 st.2.2.2.2.2) (by unfold ordT; simp; omega) f_1062 rfl rfl (f_1059) (fun i0 hi => by simp [ordT] at hi; exact ((o_1060 (ad (i0)) (fun i hS => hin (i0) i (by omega) (by omega) (by omega)))).trans (((o_1047 (ad (i0)) (hin (i0) 134 (by omega) (by omega) (by omega)) (hin (i0) 12 (by omega) (by omega) (by omega)) (hin (i0) 9 (by omega) (by omega) (by omega)) (hin (i0) 10 (by omega) (by omega) (by omega)))).trans (((hp_1020.2 (ad (i0)) (fun i hS => hin (i0) i (by omega) (by omega) (by omega)))).trans ((o_1017 (ad (i0)) ))))), ⟨f_1065, lt14 ⟨_, f_1069⟩ ⟨_, f_1070⟩ ⟨_, f_1071⟩ ⟨_, f_1075⟩ ⟨_, f_1076⟩ ⟨_, f_1080⟩ ⟨_, f_1084⟩ ⟨_, f_1088⟩ ⟨_, f_1092⟩ ⟨_, f_1096⟩ ⟨_, f_1100⟩ ⟨_, f_1104⟩ ⟨_, f_1108⟩ ⟨_, f_1112⟩⟩, ⟨_, f_1063⟩, (fun q hq => ((o_1060 q (fun i hS => hq i (by omega))).trans ((o_1047 q (hq 134 (by omega)) (hq 12 (by omega)) (hq 9 (by omega)) (hq 10 (by omega))).trans ((hp_1020.2 q (fun i hS => hq i (by omega))).trans (o_1017 q )))))⟩ (Nat.le_refl _) (Nat.le_refl _) dX5_carryOut_313 hQ
  · skip
    exact absurd c_11 (by omega)
set_option maxHeartbeats 4000000 in
set_option maxRecDepth 100000 in
theorem c_X5_carryOut_101 (l : Launch) (G : Gl) (L : List Nat) (F : Nat → va_E) (ad : Nat → Nat) (hL : ∀ i, i < 166 → ad i ∈ L) (hin : ∀ i j, i < 166 → j < 166 → i ≠ j → ad i ≠ ad j) (f9 g9 t9 : Nat) (st : Sta) (u9 : Nat → ZP) (fx : F (ad 0) = xO ad) (hn : sta G F ad 22 st) (hrk : rkW G F ad) (h134 : F (ad 134) = rw7 G u9) (hf9 : f9 < 6) (hg9 : g9 < 6) (ht9 : t9 < 6) (hm : 5 * st.1 ≤ st.2.1) (hc : st.1 ≤ 6) (hc2 : 2 ≤ st.1) (hpu : st.2.1 ≤ 100000) : CI l yX5_carryOut cX5_carryOut 8 (some .int) rm_X5_carryOut G L F [.ref (ad 0), .int (nI (101)), .int (nI (f9)), .int (nI (g9)), .int (nI (t9))] (fun r F1 => r = lowR (ordR 101 f9 g9 st.1 st.2.2.2.2.2) ∧ sta G F1 ad 22 (ordS 101 f9 g9 t9 st) ∧ rkW G F1 ad ∧ (∃ u, F1 (ad 134) = rw7 G u) ∧ ∀ q, (∀ i, (i = 22 ∨ (26 ≤ i ∧ i < 38) ∨ (8 ≤ i ∧ i < 22) ∨ i = 134) → q ≠ ad i) → F1 q = F q) := by
  obtain ⟨s_13, hs_13⟩ := hrk.2 13 (by decide)
  obtain ⟨s_12, hs_12⟩ := hrk.2 12 (by decide)
  obtain ⟨s_11, hs_11⟩ := hrk.2 11 (by decide)
  obtain ⟨s_10, hs_10⟩ := hrk.2 10 (by decide)
  obtain ⟨s_9, hs_9⟩ := hrk.2 9 (by decide)
  obtain ⟨s_8, hs_8⟩ := hrk.2 8 (by decide)
  obtain ⟨s_7, hs_7⟩ := hrk.2 7 (by decide)
  obtain ⟨s_6, hs_6⟩ := hrk.2 6 (by decide)
  obtain ⟨s_5, hs_5⟩ := hrk.2 5 (by decide)
  obtain ⟨s_4, hs_4⟩ := hrk.2 4 (by decide)
  obtain ⟨s_3, hs_3⟩ := hrk.2 3 (by decide)
  obtain ⟨s_2, hs_2⟩ := hrk.2 2 (by decide)
  obtain ⟨s_1, hs_1⟩ := hrk.2 1 (by decide)
  obtain ⟨s_0, hs_0⟩ := hrk.2 0 (by decide)
  refine CG_of (by decide) (Nat.le_of_ble_eq_true rfl) rfl ?_
  intro p e s m args below meth c Q C0 hr hlk hnm hQ hw ls hl
  have hx := C0.x
  have hb := C0.b
  refine lv_aload_n hx hb dX5_carryOut_0 rfl (lv_at hl 0 rfl) ?_
  refine lv_iload_n hx hb dX5_carryOut_1 rfl (lv_at hl 1 rfl) ?_
  refine q_calli hw (q_runS (As := [.int (nI (101))]) (c_X5_unitsOf_101 l G L F ) C0 hw sw_X5_225 rfl hl.1 rfl (Nat.le_of_ble_eq_true rfl) dX5_carryOut_2 ⟨by decide, by decide⟩ ⟨by decide, by decide⟩) rfl rfl (fun r_1115 F_1113 H locs hw hp_1114 => ?_)
  obtain ⟨he_1116, o_1117⟩ := hp_1114
  subst he_1116
  have f_1118 : F_1113 (ad 0) = xO ad := (o_1117 (ad 0) ).trans fx
  refine q_callv hw (q_runV (As := [.int (nI (5))]) (c_X5_pay l G L F_1113 ad hL hin 5 st f_1118 (hn.keep (fun i0 hi => (o_1117 (ad (i0)) ))) (by omega)) C0 hw vw_X5_114 ((hL 0 (by omega))) f_1118 rfl rfl rfl hl.1 rfl (Nat.le_of_ble_eq_true rfl) dX5_carryOut_5 ⟨by decide, by decide⟩ ⟨by decide, by decide⟩) rfl rfl (fun F_1119 H locs hw hp_1120 => ?_)
  refine lv_iload_n hx hb dX5_carryOut_8 rfl (lv_at hl 1 rfl) ?_
  refine lv_bipush (v := nI 98) hx hb dX5_carryOut_9 (by decide) ?_
  refine n_icmp_ne (tgt := 27) hx hb dX5_carryOut_11 (by decide) (by decide) (by decide) (fun c_11 => ?_) (fun c_11 => ?_)
  · skip
    refine lv_aload_n hx hb dX5_carryOut_27 rfl (lv_at hl 0 rfl) ?_
    have f_1121 : F_1119 (ad 0) = xO ad := (hp_1120.2 (ad 0) (fun i hS => hin 0 i (by omega) (by omega) (by omega))).trans f_1118
    refine q_get C0 hw ((hL 0 (by omega))) f_1121 fw_X5_12 rfl dX5_carryOut_28 ?_
    refine q_get C0 hw ((hL 22 (by omega))) hp_1120.1 fw_X5_66 rfl dX5_carryOut_31 ?_
    have f_1122 : F_1113 (ad 23) = .inr (2, [.int (nI (st.1)), .ref (ad 24), .ref (ad 25)]) := (o_1117 (ad 23) ).trans hn.2.1
    have f_1123 : F_1119 (ad 23) = .inr (2, [.int (nI (st.1)), .ref (ad 24), .ref (ad 25)]) := (hp_1120.2 (ad 23) (fun i hS => hin 23 i (by omega) (by omega) (by omega))).trans f_1122
    refine q_get C0 hw ((hL 23 (by omega))) f_1123 fw_X5_85 rfl dX5_carryOut_34 ?_
    refine lv_astore (lv' := [(5, .ref (ad 24)), (0, .ref (ad 0)), (1, .int (nI (101))), (2, .int (nI (f9))), (3, .int (nI (g9))), (4, .int (nI (t9)))]) hx hb dX5_carryOut_37 hl (by decide) rfl (fun ls hl => ?_)
    refine lv_aload_n hx hb dX5_carryOut_39 rfl (lv_at hl 1 rfl) ?_
    refine q_get C0 hw ((hL 0 (by omega))) f_1121 fw_X5_12 rfl dX5_carryOut_40 ?_
    refine q_get C0 hw ((hL 22 (by omega))) hp_1120.1 fw_X5_66 rfl dX5_carryOut_43 ?_
    refine q_get C0 hw ((hL 23 (by omega))) f_1123 fw_X5_93 rfl dX5_carryOut_46 ?_
    refine lv_astore (lv' := [(6, .ref (ad 25)), (5, .ref (ad 24)), (0, .ref (ad 0)), (1, .int (nI (101))), (2, .int (nI (f9))), (3, .int (nI (g9))), (4, .int (nI (t9)))]) hx hb dX5_carryOut_49 hl (by decide) rfl (fun ls hl => ?_)
    refine lv_aload_n hx hb dX5_carryOut_51 rfl (lv_at hl 2 rfl) ?_
    refine q_get C0 hw ((hL 0 (by omega))) f_1121 fw_X5_12 rfl dX5_carryOut_52 ?_
    refine q_get C0 hw ((hL 22 (by omega))) hp_1120.1 fw_X5_66 rfl dX5_carryOut_55 ?_
    refine q_get C0 hw ((hL 23 (by omega))) f_1123 fw_X5_70 rfl dX5_carryOut_58 ?_
    refine lv_istore (lv' := [(7, .int (nI (st.1))), (6, .ref (ad 25)), (5, .ref (ad 24)), (0, .ref (ad 0)), (1, .int (nI (101))), (2, .int (nI (f9))), (3, .int (nI (g9))), (4, .int (nI (t9)))]) hx hb dX5_carryOut_61 hl (by decide) rfl (fun ls hl => ?_)
    refine lv_iload_n hx hb dX5_carryOut_63 rfl (lv_at hl 4 rfl) ?_
    refine lv_tableIn (off := 250) (tgt := 314) hx hb dX5_carryOut_64 (by decide) (by decide) rfl (by decide) ?_
    refine lv_aload_n hx hb dX5_carryOut_314 rfl (lv_at hl 3 rfl) ?_
    refine q_get C0 hw ((hL 0 (by omega))) f_1121 fw_X5_44 rfl dX5_carryOut_315 ?_
    refine lv_aload hx hb dX5_carryOut_318 (lv_at hl 2 rfl) ?_
    refine lv_iload_n hx hb dX5_carryOut_320 rfl (lv_at hl 5 rfl) ?_
    have f_1124 : F_1113 (ad 24) = oE G (fun i => ad (26 + i)) := (o_1117 (ad 24) ).trans hn.2.2.1
    have f_1125 : F_1119 (ad 24) = oE G (fun i => ad (26 + i)) := (hp_1120.2 (ad 24) (fun i hS => hin 24 i (by omega) (by omega) (by omega))).trans f_1124
    refine q_aaldi C0 hw ((hL 24 (by omega))) f_1125 (f9) (by omega) (by decide) (b := ad (26 + f9)) rfl dX5_carryOut_321 ?_
    refine lv_iload hx hb dX5_carryOut_322 (lv_at hl 0 rfl) ?_
    refine lv_aload_n hx hb dX5_carryOut_324 rfl (lv_at hl 3 rfl) ?_
    refine q_get C0 hw ((hL 0 (by omega))) f_1121 fw_X5_48 rfl dX5_carryOut_325 ?_
    have f_1126 : F_1113 (ad (26 + f9)) = rw7 G ((st.2.2.2.2.2 f9)) := (o_1117 (ad (26 + f9)) ).trans ((hn.2.2.2.2 f9 (by omega)))
    have f_1127 : F_1119 (ad (26 + f9)) = rw7 G ((st.2.2.2.2.2 f9)) := (hp_1120.2 (ad (26 + f9)) (fun i hS => hin (26 + f9) i (by omega) (by omega) (by omega))).trans f_1126
    have f_1128 : F_1113 (ad 134) = rw7 G u9 := (o_1117 (ad 134) ).trans h134
    have f_1129 : F_1119 (ad 134) = rw7 G u9 := (hp_1120.2 (ad 134) (fun i hS => hin 134 i (by omega) (by omega) (by omega))).trans f_1128
    have f_1130 : F_1113 (ad 9) = rw7 G s_1 := (o_1117 (ad 9) ).trans hs_1
    have f_1131 : F_1119 (ad 9) = rw7 G s_1 := (hp_1120.2 (ad 9) (fun i hS => hin 9 i (by omega) (by omega) (by omega))).trans f_1130
    have f_1132 : F_1113 (ad 10) = rw7 G s_2 := (o_1117 (ad 10) ).trans hs_2
    have f_1133 : F_1119 (ad 10) = rw7 G s_2 := (hp_1120.2 (ad 10) (fun i hS => hin 10 i (by omega) (by omega) (by omega))).trans f_1132
    have f_1134 : F_1113 (ad 7) = rkO (fun i => ad (8 + i)) := (o_1117 (ad 7) ).trans hrk.1
    have f_1135 : F_1119 (ad 7) = rkO (fun i => ad (8 + i)) := (hp_1120.2 (ad 7) (fun i hS => hin 7 i (by omega) (by omega) (by omega))).trans f_1134
    refine q_callv hw (q_runV (As := [.ref (ad (26 + f9)), .int (nI (st.1)), .ref (ad 134)]) (c_X1_exponential l G L F_1119 (ad 7) (fun i => ad (8 + i)) (ad (26 + f9)) (ad 134) (st.1) ((st.2.2.2.2.2 f9)) u9 s_1 s_2  ((hL 7 (by omega))) f_1135 (fun i hi => hL (8 + i) (by omega)) (ra_inj hin) ((hL (26 + f9) (by omega))) f_1127 ((hL 134 (by omega))) f_1129 f_1131 f_1133 (hin (26 + f9) 134 (by omega) (by omega) (by omega)) (hin (26 + f9) 9 (by omega) (by omega) (by omega)) (hin 134 9 (by omega) (by omega) (by omega)) (hin (26 + f9) 10 (by omega) (by omega) (by omega)) (hin 134 10 (by omega) (by omega) (by omega)) (by omega) (by omega) ) C0 hw vw_X5_322 ((hL 7 (by omega))) f_1135 rfl rfl rfl hl.1 rfl (Nat.le_of_ble_eq_true rfl) dX5_carryOut_328 ⟨by decide, by decide⟩ ⟨by decide, by decide⟩) rfl rfl (fun F_1136 H locs hw hp_1137 => ?_)
    obtain ⟨f_1138, ⟨t_1141, f_1139⟩, ⟨t_1142, f_1140⟩, o_1143⟩ := hp_1137
    refine lv_aload_n hx hb dX5_carryOut_331 rfl (lv_at hl 3 rfl) ?_
    refine lv_aload hx hb dX5_carryOut_332 (lv_at hl 1 rfl) ?_
    refine lv_iload hx hb dX5_carryOut_334 (lv_at hl 7 rfl) ?_
    have f_1144 : F_1113 (ad 25) = oE G (fun i => ad (32 + i)) := (o_1117 (ad 25) ).trans hn.2.2.2.1
    have f_1145 : F_1119 (ad 25) = oE G (fun i => ad (32 + i)) := (hp_1120.2 (ad 25) (fun i hS => hin 25 i (by omega) (by omega) (by omega))).trans f_1144
    have f_1146 : F_1136 (ad 25) = oE G (fun i => ad (32 + i)) := (o_1143 (ad 25) (hin 25 134 (by omega) (by omega) (by omega)) (hin 25 9 (by omega) (by omega) (by omega)) (hin 25 10 (by omega) (by omega) (by omega))).trans f_1145
    refine q_aaldi C0 hw ((hL 25 (by omega))) f_1146 (t9) (by omega) (by decide) (b := ad (32 + t9)) rfl dX5_carryOut_336 ?_
    refine n_top (show Value.ref (ad (32 + t9)) = Value.ref (ad (26 + (6 + t9))) by rw [show 32 + t9 = 26 + (6 + t9) by omega]) ?_
    have f_1147 : F_1113 (ad (26 + (6 + t9))) = rw7 G ((st.2.2.2.2.2 (6 + t9))) := (o_1117 (ad (26 + (6 + t9))) ).trans ((hn.2.2.2.2 (6 + t9) (by omega)))
    have f_1148 : F_1119 (ad (26 + (6 + t9))) = rw7 G ((st.2.2.2.2.2 (6 + t9))) := (hp_1120.2 (ad (26 + (6 + t9))) (fun i hS => hin ((26 + (6 + t9))) i (by omega) (by omega) (by omega))).trans f_1147
    have f_1149 : F_1136 (ad (26 + (6 + t9))) = rw7 G ((st.2.2.2.2.2 (6 + t9))) := (o_1143 (ad (26 + (6 + t9))) (hin ((26 + (6 + t9))) 134 (by omega) (by omega) (by omega)) (hin ((26 + (6 + t9))) 9 (by omega) (by omega) (by omega)) (hin ((26 + (6 + t9))) 10 (by omega) (by omega) (by omega))).trans f_1148
    have f_1150 : F_1136 (ad 0) = xO ad := (o_1143 (ad 0) (hin 0 134 (by omega) (by omega) (by omega)) (hin 0 9 (by omega) (by omega) (by omega)) (hin 0 10 (by omega) (by omega) (by omega))).trans f_1121
    refine q_calli hw (q_runV (As := [.ref (ad (26 + (6 + t9)))]) (c_X5_put l G L F_1136 ad hL hin (6 + t9) ((m_exp ((st.2.2.2.2.2 f9)) (st.1))) ((st.2.2.2.2.2 (6 + t9))) f_1150 f_1138 f_1149 (by omega)) C0 hw vw_X5_127 ((hL 0 (by omega))) f_1150 rfl rfl rfl hl.1 rfl (Nat.le_of_ble_eq_true rfl) dX5_carryOut_337 ⟨by decide, by decide⟩ ⟨by decide, by decide⟩) rfl rfl (fun r_1153 F_1151 H locs hw hp_1152 => ?_)
    obtain ⟨he_1154, f_1155, o_1156⟩ := hp_1152
    subst he_1154
    have f_1157 : F_1136 (ad 22) = .inr (3, [.ref (ad 23), .int (nI (st.2.1 - 5 * st.1)), .int (nI (st.2.2.1 + 5 * st.1)), .int (nI (st.2.2.2.1 + 1)), .int (nI (st.2.2.2.2.1))]) := (o_1143 (ad 22) (hin 22 134 (by omega) (by omega) (by omega)) (hin 22 9 (by omega) (by omega) (by omega)) (hin 22 10 (by omega) (by omega) (by omega))).trans hp_1120.1
    have f_1158 : F_1151 (ad 22) = .inr (3, [.ref (ad 23), .int (nI (st.2.1 - 5 * st.1)), .int (nI (st.2.2.1 + 5 * st.1)), .int (nI (st.2.2.2.1 + 1)), .int (nI (st.2.2.2.2.1))]) := (o_1156 (ad 22) (fun i hS => hin 22 i (by omega) (by omega) (by omega))).trans f_1157
    have f_1159 : F_1151 (ad 134) = rw7 G ((m_exp ((st.2.2.2.2.2 f9)) (st.1))) := (o_1156 (ad 134) (fun i hS => hin 134 i (by omega) (by omega) (by omega))).trans f_1138
    have f_1160 : F_1136 (ad 7) = rkO (fun i => ad (8 + i)) := (o_1143 (ad 7) (hin 7 134 (by omega) (by omega) (by omega)) (hin 7 9 (by omega) (by omega) (by omega)) (hin 7 10 (by omega) (by omega) (by omega))).trans f_1135
    have f_1161 : F_1151 (ad 7) = rkO (fun i => ad (8 + i)) := (o_1156 (ad 7) (fun i hS => hin 7 i (by omega) (by omega) (by omega))).trans f_1160
    have f_1162 : F_1113 (ad 8) = rw7 G s_0 := (o_1117 (ad 8) ).trans hs_0
    have f_1163 : F_1119 (ad 8) = rw7 G s_0 := (hp_1120.2 (ad 8) (fun i hS => hin 8 i (by omega) (by omega) (by omega))).trans f_1162
    have f_1164 : F_1136 (ad 8) = rw7 G s_0 := (o_1143 (ad 8) (hin 8 134 (by omega) (by omega) (by omega)) (hin 8 9 (by omega) (by omega) (by omega)) (hin 8 10 (by omega) (by omega) (by omega))).trans f_1163
    have f_1165 : F_1151 (ad 8) = rw7 G s_0 := (o_1156 (ad 8) (fun i hS => hin 8 i (by omega) (by omega) (by omega))).trans f_1164
    have f_1166 : F_1151 (ad 9) = rw7 G t_1141 := (o_1156 (ad 9) (fun i hS => hin 9 i (by omega) (by omega) (by omega))).trans f_1139
    have f_1167 : F_1151 (ad 10) = rw7 G t_1142 := (o_1156 (ad 10) (fun i hS => hin 10 i (by omega) (by omega) (by omega))).trans f_1140
    have f_1168 : F_1113 (ad 11) = rw7 G s_3 := (o_1117 (ad 11) ).trans hs_3
    have f_1169 : F_1119 (ad 11) = rw7 G s_3 := (hp_1120.2 (ad 11) (fun i hS => hin 11 i (by omega) (by omega) (by omega))).trans f_1168
    have f_1170 : F_1136 (ad 11) = rw7 G s_3 := (o_1143 (ad 11) (hin 11 134 (by omega) (by omega) (by omega)) (hin 11 9 (by omega) (by omega) (by omega)) (hin 11 10 (by omega) (by omega) (by omega))).trans f_1169
    have f_1171 : F_1151 (ad 11) = rw7 G s_3 := (o_1156 (ad 11) (fun i hS => hin 11 i (by omega) (by omega) (by omega))).trans f_1170
    have f_1172 : F_1113 (ad 12) = rw7 G s_4 := (o_1117 (ad 12) ).trans hs_4
    have f_1173 : F_1119 (ad 12) = rw7 G s_4 := (hp_1120.2 (ad 12) (fun i hS => hin 12 i (by omega) (by omega) (by omega))).trans f_1172
    have f_1174 : F_1136 (ad 12) = rw7 G s_4 := (o_1143 (ad 12) (hin 12 134 (by omega) (by omega) (by omega)) (hin 12 9 (by omega) (by omega) (by omega)) (hin 12 10 (by omega) (by omega) (by omega))).trans f_1173
    have f_1175 : F_1151 (ad 12) = rw7 G s_4 := (o_1156 (ad 12) (fun i hS => hin 12 i (by omega) (by omega) (by omega))).trans f_1174
    have f_1176 : F_1113 (ad 13) = rw7 G s_5 := (o_1117 (ad 13) ).trans hs_5
    have f_1177 : F_1119 (ad 13) = rw7 G s_5 := (hp_1120.2 (ad 13) (fun i hS => hin 13 i (by omega) (by omega) (by omega))).trans f_1176
    have f_1178 : F_1136 (ad 13) = rw7 G s_5 := (o_1143 (ad 13) (hin 13 134 (by omega) (by omega) (by omega)) (hin 13 9 (by omega) (by omega) (by omega)) (hin 13 10 (by omega) (by omega) (by omega))).trans f_1177
    have f_1179 : F_1151 (ad 13) = rw7 G s_5 := (o_1156 (ad 13) (fun i hS => hin 13 i (by omega) (by omega) (by omega))).trans f_1178
    have f_1180 : F_1113 (ad 14) = rw7 G s_6 := (o_1117 (ad 14) ).trans hs_6
    have f_1181 : F_1119 (ad 14) = rw7 G s_6 := (hp_1120.2 (ad 14) (fun i hS => hin 14 i (by omega) (by omega) (by omega))).trans f_1180
    have f_1182 : F_1136 (ad 14) = rw7 G s_6 := (o_1143 (ad 14) (hin 14 134 (by omega) (by omega) (by omega)) (hin 14 9 (by omega) (by omega) (by omega)) (hin 14 10 (by omega) (by omega) (by omega))).trans f_1181
    have f_1183 : F_1151 (ad 14) = rw7 G s_6 := (o_1156 (ad 14) (fun i hS => hin 14 i (by omega) (by omega) (by omega))).trans f_1182
    have f_1184 : F_1113 (ad 15) = rw7 G s_7 := (o_1117 (ad 15) ).trans hs_7
    have f_1185 : F_1119 (ad 15) = rw7 G s_7 := (hp_1120.2 (ad 15) (fun i hS => hin 15 i (by omega) (by omega) (by omega))).trans f_1184
    have f_1186 : F_1136 (ad 15) = rw7 G s_7 := (o_1143 (ad 15) (hin 15 134 (by omega) (by omega) (by omega)) (hin 15 9 (by omega) (by omega) (by omega)) (hin 15 10 (by omega) (by omega) (by omega))).trans f_1185
    have f_1187 : F_1151 (ad 15) = rw7 G s_7 := (o_1156 (ad 15) (fun i hS => hin 15 i (by omega) (by omega) (by omega))).trans f_1186
    have f_1188 : F_1113 (ad 16) = rw7 G s_8 := (o_1117 (ad 16) ).trans hs_8
    have f_1189 : F_1119 (ad 16) = rw7 G s_8 := (hp_1120.2 (ad 16) (fun i hS => hin 16 i (by omega) (by omega) (by omega))).trans f_1188
    have f_1190 : F_1136 (ad 16) = rw7 G s_8 := (o_1143 (ad 16) (hin 16 134 (by omega) (by omega) (by omega)) (hin 16 9 (by omega) (by omega) (by omega)) (hin 16 10 (by omega) (by omega) (by omega))).trans f_1189
    have f_1191 : F_1151 (ad 16) = rw7 G s_8 := (o_1156 (ad 16) (fun i hS => hin 16 i (by omega) (by omega) (by omega))).trans f_1190
    have f_1192 : F_1113 (ad 17) = rw7 G s_9 := (o_1117 (ad 17) ).trans hs_9
    have f_1193 : F_1119 (ad 17) = rw7 G s_9 := (hp_1120.2 (ad 17) (fun i hS => hin 17 i (by omega) (by omega) (by omega))).trans f_1192
    have f_1194 : F_1136 (ad 17) = rw7 G s_9 := (o_1143 (ad 17) (hin 17 134 (by omega) (by omega) (by omega)) (hin 17 9 (by omega) (by omega) (by omega)) (hin 17 10 (by omega) (by omega) (by omega))).trans f_1193
    have f_1195 : F_1151 (ad 17) = rw7 G s_9 := (o_1156 (ad 17) (fun i hS => hin 17 i (by omega) (by omega) (by omega))).trans f_1194
    have f_1196 : F_1113 (ad 18) = rw7 G s_10 := (o_1117 (ad 18) ).trans hs_10
    have f_1197 : F_1119 (ad 18) = rw7 G s_10 := (hp_1120.2 (ad 18) (fun i hS => hin 18 i (by omega) (by omega) (by omega))).trans f_1196
    have f_1198 : F_1136 (ad 18) = rw7 G s_10 := (o_1143 (ad 18) (hin 18 134 (by omega) (by omega) (by omega)) (hin 18 9 (by omega) (by omega) (by omega)) (hin 18 10 (by omega) (by omega) (by omega))).trans f_1197
    have f_1199 : F_1151 (ad 18) = rw7 G s_10 := (o_1156 (ad 18) (fun i hS => hin 18 i (by omega) (by omega) (by omega))).trans f_1198
    have f_1200 : F_1113 (ad 19) = rw7 G s_11 := (o_1117 (ad 19) ).trans hs_11
    have f_1201 : F_1119 (ad 19) = rw7 G s_11 := (hp_1120.2 (ad 19) (fun i hS => hin 19 i (by omega) (by omega) (by omega))).trans f_1200
    have f_1202 : F_1136 (ad 19) = rw7 G s_11 := (o_1143 (ad 19) (hin 19 134 (by omega) (by omega) (by omega)) (hin 19 9 (by omega) (by omega) (by omega)) (hin 19 10 (by omega) (by omega) (by omega))).trans f_1201
    have f_1203 : F_1151 (ad 19) = rw7 G s_11 := (o_1156 (ad 19) (fun i hS => hin 19 i (by omega) (by omega) (by omega))).trans f_1202
    have f_1204 : F_1113 (ad 20) = rw7 G s_12 := (o_1117 (ad 20) ).trans hs_12
    have f_1205 : F_1119 (ad 20) = rw7 G s_12 := (hp_1120.2 (ad 20) (fun i hS => hin 20 i (by omega) (by omega) (by omega))).trans f_1204
    have f_1206 : F_1136 (ad 20) = rw7 G s_12 := (o_1143 (ad 20) (hin 20 134 (by omega) (by omega) (by omega)) (hin 20 9 (by omega) (by omega) (by omega)) (hin 20 10 (by omega) (by omega) (by omega))).trans f_1205
    have f_1207 : F_1151 (ad 20) = rw7 G s_12 := (o_1156 (ad 20) (fun i hS => hin 20 i (by omega) (by omega) (by omega))).trans f_1206
    have f_1208 : F_1113 (ad 21) = rw7 G s_13 := (o_1117 (ad 21) ).trans hs_13
    have f_1209 : F_1119 (ad 21) = rw7 G s_13 := (hp_1120.2 (ad 21) (fun i hS => hin 21 i (by omega) (by omega) (by omega))).trans f_1208
    have f_1210 : F_1136 (ad 21) = rw7 G s_13 := (o_1143 (ad 21) (hin 21 134 (by omega) (by omega) (by omega)) (hin 21 9 (by omega) (by omega) (by omega)) (hin 21 10 (by omega) (by omega) (by omega))).trans f_1209
    have f_1211 : F_1151 (ad 21) = rw7 G s_13 := (o_1156 (ad 21) (fun i hS => hin 21 i (by omega) (by omega) (by omega))).trans f_1210
    exact r_i C0 hr hlk hw (v := (lowR ((m_exp ((st.2.2.2.2.2 f9)) (st.1))))) rfl ⟨rfl, sta_row hn (t := ordT 101 t9) (u := ordR 101 f9 g9 st.1 st.2.2.2.2.2) (by unfold ordT; simp; omega) f_1158 rfl rfl (f_1155) (fun i0 hi => by simp [ordT] at hi; exact ((o_1156 (ad (i0)) (fun i hS => hin (i0) i (by omega) (by omega) (by omega)))).trans (((o_1143 (ad (i0)) (hin (i0) 134 (by omega) (by omega) (by omega)) (hin (i0) 9 (by omega) (by omega) (by omega)) (hin (i0) 10 (by omega) (by omega) (by omega)))).trans (((hp_1120.2 (ad (i0)) (fun i hS => hin (i0) i (by omega) (by omega) (by omega)))).trans ((o_1117 (ad (i0)) ))))), ⟨f_1161, lt14 ⟨_, f_1165⟩ ⟨_, f_1166⟩ ⟨_, f_1167⟩ ⟨_, f_1171⟩ ⟨_, f_1175⟩ ⟨_, f_1179⟩ ⟨_, f_1183⟩ ⟨_, f_1187⟩ ⟨_, f_1191⟩ ⟨_, f_1195⟩ ⟨_, f_1199⟩ ⟨_, f_1203⟩ ⟨_, f_1207⟩ ⟨_, f_1211⟩⟩, ⟨_, f_1159⟩, (fun q hq => ((o_1156 q (fun i hS => hq i (by omega))).trans ((o_1143 q (hq 134 (by omega)) (hq 9 (by omega)) (hq 10 (by omega))).trans ((hp_1120.2 q (fun i hS => hq i (by omega))).trans (o_1117 q )))))⟩ (Nat.le_refl _) (Nat.le_refl _) dX5_carryOut_340 hQ
  · skip
    exact absurd c_11 (by omega)
set_option maxHeartbeats 4000000 in
set_option maxRecDepth 100000 in
theorem c_X5_carryOut_99 (l : Launch) (G : Gl) (L : List Nat) (F : Nat → va_E) (ad : Nat → Nat) (hL : ∀ i, i < 166 → ad i ∈ L) (hin : ∀ i j, i < 166 → j < 166 → i ≠ j → ad i ≠ ad j) (f9 g9 t9 : Nat) (st : Sta) (u9 : Nat → ZP) (fx : F (ad 0) = xO ad) (hn : sta G F ad 22 st) (hrk : rkW G F ad) (h134 : F (ad 134) = rw7 G u9) (hf9 : f9 < 6) (hg9 : g9 < 6) (ht9 : t9 < 6) (hm : 4 * st.1 ≤ st.2.1) (hc : st.1 ≤ 6) (hc2 : 2 ≤ st.1) (hpu : st.2.1 ≤ 100000) : CI l yX5_carryOut cX5_carryOut 8 (some .int) rm_X5_carryOut G L F [.ref (ad 0), .int (nI (99)), .int (nI (f9)), .int (nI (g9)), .int (nI (t9))] (fun r F1 => r = lowR (ordR 99 f9 g9 st.1 st.2.2.2.2.2) ∧ sta G F1 ad 22 (ordS 99 f9 g9 t9 st) ∧ rkW G F1 ad ∧ (∃ u, F1 (ad 134) = rw7 G u) ∧ ∀ q, (∀ i, (i = 22 ∨ (26 ≤ i ∧ i < 38) ∨ (8 ≤ i ∧ i < 22) ∨ i = 134) → q ≠ ad i) → F1 q = F q) := by
  obtain ⟨s_13, hs_13⟩ := hrk.2 13 (by decide)
  obtain ⟨s_12, hs_12⟩ := hrk.2 12 (by decide)
  obtain ⟨s_11, hs_11⟩ := hrk.2 11 (by decide)
  obtain ⟨s_10, hs_10⟩ := hrk.2 10 (by decide)
  obtain ⟨s_9, hs_9⟩ := hrk.2 9 (by decide)
  obtain ⟨s_8, hs_8⟩ := hrk.2 8 (by decide)
  obtain ⟨s_7, hs_7⟩ := hrk.2 7 (by decide)
  obtain ⟨s_6, hs_6⟩ := hrk.2 6 (by decide)
  obtain ⟨s_5, hs_5⟩ := hrk.2 5 (by decide)
  obtain ⟨s_4, hs_4⟩ := hrk.2 4 (by decide)
  obtain ⟨s_3, hs_3⟩ := hrk.2 3 (by decide)
  obtain ⟨s_2, hs_2⟩ := hrk.2 2 (by decide)
  obtain ⟨s_1, hs_1⟩ := hrk.2 1 (by decide)
  obtain ⟨s_0, hs_0⟩ := hrk.2 0 (by decide)
  refine CG_of (by decide) (Nat.le_of_ble_eq_true rfl) rfl ?_
  intro p e s m args below meth c Q C0 hr hlk hnm hQ hw ls hl
  have hx := C0.x
  have hb := C0.b
  refine lv_aload_n hx hb dX5_carryOut_0 rfl (lv_at hl 0 rfl) ?_
  refine lv_iload_n hx hb dX5_carryOut_1 rfl (lv_at hl 1 rfl) ?_
  refine q_calli hw (q_runS (As := [.int (nI (99))]) (c_X5_unitsOf_99 l G L F ) C0 hw sw_X5_225 rfl hl.1 rfl (Nat.le_of_ble_eq_true rfl) dX5_carryOut_2 ⟨by decide, by decide⟩ ⟨by decide, by decide⟩) rfl rfl (fun r_1214 F_1212 H locs hw hp_1213 => ?_)
  obtain ⟨he_1215, o_1216⟩ := hp_1213
  subst he_1215
  have f_1217 : F_1212 (ad 0) = xO ad := (o_1216 (ad 0) ).trans fx
  refine q_callv hw (q_runV (As := [.int (nI (4))]) (c_X5_pay l G L F_1212 ad hL hin 4 st f_1217 (hn.keep (fun i0 hi => (o_1216 (ad (i0)) ))) (by omega)) C0 hw vw_X5_114 ((hL 0 (by omega))) f_1217 rfl rfl rfl hl.1 rfl (Nat.le_of_ble_eq_true rfl) dX5_carryOut_5 ⟨by decide, by decide⟩ ⟨by decide, by decide⟩) rfl rfl (fun F_1218 H locs hw hp_1219 => ?_)
  refine lv_iload_n hx hb dX5_carryOut_8 rfl (lv_at hl 1 rfl) ?_
  refine lv_bipush (v := nI 98) hx hb dX5_carryOut_9 (by decide) ?_
  refine n_icmp_ne (tgt := 27) hx hb dX5_carryOut_11 (by decide) (by decide) (by decide) (fun c_11 => ?_) (fun c_11 => ?_)
  · skip
    refine lv_aload_n hx hb dX5_carryOut_27 rfl (lv_at hl 0 rfl) ?_
    have f_1220 : F_1218 (ad 0) = xO ad := (hp_1219.2 (ad 0) (fun i hS => hin 0 i (by omega) (by omega) (by omega))).trans f_1217
    refine q_get C0 hw ((hL 0 (by omega))) f_1220 fw_X5_12 rfl dX5_carryOut_28 ?_
    refine q_get C0 hw ((hL 22 (by omega))) hp_1219.1 fw_X5_66 rfl dX5_carryOut_31 ?_
    have f_1221 : F_1212 (ad 23) = .inr (2, [.int (nI (st.1)), .ref (ad 24), .ref (ad 25)]) := (o_1216 (ad 23) ).trans hn.2.1
    have f_1222 : F_1218 (ad 23) = .inr (2, [.int (nI (st.1)), .ref (ad 24), .ref (ad 25)]) := (hp_1219.2 (ad 23) (fun i hS => hin 23 i (by omega) (by omega) (by omega))).trans f_1221
    refine q_get C0 hw ((hL 23 (by omega))) f_1222 fw_X5_85 rfl dX5_carryOut_34 ?_
    refine lv_astore (lv' := [(5, .ref (ad 24)), (0, .ref (ad 0)), (1, .int (nI (99))), (2, .int (nI (f9))), (3, .int (nI (g9))), (4, .int (nI (t9)))]) hx hb dX5_carryOut_37 hl (by decide) rfl (fun ls hl => ?_)
    refine lv_aload_n hx hb dX5_carryOut_39 rfl (lv_at hl 1 rfl) ?_
    refine q_get C0 hw ((hL 0 (by omega))) f_1220 fw_X5_12 rfl dX5_carryOut_40 ?_
    refine q_get C0 hw ((hL 22 (by omega))) hp_1219.1 fw_X5_66 rfl dX5_carryOut_43 ?_
    refine q_get C0 hw ((hL 23 (by omega))) f_1222 fw_X5_93 rfl dX5_carryOut_46 ?_
    refine lv_astore (lv' := [(6, .ref (ad 25)), (5, .ref (ad 24)), (0, .ref (ad 0)), (1, .int (nI (99))), (2, .int (nI (f9))), (3, .int (nI (g9))), (4, .int (nI (t9)))]) hx hb dX5_carryOut_49 hl (by decide) rfl (fun ls hl => ?_)
    refine lv_aload_n hx hb dX5_carryOut_51 rfl (lv_at hl 2 rfl) ?_
    refine q_get C0 hw ((hL 0 (by omega))) f_1220 fw_X5_12 rfl dX5_carryOut_52 ?_
    refine q_get C0 hw ((hL 22 (by omega))) hp_1219.1 fw_X5_66 rfl dX5_carryOut_55 ?_
    refine q_get C0 hw ((hL 23 (by omega))) f_1222 fw_X5_70 rfl dX5_carryOut_58 ?_
    refine lv_istore (lv' := [(7, .int (nI (st.1))), (6, .ref (ad 25)), (5, .ref (ad 24)), (0, .ref (ad 0)), (1, .int (nI (99))), (2, .int (nI (f9))), (3, .int (nI (g9))), (4, .int (nI (t9)))]) hx hb dX5_carryOut_61 hl (by decide) rfl (fun ls hl => ?_)
    refine lv_iload_n hx hb dX5_carryOut_63 rfl (lv_at hl 4 rfl) ?_
    refine lv_tableIn (off := 277) (tgt := 341) hx hb dX5_carryOut_64 (by decide) (by decide) rfl (by decide) ?_
    refine lv_aload_n hx hb dX5_carryOut_341 rfl (lv_at hl 3 rfl) ?_
    refine q_get C0 hw ((hL 0 (by omega))) f_1220 fw_X5_44 rfl dX5_carryOut_342 ?_
    refine lv_aload hx hb dX5_carryOut_345 (lv_at hl 1 rfl) ?_
    refine lv_iload_n hx hb dX5_carryOut_347 rfl (lv_at hl 5 rfl) ?_
    have f_1223 : F_1212 (ad 25) = oE G (fun i => ad (32 + i)) := (o_1216 (ad 25) ).trans hn.2.2.2.1
    have f_1224 : F_1218 (ad 25) = oE G (fun i => ad (32 + i)) := (hp_1219.2 (ad 25) (fun i hS => hin 25 i (by omega) (by omega) (by omega))).trans f_1223
    refine q_aaldi C0 hw ((hL 25 (by omega))) f_1224 (f9) (by omega) (by decide) (b := ad (32 + f9)) rfl dX5_carryOut_348 ?_
    refine lv_aload hx hb dX5_carryOut_349 (lv_at hl 1 rfl) ?_
    refine lv_iload_n hx hb dX5_carryOut_351 rfl (lv_at hl 6 rfl) ?_
    refine q_aaldi C0 hw ((hL 25 (by omega))) f_1224 (g9) (by omega) (by decide) (b := ad (32 + g9)) rfl dX5_carryOut_352 ?_
    refine lv_iload hx hb dX5_carryOut_353 (lv_at hl 0 rfl) ?_
    refine lv_aload_n hx hb dX5_carryOut_355 rfl (lv_at hl 3 rfl) ?_
    refine q_get C0 hw ((hL 0 (by omega))) f_1220 fw_X5_48 rfl dX5_carryOut_356 ?_
    have f_1225 : F_1212 (ad (32 + f9)) = rw7 G ((st.2.2.2.2.2 (6 + f9))) := (o_1216 (ad (32 + f9)) ).trans ((show F (ad (32 + f9)) = _ from by have h9 := hn.2.2.2.2 (6 + f9) (by omega); rwa [show 22 + 4 + (6 + f9) = 32 + f9 by omega] at h9))
    have f_1226 : F_1218 (ad (32 + f9)) = rw7 G ((st.2.2.2.2.2 (6 + f9))) := (hp_1219.2 (ad (32 + f9)) (fun i hS => hin (32 + f9) i (by omega) (by omega) (by omega))).trans f_1225
    have f_1227 : F_1212 (ad (32 + g9)) = rw7 G ((st.2.2.2.2.2 (6 + g9))) := (o_1216 (ad (32 + g9)) ).trans ((show F (ad (32 + g9)) = _ from by have h9 := hn.2.2.2.2 (6 + g9) (by omega); rwa [show 22 + 4 + (6 + g9) = 32 + g9 by omega] at h9))
    have f_1228 : F_1218 (ad (32 + g9)) = rw7 G ((st.2.2.2.2.2 (6 + g9))) := (hp_1219.2 (ad (32 + g9)) (fun i hS => hin (32 + g9) i (by omega) (by omega) (by omega))).trans f_1227
    have f_1229 : F_1212 (ad 134) = rw7 G u9 := (o_1216 (ad 134) ).trans h134
    have f_1230 : F_1218 (ad 134) = rw7 G u9 := (hp_1219.2 (ad 134) (fun i hS => hin 134 i (by omega) (by omega) (by omega))).trans f_1229
    have f_1231 : F_1212 (ad 11) = rw7 G s_3 := (o_1216 (ad 11) ).trans hs_3
    have f_1232 : F_1218 (ad 11) = rw7 G s_3 := (hp_1219.2 (ad 11) (fun i hS => hin 11 i (by omega) (by omega) (by omega))).trans f_1231
    have f_1233 : F_1212 (ad 7) = rkO (fun i => ad (8 + i)) := (o_1216 (ad 7) ).trans hrk.1
    have f_1234 : F_1218 (ad 7) = rkO (fun i => ad (8 + i)) := (hp_1219.2 (ad 7) (fun i hS => hin 7 i (by omega) (by omega) (by omega))).trans f_1233
    refine q_callv hw (q_runV (As := [.ref (ad (32 + f9)), .ref (ad (32 + g9)), .int (nI (st.1)), .ref (ad 134)]) (c_X1_substitute l G L F_1218 (ad 7) (fun i => ad (8 + i)) (ad (32 + f9)) (ad (32 + g9)) (ad 134) (st.1) ((st.2.2.2.2.2 (6 + f9))) ((st.2.2.2.2.2 (6 + g9))) u9 s_3  ((hL 7 (by omega))) f_1234 (fun i hi => hL (8 + i) (by omega)) (ra_inj hin) ((hL (32 + f9) (by omega))) f_1226 ((hL (32 + g9) (by omega))) f_1228 ((hL 134 (by omega))) f_1230 f_1232 (hin (32 + f9) 134 (by omega) (by omega) (by omega)) (hin (32 + g9) 134 (by omega) (by omega) (by omega)) (hin (32 + f9) 11 (by omega) (by omega) (by omega)) (hin (32 + g9) 11 (by omega) (by omega) (by omega)) (hin 134 11 (by omega) (by omega) (by omega)) (by omega) (by omega) ) C0 hw vw_X5_205 ((hL 7 (by omega))) f_1234 rfl rfl rfl hl.1 rfl (Nat.le_of_ble_eq_true rfl) dX5_carryOut_359 ⟨by decide, by decide⟩ ⟨by decide, by decide⟩) rfl rfl (fun F_1235 H locs hw hp_1236 => ?_)
    obtain ⟨f_1237, ⟨t_1239, f_1238⟩, o_1240⟩ := hp_1236
    refine lv_aload_n hx hb dX5_carryOut_362 rfl (lv_at hl 3 rfl) ?_
    refine lv_aload hx hb dX5_carryOut_363 (lv_at hl 1 rfl) ?_
    refine lv_iload hx hb dX5_carryOut_365 (lv_at hl 7 rfl) ?_
    have f_1241 : F_1235 (ad 25) = oE G (fun i => ad (32 + i)) := (o_1240 (ad 25) (hin 25 134 (by omega) (by omega) (by omega)) (hin 25 11 (by omega) (by omega) (by omega))).trans f_1224
    refine q_aaldi C0 hw ((hL 25 (by omega))) f_1241 (t9) (by omega) (by decide) (b := ad (32 + t9)) rfl dX5_carryOut_367 ?_
    refine n_top (show Value.ref (ad (32 + t9)) = Value.ref (ad (26 + (6 + t9))) by rw [show 32 + t9 = 26 + (6 + t9) by omega]) ?_
    have f_1242 : F_1212 (ad (26 + (6 + t9))) = rw7 G ((st.2.2.2.2.2 (6 + t9))) := (o_1216 (ad (26 + (6 + t9))) ).trans ((hn.2.2.2.2 (6 + t9) (by omega)))
    have f_1243 : F_1218 (ad (26 + (6 + t9))) = rw7 G ((st.2.2.2.2.2 (6 + t9))) := (hp_1219.2 (ad (26 + (6 + t9))) (fun i hS => hin ((26 + (6 + t9))) i (by omega) (by omega) (by omega))).trans f_1242
    have f_1244 : F_1235 (ad (26 + (6 + t9))) = rw7 G ((st.2.2.2.2.2 (6 + t9))) := (o_1240 (ad (26 + (6 + t9))) (hin ((26 + (6 + t9))) 134 (by omega) (by omega) (by omega)) (hin ((26 + (6 + t9))) 11 (by omega) (by omega) (by omega))).trans f_1243
    have f_1245 : F_1235 (ad 0) = xO ad := (o_1240 (ad 0) (hin 0 134 (by omega) (by omega) (by omega)) (hin 0 11 (by omega) (by omega) (by omega))).trans f_1220
    refine q_calli hw (q_runV (As := [.ref (ad (26 + (6 + t9)))]) (c_X5_put l G L F_1235 ad hL hin (6 + t9) ((m_sub ((st.2.2.2.2.2 (6 + f9))) ((st.2.2.2.2.2 (6 + g9))) (st.1))) ((st.2.2.2.2.2 (6 + t9))) f_1245 f_1237 f_1244 (by omega)) C0 hw vw_X5_127 ((hL 0 (by omega))) f_1245 rfl rfl rfl hl.1 rfl (Nat.le_of_ble_eq_true rfl) dX5_carryOut_368 ⟨by decide, by decide⟩ ⟨by decide, by decide⟩) rfl rfl (fun r_1248 F_1246 H locs hw hp_1247 => ?_)
    obtain ⟨he_1249, f_1250, o_1251⟩ := hp_1247
    subst he_1249
    have f_1252 : F_1235 (ad 22) = .inr (3, [.ref (ad 23), .int (nI (st.2.1 - 4 * st.1)), .int (nI (st.2.2.1 + 4 * st.1)), .int (nI (st.2.2.2.1 + 1)), .int (nI (st.2.2.2.2.1))]) := (o_1240 (ad 22) (hin 22 134 (by omega) (by omega) (by omega)) (hin 22 11 (by omega) (by omega) (by omega))).trans hp_1219.1
    have f_1253 : F_1246 (ad 22) = .inr (3, [.ref (ad 23), .int (nI (st.2.1 - 4 * st.1)), .int (nI (st.2.2.1 + 4 * st.1)), .int (nI (st.2.2.2.1 + 1)), .int (nI (st.2.2.2.2.1))]) := (o_1251 (ad 22) (fun i hS => hin 22 i (by omega) (by omega) (by omega))).trans f_1252
    have f_1254 : F_1246 (ad 134) = rw7 G ((m_sub ((st.2.2.2.2.2 (6 + f9))) ((st.2.2.2.2.2 (6 + g9))) (st.1))) := (o_1251 (ad 134) (fun i hS => hin 134 i (by omega) (by omega) (by omega))).trans f_1237
    have f_1255 : F_1235 (ad 7) = rkO (fun i => ad (8 + i)) := (o_1240 (ad 7) (hin 7 134 (by omega) (by omega) (by omega)) (hin 7 11 (by omega) (by omega) (by omega))).trans f_1234
    have f_1256 : F_1246 (ad 7) = rkO (fun i => ad (8 + i)) := (o_1251 (ad 7) (fun i hS => hin 7 i (by omega) (by omega) (by omega))).trans f_1255
    have f_1257 : F_1212 (ad 8) = rw7 G s_0 := (o_1216 (ad 8) ).trans hs_0
    have f_1258 : F_1218 (ad 8) = rw7 G s_0 := (hp_1219.2 (ad 8) (fun i hS => hin 8 i (by omega) (by omega) (by omega))).trans f_1257
    have f_1259 : F_1235 (ad 8) = rw7 G s_0 := (o_1240 (ad 8) (hin 8 134 (by omega) (by omega) (by omega)) (hin 8 11 (by omega) (by omega) (by omega))).trans f_1258
    have f_1260 : F_1246 (ad 8) = rw7 G s_0 := (o_1251 (ad 8) (fun i hS => hin 8 i (by omega) (by omega) (by omega))).trans f_1259
    have f_1261 : F_1212 (ad 9) = rw7 G s_1 := (o_1216 (ad 9) ).trans hs_1
    have f_1262 : F_1218 (ad 9) = rw7 G s_1 := (hp_1219.2 (ad 9) (fun i hS => hin 9 i (by omega) (by omega) (by omega))).trans f_1261
    have f_1263 : F_1235 (ad 9) = rw7 G s_1 := (o_1240 (ad 9) (hin 9 134 (by omega) (by omega) (by omega)) (hin 9 11 (by omega) (by omega) (by omega))).trans f_1262
    have f_1264 : F_1246 (ad 9) = rw7 G s_1 := (o_1251 (ad 9) (fun i hS => hin 9 i (by omega) (by omega) (by omega))).trans f_1263
    have f_1265 : F_1212 (ad 10) = rw7 G s_2 := (o_1216 (ad 10) ).trans hs_2
    have f_1266 : F_1218 (ad 10) = rw7 G s_2 := (hp_1219.2 (ad 10) (fun i hS => hin 10 i (by omega) (by omega) (by omega))).trans f_1265
    have f_1267 : F_1235 (ad 10) = rw7 G s_2 := (o_1240 (ad 10) (hin 10 134 (by omega) (by omega) (by omega)) (hin 10 11 (by omega) (by omega) (by omega))).trans f_1266
    have f_1268 : F_1246 (ad 10) = rw7 G s_2 := (o_1251 (ad 10) (fun i hS => hin 10 i (by omega) (by omega) (by omega))).trans f_1267
    have f_1269 : F_1246 (ad 11) = rw7 G t_1239 := (o_1251 (ad 11) (fun i hS => hin 11 i (by omega) (by omega) (by omega))).trans f_1238
    have f_1270 : F_1212 (ad 12) = rw7 G s_4 := (o_1216 (ad 12) ).trans hs_4
    have f_1271 : F_1218 (ad 12) = rw7 G s_4 := (hp_1219.2 (ad 12) (fun i hS => hin 12 i (by omega) (by omega) (by omega))).trans f_1270
    have f_1272 : F_1235 (ad 12) = rw7 G s_4 := (o_1240 (ad 12) (hin 12 134 (by omega) (by omega) (by omega)) (hin 12 11 (by omega) (by omega) (by omega))).trans f_1271
    have f_1273 : F_1246 (ad 12) = rw7 G s_4 := (o_1251 (ad 12) (fun i hS => hin 12 i (by omega) (by omega) (by omega))).trans f_1272
    have f_1274 : F_1212 (ad 13) = rw7 G s_5 := (o_1216 (ad 13) ).trans hs_5
    have f_1275 : F_1218 (ad 13) = rw7 G s_5 := (hp_1219.2 (ad 13) (fun i hS => hin 13 i (by omega) (by omega) (by omega))).trans f_1274
    have f_1276 : F_1235 (ad 13) = rw7 G s_5 := (o_1240 (ad 13) (hin 13 134 (by omega) (by omega) (by omega)) (hin 13 11 (by omega) (by omega) (by omega))).trans f_1275
    have f_1277 : F_1246 (ad 13) = rw7 G s_5 := (o_1251 (ad 13) (fun i hS => hin 13 i (by omega) (by omega) (by omega))).trans f_1276
    have f_1278 : F_1212 (ad 14) = rw7 G s_6 := (o_1216 (ad 14) ).trans hs_6
    have f_1279 : F_1218 (ad 14) = rw7 G s_6 := (hp_1219.2 (ad 14) (fun i hS => hin 14 i (by omega) (by omega) (by omega))).trans f_1278
    have f_1280 : F_1235 (ad 14) = rw7 G s_6 := (o_1240 (ad 14) (hin 14 134 (by omega) (by omega) (by omega)) (hin 14 11 (by omega) (by omega) (by omega))).trans f_1279
    have f_1281 : F_1246 (ad 14) = rw7 G s_6 := (o_1251 (ad 14) (fun i hS => hin 14 i (by omega) (by omega) (by omega))).trans f_1280
    have f_1282 : F_1212 (ad 15) = rw7 G s_7 := (o_1216 (ad 15) ).trans hs_7
    have f_1283 : F_1218 (ad 15) = rw7 G s_7 := (hp_1219.2 (ad 15) (fun i hS => hin 15 i (by omega) (by omega) (by omega))).trans f_1282
    have f_1284 : F_1235 (ad 15) = rw7 G s_7 := (o_1240 (ad 15) (hin 15 134 (by omega) (by omega) (by omega)) (hin 15 11 (by omega) (by omega) (by omega))).trans f_1283
    have f_1285 : F_1246 (ad 15) = rw7 G s_7 := (o_1251 (ad 15) (fun i hS => hin 15 i (by omega) (by omega) (by omega))).trans f_1284
    have f_1286 : F_1212 (ad 16) = rw7 G s_8 := (o_1216 (ad 16) ).trans hs_8
    have f_1287 : F_1218 (ad 16) = rw7 G s_8 := (hp_1219.2 (ad 16) (fun i hS => hin 16 i (by omega) (by omega) (by omega))).trans f_1286
    have f_1288 : F_1235 (ad 16) = rw7 G s_8 := (o_1240 (ad 16) (hin 16 134 (by omega) (by omega) (by omega)) (hin 16 11 (by omega) (by omega) (by omega))).trans f_1287
    have f_1289 : F_1246 (ad 16) = rw7 G s_8 := (o_1251 (ad 16) (fun i hS => hin 16 i (by omega) (by omega) (by omega))).trans f_1288
    have f_1290 : F_1212 (ad 17) = rw7 G s_9 := (o_1216 (ad 17) ).trans hs_9
    have f_1291 : F_1218 (ad 17) = rw7 G s_9 := (hp_1219.2 (ad 17) (fun i hS => hin 17 i (by omega) (by omega) (by omega))).trans f_1290
    have f_1292 : F_1235 (ad 17) = rw7 G s_9 := (o_1240 (ad 17) (hin 17 134 (by omega) (by omega) (by omega)) (hin 17 11 (by omega) (by omega) (by omega))).trans f_1291
    have f_1293 : F_1246 (ad 17) = rw7 G s_9 := (o_1251 (ad 17) (fun i hS => hin 17 i (by omega) (by omega) (by omega))).trans f_1292
    have f_1294 : F_1212 (ad 18) = rw7 G s_10 := (o_1216 (ad 18) ).trans hs_10
    have f_1295 : F_1218 (ad 18) = rw7 G s_10 := (hp_1219.2 (ad 18) (fun i hS => hin 18 i (by omega) (by omega) (by omega))).trans f_1294
    have f_1296 : F_1235 (ad 18) = rw7 G s_10 := (o_1240 (ad 18) (hin 18 134 (by omega) (by omega) (by omega)) (hin 18 11 (by omega) (by omega) (by omega))).trans f_1295
    have f_1297 : F_1246 (ad 18) = rw7 G s_10 := (o_1251 (ad 18) (fun i hS => hin 18 i (by omega) (by omega) (by omega))).trans f_1296
    have f_1298 : F_1212 (ad 19) = rw7 G s_11 := (o_1216 (ad 19) ).trans hs_11
    have f_1299 : F_1218 (ad 19) = rw7 G s_11 := (hp_1219.2 (ad 19) (fun i hS => hin 19 i (by omega) (by omega) (by omega))).trans f_1298
    have f_1300 : F_1235 (ad 19) = rw7 G s_11 := (o_1240 (ad 19) (hin 19 134 (by omega) (by omega) (by omega)) (hin 19 11 (by omega) (by omega) (by omega))).trans f_1299
    have f_1301 : F_1246 (ad 19) = rw7 G s_11 := (o_1251 (ad 19) (fun i hS => hin 19 i (by omega) (by omega) (by omega))).trans f_1300
    have f_1302 : F_1212 (ad 20) = rw7 G s_12 := (o_1216 (ad 20) ).trans hs_12
    have f_1303 : F_1218 (ad 20) = rw7 G s_12 := (hp_1219.2 (ad 20) (fun i hS => hin 20 i (by omega) (by omega) (by omega))).trans f_1302
    have f_1304 : F_1235 (ad 20) = rw7 G s_12 := (o_1240 (ad 20) (hin 20 134 (by omega) (by omega) (by omega)) (hin 20 11 (by omega) (by omega) (by omega))).trans f_1303
    have f_1305 : F_1246 (ad 20) = rw7 G s_12 := (o_1251 (ad 20) (fun i hS => hin 20 i (by omega) (by omega) (by omega))).trans f_1304
    have f_1306 : F_1212 (ad 21) = rw7 G s_13 := (o_1216 (ad 21) ).trans hs_13
    have f_1307 : F_1218 (ad 21) = rw7 G s_13 := (hp_1219.2 (ad 21) (fun i hS => hin 21 i (by omega) (by omega) (by omega))).trans f_1306
    have f_1308 : F_1235 (ad 21) = rw7 G s_13 := (o_1240 (ad 21) (hin 21 134 (by omega) (by omega) (by omega)) (hin 21 11 (by omega) (by omega) (by omega))).trans f_1307
    have f_1309 : F_1246 (ad 21) = rw7 G s_13 := (o_1251 (ad 21) (fun i hS => hin 21 i (by omega) (by omega) (by omega))).trans f_1308
    exact r_i C0 hr hlk hw (v := (lowR ((m_sub ((st.2.2.2.2.2 (6 + f9))) ((st.2.2.2.2.2 (6 + g9))) (st.1))))) rfl ⟨rfl, sta_row hn (t := ordT 99 t9) (u := ordR 99 f9 g9 st.1 st.2.2.2.2.2) (by unfold ordT; simp; omega) f_1253 rfl rfl (f_1250) (fun i0 hi => by simp [ordT] at hi; exact ((o_1251 (ad (i0)) (fun i hS => hin (i0) i (by omega) (by omega) (by omega)))).trans (((o_1240 (ad (i0)) (hin (i0) 134 (by omega) (by omega) (by omega)) (hin (i0) 11 (by omega) (by omega) (by omega)))).trans (((hp_1219.2 (ad (i0)) (fun i hS => hin (i0) i (by omega) (by omega) (by omega)))).trans ((o_1216 (ad (i0)) ))))), ⟨f_1256, lt14 ⟨_, f_1260⟩ ⟨_, f_1264⟩ ⟨_, f_1268⟩ ⟨_, f_1269⟩ ⟨_, f_1273⟩ ⟨_, f_1277⟩ ⟨_, f_1281⟩ ⟨_, f_1285⟩ ⟨_, f_1289⟩ ⟨_, f_1293⟩ ⟨_, f_1297⟩ ⟨_, f_1301⟩ ⟨_, f_1305⟩ ⟨_, f_1309⟩⟩, ⟨_, f_1254⟩, (fun q hq => ((o_1251 q (fun i hS => hq i (by omega))).trans ((o_1240 q (hq 134 (by omega)) (hq 11 (by omega))).trans ((hp_1219.2 q (fun i hS => hq i (by omega))).trans (o_1216 q )))))⟩ (Nat.le_refl _) (Nat.le_refl _) dX5_carryOut_371 hQ
  · skip
    exact absurd c_11 (by omega)
set_option maxHeartbeats 4000000 in
set_option maxRecDepth 100000 in
theorem c_X5_carryOut_105 (l : Launch) (G : Gl) (L : List Nat) (F : Nat → va_E) (ad : Nat → Nat) (hL : ∀ i, i < 166 → ad i ∈ L) (hin : ∀ i j, i < 166 → j < 166 → i ≠ j → ad i ≠ ad j) (f9 g9 t9 : Nat) (st : Sta) (u9 : Nat → ZP) (fx : F (ad 0) = xO ad) (hn : sta G F ad 22 st) (hrk : rkW G F ad) (h134 : F (ad 134) = rw7 G u9) (hf9 : f9 < 6) (hg9 : g9 < 6) (ht9 : t9 < 6) (hm : 4 * st.1 ≤ st.2.1) (hc : st.1 ≤ 6) (hc2 : 2 ≤ st.1) (hpu : st.2.1 ≤ 100000) : CI l yX5_carryOut cX5_carryOut 8 (some .int) rm_X5_carryOut G L F [.ref (ad 0), .int (nI (105)), .int (nI (f9)), .int (nI (g9)), .int (nI (t9))] (fun r F1 => r = lowR (ordR 105 f9 g9 st.1 st.2.2.2.2.2) ∧ sta G F1 ad 22 (ordS 105 f9 g9 t9 st) ∧ rkW G F1 ad ∧ (∃ u, F1 (ad 134) = rw7 G u) ∧ ∀ q, (∀ i, (i = 22 ∨ (26 ≤ i ∧ i < 38) ∨ (8 ≤ i ∧ i < 22) ∨ i = 134) → q ≠ ad i) → F1 q = F q) := by
  obtain ⟨s_13, hs_13⟩ := hrk.2 13 (by decide)
  obtain ⟨s_12, hs_12⟩ := hrk.2 12 (by decide)
  obtain ⟨s_11, hs_11⟩ := hrk.2 11 (by decide)
  obtain ⟨s_10, hs_10⟩ := hrk.2 10 (by decide)
  obtain ⟨s_9, hs_9⟩ := hrk.2 9 (by decide)
  obtain ⟨s_8, hs_8⟩ := hrk.2 8 (by decide)
  obtain ⟨s_7, hs_7⟩ := hrk.2 7 (by decide)
  obtain ⟨s_6, hs_6⟩ := hrk.2 6 (by decide)
  obtain ⟨s_5, hs_5⟩ := hrk.2 5 (by decide)
  obtain ⟨s_4, hs_4⟩ := hrk.2 4 (by decide)
  obtain ⟨s_3, hs_3⟩ := hrk.2 3 (by decide)
  obtain ⟨s_2, hs_2⟩ := hrk.2 2 (by decide)
  obtain ⟨s_1, hs_1⟩ := hrk.2 1 (by decide)
  obtain ⟨s_0, hs_0⟩ := hrk.2 0 (by decide)
  refine CG_of (by decide) (Nat.le_of_ble_eq_true rfl) rfl ?_
  intro p e s m args below meth c Q C0 hr hlk hnm hQ hw ls hl
  have hx := C0.x
  have hb := C0.b
  refine lv_aload_n hx hb dX5_carryOut_0 rfl (lv_at hl 0 rfl) ?_
  refine lv_iload_n hx hb dX5_carryOut_1 rfl (lv_at hl 1 rfl) ?_
  refine q_calli hw (q_runS (As := [.int (nI (105))]) (c_X5_unitsOf_105 l G L F ) C0 hw sw_X5_225 rfl hl.1 rfl (Nat.le_of_ble_eq_true rfl) dX5_carryOut_2 ⟨by decide, by decide⟩ ⟨by decide, by decide⟩) rfl rfl (fun r_1312 F_1310 H locs hw hp_1311 => ?_)
  obtain ⟨he_1313, o_1314⟩ := hp_1311
  subst he_1313
  have f_1315 : F_1310 (ad 0) = xO ad := (o_1314 (ad 0) ).trans fx
  refine q_callv hw (q_runV (As := [.int (nI (4))]) (c_X5_pay l G L F_1310 ad hL hin 4 st f_1315 (hn.keep (fun i0 hi => (o_1314 (ad (i0)) ))) (by omega)) C0 hw vw_X5_114 ((hL 0 (by omega))) f_1315 rfl rfl rfl hl.1 rfl (Nat.le_of_ble_eq_true rfl) dX5_carryOut_5 ⟨by decide, by decide⟩ ⟨by decide, by decide⟩) rfl rfl (fun F_1316 H locs hw hp_1317 => ?_)
  refine lv_iload_n hx hb dX5_carryOut_8 rfl (lv_at hl 1 rfl) ?_
  refine lv_bipush (v := nI 98) hx hb dX5_carryOut_9 (by decide) ?_
  refine n_icmp_ne (tgt := 27) hx hb dX5_carryOut_11 (by decide) (by decide) (by decide) (fun c_11 => ?_) (fun c_11 => ?_)
  · skip
    refine lv_aload_n hx hb dX5_carryOut_27 rfl (lv_at hl 0 rfl) ?_
    have f_1318 : F_1316 (ad 0) = xO ad := (hp_1317.2 (ad 0) (fun i hS => hin 0 i (by omega) (by omega) (by omega))).trans f_1315
    refine q_get C0 hw ((hL 0 (by omega))) f_1318 fw_X5_12 rfl dX5_carryOut_28 ?_
    refine q_get C0 hw ((hL 22 (by omega))) hp_1317.1 fw_X5_66 rfl dX5_carryOut_31 ?_
    have f_1319 : F_1310 (ad 23) = .inr (2, [.int (nI (st.1)), .ref (ad 24), .ref (ad 25)]) := (o_1314 (ad 23) ).trans hn.2.1
    have f_1320 : F_1316 (ad 23) = .inr (2, [.int (nI (st.1)), .ref (ad 24), .ref (ad 25)]) := (hp_1317.2 (ad 23) (fun i hS => hin 23 i (by omega) (by omega) (by omega))).trans f_1319
    refine q_get C0 hw ((hL 23 (by omega))) f_1320 fw_X5_85 rfl dX5_carryOut_34 ?_
    refine lv_astore (lv' := [(5, .ref (ad 24)), (0, .ref (ad 0)), (1, .int (nI (105))), (2, .int (nI (f9))), (3, .int (nI (g9))), (4, .int (nI (t9)))]) hx hb dX5_carryOut_37 hl (by decide) rfl (fun ls hl => ?_)
    refine lv_aload_n hx hb dX5_carryOut_39 rfl (lv_at hl 1 rfl) ?_
    refine q_get C0 hw ((hL 0 (by omega))) f_1318 fw_X5_12 rfl dX5_carryOut_40 ?_
    refine q_get C0 hw ((hL 22 (by omega))) hp_1317.1 fw_X5_66 rfl dX5_carryOut_43 ?_
    refine q_get C0 hw ((hL 23 (by omega))) f_1320 fw_X5_93 rfl dX5_carryOut_46 ?_
    refine lv_astore (lv' := [(6, .ref (ad 25)), (5, .ref (ad 24)), (0, .ref (ad 0)), (1, .int (nI (105))), (2, .int (nI (f9))), (3, .int (nI (g9))), (4, .int (nI (t9)))]) hx hb dX5_carryOut_49 hl (by decide) rfl (fun ls hl => ?_)
    refine lv_aload_n hx hb dX5_carryOut_51 rfl (lv_at hl 2 rfl) ?_
    refine q_get C0 hw ((hL 0 (by omega))) f_1318 fw_X5_12 rfl dX5_carryOut_52 ?_
    refine q_get C0 hw ((hL 22 (by omega))) hp_1317.1 fw_X5_66 rfl dX5_carryOut_55 ?_
    refine q_get C0 hw ((hL 23 (by omega))) f_1320 fw_X5_70 rfl dX5_carryOut_58 ?_
    refine lv_istore (lv' := [(7, .int (nI (st.1))), (6, .ref (ad 25)), (5, .ref (ad 24)), (0, .ref (ad 0)), (1, .int (nI (105))), (2, .int (nI (f9))), (3, .int (nI (g9))), (4, .int (nI (t9)))]) hx hb dX5_carryOut_61 hl (by decide) rfl (fun ls hl => ?_)
    refine lv_iload_n hx hb dX5_carryOut_63 rfl (lv_at hl 4 rfl) ?_
    refine lv_tableIn (off := 308) (tgt := 372) hx hb dX5_carryOut_64 (by decide) (by decide) rfl (by decide) ?_
    refine lv_aload_n hx hb dX5_carryOut_372 rfl (lv_at hl 3 rfl) ?_
    refine q_get C0 hw ((hL 0 (by omega))) f_1318 fw_X5_44 rfl dX5_carryOut_373 ?_
    refine lv_aload hx hb dX5_carryOut_376 (lv_at hl 1 rfl) ?_
    refine lv_iload_n hx hb dX5_carryOut_378 rfl (lv_at hl 5 rfl) ?_
    have f_1321 : F_1310 (ad 25) = oE G (fun i => ad (32 + i)) := (o_1314 (ad 25) ).trans hn.2.2.2.1
    have f_1322 : F_1316 (ad 25) = oE G (fun i => ad (32 + i)) := (hp_1317.2 (ad 25) (fun i hS => hin 25 i (by omega) (by omega) (by omega))).trans f_1321
    refine q_aaldi C0 hw ((hL 25 (by omega))) f_1322 (f9) (by omega) (by decide) (b := ad (32 + f9)) rfl dX5_carryOut_379 ?_
    refine lv_iload hx hb dX5_carryOut_380 (lv_at hl 0 rfl) ?_
    refine lv_aload_n hx hb dX5_carryOut_382 rfl (lv_at hl 3 rfl) ?_
    refine q_get C0 hw ((hL 0 (by omega))) f_1318 fw_X5_48 rfl dX5_carryOut_383 ?_
    have f_1323 : F_1310 (ad (32 + f9)) = rw7 G ((st.2.2.2.2.2 (6 + f9))) := (o_1314 (ad (32 + f9)) ).trans ((show F (ad (32 + f9)) = _ from by have h9 := hn.2.2.2.2 (6 + f9) (by omega); rwa [show 22 + 4 + (6 + f9) = 32 + f9 by omega] at h9))
    have f_1324 : F_1316 (ad (32 + f9)) = rw7 G ((st.2.2.2.2.2 (6 + f9))) := (hp_1317.2 (ad (32 + f9)) (fun i hS => hin (32 + f9) i (by omega) (by omega) (by omega))).trans f_1323
    have f_1325 : F_1310 (ad 134) = rw7 G u9 := (o_1314 (ad 134) ).trans h134
    have f_1326 : F_1316 (ad 134) = rw7 G u9 := (hp_1317.2 (ad 134) (fun i hS => hin 134 i (by omega) (by omega) (by omega))).trans f_1325
    have f_1327 : F_1310 (ad 12) = rw7 G s_4 := (o_1314 (ad 12) ).trans hs_4
    have f_1328 : F_1316 (ad 12) = rw7 G s_4 := (hp_1317.2 (ad 12) (fun i hS => hin 12 i (by omega) (by omega) (by omega))).trans f_1327
    have f_1329 : F_1310 (ad 11) = rw7 G s_3 := (o_1314 (ad 11) ).trans hs_3
    have f_1330 : F_1316 (ad 11) = rw7 G s_3 := (hp_1317.2 (ad 11) (fun i hS => hin 11 i (by omega) (by omega) (by omega))).trans f_1329
    have f_1331 : F_1310 (ad 7) = rkO (fun i => ad (8 + i)) := (o_1314 (ad 7) ).trans hrk.1
    have f_1332 : F_1316 (ad 7) = rkO (fun i => ad (8 + i)) := (hp_1317.2 (ad 7) (fun i hS => hin 7 i (by omega) (by omega) (by omega))).trans f_1331
    refine q_callv hw (q_runV (As := [.ref (ad (32 + f9)), .int (nI (st.1)), .ref (ad 134)]) (c_X1_inverse l G L F_1316 (ad 7) (fun i => ad (8 + i)) (ad (32 + f9)) (ad 134) (st.1) ((st.2.2.2.2.2 (6 + f9))) u9 s_4 s_3  ((hL 7 (by omega))) f_1332 (fun i hi => hL (8 + i) (by omega)) (ra_inj hin) ((hL (32 + f9) (by omega))) f_1324 ((hL 134 (by omega))) f_1326 f_1328 f_1330 (hin (32 + f9) 134 (by omega) (by omega) (by omega)) (hin (32 + f9) 12 (by omega) (by omega) (by omega)) (hin 134 12 (by omega) (by omega) (by omega)) (hin (32 + f9) 11 (by omega) (by omega) (by omega)) (hin 134 11 (by omega) (by omega) (by omega)) (by omega) (by omega) ) C0 hw vw_X5_325 ((hL 7 (by omega))) f_1332 rfl rfl rfl hl.1 rfl (Nat.le_of_ble_eq_true rfl) dX5_carryOut_386 ⟨by decide, by decide⟩ ⟨by decide, by decide⟩) rfl rfl (fun F_1333 H locs hw hp_1334 => ?_)
    obtain ⟨f_1335, ⟨t_1338, f_1336⟩, ⟨t_1339, f_1337⟩, o_1340⟩ := hp_1334
    refine lv_aload_n hx hb dX5_carryOut_389 rfl (lv_at hl 3 rfl) ?_
    refine lv_aload hx hb dX5_carryOut_390 (lv_at hl 1 rfl) ?_
    refine lv_iload hx hb dX5_carryOut_392 (lv_at hl 7 rfl) ?_
    have f_1341 : F_1333 (ad 25) = oE G (fun i => ad (32 + i)) := (o_1340 (ad 25) (hin 25 134 (by omega) (by omega) (by omega)) (hin 25 12 (by omega) (by omega) (by omega)) (hin 25 11 (by omega) (by omega) (by omega))).trans f_1322
    refine q_aaldi C0 hw ((hL 25 (by omega))) f_1341 (t9) (by omega) (by decide) (b := ad (32 + t9)) rfl dX5_carryOut_394 ?_
    refine n_top (show Value.ref (ad (32 + t9)) = Value.ref (ad (26 + (6 + t9))) by rw [show 32 + t9 = 26 + (6 + t9) by omega]) ?_
    have f_1342 : F_1310 (ad (26 + (6 + t9))) = rw7 G ((st.2.2.2.2.2 (6 + t9))) := (o_1314 (ad (26 + (6 + t9))) ).trans ((hn.2.2.2.2 (6 + t9) (by omega)))
    have f_1343 : F_1316 (ad (26 + (6 + t9))) = rw7 G ((st.2.2.2.2.2 (6 + t9))) := (hp_1317.2 (ad (26 + (6 + t9))) (fun i hS => hin ((26 + (6 + t9))) i (by omega) (by omega) (by omega))).trans f_1342
    have f_1344 : F_1333 (ad (26 + (6 + t9))) = rw7 G ((st.2.2.2.2.2 (6 + t9))) := (o_1340 (ad (26 + (6 + t9))) (hin ((26 + (6 + t9))) 134 (by omega) (by omega) (by omega)) (hin ((26 + (6 + t9))) 12 (by omega) (by omega) (by omega)) (hin ((26 + (6 + t9))) 11 (by omega) (by omega) (by omega))).trans f_1343
    have f_1345 : F_1333 (ad 0) = xO ad := (o_1340 (ad 0) (hin 0 134 (by omega) (by omega) (by omega)) (hin 0 12 (by omega) (by omega) (by omega)) (hin 0 11 (by omega) (by omega) (by omega))).trans f_1318
    refine q_calli hw (q_runV (As := [.ref (ad (26 + (6 + t9)))]) (c_X5_put l G L F_1333 ad hL hin (6 + t9) ((m_inv ((st.2.2.2.2.2 (6 + f9))) (st.1))) ((st.2.2.2.2.2 (6 + t9))) f_1345 f_1335 f_1344 (by omega)) C0 hw vw_X5_127 ((hL 0 (by omega))) f_1345 rfl rfl rfl hl.1 rfl (Nat.le_of_ble_eq_true rfl) dX5_carryOut_395 ⟨by decide, by decide⟩ ⟨by decide, by decide⟩) rfl rfl (fun r_1348 F_1346 H locs hw hp_1347 => ?_)
    obtain ⟨he_1349, f_1350, o_1351⟩ := hp_1347
    subst he_1349
    have f_1352 : F_1333 (ad 22) = .inr (3, [.ref (ad 23), .int (nI (st.2.1 - 4 * st.1)), .int (nI (st.2.2.1 + 4 * st.1)), .int (nI (st.2.2.2.1 + 1)), .int (nI (st.2.2.2.2.1))]) := (o_1340 (ad 22) (hin 22 134 (by omega) (by omega) (by omega)) (hin 22 12 (by omega) (by omega) (by omega)) (hin 22 11 (by omega) (by omega) (by omega))).trans hp_1317.1
    have f_1353 : F_1346 (ad 22) = .inr (3, [.ref (ad 23), .int (nI (st.2.1 - 4 * st.1)), .int (nI (st.2.2.1 + 4 * st.1)), .int (nI (st.2.2.2.1 + 1)), .int (nI (st.2.2.2.2.1))]) := (o_1351 (ad 22) (fun i hS => hin 22 i (by omega) (by omega) (by omega))).trans f_1352
    have f_1354 : F_1346 (ad 134) = rw7 G ((m_inv ((st.2.2.2.2.2 (6 + f9))) (st.1))) := (o_1351 (ad 134) (fun i hS => hin 134 i (by omega) (by omega) (by omega))).trans f_1335
    have f_1355 : F_1333 (ad 7) = rkO (fun i => ad (8 + i)) := (o_1340 (ad 7) (hin 7 134 (by omega) (by omega) (by omega)) (hin 7 12 (by omega) (by omega) (by omega)) (hin 7 11 (by omega) (by omega) (by omega))).trans f_1332
    have f_1356 : F_1346 (ad 7) = rkO (fun i => ad (8 + i)) := (o_1351 (ad 7) (fun i hS => hin 7 i (by omega) (by omega) (by omega))).trans f_1355
    have f_1357 : F_1310 (ad 8) = rw7 G s_0 := (o_1314 (ad 8) ).trans hs_0
    have f_1358 : F_1316 (ad 8) = rw7 G s_0 := (hp_1317.2 (ad 8) (fun i hS => hin 8 i (by omega) (by omega) (by omega))).trans f_1357
    have f_1359 : F_1333 (ad 8) = rw7 G s_0 := (o_1340 (ad 8) (hin 8 134 (by omega) (by omega) (by omega)) (hin 8 12 (by omega) (by omega) (by omega)) (hin 8 11 (by omega) (by omega) (by omega))).trans f_1358
    have f_1360 : F_1346 (ad 8) = rw7 G s_0 := (o_1351 (ad 8) (fun i hS => hin 8 i (by omega) (by omega) (by omega))).trans f_1359
    have f_1361 : F_1310 (ad 9) = rw7 G s_1 := (o_1314 (ad 9) ).trans hs_1
    have f_1362 : F_1316 (ad 9) = rw7 G s_1 := (hp_1317.2 (ad 9) (fun i hS => hin 9 i (by omega) (by omega) (by omega))).trans f_1361
    have f_1363 : F_1333 (ad 9) = rw7 G s_1 := (o_1340 (ad 9) (hin 9 134 (by omega) (by omega) (by omega)) (hin 9 12 (by omega) (by omega) (by omega)) (hin 9 11 (by omega) (by omega) (by omega))).trans f_1362
    have f_1364 : F_1346 (ad 9) = rw7 G s_1 := (o_1351 (ad 9) (fun i hS => hin 9 i (by omega) (by omega) (by omega))).trans f_1363
    have f_1365 : F_1310 (ad 10) = rw7 G s_2 := (o_1314 (ad 10) ).trans hs_2
    have f_1366 : F_1316 (ad 10) = rw7 G s_2 := (hp_1317.2 (ad 10) (fun i hS => hin 10 i (by omega) (by omega) (by omega))).trans f_1365
    have f_1367 : F_1333 (ad 10) = rw7 G s_2 := (o_1340 (ad 10) (hin 10 134 (by omega) (by omega) (by omega)) (hin 10 12 (by omega) (by omega) (by omega)) (hin 10 11 (by omega) (by omega) (by omega))).trans f_1366
    have f_1368 : F_1346 (ad 10) = rw7 G s_2 := (o_1351 (ad 10) (fun i hS => hin 10 i (by omega) (by omega) (by omega))).trans f_1367
    have f_1369 : F_1346 (ad 11) = rw7 G t_1339 := (o_1351 (ad 11) (fun i hS => hin 11 i (by omega) (by omega) (by omega))).trans f_1337
    have f_1370 : F_1346 (ad 12) = rw7 G t_1338 := (o_1351 (ad 12) (fun i hS => hin 12 i (by omega) (by omega) (by omega))).trans f_1336
    have f_1371 : F_1310 (ad 13) = rw7 G s_5 := (o_1314 (ad 13) ).trans hs_5
    have f_1372 : F_1316 (ad 13) = rw7 G s_5 := (hp_1317.2 (ad 13) (fun i hS => hin 13 i (by omega) (by omega) (by omega))).trans f_1371
    have f_1373 : F_1333 (ad 13) = rw7 G s_5 := (o_1340 (ad 13) (hin 13 134 (by omega) (by omega) (by omega)) (hin 13 12 (by omega) (by omega) (by omega)) (hin 13 11 (by omega) (by omega) (by omega))).trans f_1372
    have f_1374 : F_1346 (ad 13) = rw7 G s_5 := (o_1351 (ad 13) (fun i hS => hin 13 i (by omega) (by omega) (by omega))).trans f_1373
    have f_1375 : F_1310 (ad 14) = rw7 G s_6 := (o_1314 (ad 14) ).trans hs_6
    have f_1376 : F_1316 (ad 14) = rw7 G s_6 := (hp_1317.2 (ad 14) (fun i hS => hin 14 i (by omega) (by omega) (by omega))).trans f_1375
    have f_1377 : F_1333 (ad 14) = rw7 G s_6 := (o_1340 (ad 14) (hin 14 134 (by omega) (by omega) (by omega)) (hin 14 12 (by omega) (by omega) (by omega)) (hin 14 11 (by omega) (by omega) (by omega))).trans f_1376
    have f_1378 : F_1346 (ad 14) = rw7 G s_6 := (o_1351 (ad 14) (fun i hS => hin 14 i (by omega) (by omega) (by omega))).trans f_1377
    have f_1379 : F_1310 (ad 15) = rw7 G s_7 := (o_1314 (ad 15) ).trans hs_7
    have f_1380 : F_1316 (ad 15) = rw7 G s_7 := (hp_1317.2 (ad 15) (fun i hS => hin 15 i (by omega) (by omega) (by omega))).trans f_1379
    have f_1381 : F_1333 (ad 15) = rw7 G s_7 := (o_1340 (ad 15) (hin 15 134 (by omega) (by omega) (by omega)) (hin 15 12 (by omega) (by omega) (by omega)) (hin 15 11 (by omega) (by omega) (by omega))).trans f_1380
    have f_1382 : F_1346 (ad 15) = rw7 G s_7 := (o_1351 (ad 15) (fun i hS => hin 15 i (by omega) (by omega) (by omega))).trans f_1381
    have f_1383 : F_1310 (ad 16) = rw7 G s_8 := (o_1314 (ad 16) ).trans hs_8
    have f_1384 : F_1316 (ad 16) = rw7 G s_8 := (hp_1317.2 (ad 16) (fun i hS => hin 16 i (by omega) (by omega) (by omega))).trans f_1383
    have f_1385 : F_1333 (ad 16) = rw7 G s_8 := (o_1340 (ad 16) (hin 16 134 (by omega) (by omega) (by omega)) (hin 16 12 (by omega) (by omega) (by omega)) (hin 16 11 (by omega) (by omega) (by omega))).trans f_1384
    have f_1386 : F_1346 (ad 16) = rw7 G s_8 := (o_1351 (ad 16) (fun i hS => hin 16 i (by omega) (by omega) (by omega))).trans f_1385
    have f_1387 : F_1310 (ad 17) = rw7 G s_9 := (o_1314 (ad 17) ).trans hs_9
    have f_1388 : F_1316 (ad 17) = rw7 G s_9 := (hp_1317.2 (ad 17) (fun i hS => hin 17 i (by omega) (by omega) (by omega))).trans f_1387
    have f_1389 : F_1333 (ad 17) = rw7 G s_9 := (o_1340 (ad 17) (hin 17 134 (by omega) (by omega) (by omega)) (hin 17 12 (by omega) (by omega) (by omega)) (hin 17 11 (by omega) (by omega) (by omega))).trans f_1388
    have f_1390 : F_1346 (ad 17) = rw7 G s_9 := (o_1351 (ad 17) (fun i hS => hin 17 i (by omega) (by omega) (by omega))).trans f_1389
    have f_1391 : F_1310 (ad 18) = rw7 G s_10 := (o_1314 (ad 18) ).trans hs_10
    have f_1392 : F_1316 (ad 18) = rw7 G s_10 := (hp_1317.2 (ad 18) (fun i hS => hin 18 i (by omega) (by omega) (by omega))).trans f_1391
    have f_1393 : F_1333 (ad 18) = rw7 G s_10 := (o_1340 (ad 18) (hin 18 134 (by omega) (by omega) (by omega)) (hin 18 12 (by omega) (by omega) (by omega)) (hin 18 11 (by omega) (by omega) (by omega))).trans f_1392
    have f_1394 : F_1346 (ad 18) = rw7 G s_10 := (o_1351 (ad 18) (fun i hS => hin 18 i (by omega) (by omega) (by omega))).trans f_1393
    have f_1395 : F_1310 (ad 19) = rw7 G s_11 := (o_1314 (ad 19) ).trans hs_11
    have f_1396 : F_1316 (ad 19) = rw7 G s_11 := (hp_1317.2 (ad 19) (fun i hS => hin 19 i (by omega) (by omega) (by omega))).trans f_1395
    have f_1397 : F_1333 (ad 19) = rw7 G s_11 := (o_1340 (ad 19) (hin 19 134 (by omega) (by omega) (by omega)) (hin 19 12 (by omega) (by omega) (by omega)) (hin 19 11 (by omega) (by omega) (by omega))).trans f_1396
    have f_1398 : F_1346 (ad 19) = rw7 G s_11 := (o_1351 (ad 19) (fun i hS => hin 19 i (by omega) (by omega) (by omega))).trans f_1397
    have f_1399 : F_1310 (ad 20) = rw7 G s_12 := (o_1314 (ad 20) ).trans hs_12
    have f_1400 : F_1316 (ad 20) = rw7 G s_12 := (hp_1317.2 (ad 20) (fun i hS => hin 20 i (by omega) (by omega) (by omega))).trans f_1399
    have f_1401 : F_1333 (ad 20) = rw7 G s_12 := (o_1340 (ad 20) (hin 20 134 (by omega) (by omega) (by omega)) (hin 20 12 (by omega) (by omega) (by omega)) (hin 20 11 (by omega) (by omega) (by omega))).trans f_1400
    have f_1402 : F_1346 (ad 20) = rw7 G s_12 := (o_1351 (ad 20) (fun i hS => hin 20 i (by omega) (by omega) (by omega))).trans f_1401
    have f_1403 : F_1310 (ad 21) = rw7 G s_13 := (o_1314 (ad 21) ).trans hs_13
    have f_1404 : F_1316 (ad 21) = rw7 G s_13 := (hp_1317.2 (ad 21) (fun i hS => hin 21 i (by omega) (by omega) (by omega))).trans f_1403
    have f_1405 : F_1333 (ad 21) = rw7 G s_13 := (o_1340 (ad 21) (hin 21 134 (by omega) (by omega) (by omega)) (hin 21 12 (by omega) (by omega) (by omega)) (hin 21 11 (by omega) (by omega) (by omega))).trans f_1404
    have f_1406 : F_1346 (ad 21) = rw7 G s_13 := (o_1351 (ad 21) (fun i hS => hin 21 i (by omega) (by omega) (by omega))).trans f_1405
    exact r_i C0 hr hlk hw (v := (lowR ((m_inv ((st.2.2.2.2.2 (6 + f9))) (st.1))))) rfl ⟨rfl, sta_row hn (t := ordT 105 t9) (u := ordR 105 f9 g9 st.1 st.2.2.2.2.2) (by unfold ordT; simp; omega) f_1353 rfl rfl (f_1350) (fun i0 hi => by simp [ordT] at hi; exact ((o_1351 (ad (i0)) (fun i hS => hin (i0) i (by omega) (by omega) (by omega)))).trans (((o_1340 (ad (i0)) (hin (i0) 134 (by omega) (by omega) (by omega)) (hin (i0) 12 (by omega) (by omega) (by omega)) (hin (i0) 11 (by omega) (by omega) (by omega)))).trans (((hp_1317.2 (ad (i0)) (fun i hS => hin (i0) i (by omega) (by omega) (by omega)))).trans ((o_1314 (ad (i0)) ))))), ⟨f_1356, lt14 ⟨_, f_1360⟩ ⟨_, f_1364⟩ ⟨_, f_1368⟩ ⟨_, f_1369⟩ ⟨_, f_1370⟩ ⟨_, f_1374⟩ ⟨_, f_1378⟩ ⟨_, f_1382⟩ ⟨_, f_1386⟩ ⟨_, f_1390⟩ ⟨_, f_1394⟩ ⟨_, f_1398⟩ ⟨_, f_1402⟩ ⟨_, f_1406⟩⟩, ⟨_, f_1354⟩, (fun q hq => ((o_1351 q (fun i hS => hq i (by omega))).trans ((o_1340 q (hq 134 (by omega)) (hq 12 (by omega)) (hq 11 (by omega))).trans ((hp_1317.2 q (fun i hS => hq i (by omega))).trans (o_1314 q )))))⟩ (Nat.le_refl _) (Nat.le_refl _) dX5_carryOut_398 hQ
  · skip
    exact absurd c_11 (by omega)
