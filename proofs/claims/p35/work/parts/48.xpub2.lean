def takeN (j cu : Nat) (r : Rws) (sn : Nat → Bool × Nat × Rws) : Nat → Bool × Nat × Rws := fun i => if i = j then (true, cu, r) else sn i
theorem tk_up (sn : Nat → Bool × Nat × Rws) (j cu : Nat) (r : Rws) : upd (fun j => if (sn j).1 then nI 1 else nI 0) j (vp_nar .boolean (nI 1)) = (fun i => if (takeN j cu r sn i).1 then nI 1 else nI 0) := by
  funext i
  by_cases e : i = j
  · subst e
    simp [upd, takeN]
    decide
  · simp [upd, takeN, e]
theorem snp_take {G : Gl} {F F1 : Nat → va_E} {ad : Nat → Nat} {sn : Nat → Bool × Nat × Rws} {j cu : Nat} {r : Rws} (hj : j < 2) (h3 : F1 (ad 3) = sE G ad) (h4 : F1 (ad 4) = tkE G (fun i => (takeN j cu r sn i).1)) (hs : shp G F1 ad (134 + 16 * j) cu r) (h : snpW G F ad sn) (k : ∀ i, ((135 ≤ i ∧ i < 150) ∨ (151 ≤ i ∧ i < 166)) → ¬ (134 + 16 * j < i ∧ i < 150 + 16 * j) → F1 (ad i) = F (ad i)) : snpW G F1 ad (takeN j cu r sn) := by
  refine ⟨h3, h4, fun i hi => ?_⟩
  by_cases e : i = j
  · subst e
    refine ⟨cu, r, hs, fun _ => ?_⟩
    simp [takeN]
  · obtain ⟨c2, r2, h1, h2⟩ := h.2.2 i hi
    refine ⟨c2, r2, h1.keep (fun a ha => k a (by omega) (by omega)), ?_⟩
    simp only [takeN, e, if_false]
    exact h2
theorem lk_A {a b : Nat} (h : a ≤ b) (hb : b < 2 ^ 30) : (if nI 0 < nI a - nI b then nI a - nI b else nI 0) = nI 0 := by
  have h1 : ¬ nI 0 < nI a - nI b := by
    rw [Int32.lt_iff_toInt_lt, pk_sub_toInt (by omega) hb]
    have h0 : (nI 0).toInt = 0 := rfl
    omega
  rw [if_neg h1]
theorem lk_B {a b : Nat} (h : b < a) (ha : a < 2 ^ 30) : (if nI 0 < nI a - nI b then nI a - nI b else nI 0) = nI (a - b) := by
  have h1 : nI 0 < nI a - nI b := by
    rw [Int32.lt_iff_toInt_lt, pk_sub_toInt ha (by omega)]
    have h0 : (nI 0).toInt = 0 := rfl
    omega
  rw [if_pos h1, pk_sub (by omega)]
abbrev rm_X5_field : Room := { frames := 1, cells := 0, slots := 0, locals := 22 }
set_option maxHeartbeats 4000000 in
set_option maxRecDepth 100000 in
theorem c_X5_field (l : Launch) (G : Gl) (L : List Nat) (F : Nat → va_E) (ad : Nat → Nat) (hL : ∀ i, i < 166 → ad i ∈ L) (hin : ∀ i j, i < 166 → j < 166 → i ≠ j → ad i ≠ ad j) (A : AB) (f9 p9 : Nat) (hf9 : f9 < 6) (hp9 : p9 ≤ 6) (hX : XW G F ad A) (hA : okA A) : CI l yX5_field cX5_field 3 (some .int) rm_X5_field G L F [.ref (ad 0), .int (nI (f9)), .int (nI (p9))] (fun r F1 => r = nI (A.1.2.2.2.2.2 f9 p9).val ∧ XW G F1 ad A ∧ ∀ q, (∀ i, (i < 166) → q ≠ ad i) → F1 q = F q) := by
  obtain ⟨fx, hn, hh, hsn, htx, hrk, ⟨u9, h134⟩, ⟨v9, h150⟩⟩ := hX
  obtain ⟨⟨hc2, hc, hpu, hok⟩, ⟨hh6, hho⟩, hso, hl60, hco⟩ := id hA
  refine CG_of (by decide) (Nat.le_of_ble_eq_true rfl) rfl ?_
  intro p e s m args below meth c Q C0 hr hlk hnm hQ hw ls hl
  have hx := C0.x
  have hb := C0.b
  refine lv_iload_n hx hb dX5_field_0 rfl (lv_at hl 1 rfl) ?_
  refine q_callv hw (q_runS (As := [.int (nI (f9))]) (c_X5_needSlot l G L F f9 (by omega)) C0 hw sw_X5_78 rfl hl.1 rfl (Nat.le_of_ble_eq_true rfl) dX5_field_1 ⟨by decide, by decide⟩ ⟨by decide, by decide⟩) rfl rfl (fun F_2151 H locs hw hp_2152 => ?_)
  refine lv_iload_n hx hb dX5_field_4 rfl (lv_at hl 2 rfl) ?_
  refine lv_iconst (v := nI 0) hx hb dX5_field_5 (by decide) ?_
  refine lv_bipush (v := nI 6) hx hb dX5_field_6 (by decide) ?_
  refine q_callv hw (q_runS (As := [.int (nI (p9)), .int (nI (0)), .int (nI (6))]) (c_X5_needPower l G L F_2151 p9 0 6 (by omega) (by omega) (by omega)) C0 hw sw_X5_81 rfl hl.1 rfl (Nat.le_of_ble_eq_true rfl) dX5_field_8 ⟨by decide, by decide⟩ ⟨by decide, by decide⟩) rfl rfl (fun F_2153 H locs hw hp_2154 => ?_)
  refine lv_aload_n hx hb dX5_field_11 rfl (lv_at hl 0 rfl) ?_
  have f_2155 : F_2151 (ad 0) = xO ad := (hp_2152 (ad 0) ).trans fx
  have f_2156 : F_2153 (ad 0) = xO ad := (hp_2154 (ad 0) ).trans f_2155
  refine q_get C0 hw ((hL 0 (by omega))) f_2156 fw_X5_12 rfl dX5_field_12 ?_
  have f_2157 : F_2151 (ad 22) = .inr (3, [.ref (ad 23), .int (nI (A.1.2.1)), .int (nI (A.1.2.2.1)), .int (nI (A.1.2.2.2.1)), .int (nI (A.1.2.2.2.2.1))]) := (hp_2152 (ad 22) ).trans hn.1
  have f_2158 : F_2153 (ad 22) = .inr (3, [.ref (ad 23), .int (nI (A.1.2.1)), .int (nI (A.1.2.2.1)), .int (nI (A.1.2.2.2.1)), .int (nI (A.1.2.2.2.2.1))]) := (hp_2154 (ad 22) ).trans f_2157
  refine q_get C0 hw ((hL 22 (by omega))) f_2158 fw_X5_66 rfl dX5_field_15 ?_
  have f_2159 : F_2151 (ad 23) = .inr (2, [.int (nI (A.1.1)), .ref (ad 24), .ref (ad 25)]) := (hp_2152 (ad 23) ).trans hn.2.1
  have f_2160 : F_2153 (ad 23) = .inr (2, [.int (nI (A.1.1)), .ref (ad 24), .ref (ad 25)]) := (hp_2154 (ad 23) ).trans f_2159
  refine q_get C0 hw ((hL 23 (by omega))) f_2160 fw_X5_85 rfl dX5_field_18 ?_
  refine lv_iload_n hx hb dX5_field_21 rfl (lv_at hl 1 rfl) ?_
  have f_2161 : F_2151 (ad 24) = oE G (fun i => ad (26 + i)) := (hp_2152 (ad 24) ).trans hn.2.2.1
  have f_2162 : F_2153 (ad 24) = oE G (fun i => ad (26 + i)) := (hp_2154 (ad 24) ).trans f_2161
  refine q_aaldi C0 hw ((hL 24 (by omega))) f_2162 (f9) (by omega) (by decide) (b := ad (26 + f9)) rfl dX5_field_22 ?_
  refine lv_iload_n hx hb dX5_field_23 rfl (lv_at hl 2 rfl) ?_
  have f_2163 : F_2151 (ad (26 + f9)) = rw7 G ((A.1.2.2.2.2.2 f9)) := (hp_2152 (ad (26 + f9)) ).trans ((hn.2.2.2.2 f9 (by omega)))
  have f_2164 : F_2153 (ad (26 + f9)) = rw7 G ((A.1.2.2.2.2.2 f9)) := (hp_2154 (ad (26 + f9)) ).trans f_2163
  refine q_rld C0 hw ((hL (26 + f9) (by omega))) f_2164 (p9) (by omega) dX5_field_24 (fun z_2165 => ?_)
  have f_2166 : F_2151 (ad 134) = rw7 G u9 := (hp_2152 (ad 134) ).trans h134
  have f_2167 : F_2153 (ad 134) = rw7 G u9 := (hp_2154 (ad 134) ).trans f_2166
  have f_2168 : F_2151 (ad 150) = rw7 G v9 := (hp_2152 (ad 150) ).trans h150
  have f_2169 : F_2153 (ad 150) = rw7 G v9 := (hp_2154 (ad 150) ).trans f_2168
  exact r_i C0 hr hlk hw (v := nI ((((A.1.2.2.2.2.2 f9)) (p9)).val)) rfl ⟨rfl, ⟨f_2156, (hn.keep (fun i0 hi => ((hp_2154 (ad (i0)) )).trans ((hp_2152 (ad (i0)) )))), (hh.keep (fun i0 hi => ((hp_2154 (ad (i0)) )).trans ((hp_2152 (ad (i0)) )))), (hsn.keep (fun i0 hi => ((hp_2154 (ad (i0)) )).trans ((hp_2152 (ad (i0)) )))), (htx.keep (fun i0 hi => ((hp_2154 (ad (i0)) )).trans ((hp_2152 (ad (i0)) )))), (hrk.keep (fun i0 hi => ((hp_2154 (ad (i0)) )).trans ((hp_2152 (ad (i0)) )))), ⟨_, f_2167⟩, ⟨_, f_2169⟩⟩, (fun q hq => ((hp_2154 q ).trans (hp_2152 q )))⟩ (Nat.le_refl _) (Nat.le_refl _) dX5_field_25 hQ
abbrev rm_X5_flow : Room := { frames := 1, cells := 0, slots := 0, locals := 22 }
set_option maxHeartbeats 4000000 in
set_option maxRecDepth 100000 in
theorem c_X5_flow (l : Launch) (G : Gl) (L : List Nat) (F : Nat → va_E) (ad : Nat → Nat) (hL : ∀ i, i < 166 → ad i ∈ L) (hin : ∀ i j, i < 166 → j < 166 → i ≠ j → ad i ≠ ad j) (A : AB) (f9 p9 : Nat) (hf9 : f9 < 6) (hp9 : p9 ≤ 6) (hX : XW G F ad A) (hA : okA A) : CI l yX5_flow cX5_flow 3 (some .int) rm_X5_flow G L F [.ref (ad 0), .int (nI (f9)), .int (nI (p9))] (fun r F1 => r = nI (A.1.2.2.2.2.2 (6 + f9) p9).val ∧ XW G F1 ad A ∧ ∀ q, (∀ i, (i < 166) → q ≠ ad i) → F1 q = F q) := by
  obtain ⟨fx, hn, hh, hsn, htx, hrk, ⟨u9, h134⟩, ⟨v9, h150⟩⟩ := hX
  obtain ⟨⟨hc2, hc, hpu, hok⟩, ⟨hh6, hho⟩, hso, hl60, hco⟩ := id hA
  refine CG_of (by decide) (Nat.le_of_ble_eq_true rfl) rfl ?_
  intro p e s m args below meth c Q C0 hr hlk hnm hQ hw ls hl
  have hx := C0.x
  have hb := C0.b
  refine lv_iload_n hx hb dX5_flow_0 rfl (lv_at hl 1 rfl) ?_
  refine q_callv hw (q_runS (As := [.int (nI (f9))]) (c_X5_needSlot l G L F f9 (by omega)) C0 hw sw_X5_78 rfl hl.1 rfl (Nat.le_of_ble_eq_true rfl) dX5_flow_1 ⟨by decide, by decide⟩ ⟨by decide, by decide⟩) rfl rfl (fun F_2170 H locs hw hp_2171 => ?_)
  refine lv_iload_n hx hb dX5_flow_4 rfl (lv_at hl 2 rfl) ?_
  refine lv_iconst (v := nI 0) hx hb dX5_flow_5 (by decide) ?_
  refine lv_bipush (v := nI 6) hx hb dX5_flow_6 (by decide) ?_
  refine q_callv hw (q_runS (As := [.int (nI (p9)), .int (nI (0)), .int (nI (6))]) (c_X5_needPower l G L F_2170 p9 0 6 (by omega) (by omega) (by omega)) C0 hw sw_X5_81 rfl hl.1 rfl (Nat.le_of_ble_eq_true rfl) dX5_flow_8 ⟨by decide, by decide⟩ ⟨by decide, by decide⟩) rfl rfl (fun F_2172 H locs hw hp_2173 => ?_)
  refine lv_aload_n hx hb dX5_flow_11 rfl (lv_at hl 0 rfl) ?_
  have f_2174 : F_2170 (ad 0) = xO ad := (hp_2171 (ad 0) ).trans fx
  have f_2175 : F_2172 (ad 0) = xO ad := (hp_2173 (ad 0) ).trans f_2174
  refine q_get C0 hw ((hL 0 (by omega))) f_2175 fw_X5_12 rfl dX5_flow_12 ?_
  have f_2176 : F_2170 (ad 22) = .inr (3, [.ref (ad 23), .int (nI (A.1.2.1)), .int (nI (A.1.2.2.1)), .int (nI (A.1.2.2.2.1)), .int (nI (A.1.2.2.2.2.1))]) := (hp_2171 (ad 22) ).trans hn.1
  have f_2177 : F_2172 (ad 22) = .inr (3, [.ref (ad 23), .int (nI (A.1.2.1)), .int (nI (A.1.2.2.1)), .int (nI (A.1.2.2.2.1)), .int (nI (A.1.2.2.2.2.1))]) := (hp_2173 (ad 22) ).trans f_2176
  refine q_get C0 hw ((hL 22 (by omega))) f_2177 fw_X5_66 rfl dX5_flow_15 ?_
  have f_2178 : F_2170 (ad 23) = .inr (2, [.int (nI (A.1.1)), .ref (ad 24), .ref (ad 25)]) := (hp_2171 (ad 23) ).trans hn.2.1
  have f_2179 : F_2172 (ad 23) = .inr (2, [.int (nI (A.1.1)), .ref (ad 24), .ref (ad 25)]) := (hp_2173 (ad 23) ).trans f_2178
  refine q_get C0 hw ((hL 23 (by omega))) f_2179 fw_X5_93 rfl dX5_flow_18 ?_
  refine lv_iload_n hx hb dX5_flow_21 rfl (lv_at hl 1 rfl) ?_
  have f_2180 : F_2170 (ad 25) = oE G (fun i => ad (32 + i)) := (hp_2171 (ad 25) ).trans hn.2.2.2.1
  have f_2181 : F_2172 (ad 25) = oE G (fun i => ad (32 + i)) := (hp_2173 (ad 25) ).trans f_2180
  refine q_aaldi C0 hw ((hL 25 (by omega))) f_2181 (f9) (by omega) (by decide) (b := ad (32 + f9)) rfl dX5_flow_22 ?_
  refine lv_iload_n hx hb dX5_flow_23 rfl (lv_at hl 2 rfl) ?_
  have f_2182 : F_2170 (ad (32 + f9)) = rw7 G ((A.1.2.2.2.2.2 (6 + f9))) := (hp_2171 (ad (32 + f9)) ).trans ((show F (ad (32 + f9)) = _ from by have h9 := hn.2.2.2.2 (6 + f9) (by omega); rwa [show 22 + 4 + (6 + f9) = 32 + f9 by omega] at h9))
  have f_2183 : F_2172 (ad (32 + f9)) = rw7 G ((A.1.2.2.2.2.2 (6 + f9))) := (hp_2173 (ad (32 + f9)) ).trans f_2182
  refine q_rld C0 hw ((hL (32 + f9) (by omega))) f_2183 (p9) (by omega) dX5_flow_24 (fun z_2184 => ?_)
  have f_2185 : F_2170 (ad 134) = rw7 G u9 := (hp_2171 (ad 134) ).trans h134
  have f_2186 : F_2172 (ad 134) = rw7 G u9 := (hp_2173 (ad 134) ).trans f_2185
  have f_2187 : F_2170 (ad 150) = rw7 G v9 := (hp_2171 (ad 150) ).trans h150
  have f_2188 : F_2172 (ad 150) = rw7 G v9 := (hp_2173 (ad 150) ).trans f_2187
  exact r_i C0 hr hlk hw (v := nI ((((A.1.2.2.2.2.2 (6 + f9))) (p9)).val)) rfl ⟨rfl, ⟨f_2175, (hn.keep (fun i0 hi => ((hp_2173 (ad (i0)) )).trans ((hp_2171 (ad (i0)) )))), (hh.keep (fun i0 hi => ((hp_2173 (ad (i0)) )).trans ((hp_2171 (ad (i0)) )))), (hsn.keep (fun i0 hi => ((hp_2173 (ad (i0)) )).trans ((hp_2171 (ad (i0)) )))), (htx.keep (fun i0 hi => ((hp_2173 (ad (i0)) )).trans ((hp_2171 (ad (i0)) )))), (hrk.keep (fun i0 hi => ((hp_2173 (ad (i0)) )).trans ((hp_2171 (ad (i0)) )))), ⟨_, f_2186⟩, ⟨_, f_2188⟩⟩, (fun q hq => ((hp_2173 q ).trans (hp_2171 q )))⟩ (Nat.le_refl _) (Nat.le_refl _) dX5_flow_25 hQ
