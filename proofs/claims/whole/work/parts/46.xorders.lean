/-! the component's whole world -/
abbrev AB : Type := Sta × (Nat × (Nat → Sta)) × (Nat → Bool × Nat × Rws) × (Nat × (Nat → Nat))
abbrev sE (G : Gl) (ad : Nat → Nat) : va_E := .inl (G.2 2, 2, .inr (.inr (.inr (.inr (fun j => some (ad (135 + 16 * j)))))))
abbrev tkE (G : Gl) (t : Nat → Bool) : va_E := .inl (G.2 1, 2, .inl (fun j => if t j then nI 1 else nI 0))
abbrev tO (a n : Nat) : va_E := .inr (4, [.ref a, .int (nI n)])
def snpW (G : Gl) (F : Nat → va_E) (ad : Nat → Nat) (sn : Nat → Bool × Nat × Rws) : Prop := F (ad 3) = sE G ad ∧ F (ad 4) = tkE G (fun j => (sn j).1) ∧ ∀ j, j < 2 → ∃ (cu : Nat) (r : Rws), shp G F ad (134 + 16 * j) cu r ∧ ((sn j).1 = true → cu = (sn j).2.1 ∧ r = (sn j).2.2)
def txtW (G : Gl) (F : Nat → va_E) (ad : Nat → Nat) (t : Nat × (Nat → Nat)) : Prop := F (ad 5) = tO (ad 6) t.1 ∧ ∃ cf : Nat → Int32, F (ad 6) = .inl (G.2 0, 60, .inl cf) ∧ (∀ i, i < t.1 → cf i = nI (t.2 i)) ∧ t.1 ≤ 60
theorem snpW.keep {G : Gl} {F F1 : Nat → va_E} {ad : Nat → Nat} {sn : Nat → Bool × Nat × Rws} (h : snpW G F ad sn) (k : ∀ i, (i = 3 ∨ i = 4 ∨ (135 ≤ i ∧ i < 150) ∨ (151 ≤ i ∧ i < 166)) → F1 (ad i) = F (ad i)) : snpW G F1 ad sn :=
  ⟨(k 3 (by omega)).trans h.1, (k 4 (by omega)).trans h.2.1, fun j hj => by
    obtain ⟨cu, r, h1, h2⟩ := h.2.2 j hj
    exact ⟨cu, r, h1.keep (fun i hi => k i (by omega)), h2⟩⟩
theorem txtW.keep {G : Gl} {F F1 : Nat → va_E} {ad : Nat → Nat} {t : Nat × (Nat → Nat)} (h : txtW G F ad t) (k : ∀ i, (i = 5 ∨ i = 6) → F1 (ad i) = F (ad i)) : txtW G F1 ad t := by
  obtain ⟨h1, cf, h2, h3⟩ := h
  exact ⟨(k 5 (by omega)).trans h1, cf, (k 6 (by omega)).trans h2, h3⟩
def XW (G : Gl) (F : Nat → va_E) (ad : Nat → Nat) (A : AB) : Prop := F (ad 0) = xO ad ∧ sta G F ad 22 A.1 ∧ hisW G F ad A.2.1 ∧ snpW G F ad A.2.2.1 ∧ txtW G F ad A.2.2.2 ∧ rkW G F ad ∧ (∃ u, F (ad 134) = rw7 G u) ∧ (∃ u, F (ad 150) = rw7 G u)
theorem XW.keep {G : Gl} {F F1 : Nat → va_E} {ad : Nat → Nat} {A : AB} (h : XW G F ad A) (k : ∀ i, i < 166 → F1 (ad i) = F (ad i)) : XW G F1 ad A := by
  obtain ⟨h0, h1, h2, h3, h4, h5, ⟨u, h6⟩, ⟨v, h7⟩⟩ := h
  exact ⟨(k 0 (by omega)).trans h0, h1.keep (fun i hi => k i (by omega)), h2.keep (fun i hi => k i (by omega)), h3.keep (fun i hi => k i (by omega)), h4.keep (fun i hi => k i (by omega)), h5.keep (fun i hi => k i (by omega)), ⟨u, (k 134 (by omega)).trans h6⟩, ⟨v, (k 150 (by omega)).trans h7⟩⟩
/-- a state that can come up: what it keeps -/
def okR (r : Rws) : Prop := ∀ i, i < 6 → r i 0 = 0 ∧ r i 1 = 0
def okS (st : Sta) : Prop := 2 ≤ st.1 ∧ st.1 ≤ 6 ∧ st.2.1 ≤ 100000 ∧ okR st.2.2.2.2.2
def okA (A : AB) : Prop := okS A.1 ∧ (A.2.1.1 ≤ 6 ∧ ∀ i, i < A.2.1.1 → okS (A.2.1.2 i)) ∧ (∀ j, j < 2 → (A.2.2.1 j).1 = true → 2 ≤ (A.2.2.1 j).2.1 ∧ (A.2.2.1 j).2.1 ≤ 6 ∧ okR (A.2.2.1 j).2.2) ∧ A.2.2.2.1 ≤ 60 ∧ ∀ i, i < A.2.2.2.1 → 33 ≤ A.2.2.2.2 i ∧ A.2.2.2.2 i ≤ 126
def aSave (A : AB) (st : Sta) : AB := (st, saveH A.2.1 A.1, A.2.2)

abbrev rm_X5_orderAlone : Room := { frames := 5, cells := 0, slots := 0, locals := 140 }
set_option maxHeartbeats 4000000 in
set_option maxRecDepth 100000 in
theorem c_X5_orderAlone_98 (l : Launch) (G : Gl) (L : List Nat) (F : Nat → va_E) (ad : Nat → Nat) (hL : ∀ i, i < 166 → ad i ∈ L) (hin : ∀ i j, i < 166 → j < 166 → i ≠ j → ad i ≠ ad j) (A : AB) (f9 g9 t9 : Nat) (hf9 : f9 < 6) (hg9 : g9 < 6) (ht9 : t9 < 6) (hm : 2 * A.1.1 ≤ A.1.2.1) (hX : XW G F ad A) (hA : okA A) : CI l yX5_orderAlone cX5_orderAlone 5 (some .int) rm_X5_orderAlone G L F [.ref (ad 0), .int (nI (98)), .int (nI (f9)), .int (nI (g9)), .int (nI (t9))] (fun r F1 => r = lowR (ordR 98 f9 g9 A.1.1 A.1.2.2.2.2.2) ∧ XW G F1 ad (aSave A (ordS 98 f9 g9 t9 A.1)) ∧ ∀ q, (∀ i, (i < 166) → q ≠ ad i) → F1 q = F q) := by
  obtain ⟨fx, hn, hh, hsn, htx, hrk, ⟨u9, h134⟩, ⟨v9, h150⟩⟩ := hX
  obtain ⟨⟨hc2, hc, hpu, hok⟩, ⟨hh6, hho⟩, hso, hl60, hco⟩ := id hA
  refine CG_of (by decide) (Nat.le_of_ble_eq_true rfl) rfl ?_
  intro p e s m args below meth c Q C0 hr hlk hnm hQ hw ls hl
  have hx := C0.x
  have hb := C0.b
  refine lv_iload_n hx hb dX5_orderAlone_0 rfl (lv_at hl 2 rfl) ?_
  refine q_callv hw (q_runS (As := [.int (nI (f9))]) (c_X5_needSlot l G L F f9 (by omega)) C0 hw sw_X5_78 rfl hl.1 rfl (Nat.le_of_ble_eq_true rfl) dX5_orderAlone_1 ⟨by decide, by decide⟩ ⟨by decide, by decide⟩) rfl rfl (fun F_2207 H locs hw hp_2208 => ?_)
  refine lv_iload_n hx hb dX5_orderAlone_4 rfl (lv_at hl 3 rfl) ?_
  refine q_callv hw (q_runS (As := [.int (nI (g9))]) (c_X5_needSlot l G L F_2207 g9 (by omega)) C0 hw sw_X5_78 rfl hl.1 rfl (Nat.le_of_ble_eq_true rfl) dX5_orderAlone_5 ⟨by decide, by decide⟩ ⟨by decide, by decide⟩) rfl rfl (fun F_2209 H locs hw hp_2210 => ?_)
  refine lv_iload hx hb dX5_orderAlone_8 (lv_at hl 4 rfl) ?_
  refine q_callv hw (q_runS (As := [.int (nI (t9))]) (c_X5_needSlot l G L F_2209 t9 (by omega)) C0 hw sw_X5_78 rfl hl.1 rfl (Nat.le_of_ble_eq_true rfl) dX5_orderAlone_10 ⟨by decide, by decide⟩ ⟨by decide, by decide⟩) rfl rfl (fun F_2211 H locs hw hp_2212 => ?_)
  refine lv_aload_n hx hb dX5_orderAlone_13 rfl (lv_at hl 0 rfl) ?_
  refine lv_iload_n hx hb dX5_orderAlone_14 rfl (lv_at hl 1 rfl) ?_
  refine q_calli hw (q_runS (As := [.int (nI (98))]) (c_X5_unitsOf_98 l G L F_2211 ) C0 hw sw_X5_225 rfl hl.1 rfl (Nat.le_of_ble_eq_true rfl) dX5_orderAlone_15 ⟨by decide, by decide⟩ ⟨by decide, by decide⟩) rfl rfl (fun r_2215 F_2213 H locs hw hp_2214 => ?_)
  obtain ⟨he_2216, o_2217⟩ := hp_2214
  subst he_2216
  have f_2218 : F_2207 (ad 0) = xO ad := (hp_2208 (ad 0) ).trans fx
  have f_2219 : F_2209 (ad 0) = xO ad := (hp_2210 (ad 0) ).trans f_2218
  have f_2220 : F_2211 (ad 0) = xO ad := (hp_2212 (ad 0) ).trans f_2219
  have f_2221 : F_2213 (ad 0) = xO ad := (o_2217 (ad 0) ).trans f_2220
  refine q_callv hw (q_runV (As := [.int (nI (2))]) (c_X5_needMoney l G L F_2213 ad hL hin 2 A.1 f_2221 (hn.keep (fun i0 hi => ((o_2217 (ad (i0)) )).trans (((hp_2212 (ad (i0)) )).trans (((hp_2210 (ad (i0)) )).trans ((hp_2208 (ad (i0)) )))))) (by omega) (by omega)) C0 hw vw_X5_111 ((hL 0 (by omega))) f_2221 rfl rfl rfl hl.1 rfl (Nat.le_of_ble_eq_true rfl) dX5_orderAlone_18 ⟨by decide, by decide⟩ ⟨by decide, by decide⟩) rfl rfl (fun F_2222 H locs hw hp_2223 => ?_)
  refine lv_aload_n hx hb dX5_orderAlone_21 rfl (lv_at hl 0 rfl) ?_
  have f_2224 : F_2222 (ad 0) = xO ad := (hp_2223 (ad 0) ).trans f_2221
  refine q_get C0 hw ((hL 0 (by omega))) f_2224 fw_X5_19 rfl dX5_orderAlone_22 ?_
  refine lv_aload_n hx hb dX5_orderAlone_25 rfl (lv_at hl 0 rfl) ?_
  refine q_get C0 hw ((hL 0 (by omega))) f_2224 fw_X5_12 rfl dX5_orderAlone_26 ?_
  obtain ⟨_, _, hf_2225, _⟩ := id (hh.keep (fun i0 hi => ((hp_2223 (ad (i0)) )).trans (((o_2217 (ad (i0)) )).trans (((hp_2212 (ad (i0)) )).trans (((hp_2210 (ad (i0)) )).trans ((hp_2208 (ad (i0)) )))))))
  refine q_callv hw (q_runV (As := [.ref (ad 22)]) (c_X0_save l G L F_2222 ad hL hin A.2.1 A.1 (hh.keep (fun i0 hi => ((hp_2223 (ad (i0)) )).trans (((o_2217 (ad (i0)) )).trans (((hp_2212 (ad (i0)) )).trans (((hp_2210 (ad (i0)) )).trans ((hp_2208 (ad (i0)) ))))))) (hn.keep (fun i0 hi => ((hp_2223 (ad (i0)) )).trans (((o_2217 (ad (i0)) )).trans (((hp_2212 (ad (i0)) )).trans (((hp_2210 (ad (i0)) )).trans ((hp_2208 (ad (i0)) )))))))) C0 hw vw_X5_62 ((hL 1 (by omega))) hf_2225 rfl rfl rfl hl.1 rfl (Nat.le_of_ble_eq_true rfl) dX5_orderAlone_29 ⟨by decide, by decide⟩ ⟨by decide, by decide⟩) rfl rfl (fun F_2226 H locs hw hp_2227 => ?_)
  refine lv_aload_n hx hb dX5_orderAlone_32 rfl (lv_at hl 0 rfl) ?_
  refine lv_iload_n hx hb dX5_orderAlone_33 rfl (lv_at hl 1 rfl) ?_
  refine lv_iload_n hx hb dX5_orderAlone_34 rfl (lv_at hl 2 rfl) ?_
  refine lv_iload_n hx hb dX5_orderAlone_35 rfl (lv_at hl 3 rfl) ?_
  refine lv_iload hx hb dX5_orderAlone_36 (lv_at hl 4 rfl) ?_
  have f_2228 : F_2226 (ad 0) = xO ad := (hp_2227.2 (ad 0) (fun i hS => hin 0 i (by omega) (by omega) (by omega))).trans f_2224
  have f_2229 : F_2207 (ad 134) = rw7 G u9 := (hp_2208 (ad 134) ).trans h134
  have f_2230 : F_2209 (ad 134) = rw7 G u9 := (hp_2210 (ad 134) ).trans f_2229
  have f_2231 : F_2211 (ad 134) = rw7 G u9 := (hp_2212 (ad 134) ).trans f_2230
  have f_2232 : F_2213 (ad 134) = rw7 G u9 := (o_2217 (ad 134) ).trans f_2231
  have f_2233 : F_2222 (ad 134) = rw7 G u9 := (hp_2223 (ad 134) ).trans f_2232
  have f_2234 : F_2226 (ad 134) = rw7 G u9 := (hp_2227.2 (ad 134) (fun i hS => hin 134 i (by omega) (by omega) (by omega))).trans f_2233
  refine q_calli hw (q_runV (As := [.int (nI (98)), .int (nI (f9)), .int (nI (g9)), .int (nI (t9))]) (c_X5_carryOut_98 l G L F_2226 ad hL hin f9 g9 t9 A.1 _ f_2228 (hn.keep (fun i0 hi => ((hp_2227.2 (ad (i0)) (fun i hS => hin (i0) i (by omega) (by omega) (by omega)))).trans (((hp_2223 (ad (i0)) )).trans (((o_2217 (ad (i0)) )).trans (((hp_2212 (ad (i0)) )).trans (((hp_2210 (ad (i0)) )).trans ((hp_2208 (ad (i0)) )))))))) (hrk.keep (fun i0 hi => ((hp_2227.2 (ad (i0)) (fun i hS => hin (i0) i (by omega) (by omega) (by omega)))).trans (((hp_2223 (ad (i0)) )).trans (((o_2217 (ad (i0)) )).trans (((hp_2212 (ad (i0)) )).trans (((hp_2210 (ad (i0)) )).trans ((hp_2208 (ad (i0)) )))))))) f_2234 (by omega) (by omega) (by omega) (by omega) (by omega) (by omega) (by omega)) C0 hw vw_X5_299 ((hL 0 (by omega))) f_2228 rfl rfl rfl hl.1 rfl (Nat.le_of_ble_eq_true rfl) dX5_orderAlone_38 ⟨by decide, by decide⟩ ⟨by decide, by decide⟩) rfl rfl (fun r_2237 F_2235 H locs hw hp_2236 => ?_)
  obtain ⟨h_2238, h_2239, h_2240, ⟨u_2243, h_2241⟩, h_2242⟩ := hp_2236
  subst h_2238
  have f_2244 : F_2235 (ad 0) = xO ad := (h_2242 (ad 0) (fun i hS => hin 0 i (by omega) (by omega) (by omega))).trans f_2228
  have f_2245 : F_2207 (ad 150) = rw7 G v9 := (hp_2208 (ad 150) ).trans h150
  have f_2246 : F_2209 (ad 150) = rw7 G v9 := (hp_2210 (ad 150) ).trans f_2245
  have f_2247 : F_2211 (ad 150) = rw7 G v9 := (hp_2212 (ad 150) ).trans f_2246
  have f_2248 : F_2213 (ad 150) = rw7 G v9 := (o_2217 (ad 150) ).trans f_2247
  have f_2249 : F_2222 (ad 150) = rw7 G v9 := (hp_2223 (ad 150) ).trans f_2248
  have f_2250 : F_2226 (ad 150) = rw7 G v9 := (hp_2227.2 (ad 150) (fun i hS => hin 150 i (by omega) (by omega) (by omega))).trans f_2249
  have f_2251 : F_2235 (ad 150) = rw7 G v9 := (h_2242 (ad 150) (fun i hS => hin 150 i (by omega) (by omega) (by omega))).trans f_2250
  exact r_i C0 hr hlk hw (v := (lowR (ordR 98 f9 g9 A.1.1 A.1.2.2.2.2.2))) rfl ⟨rfl, ⟨f_2244, h_2239, (hp_2227.1.keep (fun i0 hi => (h_2242 (ad (i0)) (fun i hS => hin (i0) i (by omega) (by omega) (by omega))))), (hsn.keep (fun i0 hi => ((h_2242 (ad (i0)) (fun i hS => hin (i0) i (by omega) (by omega) (by omega)))).trans (((hp_2227.2 (ad (i0)) (fun i hS => hin (i0) i (by omega) (by omega) (by omega)))).trans (((hp_2223 (ad (i0)) )).trans (((o_2217 (ad (i0)) )).trans (((hp_2212 (ad (i0)) )).trans (((hp_2210 (ad (i0)) )).trans ((hp_2208 (ad (i0)) ))))))))), (htx.keep (fun i0 hi => ((h_2242 (ad (i0)) (fun i hS => hin (i0) i (by omega) (by omega) (by omega)))).trans (((hp_2227.2 (ad (i0)) (fun i hS => hin (i0) i (by omega) (by omega) (by omega)))).trans (((hp_2223 (ad (i0)) )).trans (((o_2217 (ad (i0)) )).trans (((hp_2212 (ad (i0)) )).trans (((hp_2210 (ad (i0)) )).trans ((hp_2208 (ad (i0)) ))))))))), h_2240, ⟨_, h_2241⟩, ⟨_, f_2251⟩⟩, (fun q hq => ((h_2242 q (fun i hS => hq i (by omega))).trans ((hp_2227.2 q (fun i hS => hq i (by omega))).trans ((hp_2223 q ).trans ((o_2217 q ).trans ((hp_2212 q ).trans ((hp_2210 q ).trans (hp_2208 q ))))))))⟩ (Nat.le_refl _) (Nat.le_refl _) dX5_orderAlone_41 hQ
set_option maxHeartbeats 4000000 in
set_option maxRecDepth 100000 in
theorem c_X5_orderAlone_115 (l : Launch) (G : Gl) (L : List Nat) (F : Nat → va_E) (ad : Nat → Nat) (hL : ∀ i, i < 166 → ad i ∈ L) (hin : ∀ i j, i < 166 → j < 166 → i ≠ j → ad i ≠ ad j) (A : AB) (f9 g9 t9 : Nat) (hf9 : f9 < 6) (hg9 : g9 < 6) (ht9 : t9 < 6) (hm : 1 * A.1.1 ≤ A.1.2.1) (hX : XW G F ad A) (hA : okA A) : CI l yX5_orderAlone cX5_orderAlone 5 (some .int) rm_X5_orderAlone G L F [.ref (ad 0), .int (nI (115)), .int (nI (f9)), .int (nI (g9)), .int (nI (t9))] (fun r F1 => r = lowR (ordR 115 f9 g9 A.1.1 A.1.2.2.2.2.2) ∧ XW G F1 ad (aSave A (ordS 115 f9 g9 t9 A.1)) ∧ ∀ q, (∀ i, (i < 166) → q ≠ ad i) → F1 q = F q) := by
  obtain ⟨fx, hn, hh, hsn, htx, hrk, ⟨u9, h134⟩, ⟨v9, h150⟩⟩ := hX
  obtain ⟨⟨hc2, hc, hpu, hok⟩, ⟨hh6, hho⟩, hso, hl60, hco⟩ := id hA
  refine CG_of (by decide) (Nat.le_of_ble_eq_true rfl) rfl ?_
  intro p e s m args below meth c Q C0 hr hlk hnm hQ hw ls hl
  have hx := C0.x
  have hb := C0.b
  refine lv_iload_n hx hb dX5_orderAlone_0 rfl (lv_at hl 2 rfl) ?_
  refine q_callv hw (q_runS (As := [.int (nI (f9))]) (c_X5_needSlot l G L F f9 (by omega)) C0 hw sw_X5_78 rfl hl.1 rfl (Nat.le_of_ble_eq_true rfl) dX5_orderAlone_1 ⟨by decide, by decide⟩ ⟨by decide, by decide⟩) rfl rfl (fun F_2252 H locs hw hp_2253 => ?_)
  refine lv_iload_n hx hb dX5_orderAlone_4 rfl (lv_at hl 3 rfl) ?_
  refine q_callv hw (q_runS (As := [.int (nI (g9))]) (c_X5_needSlot l G L F_2252 g9 (by omega)) C0 hw sw_X5_78 rfl hl.1 rfl (Nat.le_of_ble_eq_true rfl) dX5_orderAlone_5 ⟨by decide, by decide⟩ ⟨by decide, by decide⟩) rfl rfl (fun F_2254 H locs hw hp_2255 => ?_)
  refine lv_iload hx hb dX5_orderAlone_8 (lv_at hl 4 rfl) ?_
  refine q_callv hw (q_runS (As := [.int (nI (t9))]) (c_X5_needSlot l G L F_2254 t9 (by omega)) C0 hw sw_X5_78 rfl hl.1 rfl (Nat.le_of_ble_eq_true rfl) dX5_orderAlone_10 ⟨by decide, by decide⟩ ⟨by decide, by decide⟩) rfl rfl (fun F_2256 H locs hw hp_2257 => ?_)
  refine lv_aload_n hx hb dX5_orderAlone_13 rfl (lv_at hl 0 rfl) ?_
  refine lv_iload_n hx hb dX5_orderAlone_14 rfl (lv_at hl 1 rfl) ?_
  refine q_calli hw (q_runS (As := [.int (nI (115))]) (c_X5_unitsOf_115 l G L F_2256 ) C0 hw sw_X5_225 rfl hl.1 rfl (Nat.le_of_ble_eq_true rfl) dX5_orderAlone_15 ⟨by decide, by decide⟩ ⟨by decide, by decide⟩) rfl rfl (fun r_2260 F_2258 H locs hw hp_2259 => ?_)
  obtain ⟨he_2261, o_2262⟩ := hp_2259
  subst he_2261
  have f_2263 : F_2252 (ad 0) = xO ad := (hp_2253 (ad 0) ).trans fx
  have f_2264 : F_2254 (ad 0) = xO ad := (hp_2255 (ad 0) ).trans f_2263
  have f_2265 : F_2256 (ad 0) = xO ad := (hp_2257 (ad 0) ).trans f_2264
  have f_2266 : F_2258 (ad 0) = xO ad := (o_2262 (ad 0) ).trans f_2265
  refine q_callv hw (q_runV (As := [.int (nI (1))]) (c_X5_needMoney l G L F_2258 ad hL hin 1 A.1 f_2266 (hn.keep (fun i0 hi => ((o_2262 (ad (i0)) )).trans (((hp_2257 (ad (i0)) )).trans (((hp_2255 (ad (i0)) )).trans ((hp_2253 (ad (i0)) )))))) (by omega) (by omega)) C0 hw vw_X5_111 ((hL 0 (by omega))) f_2266 rfl rfl rfl hl.1 rfl (Nat.le_of_ble_eq_true rfl) dX5_orderAlone_18 ⟨by decide, by decide⟩ ⟨by decide, by decide⟩) rfl rfl (fun F_2267 H locs hw hp_2268 => ?_)
  refine lv_aload_n hx hb dX5_orderAlone_21 rfl (lv_at hl 0 rfl) ?_
  have f_2269 : F_2267 (ad 0) = xO ad := (hp_2268 (ad 0) ).trans f_2266
  refine q_get C0 hw ((hL 0 (by omega))) f_2269 fw_X5_19 rfl dX5_orderAlone_22 ?_
  refine lv_aload_n hx hb dX5_orderAlone_25 rfl (lv_at hl 0 rfl) ?_
  refine q_get C0 hw ((hL 0 (by omega))) f_2269 fw_X5_12 rfl dX5_orderAlone_26 ?_
  obtain ⟨_, _, hf_2270, _⟩ := id (hh.keep (fun i0 hi => ((hp_2268 (ad (i0)) )).trans (((o_2262 (ad (i0)) )).trans (((hp_2257 (ad (i0)) )).trans (((hp_2255 (ad (i0)) )).trans ((hp_2253 (ad (i0)) )))))))
  refine q_callv hw (q_runV (As := [.ref (ad 22)]) (c_X0_save l G L F_2267 ad hL hin A.2.1 A.1 (hh.keep (fun i0 hi => ((hp_2268 (ad (i0)) )).trans (((o_2262 (ad (i0)) )).trans (((hp_2257 (ad (i0)) )).trans (((hp_2255 (ad (i0)) )).trans ((hp_2253 (ad (i0)) ))))))) (hn.keep (fun i0 hi => ((hp_2268 (ad (i0)) )).trans (((o_2262 (ad (i0)) )).trans (((hp_2257 (ad (i0)) )).trans (((hp_2255 (ad (i0)) )).trans ((hp_2253 (ad (i0)) )))))))) C0 hw vw_X5_62 ((hL 1 (by omega))) hf_2270 rfl rfl rfl hl.1 rfl (Nat.le_of_ble_eq_true rfl) dX5_orderAlone_29 ⟨by decide, by decide⟩ ⟨by decide, by decide⟩) rfl rfl (fun F_2271 H locs hw hp_2272 => ?_)
  refine lv_aload_n hx hb dX5_orderAlone_32 rfl (lv_at hl 0 rfl) ?_
  refine lv_iload_n hx hb dX5_orderAlone_33 rfl (lv_at hl 1 rfl) ?_
  refine lv_iload_n hx hb dX5_orderAlone_34 rfl (lv_at hl 2 rfl) ?_
  refine lv_iload_n hx hb dX5_orderAlone_35 rfl (lv_at hl 3 rfl) ?_
  refine lv_iload hx hb dX5_orderAlone_36 (lv_at hl 4 rfl) ?_
  have f_2273 : F_2271 (ad 0) = xO ad := (hp_2272.2 (ad 0) (fun i hS => hin 0 i (by omega) (by omega) (by omega))).trans f_2269
  have f_2274 : F_2252 (ad 134) = rw7 G u9 := (hp_2253 (ad 134) ).trans h134
  have f_2275 : F_2254 (ad 134) = rw7 G u9 := (hp_2255 (ad 134) ).trans f_2274
  have f_2276 : F_2256 (ad 134) = rw7 G u9 := (hp_2257 (ad 134) ).trans f_2275
  have f_2277 : F_2258 (ad 134) = rw7 G u9 := (o_2262 (ad 134) ).trans f_2276
  have f_2278 : F_2267 (ad 134) = rw7 G u9 := (hp_2268 (ad 134) ).trans f_2277
  have f_2279 : F_2271 (ad 134) = rw7 G u9 := (hp_2272.2 (ad 134) (fun i hS => hin 134 i (by omega) (by omega) (by omega))).trans f_2278
  refine q_calli hw (q_runV (As := [.int (nI (115)), .int (nI (f9)), .int (nI (g9)), .int (nI (t9))]) (c_X5_carryOut_115 l G L F_2271 ad hL hin f9 g9 t9 A.1 _ f_2273 (hn.keep (fun i0 hi => ((hp_2272.2 (ad (i0)) (fun i hS => hin (i0) i (by omega) (by omega) (by omega)))).trans (((hp_2268 (ad (i0)) )).trans (((o_2262 (ad (i0)) )).trans (((hp_2257 (ad (i0)) )).trans (((hp_2255 (ad (i0)) )).trans ((hp_2253 (ad (i0)) )))))))) (hrk.keep (fun i0 hi => ((hp_2272.2 (ad (i0)) (fun i hS => hin (i0) i (by omega) (by omega) (by omega)))).trans (((hp_2268 (ad (i0)) )).trans (((o_2262 (ad (i0)) )).trans (((hp_2257 (ad (i0)) )).trans (((hp_2255 (ad (i0)) )).trans ((hp_2253 (ad (i0)) )))))))) f_2279 (by omega) (by omega) (by omega) (by omega) (by omega) (by omega) (by omega)) C0 hw vw_X5_299 ((hL 0 (by omega))) f_2273 rfl rfl rfl hl.1 rfl (Nat.le_of_ble_eq_true rfl) dX5_orderAlone_38 ⟨by decide, by decide⟩ ⟨by decide, by decide⟩) rfl rfl (fun r_2282 F_2280 H locs hw hp_2281 => ?_)
  obtain ⟨h_2283, h_2284, h_2285, ⟨u_2288, h_2286⟩, h_2287⟩ := hp_2281
  subst h_2283
  have f_2289 : F_2280 (ad 0) = xO ad := (h_2287 (ad 0) (fun i hS => hin 0 i (by omega) (by omega) (by omega))).trans f_2273
  have f_2290 : F_2252 (ad 150) = rw7 G v9 := (hp_2253 (ad 150) ).trans h150
  have f_2291 : F_2254 (ad 150) = rw7 G v9 := (hp_2255 (ad 150) ).trans f_2290
  have f_2292 : F_2256 (ad 150) = rw7 G v9 := (hp_2257 (ad 150) ).trans f_2291
  have f_2293 : F_2258 (ad 150) = rw7 G v9 := (o_2262 (ad 150) ).trans f_2292
  have f_2294 : F_2267 (ad 150) = rw7 G v9 := (hp_2268 (ad 150) ).trans f_2293
  have f_2295 : F_2271 (ad 150) = rw7 G v9 := (hp_2272.2 (ad 150) (fun i hS => hin 150 i (by omega) (by omega) (by omega))).trans f_2294
  have f_2296 : F_2280 (ad 150) = rw7 G v9 := (h_2287 (ad 150) (fun i hS => hin 150 i (by omega) (by omega) (by omega))).trans f_2295
  exact r_i C0 hr hlk hw (v := (lowR (ordR 115 f9 g9 A.1.1 A.1.2.2.2.2.2))) rfl ⟨rfl, ⟨f_2289, h_2284, (hp_2272.1.keep (fun i0 hi => (h_2287 (ad (i0)) (fun i hS => hin (i0) i (by omega) (by omega) (by omega))))), (hsn.keep (fun i0 hi => ((h_2287 (ad (i0)) (fun i hS => hin (i0) i (by omega) (by omega) (by omega)))).trans (((hp_2272.2 (ad (i0)) (fun i hS => hin (i0) i (by omega) (by omega) (by omega)))).trans (((hp_2268 (ad (i0)) )).trans (((o_2262 (ad (i0)) )).trans (((hp_2257 (ad (i0)) )).trans (((hp_2255 (ad (i0)) )).trans ((hp_2253 (ad (i0)) ))))))))), (htx.keep (fun i0 hi => ((h_2287 (ad (i0)) (fun i hS => hin (i0) i (by omega) (by omega) (by omega)))).trans (((hp_2272.2 (ad (i0)) (fun i hS => hin (i0) i (by omega) (by omega) (by omega)))).trans (((hp_2268 (ad (i0)) )).trans (((o_2262 (ad (i0)) )).trans (((hp_2257 (ad (i0)) )).trans (((hp_2255 (ad (i0)) )).trans ((hp_2253 (ad (i0)) ))))))))), h_2285, ⟨_, h_2286⟩, ⟨_, f_2296⟩⟩, (fun q hq => ((h_2287 q (fun i hS => hq i (by omega))).trans ((hp_2272.2 q (fun i hS => hq i (by omega))).trans ((hp_2268 q ).trans ((o_2262 q ).trans ((hp_2257 q ).trans ((hp_2255 q ).trans (hp_2253 q ))))))))⟩ (Nat.le_refl _) (Nat.le_refl _) dX5_orderAlone_41 hQ
set_option maxHeartbeats 4000000 in
set_option maxRecDepth 100000 in
theorem c_X5_orderAlone_119 (l : Launch) (G : Gl) (L : List Nat) (F : Nat → va_E) (ad : Nat → Nat) (hL : ∀ i, i < 166 → ad i ∈ L) (hin : ∀ i j, i < 166 → j < 166 → i ≠ j → ad i ≠ ad j) (A : AB) (f9 g9 t9 : Nat) (hf9 : f9 < 6) (hg9 : g9 < 6) (ht9 : t9 < 6) (hm : 20 * A.1.1 ≤ A.1.2.1) (hX : XW G F ad A) (hA : okA A) : CI l yX5_orderAlone cX5_orderAlone 5 (some .int) rm_X5_orderAlone G L F [.ref (ad 0), .int (nI (119)), .int (nI (f9)), .int (nI (g9)), .int (nI (t9))] (fun r F1 => r = lowR (ordR 119 f9 g9 A.1.1 A.1.2.2.2.2.2) ∧ XW G F1 ad (aSave A (ordS 119 f9 g9 t9 A.1)) ∧ ∀ q, (∀ i, (i < 166) → q ≠ ad i) → F1 q = F q) := by
  obtain ⟨fx, hn, hh, hsn, htx, hrk, ⟨u9, h134⟩, ⟨v9, h150⟩⟩ := hX
  obtain ⟨⟨hc2, hc, hpu, hok⟩, ⟨hh6, hho⟩, hso, hl60, hco⟩ := id hA
  refine CG_of (by decide) (Nat.le_of_ble_eq_true rfl) rfl ?_
  intro p e s m args below meth c Q C0 hr hlk hnm hQ hw ls hl
  have hx := C0.x
  have hb := C0.b
  refine lv_iload_n hx hb dX5_orderAlone_0 rfl (lv_at hl 2 rfl) ?_
  refine q_callv hw (q_runS (As := [.int (nI (f9))]) (c_X5_needSlot l G L F f9 (by omega)) C0 hw sw_X5_78 rfl hl.1 rfl (Nat.le_of_ble_eq_true rfl) dX5_orderAlone_1 ⟨by decide, by decide⟩ ⟨by decide, by decide⟩) rfl rfl (fun F_2297 H locs hw hp_2298 => ?_)
  refine lv_iload_n hx hb dX5_orderAlone_4 rfl (lv_at hl 3 rfl) ?_
  refine q_callv hw (q_runS (As := [.int (nI (g9))]) (c_X5_needSlot l G L F_2297 g9 (by omega)) C0 hw sw_X5_78 rfl hl.1 rfl (Nat.le_of_ble_eq_true rfl) dX5_orderAlone_5 ⟨by decide, by decide⟩ ⟨by decide, by decide⟩) rfl rfl (fun F_2299 H locs hw hp_2300 => ?_)
  refine lv_iload hx hb dX5_orderAlone_8 (lv_at hl 4 rfl) ?_
  refine q_callv hw (q_runS (As := [.int (nI (t9))]) (c_X5_needSlot l G L F_2299 t9 (by omega)) C0 hw sw_X5_78 rfl hl.1 rfl (Nat.le_of_ble_eq_true rfl) dX5_orderAlone_10 ⟨by decide, by decide⟩ ⟨by decide, by decide⟩) rfl rfl (fun F_2301 H locs hw hp_2302 => ?_)
  refine lv_aload_n hx hb dX5_orderAlone_13 rfl (lv_at hl 0 rfl) ?_
  refine lv_iload_n hx hb dX5_orderAlone_14 rfl (lv_at hl 1 rfl) ?_
  refine q_calli hw (q_runS (As := [.int (nI (119))]) (c_X5_unitsOf_119 l G L F_2301 ) C0 hw sw_X5_225 rfl hl.1 rfl (Nat.le_of_ble_eq_true rfl) dX5_orderAlone_15 ⟨by decide, by decide⟩ ⟨by decide, by decide⟩) rfl rfl (fun r_2305 F_2303 H locs hw hp_2304 => ?_)
  obtain ⟨he_2306, o_2307⟩ := hp_2304
  subst he_2306
  have f_2308 : F_2297 (ad 0) = xO ad := (hp_2298 (ad 0) ).trans fx
  have f_2309 : F_2299 (ad 0) = xO ad := (hp_2300 (ad 0) ).trans f_2308
  have f_2310 : F_2301 (ad 0) = xO ad := (hp_2302 (ad 0) ).trans f_2309
  have f_2311 : F_2303 (ad 0) = xO ad := (o_2307 (ad 0) ).trans f_2310
  refine q_callv hw (q_runV (As := [.int (nI (20))]) (c_X5_needMoney l G L F_2303 ad hL hin 20 A.1 f_2311 (hn.keep (fun i0 hi => ((o_2307 (ad (i0)) )).trans (((hp_2302 (ad (i0)) )).trans (((hp_2300 (ad (i0)) )).trans ((hp_2298 (ad (i0)) )))))) (by omega) (by omega)) C0 hw vw_X5_111 ((hL 0 (by omega))) f_2311 rfl rfl rfl hl.1 rfl (Nat.le_of_ble_eq_true rfl) dX5_orderAlone_18 ⟨by decide, by decide⟩ ⟨by decide, by decide⟩) rfl rfl (fun F_2312 H locs hw hp_2313 => ?_)
  refine lv_aload_n hx hb dX5_orderAlone_21 rfl (lv_at hl 0 rfl) ?_
  have f_2314 : F_2312 (ad 0) = xO ad := (hp_2313 (ad 0) ).trans f_2311
  refine q_get C0 hw ((hL 0 (by omega))) f_2314 fw_X5_19 rfl dX5_orderAlone_22 ?_
  refine lv_aload_n hx hb dX5_orderAlone_25 rfl (lv_at hl 0 rfl) ?_
  refine q_get C0 hw ((hL 0 (by omega))) f_2314 fw_X5_12 rfl dX5_orderAlone_26 ?_
  obtain ⟨_, _, hf_2315, _⟩ := id (hh.keep (fun i0 hi => ((hp_2313 (ad (i0)) )).trans (((o_2307 (ad (i0)) )).trans (((hp_2302 (ad (i0)) )).trans (((hp_2300 (ad (i0)) )).trans ((hp_2298 (ad (i0)) )))))))
  refine q_callv hw (q_runV (As := [.ref (ad 22)]) (c_X0_save l G L F_2312 ad hL hin A.2.1 A.1 (hh.keep (fun i0 hi => ((hp_2313 (ad (i0)) )).trans (((o_2307 (ad (i0)) )).trans (((hp_2302 (ad (i0)) )).trans (((hp_2300 (ad (i0)) )).trans ((hp_2298 (ad (i0)) ))))))) (hn.keep (fun i0 hi => ((hp_2313 (ad (i0)) )).trans (((o_2307 (ad (i0)) )).trans (((hp_2302 (ad (i0)) )).trans (((hp_2300 (ad (i0)) )).trans ((hp_2298 (ad (i0)) )))))))) C0 hw vw_X5_62 ((hL 1 (by omega))) hf_2315 rfl rfl rfl hl.1 rfl (Nat.le_of_ble_eq_true rfl) dX5_orderAlone_29 ⟨by decide, by decide⟩ ⟨by decide, by decide⟩) rfl rfl (fun F_2316 H locs hw hp_2317 => ?_)
  refine lv_aload_n hx hb dX5_orderAlone_32 rfl (lv_at hl 0 rfl) ?_
  refine lv_iload_n hx hb dX5_orderAlone_33 rfl (lv_at hl 1 rfl) ?_
  refine lv_iload_n hx hb dX5_orderAlone_34 rfl (lv_at hl 2 rfl) ?_
  refine lv_iload_n hx hb dX5_orderAlone_35 rfl (lv_at hl 3 rfl) ?_
  refine lv_iload hx hb dX5_orderAlone_36 (lv_at hl 4 rfl) ?_
  have f_2318 : F_2316 (ad 0) = xO ad := (hp_2317.2 (ad 0) (fun i hS => hin 0 i (by omega) (by omega) (by omega))).trans f_2314
  have f_2319 : F_2297 (ad 134) = rw7 G u9 := (hp_2298 (ad 134) ).trans h134
  have f_2320 : F_2299 (ad 134) = rw7 G u9 := (hp_2300 (ad 134) ).trans f_2319
  have f_2321 : F_2301 (ad 134) = rw7 G u9 := (hp_2302 (ad 134) ).trans f_2320
  have f_2322 : F_2303 (ad 134) = rw7 G u9 := (o_2307 (ad 134) ).trans f_2321
  have f_2323 : F_2312 (ad 134) = rw7 G u9 := (hp_2313 (ad 134) ).trans f_2322
  have f_2324 : F_2316 (ad 134) = rw7 G u9 := (hp_2317.2 (ad 134) (fun i hS => hin 134 i (by omega) (by omega) (by omega))).trans f_2323
  refine q_calli hw (q_runV (As := [.int (nI (119)), .int (nI (f9)), .int (nI (g9)), .int (nI (t9))]) (c_X5_carryOut_119 l G L F_2316 ad hL hin f9 g9 t9 A.1 _ f_2318 (hn.keep (fun i0 hi => ((hp_2317.2 (ad (i0)) (fun i hS => hin (i0) i (by omega) (by omega) (by omega)))).trans (((hp_2313 (ad (i0)) )).trans (((o_2307 (ad (i0)) )).trans (((hp_2302 (ad (i0)) )).trans (((hp_2300 (ad (i0)) )).trans ((hp_2298 (ad (i0)) )))))))) (hrk.keep (fun i0 hi => ((hp_2317.2 (ad (i0)) (fun i hS => hin (i0) i (by omega) (by omega) (by omega)))).trans (((hp_2313 (ad (i0)) )).trans (((o_2307 (ad (i0)) )).trans (((hp_2302 (ad (i0)) )).trans (((hp_2300 (ad (i0)) )).trans ((hp_2298 (ad (i0)) )))))))) f_2324 (by omega) (by omega) (by omega) (by omega) (by omega) (by omega) (by omega)) C0 hw vw_X5_299 ((hL 0 (by omega))) f_2318 rfl rfl rfl hl.1 rfl (Nat.le_of_ble_eq_true rfl) dX5_orderAlone_38 ⟨by decide, by decide⟩ ⟨by decide, by decide⟩) rfl rfl (fun r_2327 F_2325 H locs hw hp_2326 => ?_)
  obtain ⟨h_2328, h_2329, h_2330, ⟨u_2333, h_2331⟩, h_2332⟩ := hp_2326
  subst h_2328
  have f_2334 : F_2325 (ad 0) = xO ad := (h_2332 (ad 0) (fun i hS => hin 0 i (by omega) (by omega) (by omega))).trans f_2318
  have f_2335 : F_2297 (ad 150) = rw7 G v9 := (hp_2298 (ad 150) ).trans h150
  have f_2336 : F_2299 (ad 150) = rw7 G v9 := (hp_2300 (ad 150) ).trans f_2335
  have f_2337 : F_2301 (ad 150) = rw7 G v9 := (hp_2302 (ad 150) ).trans f_2336
  have f_2338 : F_2303 (ad 150) = rw7 G v9 := (o_2307 (ad 150) ).trans f_2337
  have f_2339 : F_2312 (ad 150) = rw7 G v9 := (hp_2313 (ad 150) ).trans f_2338
  have f_2340 : F_2316 (ad 150) = rw7 G v9 := (hp_2317.2 (ad 150) (fun i hS => hin 150 i (by omega) (by omega) (by omega))).trans f_2339
  have f_2341 : F_2325 (ad 150) = rw7 G v9 := (h_2332 (ad 150) (fun i hS => hin 150 i (by omega) (by omega) (by omega))).trans f_2340
  exact r_i C0 hr hlk hw (v := (lowR (ordR 119 f9 g9 A.1.1 A.1.2.2.2.2.2))) rfl ⟨rfl, ⟨f_2334, h_2329, (hp_2317.1.keep (fun i0 hi => (h_2332 (ad (i0)) (fun i hS => hin (i0) i (by omega) (by omega) (by omega))))), (hsn.keep (fun i0 hi => ((h_2332 (ad (i0)) (fun i hS => hin (i0) i (by omega) (by omega) (by omega)))).trans (((hp_2317.2 (ad (i0)) (fun i hS => hin (i0) i (by omega) (by omega) (by omega)))).trans (((hp_2313 (ad (i0)) )).trans (((o_2307 (ad (i0)) )).trans (((hp_2302 (ad (i0)) )).trans (((hp_2300 (ad (i0)) )).trans ((hp_2298 (ad (i0)) ))))))))), (htx.keep (fun i0 hi => ((h_2332 (ad (i0)) (fun i hS => hin (i0) i (by omega) (by omega) (by omega)))).trans (((hp_2317.2 (ad (i0)) (fun i hS => hin (i0) i (by omega) (by omega) (by omega)))).trans (((hp_2313 (ad (i0)) )).trans (((o_2307 (ad (i0)) )).trans (((hp_2302 (ad (i0)) )).trans (((hp_2300 (ad (i0)) )).trans ((hp_2298 (ad (i0)) ))))))))), h_2330, ⟨_, h_2331⟩, ⟨_, f_2341⟩⟩, (fun q hq => ((h_2332 q (fun i hS => hq i (by omega))).trans ((hp_2317.2 q (fun i hS => hq i (by omega))).trans ((hp_2313 q ).trans ((o_2307 q ).trans ((hp_2302 q ).trans ((hp_2300 q ).trans (hp_2298 q ))))))))⟩ (Nat.le_refl _) (Nat.le_refl _) dX5_orderAlone_41 hQ
set_option maxHeartbeats 4000000 in
set_option maxRecDepth 100000 in
theorem c_X5_orderAlone_112 (l : Launch) (G : Gl) (L : List Nat) (F : Nat → va_E) (ad : Nat → Nat) (hL : ∀ i, i < 166 → ad i ∈ L) (hin : ∀ i j, i < 166 → j < 166 → i ≠ j → ad i ≠ ad j) (A : AB) (f9 g9 t9 : Nat) (hf9 : f9 < 6) (hg9 : g9 < 6) (ht9 : t9 < 6) (hm : 6 * A.1.1 ≤ A.1.2.1) (hX : XW G F ad A) (hA : okA A) : CI l yX5_orderAlone cX5_orderAlone 5 (some .int) rm_X5_orderAlone G L F [.ref (ad 0), .int (nI (112)), .int (nI (f9)), .int (nI (g9)), .int (nI (t9))] (fun r F1 => r = lowR (ordR 112 f9 g9 A.1.1 A.1.2.2.2.2.2) ∧ XW G F1 ad (aSave A (ordS 112 f9 g9 t9 A.1)) ∧ ∀ q, (∀ i, (i < 166) → q ≠ ad i) → F1 q = F q) := by
  obtain ⟨fx, hn, hh, hsn, htx, hrk, ⟨u9, h134⟩, ⟨v9, h150⟩⟩ := hX
  obtain ⟨⟨hc2, hc, hpu, hok⟩, ⟨hh6, hho⟩, hso, hl60, hco⟩ := id hA
  refine CG_of (by decide) (Nat.le_of_ble_eq_true rfl) rfl ?_
  intro p e s m args below meth c Q C0 hr hlk hnm hQ hw ls hl
  have hx := C0.x
  have hb := C0.b
  refine lv_iload_n hx hb dX5_orderAlone_0 rfl (lv_at hl 2 rfl) ?_
  refine q_callv hw (q_runS (As := [.int (nI (f9))]) (c_X5_needSlot l G L F f9 (by omega)) C0 hw sw_X5_78 rfl hl.1 rfl (Nat.le_of_ble_eq_true rfl) dX5_orderAlone_1 ⟨by decide, by decide⟩ ⟨by decide, by decide⟩) rfl rfl (fun F_2342 H locs hw hp_2343 => ?_)
  refine lv_iload_n hx hb dX5_orderAlone_4 rfl (lv_at hl 3 rfl) ?_
  refine q_callv hw (q_runS (As := [.int (nI (g9))]) (c_X5_needSlot l G L F_2342 g9 (by omega)) C0 hw sw_X5_78 rfl hl.1 rfl (Nat.le_of_ble_eq_true rfl) dX5_orderAlone_5 ⟨by decide, by decide⟩ ⟨by decide, by decide⟩) rfl rfl (fun F_2344 H locs hw hp_2345 => ?_)
  refine lv_iload hx hb dX5_orderAlone_8 (lv_at hl 4 rfl) ?_
  refine q_callv hw (q_runS (As := [.int (nI (t9))]) (c_X5_needSlot l G L F_2344 t9 (by omega)) C0 hw sw_X5_78 rfl hl.1 rfl (Nat.le_of_ble_eq_true rfl) dX5_orderAlone_10 ⟨by decide, by decide⟩ ⟨by decide, by decide⟩) rfl rfl (fun F_2346 H locs hw hp_2347 => ?_)
  refine lv_aload_n hx hb dX5_orderAlone_13 rfl (lv_at hl 0 rfl) ?_
  refine lv_iload_n hx hb dX5_orderAlone_14 rfl (lv_at hl 1 rfl) ?_
  refine q_calli hw (q_runS (As := [.int (nI (112))]) (c_X5_unitsOf_112 l G L F_2346 ) C0 hw sw_X5_225 rfl hl.1 rfl (Nat.le_of_ble_eq_true rfl) dX5_orderAlone_15 ⟨by decide, by decide⟩ ⟨by decide, by decide⟩) rfl rfl (fun r_2350 F_2348 H locs hw hp_2349 => ?_)
  obtain ⟨he_2351, o_2352⟩ := hp_2349
  subst he_2351
  have f_2353 : F_2342 (ad 0) = xO ad := (hp_2343 (ad 0) ).trans fx
  have f_2354 : F_2344 (ad 0) = xO ad := (hp_2345 (ad 0) ).trans f_2353
  have f_2355 : F_2346 (ad 0) = xO ad := (hp_2347 (ad 0) ).trans f_2354
  have f_2356 : F_2348 (ad 0) = xO ad := (o_2352 (ad 0) ).trans f_2355
  refine q_callv hw (q_runV (As := [.int (nI (6))]) (c_X5_needMoney l G L F_2348 ad hL hin 6 A.1 f_2356 (hn.keep (fun i0 hi => ((o_2352 (ad (i0)) )).trans (((hp_2347 (ad (i0)) )).trans (((hp_2345 (ad (i0)) )).trans ((hp_2343 (ad (i0)) )))))) (by omega) (by omega)) C0 hw vw_X5_111 ((hL 0 (by omega))) f_2356 rfl rfl rfl hl.1 rfl (Nat.le_of_ble_eq_true rfl) dX5_orderAlone_18 ⟨by decide, by decide⟩ ⟨by decide, by decide⟩) rfl rfl (fun F_2357 H locs hw hp_2358 => ?_)
  refine lv_aload_n hx hb dX5_orderAlone_21 rfl (lv_at hl 0 rfl) ?_
  have f_2359 : F_2357 (ad 0) = xO ad := (hp_2358 (ad 0) ).trans f_2356
  refine q_get C0 hw ((hL 0 (by omega))) f_2359 fw_X5_19 rfl dX5_orderAlone_22 ?_
  refine lv_aload_n hx hb dX5_orderAlone_25 rfl (lv_at hl 0 rfl) ?_
  refine q_get C0 hw ((hL 0 (by omega))) f_2359 fw_X5_12 rfl dX5_orderAlone_26 ?_
  obtain ⟨_, _, hf_2360, _⟩ := id (hh.keep (fun i0 hi => ((hp_2358 (ad (i0)) )).trans (((o_2352 (ad (i0)) )).trans (((hp_2347 (ad (i0)) )).trans (((hp_2345 (ad (i0)) )).trans ((hp_2343 (ad (i0)) )))))))
  refine q_callv hw (q_runV (As := [.ref (ad 22)]) (c_X0_save l G L F_2357 ad hL hin A.2.1 A.1 (hh.keep (fun i0 hi => ((hp_2358 (ad (i0)) )).trans (((o_2352 (ad (i0)) )).trans (((hp_2347 (ad (i0)) )).trans (((hp_2345 (ad (i0)) )).trans ((hp_2343 (ad (i0)) ))))))) (hn.keep (fun i0 hi => ((hp_2358 (ad (i0)) )).trans (((o_2352 (ad (i0)) )).trans (((hp_2347 (ad (i0)) )).trans (((hp_2345 (ad (i0)) )).trans ((hp_2343 (ad (i0)) )))))))) C0 hw vw_X5_62 ((hL 1 (by omega))) hf_2360 rfl rfl rfl hl.1 rfl (Nat.le_of_ble_eq_true rfl) dX5_orderAlone_29 ⟨by decide, by decide⟩ ⟨by decide, by decide⟩) rfl rfl (fun F_2361 H locs hw hp_2362 => ?_)
  refine lv_aload_n hx hb dX5_orderAlone_32 rfl (lv_at hl 0 rfl) ?_
  refine lv_iload_n hx hb dX5_orderAlone_33 rfl (lv_at hl 1 rfl) ?_
  refine lv_iload_n hx hb dX5_orderAlone_34 rfl (lv_at hl 2 rfl) ?_
  refine lv_iload_n hx hb dX5_orderAlone_35 rfl (lv_at hl 3 rfl) ?_
  refine lv_iload hx hb dX5_orderAlone_36 (lv_at hl 4 rfl) ?_
  have f_2363 : F_2361 (ad 0) = xO ad := (hp_2362.2 (ad 0) (fun i hS => hin 0 i (by omega) (by omega) (by omega))).trans f_2359
  have f_2364 : F_2342 (ad 134) = rw7 G u9 := (hp_2343 (ad 134) ).trans h134
  have f_2365 : F_2344 (ad 134) = rw7 G u9 := (hp_2345 (ad 134) ).trans f_2364
  have f_2366 : F_2346 (ad 134) = rw7 G u9 := (hp_2347 (ad 134) ).trans f_2365
  have f_2367 : F_2348 (ad 134) = rw7 G u9 := (o_2352 (ad 134) ).trans f_2366
  have f_2368 : F_2357 (ad 134) = rw7 G u9 := (hp_2358 (ad 134) ).trans f_2367
  have f_2369 : F_2361 (ad 134) = rw7 G u9 := (hp_2362.2 (ad 134) (fun i hS => hin 134 i (by omega) (by omega) (by omega))).trans f_2368
  refine q_calli hw (q_runV (As := [.int (nI (112)), .int (nI (f9)), .int (nI (g9)), .int (nI (t9))]) (c_X5_carryOut_112 l G L F_2361 ad hL hin f9 g9 t9 A.1 _ f_2363 (hn.keep (fun i0 hi => ((hp_2362.2 (ad (i0)) (fun i hS => hin (i0) i (by omega) (by omega) (by omega)))).trans (((hp_2358 (ad (i0)) )).trans (((o_2352 (ad (i0)) )).trans (((hp_2347 (ad (i0)) )).trans (((hp_2345 (ad (i0)) )).trans ((hp_2343 (ad (i0)) )))))))) (hrk.keep (fun i0 hi => ((hp_2362.2 (ad (i0)) (fun i hS => hin (i0) i (by omega) (by omega) (by omega)))).trans (((hp_2358 (ad (i0)) )).trans (((o_2352 (ad (i0)) )).trans (((hp_2347 (ad (i0)) )).trans (((hp_2345 (ad (i0)) )).trans ((hp_2343 (ad (i0)) )))))))) f_2369 (by omega) (by omega) (by omega) (by omega) (by omega) (by omega) (by omega)) C0 hw vw_X5_299 ((hL 0 (by omega))) f_2363 rfl rfl rfl hl.1 rfl (Nat.le_of_ble_eq_true rfl) dX5_orderAlone_38 ⟨by decide, by decide⟩ ⟨by decide, by decide⟩) rfl rfl (fun r_2372 F_2370 H locs hw hp_2371 => ?_)
  obtain ⟨h_2373, h_2374, h_2375, ⟨u_2378, h_2376⟩, h_2377⟩ := hp_2371
  subst h_2373
  have f_2379 : F_2370 (ad 0) = xO ad := (h_2377 (ad 0) (fun i hS => hin 0 i (by omega) (by omega) (by omega))).trans f_2363
  have f_2380 : F_2342 (ad 150) = rw7 G v9 := (hp_2343 (ad 150) ).trans h150
  have f_2381 : F_2344 (ad 150) = rw7 G v9 := (hp_2345 (ad 150) ).trans f_2380
  have f_2382 : F_2346 (ad 150) = rw7 G v9 := (hp_2347 (ad 150) ).trans f_2381
  have f_2383 : F_2348 (ad 150) = rw7 G v9 := (o_2352 (ad 150) ).trans f_2382
  have f_2384 : F_2357 (ad 150) = rw7 G v9 := (hp_2358 (ad 150) ).trans f_2383
  have f_2385 : F_2361 (ad 150) = rw7 G v9 := (hp_2362.2 (ad 150) (fun i hS => hin 150 i (by omega) (by omega) (by omega))).trans f_2384
  have f_2386 : F_2370 (ad 150) = rw7 G v9 := (h_2377 (ad 150) (fun i hS => hin 150 i (by omega) (by omega) (by omega))).trans f_2385
  exact r_i C0 hr hlk hw (v := (lowR (ordR 112 f9 g9 A.1.1 A.1.2.2.2.2.2))) rfl ⟨rfl, ⟨f_2379, h_2374, (hp_2362.1.keep (fun i0 hi => (h_2377 (ad (i0)) (fun i hS => hin (i0) i (by omega) (by omega) (by omega))))), (hsn.keep (fun i0 hi => ((h_2377 (ad (i0)) (fun i hS => hin (i0) i (by omega) (by omega) (by omega)))).trans (((hp_2362.2 (ad (i0)) (fun i hS => hin (i0) i (by omega) (by omega) (by omega)))).trans (((hp_2358 (ad (i0)) )).trans (((o_2352 (ad (i0)) )).trans (((hp_2347 (ad (i0)) )).trans (((hp_2345 (ad (i0)) )).trans ((hp_2343 (ad (i0)) ))))))))), (htx.keep (fun i0 hi => ((h_2377 (ad (i0)) (fun i hS => hin (i0) i (by omega) (by omega) (by omega)))).trans (((hp_2362.2 (ad (i0)) (fun i hS => hin (i0) i (by omega) (by omega) (by omega)))).trans (((hp_2358 (ad (i0)) )).trans (((o_2352 (ad (i0)) )).trans (((hp_2347 (ad (i0)) )).trans (((hp_2345 (ad (i0)) )).trans ((hp_2343 (ad (i0)) ))))))))), h_2375, ⟨_, h_2376⟩, ⟨_, f_2386⟩⟩, (fun q hq => ((h_2377 q (fun i hS => hq i (by omega))).trans ((hp_2362.2 q (fun i hS => hq i (by omega))).trans ((hp_2358 q ).trans ((o_2352 q ).trans ((hp_2347 q ).trans ((hp_2345 q ).trans (hp_2343 q ))))))))⟩ (Nat.le_refl _) (Nat.le_refl _) dX5_orderAlone_41 hQ
set_option maxHeartbeats 4000000 in
set_option maxRecDepth 100000 in
theorem c_X5_orderAlone_108 (l : Launch) (G : Gl) (L : List Nat) (F : Nat → va_E) (ad : Nat → Nat) (hL : ∀ i, i < 166 → ad i ∈ L) (hin : ∀ i j, i < 166 → j < 166 → i ≠ j → ad i ≠ ad j) (A : AB) (f9 g9 t9 : Nat) (hf9 : f9 < 6) (hg9 : g9 < 6) (ht9 : t9 < 6) (hm : 6 * A.1.1 ≤ A.1.2.1) (hX : XW G F ad A) (hA : okA A) : CI l yX5_orderAlone cX5_orderAlone 5 (some .int) rm_X5_orderAlone G L F [.ref (ad 0), .int (nI (108)), .int (nI (f9)), .int (nI (g9)), .int (nI (t9))] (fun r F1 => r = lowR (ordR 108 f9 g9 A.1.1 A.1.2.2.2.2.2) ∧ XW G F1 ad (aSave A (ordS 108 f9 g9 t9 A.1)) ∧ ∀ q, (∀ i, (i < 166) → q ≠ ad i) → F1 q = F q) := by
  obtain ⟨fx, hn, hh, hsn, htx, hrk, ⟨u9, h134⟩, ⟨v9, h150⟩⟩ := hX
  obtain ⟨⟨hc2, hc, hpu, hok⟩, ⟨hh6, hho⟩, hso, hl60, hco⟩ := id hA
  refine CG_of (by decide) (Nat.le_of_ble_eq_true rfl) rfl ?_
  intro p e s m args below meth c Q C0 hr hlk hnm hQ hw ls hl
  have hx := C0.x
  have hb := C0.b
  refine lv_iload_n hx hb dX5_orderAlone_0 rfl (lv_at hl 2 rfl) ?_
  refine q_callv hw (q_runS (As := [.int (nI (f9))]) (c_X5_needSlot l G L F f9 (by omega)) C0 hw sw_X5_78 rfl hl.1 rfl (Nat.le_of_ble_eq_true rfl) dX5_orderAlone_1 ⟨by decide, by decide⟩ ⟨by decide, by decide⟩) rfl rfl (fun F_2387 H locs hw hp_2388 => ?_)
  refine lv_iload_n hx hb dX5_orderAlone_4 rfl (lv_at hl 3 rfl) ?_
  refine q_callv hw (q_runS (As := [.int (nI (g9))]) (c_X5_needSlot l G L F_2387 g9 (by omega)) C0 hw sw_X5_78 rfl hl.1 rfl (Nat.le_of_ble_eq_true rfl) dX5_orderAlone_5 ⟨by decide, by decide⟩ ⟨by decide, by decide⟩) rfl rfl (fun F_2389 H locs hw hp_2390 => ?_)
  refine lv_iload hx hb dX5_orderAlone_8 (lv_at hl 4 rfl) ?_
  refine q_callv hw (q_runS (As := [.int (nI (t9))]) (c_X5_needSlot l G L F_2389 t9 (by omega)) C0 hw sw_X5_78 rfl hl.1 rfl (Nat.le_of_ble_eq_true rfl) dX5_orderAlone_10 ⟨by decide, by decide⟩ ⟨by decide, by decide⟩) rfl rfl (fun F_2391 H locs hw hp_2392 => ?_)
  refine lv_aload_n hx hb dX5_orderAlone_13 rfl (lv_at hl 0 rfl) ?_
  refine lv_iload_n hx hb dX5_orderAlone_14 rfl (lv_at hl 1 rfl) ?_
  refine q_calli hw (q_runS (As := [.int (nI (108))]) (c_X5_unitsOf_108 l G L F_2391 ) C0 hw sw_X5_225 rfl hl.1 rfl (Nat.le_of_ble_eq_true rfl) dX5_orderAlone_15 ⟨by decide, by decide⟩ ⟨by decide, by decide⟩) rfl rfl (fun r_2395 F_2393 H locs hw hp_2394 => ?_)
  obtain ⟨he_2396, o_2397⟩ := hp_2394
  subst he_2396
  have f_2398 : F_2387 (ad 0) = xO ad := (hp_2388 (ad 0) ).trans fx
  have f_2399 : F_2389 (ad 0) = xO ad := (hp_2390 (ad 0) ).trans f_2398
  have f_2400 : F_2391 (ad 0) = xO ad := (hp_2392 (ad 0) ).trans f_2399
  have f_2401 : F_2393 (ad 0) = xO ad := (o_2397 (ad 0) ).trans f_2400
  refine q_callv hw (q_runV (As := [.int (nI (6))]) (c_X5_needMoney l G L F_2393 ad hL hin 6 A.1 f_2401 (hn.keep (fun i0 hi => ((o_2397 (ad (i0)) )).trans (((hp_2392 (ad (i0)) )).trans (((hp_2390 (ad (i0)) )).trans ((hp_2388 (ad (i0)) )))))) (by omega) (by omega)) C0 hw vw_X5_111 ((hL 0 (by omega))) f_2401 rfl rfl rfl hl.1 rfl (Nat.le_of_ble_eq_true rfl) dX5_orderAlone_18 ⟨by decide, by decide⟩ ⟨by decide, by decide⟩) rfl rfl (fun F_2402 H locs hw hp_2403 => ?_)
  refine lv_aload_n hx hb dX5_orderAlone_21 rfl (lv_at hl 0 rfl) ?_
  have f_2404 : F_2402 (ad 0) = xO ad := (hp_2403 (ad 0) ).trans f_2401
  refine q_get C0 hw ((hL 0 (by omega))) f_2404 fw_X5_19 rfl dX5_orderAlone_22 ?_
  refine lv_aload_n hx hb dX5_orderAlone_25 rfl (lv_at hl 0 rfl) ?_
  refine q_get C0 hw ((hL 0 (by omega))) f_2404 fw_X5_12 rfl dX5_orderAlone_26 ?_
  obtain ⟨_, _, hf_2405, _⟩ := id (hh.keep (fun i0 hi => ((hp_2403 (ad (i0)) )).trans (((o_2397 (ad (i0)) )).trans (((hp_2392 (ad (i0)) )).trans (((hp_2390 (ad (i0)) )).trans ((hp_2388 (ad (i0)) )))))))
  refine q_callv hw (q_runV (As := [.ref (ad 22)]) (c_X0_save l G L F_2402 ad hL hin A.2.1 A.1 (hh.keep (fun i0 hi => ((hp_2403 (ad (i0)) )).trans (((o_2397 (ad (i0)) )).trans (((hp_2392 (ad (i0)) )).trans (((hp_2390 (ad (i0)) )).trans ((hp_2388 (ad (i0)) ))))))) (hn.keep (fun i0 hi => ((hp_2403 (ad (i0)) )).trans (((o_2397 (ad (i0)) )).trans (((hp_2392 (ad (i0)) )).trans (((hp_2390 (ad (i0)) )).trans ((hp_2388 (ad (i0)) )))))))) C0 hw vw_X5_62 ((hL 1 (by omega))) hf_2405 rfl rfl rfl hl.1 rfl (Nat.le_of_ble_eq_true rfl) dX5_orderAlone_29 ⟨by decide, by decide⟩ ⟨by decide, by decide⟩) rfl rfl (fun F_2406 H locs hw hp_2407 => ?_)
  refine lv_aload_n hx hb dX5_orderAlone_32 rfl (lv_at hl 0 rfl) ?_
  refine lv_iload_n hx hb dX5_orderAlone_33 rfl (lv_at hl 1 rfl) ?_
  refine lv_iload_n hx hb dX5_orderAlone_34 rfl (lv_at hl 2 rfl) ?_
  refine lv_iload_n hx hb dX5_orderAlone_35 rfl (lv_at hl 3 rfl) ?_
  refine lv_iload hx hb dX5_orderAlone_36 (lv_at hl 4 rfl) ?_
  have f_2408 : F_2406 (ad 0) = xO ad := (hp_2407.2 (ad 0) (fun i hS => hin 0 i (by omega) (by omega) (by omega))).trans f_2404
  have f_2409 : F_2387 (ad 134) = rw7 G u9 := (hp_2388 (ad 134) ).trans h134
  have f_2410 : F_2389 (ad 134) = rw7 G u9 := (hp_2390 (ad 134) ).trans f_2409
  have f_2411 : F_2391 (ad 134) = rw7 G u9 := (hp_2392 (ad 134) ).trans f_2410
  have f_2412 : F_2393 (ad 134) = rw7 G u9 := (o_2397 (ad 134) ).trans f_2411
  have f_2413 : F_2402 (ad 134) = rw7 G u9 := (hp_2403 (ad 134) ).trans f_2412
  have f_2414 : F_2406 (ad 134) = rw7 G u9 := (hp_2407.2 (ad 134) (fun i hS => hin 134 i (by omega) (by omega) (by omega))).trans f_2413
  refine q_calli hw (q_runV (As := [.int (nI (108)), .int (nI (f9)), .int (nI (g9)), .int (nI (t9))]) (c_X5_carryOut_108 l G L F_2406 ad hL hin f9 g9 t9 A.1 _ f_2408 (hn.keep (fun i0 hi => ((hp_2407.2 (ad (i0)) (fun i hS => hin (i0) i (by omega) (by omega) (by omega)))).trans (((hp_2403 (ad (i0)) )).trans (((o_2397 (ad (i0)) )).trans (((hp_2392 (ad (i0)) )).trans (((hp_2390 (ad (i0)) )).trans ((hp_2388 (ad (i0)) )))))))) (hrk.keep (fun i0 hi => ((hp_2407.2 (ad (i0)) (fun i hS => hin (i0) i (by omega) (by omega) (by omega)))).trans (((hp_2403 (ad (i0)) )).trans (((o_2397 (ad (i0)) )).trans (((hp_2392 (ad (i0)) )).trans (((hp_2390 (ad (i0)) )).trans ((hp_2388 (ad (i0)) )))))))) f_2414 (by omega) (by omega) (by omega) (by omega) (by omega) (by omega) (by omega)) C0 hw vw_X5_299 ((hL 0 (by omega))) f_2408 rfl rfl rfl hl.1 rfl (Nat.le_of_ble_eq_true rfl) dX5_orderAlone_38 ⟨by decide, by decide⟩ ⟨by decide, by decide⟩) rfl rfl (fun r_2417 F_2415 H locs hw hp_2416 => ?_)
  obtain ⟨h_2418, h_2419, h_2420, ⟨u_2423, h_2421⟩, h_2422⟩ := hp_2416
  subst h_2418
  have f_2424 : F_2415 (ad 0) = xO ad := (h_2422 (ad 0) (fun i hS => hin 0 i (by omega) (by omega) (by omega))).trans f_2408
  have f_2425 : F_2387 (ad 150) = rw7 G v9 := (hp_2388 (ad 150) ).trans h150
  have f_2426 : F_2389 (ad 150) = rw7 G v9 := (hp_2390 (ad 150) ).trans f_2425
  have f_2427 : F_2391 (ad 150) = rw7 G v9 := (hp_2392 (ad 150) ).trans f_2426
  have f_2428 : F_2393 (ad 150) = rw7 G v9 := (o_2397 (ad 150) ).trans f_2427
  have f_2429 : F_2402 (ad 150) = rw7 G v9 := (hp_2403 (ad 150) ).trans f_2428
  have f_2430 : F_2406 (ad 150) = rw7 G v9 := (hp_2407.2 (ad 150) (fun i hS => hin 150 i (by omega) (by omega) (by omega))).trans f_2429
  have f_2431 : F_2415 (ad 150) = rw7 G v9 := (h_2422 (ad 150) (fun i hS => hin 150 i (by omega) (by omega) (by omega))).trans f_2430
  exact r_i C0 hr hlk hw (v := (lowR (ordR 108 f9 g9 A.1.1 A.1.2.2.2.2.2))) rfl ⟨rfl, ⟨f_2424, h_2419, (hp_2407.1.keep (fun i0 hi => (h_2422 (ad (i0)) (fun i hS => hin (i0) i (by omega) (by omega) (by omega))))), (hsn.keep (fun i0 hi => ((h_2422 (ad (i0)) (fun i hS => hin (i0) i (by omega) (by omega) (by omega)))).trans (((hp_2407.2 (ad (i0)) (fun i hS => hin (i0) i (by omega) (by omega) (by omega)))).trans (((hp_2403 (ad (i0)) )).trans (((o_2397 (ad (i0)) )).trans (((hp_2392 (ad (i0)) )).trans (((hp_2390 (ad (i0)) )).trans ((hp_2388 (ad (i0)) ))))))))), (htx.keep (fun i0 hi => ((h_2422 (ad (i0)) (fun i hS => hin (i0) i (by omega) (by omega) (by omega)))).trans (((hp_2407.2 (ad (i0)) (fun i hS => hin (i0) i (by omega) (by omega) (by omega)))).trans (((hp_2403 (ad (i0)) )).trans (((o_2397 (ad (i0)) )).trans (((hp_2392 (ad (i0)) )).trans (((hp_2390 (ad (i0)) )).trans ((hp_2388 (ad (i0)) ))))))))), h_2420, ⟨_, h_2421⟩, ⟨_, f_2431⟩⟩, (fun q hq => ((h_2422 q (fun i hS => hq i (by omega))).trans ((hp_2407.2 q (fun i hS => hq i (by omega))).trans ((hp_2403 q ).trans ((o_2397 q ).trans ((hp_2392 q ).trans ((hp_2390 q ).trans (hp_2388 q ))))))))⟩ (Nat.le_refl _) (Nat.le_refl _) dX5_orderAlone_41 hQ
set_option maxHeartbeats 4000000 in
set_option maxRecDepth 100000 in
theorem c_X5_orderAlone_101 (l : Launch) (G : Gl) (L : List Nat) (F : Nat → va_E) (ad : Nat → Nat) (hL : ∀ i, i < 166 → ad i ∈ L) (hin : ∀ i j, i < 166 → j < 166 → i ≠ j → ad i ≠ ad j) (A : AB) (f9 g9 t9 : Nat) (hf9 : f9 < 6) (hg9 : g9 < 6) (ht9 : t9 < 6) (hm : 5 * A.1.1 ≤ A.1.2.1) (hX : XW G F ad A) (hA : okA A) : CI l yX5_orderAlone cX5_orderAlone 5 (some .int) rm_X5_orderAlone G L F [.ref (ad 0), .int (nI (101)), .int (nI (f9)), .int (nI (g9)), .int (nI (t9))] (fun r F1 => r = lowR (ordR 101 f9 g9 A.1.1 A.1.2.2.2.2.2) ∧ XW G F1 ad (aSave A (ordS 101 f9 g9 t9 A.1)) ∧ ∀ q, (∀ i, (i < 166) → q ≠ ad i) → F1 q = F q) := by
  obtain ⟨fx, hn, hh, hsn, htx, hrk, ⟨u9, h134⟩, ⟨v9, h150⟩⟩ := hX
  obtain ⟨⟨hc2, hc, hpu, hok⟩, ⟨hh6, hho⟩, hso, hl60, hco⟩ := id hA
  refine CG_of (by decide) (Nat.le_of_ble_eq_true rfl) rfl ?_
  intro p e s m args below meth c Q C0 hr hlk hnm hQ hw ls hl
  have hx := C0.x
  have hb := C0.b
  refine lv_iload_n hx hb dX5_orderAlone_0 rfl (lv_at hl 2 rfl) ?_
  refine q_callv hw (q_runS (As := [.int (nI (f9))]) (c_X5_needSlot l G L F f9 (by omega)) C0 hw sw_X5_78 rfl hl.1 rfl (Nat.le_of_ble_eq_true rfl) dX5_orderAlone_1 ⟨by decide, by decide⟩ ⟨by decide, by decide⟩) rfl rfl (fun F_2432 H locs hw hp_2433 => ?_)
  refine lv_iload_n hx hb dX5_orderAlone_4 rfl (lv_at hl 3 rfl) ?_
  refine q_callv hw (q_runS (As := [.int (nI (g9))]) (c_X5_needSlot l G L F_2432 g9 (by omega)) C0 hw sw_X5_78 rfl hl.1 rfl (Nat.le_of_ble_eq_true rfl) dX5_orderAlone_5 ⟨by decide, by decide⟩ ⟨by decide, by decide⟩) rfl rfl (fun F_2434 H locs hw hp_2435 => ?_)
  refine lv_iload hx hb dX5_orderAlone_8 (lv_at hl 4 rfl) ?_
  refine q_callv hw (q_runS (As := [.int (nI (t9))]) (c_X5_needSlot l G L F_2434 t9 (by omega)) C0 hw sw_X5_78 rfl hl.1 rfl (Nat.le_of_ble_eq_true rfl) dX5_orderAlone_10 ⟨by decide, by decide⟩ ⟨by decide, by decide⟩) rfl rfl (fun F_2436 H locs hw hp_2437 => ?_)
  refine lv_aload_n hx hb dX5_orderAlone_13 rfl (lv_at hl 0 rfl) ?_
  refine lv_iload_n hx hb dX5_orderAlone_14 rfl (lv_at hl 1 rfl) ?_
  refine q_calli hw (q_runS (As := [.int (nI (101))]) (c_X5_unitsOf_101 l G L F_2436 ) C0 hw sw_X5_225 rfl hl.1 rfl (Nat.le_of_ble_eq_true rfl) dX5_orderAlone_15 ⟨by decide, by decide⟩ ⟨by decide, by decide⟩) rfl rfl (fun r_2440 F_2438 H locs hw hp_2439 => ?_)
  obtain ⟨he_2441, o_2442⟩ := hp_2439
  subst he_2441
  have f_2443 : F_2432 (ad 0) = xO ad := (hp_2433 (ad 0) ).trans fx
  have f_2444 : F_2434 (ad 0) = xO ad := (hp_2435 (ad 0) ).trans f_2443
  have f_2445 : F_2436 (ad 0) = xO ad := (hp_2437 (ad 0) ).trans f_2444
  have f_2446 : F_2438 (ad 0) = xO ad := (o_2442 (ad 0) ).trans f_2445
  refine q_callv hw (q_runV (As := [.int (nI (5))]) (c_X5_needMoney l G L F_2438 ad hL hin 5 A.1 f_2446 (hn.keep (fun i0 hi => ((o_2442 (ad (i0)) )).trans (((hp_2437 (ad (i0)) )).trans (((hp_2435 (ad (i0)) )).trans ((hp_2433 (ad (i0)) )))))) (by omega) (by omega)) C0 hw vw_X5_111 ((hL 0 (by omega))) f_2446 rfl rfl rfl hl.1 rfl (Nat.le_of_ble_eq_true rfl) dX5_orderAlone_18 ⟨by decide, by decide⟩ ⟨by decide, by decide⟩) rfl rfl (fun F_2447 H locs hw hp_2448 => ?_)
  refine lv_aload_n hx hb dX5_orderAlone_21 rfl (lv_at hl 0 rfl) ?_
  have f_2449 : F_2447 (ad 0) = xO ad := (hp_2448 (ad 0) ).trans f_2446
  refine q_get C0 hw ((hL 0 (by omega))) f_2449 fw_X5_19 rfl dX5_orderAlone_22 ?_
  refine lv_aload_n hx hb dX5_orderAlone_25 rfl (lv_at hl 0 rfl) ?_
  refine q_get C0 hw ((hL 0 (by omega))) f_2449 fw_X5_12 rfl dX5_orderAlone_26 ?_
  obtain ⟨_, _, hf_2450, _⟩ := id (hh.keep (fun i0 hi => ((hp_2448 (ad (i0)) )).trans (((o_2442 (ad (i0)) )).trans (((hp_2437 (ad (i0)) )).trans (((hp_2435 (ad (i0)) )).trans ((hp_2433 (ad (i0)) )))))))
  refine q_callv hw (q_runV (As := [.ref (ad 22)]) (c_X0_save l G L F_2447 ad hL hin A.2.1 A.1 (hh.keep (fun i0 hi => ((hp_2448 (ad (i0)) )).trans (((o_2442 (ad (i0)) )).trans (((hp_2437 (ad (i0)) )).trans (((hp_2435 (ad (i0)) )).trans ((hp_2433 (ad (i0)) ))))))) (hn.keep (fun i0 hi => ((hp_2448 (ad (i0)) )).trans (((o_2442 (ad (i0)) )).trans (((hp_2437 (ad (i0)) )).trans (((hp_2435 (ad (i0)) )).trans ((hp_2433 (ad (i0)) )))))))) C0 hw vw_X5_62 ((hL 1 (by omega))) hf_2450 rfl rfl rfl hl.1 rfl (Nat.le_of_ble_eq_true rfl) dX5_orderAlone_29 ⟨by decide, by decide⟩ ⟨by decide, by decide⟩) rfl rfl (fun F_2451 H locs hw hp_2452 => ?_)
  refine lv_aload_n hx hb dX5_orderAlone_32 rfl (lv_at hl 0 rfl) ?_
  refine lv_iload_n hx hb dX5_orderAlone_33 rfl (lv_at hl 1 rfl) ?_
  refine lv_iload_n hx hb dX5_orderAlone_34 rfl (lv_at hl 2 rfl) ?_
  refine lv_iload_n hx hb dX5_orderAlone_35 rfl (lv_at hl 3 rfl) ?_
  refine lv_iload hx hb dX5_orderAlone_36 (lv_at hl 4 rfl) ?_
  have f_2453 : F_2451 (ad 0) = xO ad := (hp_2452.2 (ad 0) (fun i hS => hin 0 i (by omega) (by omega) (by omega))).trans f_2449
  have f_2454 : F_2432 (ad 134) = rw7 G u9 := (hp_2433 (ad 134) ).trans h134
  have f_2455 : F_2434 (ad 134) = rw7 G u9 := (hp_2435 (ad 134) ).trans f_2454
  have f_2456 : F_2436 (ad 134) = rw7 G u9 := (hp_2437 (ad 134) ).trans f_2455
  have f_2457 : F_2438 (ad 134) = rw7 G u9 := (o_2442 (ad 134) ).trans f_2456
  have f_2458 : F_2447 (ad 134) = rw7 G u9 := (hp_2448 (ad 134) ).trans f_2457
  have f_2459 : F_2451 (ad 134) = rw7 G u9 := (hp_2452.2 (ad 134) (fun i hS => hin 134 i (by omega) (by omega) (by omega))).trans f_2458
  refine q_calli hw (q_runV (As := [.int (nI (101)), .int (nI (f9)), .int (nI (g9)), .int (nI (t9))]) (c_X5_carryOut_101 l G L F_2451 ad hL hin f9 g9 t9 A.1 _ f_2453 (hn.keep (fun i0 hi => ((hp_2452.2 (ad (i0)) (fun i hS => hin (i0) i (by omega) (by omega) (by omega)))).trans (((hp_2448 (ad (i0)) )).trans (((o_2442 (ad (i0)) )).trans (((hp_2437 (ad (i0)) )).trans (((hp_2435 (ad (i0)) )).trans ((hp_2433 (ad (i0)) )))))))) (hrk.keep (fun i0 hi => ((hp_2452.2 (ad (i0)) (fun i hS => hin (i0) i (by omega) (by omega) (by omega)))).trans (((hp_2448 (ad (i0)) )).trans (((o_2442 (ad (i0)) )).trans (((hp_2437 (ad (i0)) )).trans (((hp_2435 (ad (i0)) )).trans ((hp_2433 (ad (i0)) )))))))) f_2459 (by omega) (by omega) (by omega) (by omega) (by omega) (by omega) (by omega)) C0 hw vw_X5_299 ((hL 0 (by omega))) f_2453 rfl rfl rfl hl.1 rfl (Nat.le_of_ble_eq_true rfl) dX5_orderAlone_38 ⟨by decide, by decide⟩ ⟨by decide, by decide⟩) rfl rfl (fun r_2462 F_2460 H locs hw hp_2461 => ?_)
  obtain ⟨h_2463, h_2464, h_2465, ⟨u_2468, h_2466⟩, h_2467⟩ := hp_2461
  subst h_2463
  have f_2469 : F_2460 (ad 0) = xO ad := (h_2467 (ad 0) (fun i hS => hin 0 i (by omega) (by omega) (by omega))).trans f_2453
  have f_2470 : F_2432 (ad 150) = rw7 G v9 := (hp_2433 (ad 150) ).trans h150
  have f_2471 : F_2434 (ad 150) = rw7 G v9 := (hp_2435 (ad 150) ).trans f_2470
  have f_2472 : F_2436 (ad 150) = rw7 G v9 := (hp_2437 (ad 150) ).trans f_2471
  have f_2473 : F_2438 (ad 150) = rw7 G v9 := (o_2442 (ad 150) ).trans f_2472
  have f_2474 : F_2447 (ad 150) = rw7 G v9 := (hp_2448 (ad 150) ).trans f_2473
  have f_2475 : F_2451 (ad 150) = rw7 G v9 := (hp_2452.2 (ad 150) (fun i hS => hin 150 i (by omega) (by omega) (by omega))).trans f_2474
  have f_2476 : F_2460 (ad 150) = rw7 G v9 := (h_2467 (ad 150) (fun i hS => hin 150 i (by omega) (by omega) (by omega))).trans f_2475
  exact r_i C0 hr hlk hw (v := (lowR (ordR 101 f9 g9 A.1.1 A.1.2.2.2.2.2))) rfl ⟨rfl, ⟨f_2469, h_2464, (hp_2452.1.keep (fun i0 hi => (h_2467 (ad (i0)) (fun i hS => hin (i0) i (by omega) (by omega) (by omega))))), (hsn.keep (fun i0 hi => ((h_2467 (ad (i0)) (fun i hS => hin (i0) i (by omega) (by omega) (by omega)))).trans (((hp_2452.2 (ad (i0)) (fun i hS => hin (i0) i (by omega) (by omega) (by omega)))).trans (((hp_2448 (ad (i0)) )).trans (((o_2442 (ad (i0)) )).trans (((hp_2437 (ad (i0)) )).trans (((hp_2435 (ad (i0)) )).trans ((hp_2433 (ad (i0)) ))))))))), (htx.keep (fun i0 hi => ((h_2467 (ad (i0)) (fun i hS => hin (i0) i (by omega) (by omega) (by omega)))).trans (((hp_2452.2 (ad (i0)) (fun i hS => hin (i0) i (by omega) (by omega) (by omega)))).trans (((hp_2448 (ad (i0)) )).trans (((o_2442 (ad (i0)) )).trans (((hp_2437 (ad (i0)) )).trans (((hp_2435 (ad (i0)) )).trans ((hp_2433 (ad (i0)) ))))))))), h_2465, ⟨_, h_2466⟩, ⟨_, f_2476⟩⟩, (fun q hq => ((h_2467 q (fun i hS => hq i (by omega))).trans ((hp_2452.2 q (fun i hS => hq i (by omega))).trans ((hp_2448 q ).trans ((o_2442 q ).trans ((hp_2437 q ).trans ((hp_2435 q ).trans (hp_2433 q ))))))))⟩ (Nat.le_refl _) (Nat.le_refl _) dX5_orderAlone_41 hQ
set_option maxHeartbeats 4000000 in
set_option maxRecDepth 100000 in
theorem c_X5_orderAlone_99 (l : Launch) (G : Gl) (L : List Nat) (F : Nat → va_E) (ad : Nat → Nat) (hL : ∀ i, i < 166 → ad i ∈ L) (hin : ∀ i j, i < 166 → j < 166 → i ≠ j → ad i ≠ ad j) (A : AB) (f9 g9 t9 : Nat) (hf9 : f9 < 6) (hg9 : g9 < 6) (ht9 : t9 < 6) (hm : 4 * A.1.1 ≤ A.1.2.1) (hX : XW G F ad A) (hA : okA A) : CI l yX5_orderAlone cX5_orderAlone 5 (some .int) rm_X5_orderAlone G L F [.ref (ad 0), .int (nI (99)), .int (nI (f9)), .int (nI (g9)), .int (nI (t9))] (fun r F1 => r = lowR (ordR 99 f9 g9 A.1.1 A.1.2.2.2.2.2) ∧ XW G F1 ad (aSave A (ordS 99 f9 g9 t9 A.1)) ∧ ∀ q, (∀ i, (i < 166) → q ≠ ad i) → F1 q = F q) := by
  obtain ⟨fx, hn, hh, hsn, htx, hrk, ⟨u9, h134⟩, ⟨v9, h150⟩⟩ := hX
  obtain ⟨⟨hc2, hc, hpu, hok⟩, ⟨hh6, hho⟩, hso, hl60, hco⟩ := id hA
  refine CG_of (by decide) (Nat.le_of_ble_eq_true rfl) rfl ?_
  intro p e s m args below meth c Q C0 hr hlk hnm hQ hw ls hl
  have hx := C0.x
  have hb := C0.b
  refine lv_iload_n hx hb dX5_orderAlone_0 rfl (lv_at hl 2 rfl) ?_
  refine q_callv hw (q_runS (As := [.int (nI (f9))]) (c_X5_needSlot l G L F f9 (by omega)) C0 hw sw_X5_78 rfl hl.1 rfl (Nat.le_of_ble_eq_true rfl) dX5_orderAlone_1 ⟨by decide, by decide⟩ ⟨by decide, by decide⟩) rfl rfl (fun F_2477 H locs hw hp_2478 => ?_)
  refine lv_iload_n hx hb dX5_orderAlone_4 rfl (lv_at hl 3 rfl) ?_
  refine q_callv hw (q_runS (As := [.int (nI (g9))]) (c_X5_needSlot l G L F_2477 g9 (by omega)) C0 hw sw_X5_78 rfl hl.1 rfl (Nat.le_of_ble_eq_true rfl) dX5_orderAlone_5 ⟨by decide, by decide⟩ ⟨by decide, by decide⟩) rfl rfl (fun F_2479 H locs hw hp_2480 => ?_)
  refine lv_iload hx hb dX5_orderAlone_8 (lv_at hl 4 rfl) ?_
  refine q_callv hw (q_runS (As := [.int (nI (t9))]) (c_X5_needSlot l G L F_2479 t9 (by omega)) C0 hw sw_X5_78 rfl hl.1 rfl (Nat.le_of_ble_eq_true rfl) dX5_orderAlone_10 ⟨by decide, by decide⟩ ⟨by decide, by decide⟩) rfl rfl (fun F_2481 H locs hw hp_2482 => ?_)
  refine lv_aload_n hx hb dX5_orderAlone_13 rfl (lv_at hl 0 rfl) ?_
  refine lv_iload_n hx hb dX5_orderAlone_14 rfl (lv_at hl 1 rfl) ?_
  refine q_calli hw (q_runS (As := [.int (nI (99))]) (c_X5_unitsOf_99 l G L F_2481 ) C0 hw sw_X5_225 rfl hl.1 rfl (Nat.le_of_ble_eq_true rfl) dX5_orderAlone_15 ⟨by decide, by decide⟩ ⟨by decide, by decide⟩) rfl rfl (fun r_2485 F_2483 H locs hw hp_2484 => ?_)
  obtain ⟨he_2486, o_2487⟩ := hp_2484
  subst he_2486
  have f_2488 : F_2477 (ad 0) = xO ad := (hp_2478 (ad 0) ).trans fx
  have f_2489 : F_2479 (ad 0) = xO ad := (hp_2480 (ad 0) ).trans f_2488
  have f_2490 : F_2481 (ad 0) = xO ad := (hp_2482 (ad 0) ).trans f_2489
  have f_2491 : F_2483 (ad 0) = xO ad := (o_2487 (ad 0) ).trans f_2490
  refine q_callv hw (q_runV (As := [.int (nI (4))]) (c_X5_needMoney l G L F_2483 ad hL hin 4 A.1 f_2491 (hn.keep (fun i0 hi => ((o_2487 (ad (i0)) )).trans (((hp_2482 (ad (i0)) )).trans (((hp_2480 (ad (i0)) )).trans ((hp_2478 (ad (i0)) )))))) (by omega) (by omega)) C0 hw vw_X5_111 ((hL 0 (by omega))) f_2491 rfl rfl rfl hl.1 rfl (Nat.le_of_ble_eq_true rfl) dX5_orderAlone_18 ⟨by decide, by decide⟩ ⟨by decide, by decide⟩) rfl rfl (fun F_2492 H locs hw hp_2493 => ?_)
  refine lv_aload_n hx hb dX5_orderAlone_21 rfl (lv_at hl 0 rfl) ?_
  have f_2494 : F_2492 (ad 0) = xO ad := (hp_2493 (ad 0) ).trans f_2491
  refine q_get C0 hw ((hL 0 (by omega))) f_2494 fw_X5_19 rfl dX5_orderAlone_22 ?_
  refine lv_aload_n hx hb dX5_orderAlone_25 rfl (lv_at hl 0 rfl) ?_
  refine q_get C0 hw ((hL 0 (by omega))) f_2494 fw_X5_12 rfl dX5_orderAlone_26 ?_
  obtain ⟨_, _, hf_2495, _⟩ := id (hh.keep (fun i0 hi => ((hp_2493 (ad (i0)) )).trans (((o_2487 (ad (i0)) )).trans (((hp_2482 (ad (i0)) )).trans (((hp_2480 (ad (i0)) )).trans ((hp_2478 (ad (i0)) )))))))
  refine q_callv hw (q_runV (As := [.ref (ad 22)]) (c_X0_save l G L F_2492 ad hL hin A.2.1 A.1 (hh.keep (fun i0 hi => ((hp_2493 (ad (i0)) )).trans (((o_2487 (ad (i0)) )).trans (((hp_2482 (ad (i0)) )).trans (((hp_2480 (ad (i0)) )).trans ((hp_2478 (ad (i0)) ))))))) (hn.keep (fun i0 hi => ((hp_2493 (ad (i0)) )).trans (((o_2487 (ad (i0)) )).trans (((hp_2482 (ad (i0)) )).trans (((hp_2480 (ad (i0)) )).trans ((hp_2478 (ad (i0)) )))))))) C0 hw vw_X5_62 ((hL 1 (by omega))) hf_2495 rfl rfl rfl hl.1 rfl (Nat.le_of_ble_eq_true rfl) dX5_orderAlone_29 ⟨by decide, by decide⟩ ⟨by decide, by decide⟩) rfl rfl (fun F_2496 H locs hw hp_2497 => ?_)
  refine lv_aload_n hx hb dX5_orderAlone_32 rfl (lv_at hl 0 rfl) ?_
  refine lv_iload_n hx hb dX5_orderAlone_33 rfl (lv_at hl 1 rfl) ?_
  refine lv_iload_n hx hb dX5_orderAlone_34 rfl (lv_at hl 2 rfl) ?_
  refine lv_iload_n hx hb dX5_orderAlone_35 rfl (lv_at hl 3 rfl) ?_
  refine lv_iload hx hb dX5_orderAlone_36 (lv_at hl 4 rfl) ?_
  have f_2498 : F_2496 (ad 0) = xO ad := (hp_2497.2 (ad 0) (fun i hS => hin 0 i (by omega) (by omega) (by omega))).trans f_2494
  have f_2499 : F_2477 (ad 134) = rw7 G u9 := (hp_2478 (ad 134) ).trans h134
  have f_2500 : F_2479 (ad 134) = rw7 G u9 := (hp_2480 (ad 134) ).trans f_2499
  have f_2501 : F_2481 (ad 134) = rw7 G u9 := (hp_2482 (ad 134) ).trans f_2500
  have f_2502 : F_2483 (ad 134) = rw7 G u9 := (o_2487 (ad 134) ).trans f_2501
  have f_2503 : F_2492 (ad 134) = rw7 G u9 := (hp_2493 (ad 134) ).trans f_2502
  have f_2504 : F_2496 (ad 134) = rw7 G u9 := (hp_2497.2 (ad 134) (fun i hS => hin 134 i (by omega) (by omega) (by omega))).trans f_2503
  refine q_calli hw (q_runV (As := [.int (nI (99)), .int (nI (f9)), .int (nI (g9)), .int (nI (t9))]) (c_X5_carryOut_99 l G L F_2496 ad hL hin f9 g9 t9 A.1 _ f_2498 (hn.keep (fun i0 hi => ((hp_2497.2 (ad (i0)) (fun i hS => hin (i0) i (by omega) (by omega) (by omega)))).trans (((hp_2493 (ad (i0)) )).trans (((o_2487 (ad (i0)) )).trans (((hp_2482 (ad (i0)) )).trans (((hp_2480 (ad (i0)) )).trans ((hp_2478 (ad (i0)) )))))))) (hrk.keep (fun i0 hi => ((hp_2497.2 (ad (i0)) (fun i hS => hin (i0) i (by omega) (by omega) (by omega)))).trans (((hp_2493 (ad (i0)) )).trans (((o_2487 (ad (i0)) )).trans (((hp_2482 (ad (i0)) )).trans (((hp_2480 (ad (i0)) )).trans ((hp_2478 (ad (i0)) )))))))) f_2504 (by omega) (by omega) (by omega) (by omega) (by omega) (by omega) (by omega)) C0 hw vw_X5_299 ((hL 0 (by omega))) f_2498 rfl rfl rfl hl.1 rfl (Nat.le_of_ble_eq_true rfl) dX5_orderAlone_38 ⟨by decide, by decide⟩ ⟨by decide, by decide⟩) rfl rfl (fun r_2507 F_2505 H locs hw hp_2506 => ?_)
  obtain ⟨h_2508, h_2509, h_2510, ⟨u_2513, h_2511⟩, h_2512⟩ := hp_2506
  subst h_2508
  have f_2514 : F_2505 (ad 0) = xO ad := (h_2512 (ad 0) (fun i hS => hin 0 i (by omega) (by omega) (by omega))).trans f_2498
  have f_2515 : F_2477 (ad 150) = rw7 G v9 := (hp_2478 (ad 150) ).trans h150
  have f_2516 : F_2479 (ad 150) = rw7 G v9 := (hp_2480 (ad 150) ).trans f_2515
  have f_2517 : F_2481 (ad 150) = rw7 G v9 := (hp_2482 (ad 150) ).trans f_2516
  have f_2518 : F_2483 (ad 150) = rw7 G v9 := (o_2487 (ad 150) ).trans f_2517
  have f_2519 : F_2492 (ad 150) = rw7 G v9 := (hp_2493 (ad 150) ).trans f_2518
  have f_2520 : F_2496 (ad 150) = rw7 G v9 := (hp_2497.2 (ad 150) (fun i hS => hin 150 i (by omega) (by omega) (by omega))).trans f_2519
  have f_2521 : F_2505 (ad 150) = rw7 G v9 := (h_2512 (ad 150) (fun i hS => hin 150 i (by omega) (by omega) (by omega))).trans f_2520
  exact r_i C0 hr hlk hw (v := (lowR (ordR 99 f9 g9 A.1.1 A.1.2.2.2.2.2))) rfl ⟨rfl, ⟨f_2514, h_2509, (hp_2497.1.keep (fun i0 hi => (h_2512 (ad (i0)) (fun i hS => hin (i0) i (by omega) (by omega) (by omega))))), (hsn.keep (fun i0 hi => ((h_2512 (ad (i0)) (fun i hS => hin (i0) i (by omega) (by omega) (by omega)))).trans (((hp_2497.2 (ad (i0)) (fun i hS => hin (i0) i (by omega) (by omega) (by omega)))).trans (((hp_2493 (ad (i0)) )).trans (((o_2487 (ad (i0)) )).trans (((hp_2482 (ad (i0)) )).trans (((hp_2480 (ad (i0)) )).trans ((hp_2478 (ad (i0)) ))))))))), (htx.keep (fun i0 hi => ((h_2512 (ad (i0)) (fun i hS => hin (i0) i (by omega) (by omega) (by omega)))).trans (((hp_2497.2 (ad (i0)) (fun i hS => hin (i0) i (by omega) (by omega) (by omega)))).trans (((hp_2493 (ad (i0)) )).trans (((o_2487 (ad (i0)) )).trans (((hp_2482 (ad (i0)) )).trans (((hp_2480 (ad (i0)) )).trans ((hp_2478 (ad (i0)) ))))))))), h_2510, ⟨_, h_2511⟩, ⟨_, f_2521⟩⟩, (fun q hq => ((h_2512 q (fun i hS => hq i (by omega))).trans ((hp_2497.2 q (fun i hS => hq i (by omega))).trans ((hp_2493 q ).trans ((o_2487 q ).trans ((hp_2482 q ).trans ((hp_2480 q ).trans (hp_2478 q ))))))))⟩ (Nat.le_refl _) (Nat.le_refl _) dX5_orderAlone_41 hQ
set_option maxHeartbeats 4000000 in
set_option maxRecDepth 100000 in
theorem c_X5_orderAlone_105 (l : Launch) (G : Gl) (L : List Nat) (F : Nat → va_E) (ad : Nat → Nat) (hL : ∀ i, i < 166 → ad i ∈ L) (hin : ∀ i j, i < 166 → j < 166 → i ≠ j → ad i ≠ ad j) (A : AB) (f9 g9 t9 : Nat) (hf9 : f9 < 6) (hg9 : g9 < 6) (ht9 : t9 < 6) (hm : 4 * A.1.1 ≤ A.1.2.1) (hX : XW G F ad A) (hA : okA A) : CI l yX5_orderAlone cX5_orderAlone 5 (some .int) rm_X5_orderAlone G L F [.ref (ad 0), .int (nI (105)), .int (nI (f9)), .int (nI (g9)), .int (nI (t9))] (fun r F1 => r = lowR (ordR 105 f9 g9 A.1.1 A.1.2.2.2.2.2) ∧ XW G F1 ad (aSave A (ordS 105 f9 g9 t9 A.1)) ∧ ∀ q, (∀ i, (i < 166) → q ≠ ad i) → F1 q = F q) := by
  obtain ⟨fx, hn, hh, hsn, htx, hrk, ⟨u9, h134⟩, ⟨v9, h150⟩⟩ := hX
  obtain ⟨⟨hc2, hc, hpu, hok⟩, ⟨hh6, hho⟩, hso, hl60, hco⟩ := id hA
  refine CG_of (by decide) (Nat.le_of_ble_eq_true rfl) rfl ?_
  intro p e s m args below meth c Q C0 hr hlk hnm hQ hw ls hl
  have hx := C0.x
  have hb := C0.b
  refine lv_iload_n hx hb dX5_orderAlone_0 rfl (lv_at hl 2 rfl) ?_
  refine q_callv hw (q_runS (As := [.int (nI (f9))]) (c_X5_needSlot l G L F f9 (by omega)) C0 hw sw_X5_78 rfl hl.1 rfl (Nat.le_of_ble_eq_true rfl) dX5_orderAlone_1 ⟨by decide, by decide⟩ ⟨by decide, by decide⟩) rfl rfl (fun F_2522 H locs hw hp_2523 => ?_)
  refine lv_iload_n hx hb dX5_orderAlone_4 rfl (lv_at hl 3 rfl) ?_
  refine q_callv hw (q_runS (As := [.int (nI (g9))]) (c_X5_needSlot l G L F_2522 g9 (by omega)) C0 hw sw_X5_78 rfl hl.1 rfl (Nat.le_of_ble_eq_true rfl) dX5_orderAlone_5 ⟨by decide, by decide⟩ ⟨by decide, by decide⟩) rfl rfl (fun F_2524 H locs hw hp_2525 => ?_)
  refine lv_iload hx hb dX5_orderAlone_8 (lv_at hl 4 rfl) ?_
  refine q_callv hw (q_runS (As := [.int (nI (t9))]) (c_X5_needSlot l G L F_2524 t9 (by omega)) C0 hw sw_X5_78 rfl hl.1 rfl (Nat.le_of_ble_eq_true rfl) dX5_orderAlone_10 ⟨by decide, by decide⟩ ⟨by decide, by decide⟩) rfl rfl (fun F_2526 H locs hw hp_2527 => ?_)
  refine lv_aload_n hx hb dX5_orderAlone_13 rfl (lv_at hl 0 rfl) ?_
  refine lv_iload_n hx hb dX5_orderAlone_14 rfl (lv_at hl 1 rfl) ?_
  refine q_calli hw (q_runS (As := [.int (nI (105))]) (c_X5_unitsOf_105 l G L F_2526 ) C0 hw sw_X5_225 rfl hl.1 rfl (Nat.le_of_ble_eq_true rfl) dX5_orderAlone_15 ⟨by decide, by decide⟩ ⟨by decide, by decide⟩) rfl rfl (fun r_2530 F_2528 H locs hw hp_2529 => ?_)
  obtain ⟨he_2531, o_2532⟩ := hp_2529
  subst he_2531
  have f_2533 : F_2522 (ad 0) = xO ad := (hp_2523 (ad 0) ).trans fx
  have f_2534 : F_2524 (ad 0) = xO ad := (hp_2525 (ad 0) ).trans f_2533
  have f_2535 : F_2526 (ad 0) = xO ad := (hp_2527 (ad 0) ).trans f_2534
  have f_2536 : F_2528 (ad 0) = xO ad := (o_2532 (ad 0) ).trans f_2535
  refine q_callv hw (q_runV (As := [.int (nI (4))]) (c_X5_needMoney l G L F_2528 ad hL hin 4 A.1 f_2536 (hn.keep (fun i0 hi => ((o_2532 (ad (i0)) )).trans (((hp_2527 (ad (i0)) )).trans (((hp_2525 (ad (i0)) )).trans ((hp_2523 (ad (i0)) )))))) (by omega) (by omega)) C0 hw vw_X5_111 ((hL 0 (by omega))) f_2536 rfl rfl rfl hl.1 rfl (Nat.le_of_ble_eq_true rfl) dX5_orderAlone_18 ⟨by decide, by decide⟩ ⟨by decide, by decide⟩) rfl rfl (fun F_2537 H locs hw hp_2538 => ?_)
  refine lv_aload_n hx hb dX5_orderAlone_21 rfl (lv_at hl 0 rfl) ?_
  have f_2539 : F_2537 (ad 0) = xO ad := (hp_2538 (ad 0) ).trans f_2536
  refine q_get C0 hw ((hL 0 (by omega))) f_2539 fw_X5_19 rfl dX5_orderAlone_22 ?_
  refine lv_aload_n hx hb dX5_orderAlone_25 rfl (lv_at hl 0 rfl) ?_
  refine q_get C0 hw ((hL 0 (by omega))) f_2539 fw_X5_12 rfl dX5_orderAlone_26 ?_
  obtain ⟨_, _, hf_2540, _⟩ := id (hh.keep (fun i0 hi => ((hp_2538 (ad (i0)) )).trans (((o_2532 (ad (i0)) )).trans (((hp_2527 (ad (i0)) )).trans (((hp_2525 (ad (i0)) )).trans ((hp_2523 (ad (i0)) )))))))
  refine q_callv hw (q_runV (As := [.ref (ad 22)]) (c_X0_save l G L F_2537 ad hL hin A.2.1 A.1 (hh.keep (fun i0 hi => ((hp_2538 (ad (i0)) )).trans (((o_2532 (ad (i0)) )).trans (((hp_2527 (ad (i0)) )).trans (((hp_2525 (ad (i0)) )).trans ((hp_2523 (ad (i0)) ))))))) (hn.keep (fun i0 hi => ((hp_2538 (ad (i0)) )).trans (((o_2532 (ad (i0)) )).trans (((hp_2527 (ad (i0)) )).trans (((hp_2525 (ad (i0)) )).trans ((hp_2523 (ad (i0)) )))))))) C0 hw vw_X5_62 ((hL 1 (by omega))) hf_2540 rfl rfl rfl hl.1 rfl (Nat.le_of_ble_eq_true rfl) dX5_orderAlone_29 ⟨by decide, by decide⟩ ⟨by decide, by decide⟩) rfl rfl (fun F_2541 H locs hw hp_2542 => ?_)
  refine lv_aload_n hx hb dX5_orderAlone_32 rfl (lv_at hl 0 rfl) ?_
  refine lv_iload_n hx hb dX5_orderAlone_33 rfl (lv_at hl 1 rfl) ?_
  refine lv_iload_n hx hb dX5_orderAlone_34 rfl (lv_at hl 2 rfl) ?_
  refine lv_iload_n hx hb dX5_orderAlone_35 rfl (lv_at hl 3 rfl) ?_
  refine lv_iload hx hb dX5_orderAlone_36 (lv_at hl 4 rfl) ?_
  have f_2543 : F_2541 (ad 0) = xO ad := (hp_2542.2 (ad 0) (fun i hS => hin 0 i (by omega) (by omega) (by omega))).trans f_2539
  have f_2544 : F_2522 (ad 134) = rw7 G u9 := (hp_2523 (ad 134) ).trans h134
  have f_2545 : F_2524 (ad 134) = rw7 G u9 := (hp_2525 (ad 134) ).trans f_2544
  have f_2546 : F_2526 (ad 134) = rw7 G u9 := (hp_2527 (ad 134) ).trans f_2545
  have f_2547 : F_2528 (ad 134) = rw7 G u9 := (o_2532 (ad 134) ).trans f_2546
  have f_2548 : F_2537 (ad 134) = rw7 G u9 := (hp_2538 (ad 134) ).trans f_2547
  have f_2549 : F_2541 (ad 134) = rw7 G u9 := (hp_2542.2 (ad 134) (fun i hS => hin 134 i (by omega) (by omega) (by omega))).trans f_2548
  refine q_calli hw (q_runV (As := [.int (nI (105)), .int (nI (f9)), .int (nI (g9)), .int (nI (t9))]) (c_X5_carryOut_105 l G L F_2541 ad hL hin f9 g9 t9 A.1 _ f_2543 (hn.keep (fun i0 hi => ((hp_2542.2 (ad (i0)) (fun i hS => hin (i0) i (by omega) (by omega) (by omega)))).trans (((hp_2538 (ad (i0)) )).trans (((o_2532 (ad (i0)) )).trans (((hp_2527 (ad (i0)) )).trans (((hp_2525 (ad (i0)) )).trans ((hp_2523 (ad (i0)) )))))))) (hrk.keep (fun i0 hi => ((hp_2542.2 (ad (i0)) (fun i hS => hin (i0) i (by omega) (by omega) (by omega)))).trans (((hp_2538 (ad (i0)) )).trans (((o_2532 (ad (i0)) )).trans (((hp_2527 (ad (i0)) )).trans (((hp_2525 (ad (i0)) )).trans ((hp_2523 (ad (i0)) )))))))) f_2549 (by omega) (by omega) (by omega) (by omega) (by omega) (by omega) (by omega)) C0 hw vw_X5_299 ((hL 0 (by omega))) f_2543 rfl rfl rfl hl.1 rfl (Nat.le_of_ble_eq_true rfl) dX5_orderAlone_38 ⟨by decide, by decide⟩ ⟨by decide, by decide⟩) rfl rfl (fun r_2552 F_2550 H locs hw hp_2551 => ?_)
  obtain ⟨h_2553, h_2554, h_2555, ⟨u_2558, h_2556⟩, h_2557⟩ := hp_2551
  subst h_2553
  have f_2559 : F_2550 (ad 0) = xO ad := (h_2557 (ad 0) (fun i hS => hin 0 i (by omega) (by omega) (by omega))).trans f_2543
  have f_2560 : F_2522 (ad 150) = rw7 G v9 := (hp_2523 (ad 150) ).trans h150
  have f_2561 : F_2524 (ad 150) = rw7 G v9 := (hp_2525 (ad 150) ).trans f_2560
  have f_2562 : F_2526 (ad 150) = rw7 G v9 := (hp_2527 (ad 150) ).trans f_2561
  have f_2563 : F_2528 (ad 150) = rw7 G v9 := (o_2532 (ad 150) ).trans f_2562
  have f_2564 : F_2537 (ad 150) = rw7 G v9 := (hp_2538 (ad 150) ).trans f_2563
  have f_2565 : F_2541 (ad 150) = rw7 G v9 := (hp_2542.2 (ad 150) (fun i hS => hin 150 i (by omega) (by omega) (by omega))).trans f_2564
  have f_2566 : F_2550 (ad 150) = rw7 G v9 := (h_2557 (ad 150) (fun i hS => hin 150 i (by omega) (by omega) (by omega))).trans f_2565
  exact r_i C0 hr hlk hw (v := (lowR (ordR 105 f9 g9 A.1.1 A.1.2.2.2.2.2))) rfl ⟨rfl, ⟨f_2559, h_2554, (hp_2542.1.keep (fun i0 hi => (h_2557 (ad (i0)) (fun i hS => hin (i0) i (by omega) (by omega) (by omega))))), (hsn.keep (fun i0 hi => ((h_2557 (ad (i0)) (fun i hS => hin (i0) i (by omega) (by omega) (by omega)))).trans (((hp_2542.2 (ad (i0)) (fun i hS => hin (i0) i (by omega) (by omega) (by omega)))).trans (((hp_2538 (ad (i0)) )).trans (((o_2532 (ad (i0)) )).trans (((hp_2527 (ad (i0)) )).trans (((hp_2525 (ad (i0)) )).trans ((hp_2523 (ad (i0)) ))))))))), (htx.keep (fun i0 hi => ((h_2557 (ad (i0)) (fun i hS => hin (i0) i (by omega) (by omega) (by omega)))).trans (((hp_2542.2 (ad (i0)) (fun i hS => hin (i0) i (by omega) (by omega) (by omega)))).trans (((hp_2538 (ad (i0)) )).trans (((o_2532 (ad (i0)) )).trans (((hp_2527 (ad (i0)) )).trans (((hp_2525 (ad (i0)) )).trans ((hp_2523 (ad (i0)) ))))))))), h_2555, ⟨_, h_2556⟩, ⟨_, f_2566⟩⟩, (fun q hq => ((h_2557 q (fun i hS => hq i (by omega))).trans ((hp_2542.2 q (fun i hS => hq i (by omega))).trans ((hp_2538 q ).trans ((o_2532 q ).trans ((hp_2527 q ).trans ((hp_2525 q ).trans (hp_2523 q ))))))))⟩ (Nat.le_refl _) (Nat.le_refl _) dX5_orderAlone_41 hQ
abbrev rm_X5_bracket : Room := { frames := 6, cells := 0, slots := 0, locals := 164 }
set_option maxHeartbeats 4000000 in
set_option maxRecDepth 100000 in
theorem c_X5_bracket (l : Launch) (G : Gl) (L : List Nat) (F : Nat → va_E) (ad : Nat → Nat) (hL : ∀ i, i < 166 → ad i ∈ L) (hin : ∀ i j, i < 166 → j < 166 → i ≠ j → ad i ≠ ad j) (A : AB) (f9 g9 t9 : Nat) (hf9 : f9 < 6) (hg9 : g9 < 6) (ht9 : t9 < 6) (hm : 2 * A.1.1 ≤ A.1.2.1) (hX : XW G F ad A) (hA : okA A) : CI l yX5_bracket cX5_bracket 4 (some .int) rm_X5_bracket G L F [.ref (ad 0), .int (nI (f9)), .int (nI (g9)), .int (nI (t9))] (fun r F1 => r = lowR (ordR 98 f9 g9 A.1.1 A.1.2.2.2.2.2) ∧ XW G F1 ad (aSave A (ordS 98 f9 g9 t9 A.1)) ∧ ∀ q, (∀ i, (i < 166) → q ≠ ad i) → F1 q = F q) := by
  obtain ⟨fx, hn, hh, hsn, htx, hrk, ⟨u9, h134⟩, ⟨v9, h150⟩⟩ := id hX
  obtain ⟨⟨hc2, hc, hpu, hok⟩, ⟨hh6, hho⟩, hso, hl60, hco⟩ := id hA
  refine CG_of (by decide) (Nat.le_of_ble_eq_true rfl) rfl ?_
  intro p e s m args below meth c Q C0 hr hlk hnm hQ hw ls hl
  have hx := C0.x
  have hb := C0.b
  refine lv_aload_n hx hb dX5_bracket_0 rfl (lv_at hl 0 rfl) ?_
  refine lv_bipush (v := nI 98) hx hb dX5_bracket_1 (by decide) ?_
  refine lv_iload_n hx hb dX5_bracket_3 rfl (lv_at hl 1 rfl) ?_
  refine lv_iload_n hx hb dX5_bracket_4 rfl (lv_at hl 2 rfl) ?_
  refine lv_iload_n hx hb dX5_bracket_5 rfl (lv_at hl 3 rfl) ?_
  refine q_calli hw (q_runV (As := [.int (nI (98)), .int (nI (f9)), .int (nI (g9)), .int (nI (t9))]) (c_X5_orderAlone_98 l G L F ad hL hin A f9 g9 t9 (by omega) (by omega) (by omega) (by omega) hX hA) C0 hw vw_X5_107 ((hL 0 (by omega))) fx rfl rfl rfl hl.1 rfl (Nat.le_of_ble_eq_true rfl) dX5_bracket_6 ⟨by decide, by decide⟩ ⟨by decide, by decide⟩) rfl rfl (fun r_2569 F_2567 H locs hw hp_2568 => ?_)
  obtain ⟨h_2570, h_2571, h_2572⟩ := hp_2568
  subst h_2570
  exact r_i C0 hr hlk hw (v := (lowR (ordR 98 f9 g9 A.1.1 A.1.2.2.2.2.2))) rfl ⟨rfl, h_2571, (fun q hq => (h_2572 q (fun i hS => hq i (by omega))))⟩ (Nat.le_refl _) (Nat.le_refl _) dX5_bracket_9 hQ
abbrev rm_X5_sum : Room := { frames := 6, cells := 0, slots := 0, locals := 164 }
set_option maxHeartbeats 4000000 in
set_option maxRecDepth 100000 in
theorem c_X5_sum (l : Launch) (G : Gl) (L : List Nat) (F : Nat → va_E) (ad : Nat → Nat) (hL : ∀ i, i < 166 → ad i ∈ L) (hin : ∀ i j, i < 166 → j < 166 → i ≠ j → ad i ≠ ad j) (A : AB) (f9 g9 t9 : Nat) (hf9 : f9 < 6) (hg9 : g9 < 6) (ht9 : t9 < 6) (hm : 1 * A.1.1 ≤ A.1.2.1) (hX : XW G F ad A) (hA : okA A) : CI l yX5_sum cX5_sum 4 (some .int) rm_X5_sum G L F [.ref (ad 0), .int (nI (f9)), .int (nI (g9)), .int (nI (t9))] (fun r F1 => r = lowR (ordR 115 f9 g9 A.1.1 A.1.2.2.2.2.2) ∧ XW G F1 ad (aSave A (ordS 115 f9 g9 t9 A.1)) ∧ ∀ q, (∀ i, (i < 166) → q ≠ ad i) → F1 q = F q) := by
  obtain ⟨fx, hn, hh, hsn, htx, hrk, ⟨u9, h134⟩, ⟨v9, h150⟩⟩ := id hX
  obtain ⟨⟨hc2, hc, hpu, hok⟩, ⟨hh6, hho⟩, hso, hl60, hco⟩ := id hA
  refine CG_of (by decide) (Nat.le_of_ble_eq_true rfl) rfl ?_
  intro p e s m args below meth c Q C0 hr hlk hnm hQ hw ls hl
  have hx := C0.x
  have hb := C0.b
  refine lv_aload_n hx hb dX5_sum_0 rfl (lv_at hl 0 rfl) ?_
  refine lv_bipush (v := nI 115) hx hb dX5_sum_1 (by decide) ?_
  refine lv_iload_n hx hb dX5_sum_3 rfl (lv_at hl 1 rfl) ?_
  refine lv_iload_n hx hb dX5_sum_4 rfl (lv_at hl 2 rfl) ?_
  refine lv_iload_n hx hb dX5_sum_5 rfl (lv_at hl 3 rfl) ?_
  refine q_calli hw (q_runV (As := [.int (nI (115)), .int (nI (f9)), .int (nI (g9)), .int (nI (t9))]) (c_X5_orderAlone_115 l G L F ad hL hin A f9 g9 t9 (by omega) (by omega) (by omega) (by omega) hX hA) C0 hw vw_X5_107 ((hL 0 (by omega))) fx rfl rfl rfl hl.1 rfl (Nat.le_of_ble_eq_true rfl) dX5_sum_6 ⟨by decide, by decide⟩ ⟨by decide, by decide⟩) rfl rfl (fun r_2575 F_2573 H locs hw hp_2574 => ?_)
  obtain ⟨h_2576, h_2577, h_2578⟩ := hp_2574
  subst h_2576
  exact r_i C0 hr hlk hw (v := (lowR (ordR 115 f9 g9 A.1.1 A.1.2.2.2.2.2))) rfl ⟨rfl, h_2577, (fun q hq => (h_2578 q (fun i hS => hq i (by omega))))⟩ (Nat.le_refl _) (Nat.le_refl _) dX5_sum_9 hQ
abbrev rm_X5_byBrackets : Room := { frames := 6, cells := 0, slots := 0, locals := 164 }
set_option maxHeartbeats 4000000 in
set_option maxRecDepth 100000 in
theorem c_X5_byBrackets (l : Launch) (G : Gl) (L : List Nat) (F : Nat → va_E) (ad : Nat → Nat) (hL : ∀ i, i < 166 → ad i ∈ L) (hin : ∀ i j, i < 166 → j < 166 → i ≠ j → ad i ≠ ad j) (A : AB) (f9 g9 t9 : Nat) (hf9 : f9 < 6) (hg9 : g9 < 6) (ht9 : t9 < 6) (hm : 20 * A.1.1 ≤ A.1.2.1) (hX : XW G F ad A) (hA : okA A) : CI l yX5_byBrackets cX5_byBrackets 4 (some .int) rm_X5_byBrackets G L F [.ref (ad 0), .int (nI (f9)), .int (nI (g9)), .int (nI (t9))] (fun r F1 => r = lowR (ordR 119 f9 g9 A.1.1 A.1.2.2.2.2.2) ∧ XW G F1 ad (aSave A (ordS 119 f9 g9 t9 A.1)) ∧ ∀ q, (∀ i, (i < 166) → q ≠ ad i) → F1 q = F q) := by
  obtain ⟨fx, hn, hh, hsn, htx, hrk, ⟨u9, h134⟩, ⟨v9, h150⟩⟩ := id hX
  obtain ⟨⟨hc2, hc, hpu, hok⟩, ⟨hh6, hho⟩, hso, hl60, hco⟩ := id hA
  refine CG_of (by decide) (Nat.le_of_ble_eq_true rfl) rfl ?_
  intro p e s m args below meth c Q C0 hr hlk hnm hQ hw ls hl
  have hx := C0.x
  have hb := C0.b
  refine lv_aload_n hx hb dX5_byBrackets_0 rfl (lv_at hl 0 rfl) ?_
  refine lv_bipush (v := nI 119) hx hb dX5_byBrackets_1 (by decide) ?_
  refine lv_iload_n hx hb dX5_byBrackets_3 rfl (lv_at hl 1 rfl) ?_
  refine lv_iload_n hx hb dX5_byBrackets_4 rfl (lv_at hl 2 rfl) ?_
  refine lv_iload_n hx hb dX5_byBrackets_5 rfl (lv_at hl 3 rfl) ?_
  refine q_calli hw (q_runV (As := [.int (nI (119)), .int (nI (f9)), .int (nI (g9)), .int (nI (t9))]) (c_X5_orderAlone_119 l G L F ad hL hin A f9 g9 t9 (by omega) (by omega) (by omega) (by omega) hX hA) C0 hw vw_X5_107 ((hL 0 (by omega))) fx rfl rfl rfl hl.1 rfl (Nat.le_of_ble_eq_true rfl) dX5_byBrackets_6 ⟨by decide, by decide⟩ ⟨by decide, by decide⟩) rfl rfl (fun r_2581 F_2579 H locs hw hp_2580 => ?_)
  obtain ⟨h_2582, h_2583, h_2584⟩ := hp_2580
  subst h_2582
  exact r_i C0 hr hlk hw (v := (lowR (ordR 119 f9 g9 A.1.1 A.1.2.2.2.2.2))) rfl ⟨rfl, h_2583, (fun q hq => (h_2584 q (fun i hS => hq i (by omega))))⟩ (Nat.le_refl _) (Nat.le_refl _) dX5_byBrackets_9 hQ
abbrev rm_X5_push : Room := { frames := 6, cells := 0, slots := 0, locals := 164 }
set_option maxHeartbeats 4000000 in
set_option maxRecDepth 100000 in
theorem c_X5_push (l : Launch) (G : Gl) (L : List Nat) (F : Nat → va_E) (ad : Nat → Nat) (hL : ∀ i, i < 166 → ad i ∈ L) (hin : ∀ i j, i < 166 → j < 166 → i ≠ j → ad i ≠ ad j) (A : AB) (f9 g9 t9 : Nat) (hf9 : f9 < 6) (hg9 : g9 < 6) (ht9 : t9 < 6) (hm : 6 * A.1.1 ≤ A.1.2.1) (hX : XW G F ad A) (hA : okA A) : CI l yX5_push cX5_push 4 (some .int) rm_X5_push G L F [.ref (ad 0), .int (nI (f9)), .int (nI (g9)), .int (nI (t9))] (fun r F1 => r = lowR (ordR 112 f9 g9 A.1.1 A.1.2.2.2.2.2) ∧ XW G F1 ad (aSave A (ordS 112 f9 g9 t9 A.1)) ∧ ∀ q, (∀ i, (i < 166) → q ≠ ad i) → F1 q = F q) := by
  obtain ⟨fx, hn, hh, hsn, htx, hrk, ⟨u9, h134⟩, ⟨v9, h150⟩⟩ := id hX
  obtain ⟨⟨hc2, hc, hpu, hok⟩, ⟨hh6, hho⟩, hso, hl60, hco⟩ := id hA
  refine CG_of (by decide) (Nat.le_of_ble_eq_true rfl) rfl ?_
  intro p e s m args below meth c Q C0 hr hlk hnm hQ hw ls hl
  have hx := C0.x
  have hb := C0.b
  refine lv_aload_n hx hb dX5_push_0 rfl (lv_at hl 0 rfl) ?_
  refine lv_bipush (v := nI 112) hx hb dX5_push_1 (by decide) ?_
  refine lv_iload_n hx hb dX5_push_3 rfl (lv_at hl 1 rfl) ?_
  refine lv_iload_n hx hb dX5_push_4 rfl (lv_at hl 2 rfl) ?_
  refine lv_iload_n hx hb dX5_push_5 rfl (lv_at hl 3 rfl) ?_
  refine q_calli hw (q_runV (As := [.int (nI (112)), .int (nI (f9)), .int (nI (g9)), .int (nI (t9))]) (c_X5_orderAlone_112 l G L F ad hL hin A f9 g9 t9 (by omega) (by omega) (by omega) (by omega) hX hA) C0 hw vw_X5_107 ((hL 0 (by omega))) fx rfl rfl rfl hl.1 rfl (Nat.le_of_ble_eq_true rfl) dX5_push_6 ⟨by decide, by decide⟩ ⟨by decide, by decide⟩) rfl rfl (fun r_2587 F_2585 H locs hw hp_2586 => ?_)
  obtain ⟨h_2588, h_2589, h_2590⟩ := hp_2586
  subst h_2588
  exact r_i C0 hr hlk hw (v := (lowR (ordR 112 f9 g9 A.1.1 A.1.2.2.2.2.2))) rfl ⟨rfl, h_2589, (fun q hq => (h_2590 q (fun i hS => hq i (by omega))))⟩ (Nat.le_refl _) (Nat.le_refl _) dX5_push_9 hQ
abbrev rm_X5_log : Room := { frames := 6, cells := 0, slots := 0, locals := 164 }
set_option maxHeartbeats 4000000 in
set_option maxRecDepth 100000 in
theorem c_X5_log (l : Launch) (G : Gl) (L : List Nat) (F : Nat → va_E) (ad : Nat → Nat) (hL : ∀ i, i < 166 → ad i ∈ L) (hin : ∀ i j, i < 166 → j < 166 → i ≠ j → ad i ≠ ad j) (A : AB) (f9 t9 : Nat) (hf9 : f9 < 6) (ht9 : t9 < 6) (hm : 6 * A.1.1 ≤ A.1.2.1) (hX : XW G F ad A) (hA : okA A) : CI l yX5_log cX5_log 3 (some .int) rm_X5_log G L F [.ref (ad 0), .int (nI (f9)), .int (nI (t9))] (fun r F1 => r = lowR (ordR 108 f9 f9 A.1.1 A.1.2.2.2.2.2) ∧ XW G F1 ad (aSave A (ordS 108 f9 f9 t9 A.1)) ∧ ∀ q, (∀ i, (i < 166) → q ≠ ad i) → F1 q = F q) := by
  obtain ⟨fx, hn, hh, hsn, htx, hrk, ⟨u9, h134⟩, ⟨v9, h150⟩⟩ := id hX
  obtain ⟨⟨hc2, hc, hpu, hok⟩, ⟨hh6, hho⟩, hso, hl60, hco⟩ := id hA
  refine CG_of (by decide) (Nat.le_of_ble_eq_true rfl) rfl ?_
  intro p e s m args below meth c Q C0 hr hlk hnm hQ hw ls hl
  have hx := C0.x
  have hb := C0.b
  refine lv_aload_n hx hb dX5_log_0 rfl (lv_at hl 0 rfl) ?_
  refine lv_bipush (v := nI 108) hx hb dX5_log_1 (by decide) ?_
  refine lv_iload_n hx hb dX5_log_3 rfl (lv_at hl 1 rfl) ?_
  refine lv_iload_n hx hb dX5_log_4 rfl (lv_at hl 1 rfl) ?_
  refine lv_iload_n hx hb dX5_log_5 rfl (lv_at hl 2 rfl) ?_
  refine q_calli hw (q_runV (As := [.int (nI (108)), .int (nI (f9)), .int (nI (f9)), .int (nI (t9))]) (c_X5_orderAlone_108 l G L F ad hL hin A f9 f9 t9 (by omega) (by omega) (by omega) (by omega) hX hA) C0 hw vw_X5_107 ((hL 0 (by omega))) fx rfl rfl rfl hl.1 rfl (Nat.le_of_ble_eq_true rfl) dX5_log_6 ⟨by decide, by decide⟩ ⟨by decide, by decide⟩) rfl rfl (fun r_2593 F_2591 H locs hw hp_2592 => ?_)
  obtain ⟨h_2594, h_2595, h_2596⟩ := hp_2592
  subst h_2594
  exact r_i C0 hr hlk hw (v := (lowR (ordR 108 f9 f9 A.1.1 A.1.2.2.2.2.2))) rfl ⟨rfl, h_2595, (fun q hq => (h_2596 q (fun i hS => hq i (by omega))))⟩ (Nat.le_refl _) (Nat.le_refl _) dX5_log_9 hQ
abbrev rm_X5_exp : Room := { frames := 6, cells := 0, slots := 0, locals := 164 }
set_option maxHeartbeats 4000000 in
set_option maxRecDepth 100000 in
theorem c_X5_exp (l : Launch) (G : Gl) (L : List Nat) (F : Nat → va_E) (ad : Nat → Nat) (hL : ∀ i, i < 166 → ad i ∈ L) (hin : ∀ i j, i < 166 → j < 166 → i ≠ j → ad i ≠ ad j) (A : AB) (f9 t9 : Nat) (hf9 : f9 < 6) (ht9 : t9 < 6) (hm : 5 * A.1.1 ≤ A.1.2.1) (hX : XW G F ad A) (hA : okA A) : CI l yX5_exp cX5_exp 3 (some .int) rm_X5_exp G L F [.ref (ad 0), .int (nI (f9)), .int (nI (t9))] (fun r F1 => r = lowR (ordR 101 f9 f9 A.1.1 A.1.2.2.2.2.2) ∧ XW G F1 ad (aSave A (ordS 101 f9 f9 t9 A.1)) ∧ ∀ q, (∀ i, (i < 166) → q ≠ ad i) → F1 q = F q) := by
  obtain ⟨fx, hn, hh, hsn, htx, hrk, ⟨u9, h134⟩, ⟨v9, h150⟩⟩ := id hX
  obtain ⟨⟨hc2, hc, hpu, hok⟩, ⟨hh6, hho⟩, hso, hl60, hco⟩ := id hA
  refine CG_of (by decide) (Nat.le_of_ble_eq_true rfl) rfl ?_
  intro p e s m args below meth c Q C0 hr hlk hnm hQ hw ls hl
  have hx := C0.x
  have hb := C0.b
  refine lv_aload_n hx hb dX5_exp_0 rfl (lv_at hl 0 rfl) ?_
  refine lv_bipush (v := nI 101) hx hb dX5_exp_1 (by decide) ?_
  refine lv_iload_n hx hb dX5_exp_3 rfl (lv_at hl 1 rfl) ?_
  refine lv_iload_n hx hb dX5_exp_4 rfl (lv_at hl 1 rfl) ?_
  refine lv_iload_n hx hb dX5_exp_5 rfl (lv_at hl 2 rfl) ?_
  refine q_calli hw (q_runV (As := [.int (nI (101)), .int (nI (f9)), .int (nI (f9)), .int (nI (t9))]) (c_X5_orderAlone_101 l G L F ad hL hin A f9 f9 t9 (by omega) (by omega) (by omega) (by omega) hX hA) C0 hw vw_X5_107 ((hL 0 (by omega))) fx rfl rfl rfl hl.1 rfl (Nat.le_of_ble_eq_true rfl) dX5_exp_6 ⟨by decide, by decide⟩ ⟨by decide, by decide⟩) rfl rfl (fun r_2599 F_2597 H locs hw hp_2598 => ?_)
  obtain ⟨h_2600, h_2601, h_2602⟩ := hp_2598
  subst h_2600
  exact r_i C0 hr hlk hw (v := (lowR (ordR 101 f9 f9 A.1.1 A.1.2.2.2.2.2))) rfl ⟨rfl, h_2601, (fun q hq => (h_2602 q (fun i hS => hq i (by omega))))⟩ (Nat.le_refl _) (Nat.le_refl _) dX5_exp_9 hQ
abbrev rm_X5_compose : Room := { frames := 6, cells := 0, slots := 0, locals := 164 }
set_option maxHeartbeats 4000000 in
set_option maxRecDepth 100000 in
theorem c_X5_compose (l : Launch) (G : Gl) (L : List Nat) (F : Nat → va_E) (ad : Nat → Nat) (hL : ∀ i, i < 166 → ad i ∈ L) (hin : ∀ i j, i < 166 → j < 166 → i ≠ j → ad i ≠ ad j) (A : AB) (f9 g9 t9 : Nat) (hf9 : f9 < 6) (hg9 : g9 < 6) (ht9 : t9 < 6) (hm : 4 * A.1.1 ≤ A.1.2.1) (hX : XW G F ad A) (hA : okA A) : CI l yX5_compose cX5_compose 4 (some .int) rm_X5_compose G L F [.ref (ad 0), .int (nI (f9)), .int (nI (g9)), .int (nI (t9))] (fun r F1 => r = lowR (ordR 99 f9 g9 A.1.1 A.1.2.2.2.2.2) ∧ XW G F1 ad (aSave A (ordS 99 f9 g9 t9 A.1)) ∧ ∀ q, (∀ i, (i < 166) → q ≠ ad i) → F1 q = F q) := by
  obtain ⟨fx, hn, hh, hsn, htx, hrk, ⟨u9, h134⟩, ⟨v9, h150⟩⟩ := id hX
  obtain ⟨⟨hc2, hc, hpu, hok⟩, ⟨hh6, hho⟩, hso, hl60, hco⟩ := id hA
  refine CG_of (by decide) (Nat.le_of_ble_eq_true rfl) rfl ?_
  intro p e s m args below meth c Q C0 hr hlk hnm hQ hw ls hl
  have hx := C0.x
  have hb := C0.b
  refine lv_aload_n hx hb dX5_compose_0 rfl (lv_at hl 0 rfl) ?_
  refine lv_bipush (v := nI 99) hx hb dX5_compose_1 (by decide) ?_
  refine lv_iload_n hx hb dX5_compose_3 rfl (lv_at hl 1 rfl) ?_
  refine lv_iload_n hx hb dX5_compose_4 rfl (lv_at hl 2 rfl) ?_
  refine lv_iload_n hx hb dX5_compose_5 rfl (lv_at hl 3 rfl) ?_
  refine q_calli hw (q_runV (As := [.int (nI (99)), .int (nI (f9)), .int (nI (g9)), .int (nI (t9))]) (c_X5_orderAlone_99 l G L F ad hL hin A f9 g9 t9 (by omega) (by omega) (by omega) (by omega) hX hA) C0 hw vw_X5_107 ((hL 0 (by omega))) fx rfl rfl rfl hl.1 rfl (Nat.le_of_ble_eq_true rfl) dX5_compose_6 ⟨by decide, by decide⟩ ⟨by decide, by decide⟩) rfl rfl (fun r_2605 F_2603 H locs hw hp_2604 => ?_)
  obtain ⟨h_2606, h_2607, h_2608⟩ := hp_2604
  subst h_2606
  exact r_i C0 hr hlk hw (v := (lowR (ordR 99 f9 g9 A.1.1 A.1.2.2.2.2.2))) rfl ⟨rfl, h_2607, (fun q hq => (h_2608 q (fun i hS => hq i (by omega))))⟩ (Nat.le_refl _) (Nat.le_refl _) dX5_compose_9 hQ
abbrev rm_X5_invert : Room := { frames := 6, cells := 0, slots := 0, locals := 164 }
set_option maxHeartbeats 4000000 in
set_option maxRecDepth 100000 in
theorem c_X5_invert (l : Launch) (G : Gl) (L : List Nat) (F : Nat → va_E) (ad : Nat → Nat) (hL : ∀ i, i < 166 → ad i ∈ L) (hin : ∀ i j, i < 166 → j < 166 → i ≠ j → ad i ≠ ad j) (A : AB) (f9 t9 : Nat) (hf9 : f9 < 6) (ht9 : t9 < 6) (hm : 4 * A.1.1 ≤ A.1.2.1) (hX : XW G F ad A) (hA : okA A) : CI l yX5_invert cX5_invert 3 (some .int) rm_X5_invert G L F [.ref (ad 0), .int (nI (f9)), .int (nI (t9))] (fun r F1 => r = lowR (ordR 105 f9 f9 A.1.1 A.1.2.2.2.2.2) ∧ XW G F1 ad (aSave A (ordS 105 f9 f9 t9 A.1)) ∧ ∀ q, (∀ i, (i < 166) → q ≠ ad i) → F1 q = F q) := by
  obtain ⟨fx, hn, hh, hsn, htx, hrk, ⟨u9, h134⟩, ⟨v9, h150⟩⟩ := id hX
  obtain ⟨⟨hc2, hc, hpu, hok⟩, ⟨hh6, hho⟩, hso, hl60, hco⟩ := id hA
  refine CG_of (by decide) (Nat.le_of_ble_eq_true rfl) rfl ?_
  intro p e s m args below meth c Q C0 hr hlk hnm hQ hw ls hl
  have hx := C0.x
  have hb := C0.b
  refine lv_aload_n hx hb dX5_invert_0 rfl (lv_at hl 0 rfl) ?_
  refine lv_bipush (v := nI 105) hx hb dX5_invert_1 (by decide) ?_
  refine lv_iload_n hx hb dX5_invert_3 rfl (lv_at hl 1 rfl) ?_
  refine lv_iload_n hx hb dX5_invert_4 rfl (lv_at hl 1 rfl) ?_
  refine lv_iload_n hx hb dX5_invert_5 rfl (lv_at hl 2 rfl) ?_
  refine q_calli hw (q_runV (As := [.int (nI (105)), .int (nI (f9)), .int (nI (f9)), .int (nI (t9))]) (c_X5_orderAlone_105 l G L F ad hL hin A f9 f9 t9 (by omega) (by omega) (by omega) (by omega) hX hA) C0 hw vw_X5_107 ((hL 0 (by omega))) fx rfl rfl rfl hl.1 rfl (Nat.le_of_ble_eq_true rfl) dX5_invert_6 ⟨by decide, by decide⟩ ⟨by decide, by decide⟩) rfl rfl (fun r_2611 F_2609 H locs hw hp_2610 => ?_)
  obtain ⟨h_2612, h_2613, h_2614⟩ := hp_2610
  subst h_2612
  exact r_i C0 hr hlk hw (v := (lowR (ordR 105 f9 f9 A.1.1 A.1.2.2.2.2.2))) rfl ⟨rfl, h_2613, (fun q hq => (h_2614 q (fun i hS => hq i (by omega))))⟩ (Nat.le_refl _) (Nat.le_refl _) dX5_invert_9 hQ
