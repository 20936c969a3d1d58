/-! the component's whole world -/
abbrev AB : Type := Sta × (Nat × (Nat → Sta)) × (Nat → Bool × Nat × Rws) × (Nat × (Nat → Nat))
abbrev sE (G : Gl) (ad : Nat → Nat) : va_E := .inl (G.2 2, 2, .inr (.inr (.inr (.inr (fun j => some (ad (135 + 16 * j)))))))
abbrev tkE (G : Gl) (t : Nat → Bool) : va_E := .inl (G.2 1, 2, .inl (fun j => if t j then nI 1 else nI 0))
abbrev tO (a n : Nat) : va_E := .inr (4, [.ref a, .int (nI n)])
def snpW (G : Gl) (F : Nat → va_E) (ad : Nat → Nat) (sn : Nat → Bool × Nat × Rws) : Prop := F (ad 3) = sE G ad ∧ F (ad 4) = tkE G (fun j => (sn j).1) ∧ ∀ j, j < 2 → ∃ (cu : Nat) (r : Rws), shp G F ad (134 + 16 * j) cu r ∧ ((sn j).1 = true → cu = (sn j).2.1 ∧ r = (sn j).2.2)
def txtW (G : Gl) (F : Nat → va_E) (ad : Nat → Nat) (t : Nat × (Nat → Nat)) : Prop := F (ad 5) = tO (ad 6) t.1 ∧ ∃ cf : Nat → Int32, F (ad 6) = .inl (G.2 0, 60, .inl cf) ∧ (∀ i, i < t.1 → cf i = nI (t.2 i)) ∧ t.1 ≤ 60
theorem snpW.keep {G : Gl} {F F1 : Nat → va_E} {ad : Nat → Nat} {sn : Nat → Bool × Nat × Rws} (h : snpW G F ad sn) (k : ∀ i, (i = 3 ∨ i = 4 ∨ (135 ≤ i ∧ i < 150) ∨ (151 ≤ i ∧ i < 166)) → F1 (ad i) = F (ad i)) : snpW G F1 ad sn :=
  ⟨(k 3 (by omega)).trans h.1, (k 4 (by omega)).trans h.2.1, fun j hj => by
    obtain ⟨cu, r, h1, h2⟩ := h.2.2 j hj
    exact ⟨cu, r, h1.keep (fun i hi => k i (by omega)), h2⟩⟩
theorem txtW.keep {G : Gl} {F F1 : Nat → va_E} {ad : Nat → Nat} {t : Nat × (Nat → Nat)} (h : txtW G F ad t) (k : ∀ i, (i = 5 ∨ i = 6) → F1 (ad i) = F (ad i)) : txtW G F1 ad t := by
  obtain ⟨h1, cf, h2, h3⟩ := h
  exact ⟨(k 5 (by omega)).trans h1, cf, (k 6 (by omega)).trans h2, h3⟩
def XW (G : Gl) (F : Nat → va_E) (ad : Nat → Nat) (A : AB) : Prop := F (ad 0) = xO ad ∧ sta G F ad 22 A.1 ∧ hisW G F ad A.2.1 ∧ snpW G F ad A.2.2.1 ∧ txtW G F ad A.2.2.2 ∧ rkW G F ad ∧ (∃ u, F (ad 134) = rw7 G u) ∧ (∃ u, F (ad 150) = rw7 G u)
theorem XW.keep {G : Gl} {F F1 : Nat → va_E} {ad : Nat → Nat} {A : AB} (h : XW G F ad A) (k : ∀ i, i < 166 → F1 (ad i) = F (ad i)) : XW G F1 ad A := by
  obtain ⟨h0, h1, h2, h3, h4, h5, ⟨u, h6⟩, ⟨v, h7⟩⟩ := h
  exact ⟨(k 0 (by omega)).trans h0, h1.keep (fun i hi => k i (by omega)), h2.keep (fun i hi => k i (by omega)), h3.keep (fun i hi => k i (by omega)), h4.keep (fun i hi => k i (by omega)), h5.keep (fun i hi => k i (by omega)), ⟨u, (k 134 (by omega)).trans h6⟩, ⟨v, (k 150 (by omega)).trans h7⟩⟩
/-- a state that can come up: what it keeps -/
def okR (r : Rws) : Prop := ∀ i, i < 6 → r i 0 = 0 ∧ r i 1 = 0
def okS (st : Sta) : Prop := 2 ≤ st.1 ∧ st.1 ≤ 6 ∧ st.2.1 ≤ 100000 ∧ okR st.2.2.2.2.2
def okA (A : AB) : Prop := okS A.1 ∧ (A.2.1.1 ≤ 6 ∧ ∀ i, i < A.2.1.1 → okS (A.2.1.2 i)) ∧ (∀ j, j < 2 → (A.2.2.1 j).1 = true → 2 ≤ (A.2.2.1 j).2.1 ∧ (A.2.2.1 j).2.1 ≤ 6 ∧ okR (A.2.2.1 j).2.2) ∧ A.2.2.2.1 ≤ 60 ∧ ∀ i, i < A.2.2.2.1 → 33 ≤ A.2.2.2.2 i ∧ A.2.2.2.2 i ≤ 126
def aSave (A : AB) (st : Sta) : AB := (st, saveH A.2.1 A.1, A.2.2)

abbrev rm_X5_orderAlone : Room := { frames := 5, cells := 0, slots := 0, locals := 140 }
set_option maxHeartbeats 4000000 in
set_option maxRecDepth 100000 in
theorem c_X5_orderAlone_98 (l : Launch) (G : Gl) (L : List Nat) (F : Nat → va_E) (ad : Nat → Nat) (hL : ∀ i, i < 166 → ad i ∈ L) (hin : ∀ i j, i < 166 → j < 166 → i ≠ j → ad i ≠ ad j) (A : AB) (f9 g9 t9 : Nat) (hf9 : f9 < 6) (hg9 : g9 < 6) (ht9 : t9 < 6) (hm : 2 * A.1.1 ≤ A.1.2.1) (hX : XW G F ad A) (hA : okA A) : CI l yX5_orderAlone cX5_orderAlone 5 (some .int) rm_X5_orderAlone G L F [.ref (ad 0), .int (nI (98)), .int (nI (f9)), .int (nI (g9)), .int (nI (t9))] (fun r F1 => r = lowR (ordR 98 f9 g9 A.1.1 A.1.2.2.2.2.2) ∧ XW G F1 ad (aSave A (ordS 98 f9 g9 t9 A.1)) ∧ ∀ q, (∀ i, (i < 166) → q ≠ ad i) → F1 q = F q) := by
  obtain ⟨fx, hn, hh, hsn, htx, hrk, ⟨u9, h134⟩, ⟨v9, h150⟩⟩ := hX
  obtain ⟨⟨hc2, hc, hpu, hok⟩, ⟨hh6, hho⟩, hso, hl60, hco⟩ := id hA
  refine CG_of (by decide) (Nat.le_of_ble_eq_true rfl) rfl ?_
  intro p e s m args below meth c Q C0 hr hlk hnm hQ hw ls hl
  have hx := C0.x
  have hb := C0.b
  refine lv_iload_n hx hb dX5_orderAlone_0 rfl (lv_at hl 2 rfl) ?_
  refine q_callv hw (q_runS (As := [.int (nI (f9))]) (c_X5_needSlot l G L F f9 (by omega)) C0 hw sw_X5_78 rfl hl.1 rfl (Nat.le_of_ble_eq_true rfl) dX5_orderAlone_1 ⟨by decide, by decide⟩ ⟨by decide, by decide⟩) rfl rfl (fun F_1407 H locs hw hp_1408 => ?_)
  refine lv_iload_n hx hb dX5_orderAlone_4 rfl (lv_at hl 3 rfl) ?_
  refine q_callv hw (q_runS (As := [.int (nI (g9))]) (c_X5_needSlot l G L F_1407 g9 (by omega)) C0 hw sw_X5_78 rfl hl.1 rfl (Nat.le_of_ble_eq_true rfl) dX5_orderAlone_5 ⟨by decide, by decide⟩ ⟨by decide, by decide⟩) rfl rfl (fun F_1409 H locs hw hp_1410 => ?_)
  refine lv_iload hx hb dX5_orderAlone_8 (lv_at hl 4 rfl) ?_
  refine q_callv hw (q_runS (As := [.int (nI (t9))]) (c_X5_needSlot l G L F_1409 t9 (by omega)) C0 hw sw_X5_78 rfl hl.1 rfl (Nat.le_of_ble_eq_true rfl) dX5_orderAlone_10 ⟨by decide, by decide⟩ ⟨by decide, by decide⟩) rfl rfl (fun F_1411 H locs hw hp_1412 => ?_)
  refine lv_aload_n hx hb dX5_orderAlone_13 rfl (lv_at hl 0 rfl) ?_
  refine lv_iload_n hx hb dX5_orderAlone_14 rfl (lv_at hl 1 rfl) ?_
  refine q_calli hw (q_runS (As := [.int (nI (98))]) (c_X5_unitsOf_98 l G L F_1411 ) C0 hw sw_X5_225 rfl hl.1 rfl (Nat.le_of_ble_eq_true rfl) dX5_orderAlone_15 ⟨by decide, by decide⟩ ⟨by decide, by decide⟩) rfl rfl (fun r_1415 F_1413 H locs hw hp_1414 => ?_)
  obtain ⟨he_1416, o_1417⟩ := hp_1414
  subst he_1416
  have f_1418 : F_1407 (ad 0) = xO ad := (hp_1408 (ad 0) ).trans fx
  have f_1419 : F_1409 (ad 0) = xO ad := (hp_1410 (ad 0) ).trans f_1418
  have f_1420 : F_1411 (ad 0) = xO ad := (hp_1412 (ad 0) ).trans f_1419
  have f_1421 : F_1413 (ad 0) = xO ad := (o_1417 (ad 0) ).trans f_1420
  refine q_callv hw (q_runV (As := [.int (nI (2))]) (c_X5_needMoney l G L F_1413 ad hL hin 2 A.1 f_1421 (hn.keep (fun i0 hi => ((o_1417 (ad (i0)) )).trans (((hp_1412 (ad (i0)) )).trans (((hp_1410 (ad (i0)) )).trans ((hp_1408 (ad (i0)) )))))) (by omega) (by omega)) C0 hw vw_X5_111 ((hL 0 (by omega))) f_1421 rfl rfl rfl hl.1 rfl (Nat.le_of_ble_eq_true rfl) dX5_orderAlone_18 ⟨by decide, by decide⟩ ⟨by decide, by decide⟩) rfl rfl (fun F_1422 H locs hw hp_1423 => ?_)
  refine lv_aload_n hx hb dX5_orderAlone_21 rfl (lv_at hl 0 rfl) ?_
  have f_1424 : F_1422 (ad 0) = xO ad := (hp_1423 (ad 0) ).trans f_1421
  refine q_get C0 hw ((hL 0 (by omega))) f_1424 fw_X5_19 rfl dX5_orderAlone_22 ?_
  refine lv_aload_n hx hb dX5_orderAlone_25 rfl (lv_at hl 0 rfl) ?_
  refine q_get C0 hw ((hL 0 (by omega))) f_1424 fw_X5_12 rfl dX5_orderAlone_26 ?_
  obtain ⟨_, _, hf_1425, _⟩ := id (hh.keep (fun i0 hi => ((hp_1423 (ad (i0)) )).trans (((o_1417 (ad (i0)) )).trans (((hp_1412 (ad (i0)) )).trans (((hp_1410 (ad (i0)) )).trans ((hp_1408 (ad (i0)) )))))))
  refine q_callv hw (q_runV (As := [.ref (ad 22)]) (c_X0_save l G L F_1422 ad hL hin A.2.1 A.1 (hh.keep (fun i0 hi => ((hp_1423 (ad (i0)) )).trans (((o_1417 (ad (i0)) )).trans (((hp_1412 (ad (i0)) )).trans (((hp_1410 (ad (i0)) )).trans ((hp_1408 (ad (i0)) ))))))) (hn.keep (fun i0 hi => ((hp_1423 (ad (i0)) )).trans (((o_1417 (ad (i0)) )).trans (((hp_1412 (ad (i0)) )).trans (((hp_1410 (ad (i0)) )).trans ((hp_1408 (ad (i0)) )))))))) C0 hw vw_X5_62 ((hL 1 (by omega))) hf_1425 rfl rfl rfl hl.1 rfl (Nat.le_of_ble_eq_true rfl) dX5_orderAlone_29 ⟨by decide, by decide⟩ ⟨by decide, by decide⟩) rfl rfl (fun F_1426 H locs hw hp_1427 => ?_)
  refine lv_aload_n hx hb dX5_orderAlone_32 rfl (lv_at hl 0 rfl) ?_
  refine lv_iload_n hx hb dX5_orderAlone_33 rfl (lv_at hl 1 rfl) ?_
  refine lv_iload_n hx hb dX5_orderAlone_34 rfl (lv_at hl 2 rfl) ?_
  refine lv_iload_n hx hb dX5_orderAlone_35 rfl (lv_at hl 3 rfl) ?_
  refine lv_iload hx hb dX5_orderAlone_36 (lv_at hl 4 rfl) ?_
  have f_1428 : F_1426 (ad 0) = xO ad := (hp_1427.2 (ad 0) (fun i hS => hin 0 i (by omega) (by omega) (by omega))).trans f_1424
  have f_1429 : F_1407 (ad 134) = rw7 G u9 := (hp_1408 (ad 134) ).trans h134
  have f_1430 : F_1409 (ad 134) = rw7 G u9 := (hp_1410 (ad 134) ).trans f_1429
  have f_1431 : F_1411 (ad 134) = rw7 G u9 := (hp_1412 (ad 134) ).trans f_1430
  have f_1432 : F_1413 (ad 134) = rw7 G u9 := (o_1417 (ad 134) ).trans f_1431
  have f_1433 : F_1422 (ad 134) = rw7 G u9 := (hp_1423 (ad 134) ).trans f_1432
  have f_1434 : F_1426 (ad 134) = rw7 G u9 := (hp_1427.2 (ad 134) (fun i hS => hin 134 i (by omega) (by omega) (by omega))).trans f_1433
  refine q_calli hw (q_runV (As := [.int (nI (98)), .int (nI (f9)), .int (nI (g9)), .int (nI (t9))]) (c_X5_carryOut_98 l G L F_1426 ad hL hin f9 g9 t9 A.1 _ f_1428 (hn.keep (fun i0 hi => ((hp_1427.2 (ad (i0)) (fun i hS => hin (i0) i (by omega) (by omega) (by omega)))).trans (((hp_1423 (ad (i0)) )).trans (((o_1417 (ad (i0)) )).trans (((hp_1412 (ad (i0)) )).trans (((hp_1410 (ad (i0)) )).trans ((hp_1408 (ad (i0)) )))))))) (hrk.keep (fun i0 hi => ((hp_1427.2 (ad (i0)) (fun i hS => hin (i0) i (by omega) (by omega) (by omega)))).trans (((hp_1423 (ad (i0)) )).trans (((o_1417 (ad (i0)) )).trans (((hp_1412 (ad (i0)) )).trans (((hp_1410 (ad (i0)) )).trans ((hp_1408 (ad (i0)) )))))))) f_1434 (by omega) (by omega) (by omega) (by omega) (by omega) (by omega) (by omega)) C0 hw vw_X5_299 ((hL 0 (by omega))) f_1428 rfl rfl rfl hl.1 rfl (Nat.le_of_ble_eq_true rfl) dX5_orderAlone_38 ⟨by decide, by decide⟩ ⟨by decide, by decide⟩) rfl rfl (fun r_1437 F_1435 H locs hw hp_1436 => ?_)
  obtain ⟨h_1438, h_1439, h_1440, ⟨u_1443, h_1441⟩, h_1442⟩ := hp_1436
  subst h_1438
  have f_1444 : F_1435 (ad 0) = xO ad := (h_1442 (ad 0) (fun i hS => hin 0 i (by omega) (by omega) (by omega))).trans f_1428
  have f_1445 : F_1407 (ad 150) = rw7 G v9 := (hp_1408 (ad 150) ).trans h150
  have f_1446 : F_1409 (ad 150) = rw7 G v9 := (hp_1410 (ad 150) ).trans f_1445
  have f_1447 : F_1411 (ad 150) = rw7 G v9 := (hp_1412 (ad 150) ).trans f_1446
  have f_1448 : F_1413 (ad 150) = rw7 G v9 := (o_1417 (ad 150) ).trans f_1447
  have f_1449 : F_1422 (ad 150) = rw7 G v9 := (hp_1423 (ad 150) ).trans f_1448
  have f_1450 : F_1426 (ad 150) = rw7 G v9 := (hp_1427.2 (ad 150) (fun i hS => hin 150 i (by omega) (by omega) (by omega))).trans f_1449
  have f_1451 : F_1435 (ad 150) = rw7 G v9 := (h_1442 (ad 150) (fun i hS => hin 150 i (by omega) (by omega) (by omega))).trans f_1450
  exact r_i C0 hr hlk hw (v := (lowR (ordR 98 f9 g9 A.1.1 A.1.2.2.2.2.2))) rfl ⟨rfl, ⟨f_1444, h_1439, (hp_1427.1.keep (fun i0 hi => (h_1442 (ad (i0)) (fun i hS => hin (i0) i (by omega) (by omega) (by omega))))), (hsn.keep (fun i0 hi => ((h_1442 (ad (i0)) (fun i hS => hin (i0) i (by omega) (by omega) (by omega)))).trans (((hp_1427.2 (ad (i0)) (fun i hS => hin (i0) i (by omega) (by omega) (by omega)))).trans (((hp_1423 (ad (i0)) )).trans (((o_1417 (ad (i0)) )).trans (((hp_1412 (ad (i0)) )).trans (((hp_1410 (ad (i0)) )).trans ((hp_1408 (ad (i0)) ))))))))), (htx.keep (fun i0 hi => ((h_1442 (ad (i0)) (fun i hS => hin (i0) i (by omega) (by omega) (by omega)))).trans (((hp_1427.2 (ad (i0)) (fun i hS => hin (i0) i (by omega) (by omega) (by omega)))).trans (((hp_1423 (ad (i0)) )).trans (((o_1417 (ad (i0)) )).trans (((hp_1412 (ad (i0)) )).trans (((hp_1410 (ad (i0)) )).trans ((hp_1408 (ad (i0)) ))))))))), h_1440, ⟨_, h_1441⟩, ⟨_, f_1451⟩⟩, (fun q hq => ((h_1442 q (fun i hS => hq i (by omega))).trans ((hp_1427.2 q (fun i hS => hq i (by omega))).trans ((hp_1423 q ).trans ((o_1417 q ).trans ((hp_1412 q ).trans ((hp_1410 q ).trans (hp_1408 q ))))))))⟩ (Nat.le_refl _) (Nat.le_refl _) dX5_orderAlone_41 hQ
set_option maxHeartbeats 4000000 in
set_option maxRecDepth 100000 in
theorem c_X5_orderAlone_115 (l : Launch) (G : Gl) (L : List Nat) (F : Nat → va_E) (ad : Nat → Nat) (hL : ∀ i, i < 166 → ad i ∈ L) (hin : ∀ i j, i < 166 → j < 166 → i ≠ j → ad i ≠ ad j) (A : AB) (f9 g9 t9 : Nat) (hf9 : f9 < 6) (hg9 : g9 < 6) (ht9 : t9 < 6) (hm : 1 * A.1.1 ≤ A.1.2.1) (hX : XW G F ad A) (hA : okA A) : CI l yX5_orderAlone cX5_orderAlone 5 (some .int) rm_X5_orderAlone G L F [.ref (ad 0), .int (nI (115)), .int (nI (f9)), .int (nI (g9)), .int (nI (t9))] (fun r F1 => r = lowR (ordR 115 f9 g9 A.1.1 A.1.2.2.2.2.2) ∧ XW G F1 ad (aSave A (ordS 115 f9 g9 t9 A.1)) ∧ ∀ q, (∀ i, (i < 166) → q ≠ ad i) → F1 q = F q) := by
  obtain ⟨fx, hn, hh, hsn, htx, hrk, ⟨u9, h134⟩, ⟨v9, h150⟩⟩ := hX
  obtain ⟨⟨hc2, hc, hpu, hok⟩, ⟨hh6, hho⟩, hso, hl60, hco⟩ := id hA
  refine CG_of (by decide) (Nat.le_of_ble_eq_true rfl) rfl ?_
  intro p e s m args below meth c Q C0 hr hlk hnm hQ hw ls hl
  have hx := C0.x
  have hb := C0.b
  refine lv_iload_n hx hb dX5_orderAlone_0 rfl (lv_at hl 2 rfl) ?_
  refine q_callv hw (q_runS (As := [.int (nI (f9))]) (c_X5_needSlot l G L F f9 (by omega)) C0 hw sw_X5_78 rfl hl.1 rfl (Nat.le_of_ble_eq_true rfl) dX5_orderAlone_1 ⟨by decide, by decide⟩ ⟨by decide, by decide⟩) rfl rfl (fun F_1452 H locs hw hp_1453 => ?_)
  refine lv_iload_n hx hb dX5_orderAlone_4 rfl (lv_at hl 3 rfl) ?_
  refine q_callv hw (q_runS (As := [.int (nI (g9))]) (c_X5_needSlot l G L F_1452 g9 (by omega)) C0 hw sw_X5_78 rfl hl.1 rfl (Nat.le_of_ble_eq_true rfl) dX5_orderAlone_5 ⟨by decide, by decide⟩ ⟨by decide, by decide⟩) rfl rfl (fun F_1454 H locs hw hp_1455 => ?_)
  refine lv_iload hx hb dX5_orderAlone_8 (lv_at hl 4 rfl) ?_
  refine q_callv hw (q_runS (As := [.int (nI (t9))]) (c_X5_needSlot l G L F_1454 t9 (by omega)) C0 hw sw_X5_78 rfl hl.1 rfl (Nat.le_of_ble_eq_true rfl) dX5_orderAlone_10 ⟨by decide, by decide⟩ ⟨by decide, by decide⟩) rfl rfl (fun F_1456 H locs hw hp_1457 => ?_)
  refine lv_aload_n hx hb dX5_orderAlone_13 rfl (lv_at hl 0 rfl) ?_
  refine lv_iload_n hx hb dX5_orderAlone_14 rfl (lv_at hl 1 rfl) ?_
  refine q_calli hw (q_runS (As := [.int (nI (115))]) (c_X5_unitsOf_115 l G L F_1456 ) C0 hw sw_X5_225 rfl hl.1 rfl (Nat.le_of_ble_eq_true rfl) dX5_orderAlone_15 ⟨by decide, by decide⟩ ⟨by decide, by decide⟩) rfl rfl (fun r_1460 F_1458 H locs hw hp_1459 => ?_)
  obtain ⟨he_1461, o_1462⟩ := hp_1459
  subst he_1461
  have f_1463 : F_1452 (ad 0) = xO ad := (hp_1453 (ad 0) ).trans fx
  have f_1464 : F_1454 (ad 0) = xO ad := (hp_1455 (ad 0) ).trans f_1463
  have f_1465 : F_1456 (ad 0) = xO ad := (hp_1457 (ad 0) ).trans f_1464
  have f_1466 : F_1458 (ad 0) = xO ad := (o_1462 (ad 0) ).trans f_1465
  refine q_callv hw (q_runV (As := [.int (nI (1))]) (c_X5_needMoney l G L F_1458 ad hL hin 1 A.1 f_1466 (hn.keep (fun i0 hi => ((o_1462 (ad (i0)) )).trans (((hp_1457 (ad (i0)) )).trans (((hp_1455 (ad (i0)) )).trans ((hp_1453 (ad (i0)) )))))) (by omega) (by omega)) C0 hw vw_X5_111 ((hL 0 (by omega))) f_1466 rfl rfl rfl hl.1 rfl (Nat.le_of_ble_eq_true rfl) dX5_orderAlone_18 ⟨by decide, by decide⟩ ⟨by decide, by decide⟩) rfl rfl (fun F_1467 H locs hw hp_1468 => ?_)
  refine lv_aload_n hx hb dX5_orderAlone_21 rfl (lv_at hl 0 rfl) ?_
  have f_1469 : F_1467 (ad 0) = xO ad := (hp_1468 (ad 0) ).trans f_1466
  refine q_get C0 hw ((hL 0 (by omega))) f_1469 fw_X5_19 rfl dX5_orderAlone_22 ?_
  refine lv_aload_n hx hb dX5_orderAlone_25 rfl (lv_at hl 0 rfl) ?_
  refine q_get C0 hw ((hL 0 (by omega))) f_1469 fw_X5_12 rfl dX5_orderAlone_26 ?_
  obtain ⟨_, _, hf_1470, _⟩ := id (hh.keep (fun i0 hi => ((hp_1468 (ad (i0)) )).trans (((o_1462 (ad (i0)) )).trans (((hp_1457 (ad (i0)) )).trans (((hp_1455 (ad (i0)) )).trans ((hp_1453 (ad (i0)) )))))))
  refine q_callv hw (q_runV (As := [.ref (ad 22)]) (c_X0_save l G L F_1467 ad hL hin A.2.1 A.1 (hh.keep (fun i0 hi => ((hp_1468 (ad (i0)) )).trans (((o_1462 (ad (i0)) )).trans (((hp_1457 (ad (i0)) )).trans (((hp_1455 (ad (i0)) )).trans ((hp_1453 (ad (i0)) ))))))) (hn.keep (fun i0 hi => ((hp_1468 (ad (i0)) )).trans (((o_1462 (ad (i0)) )).trans (((hp_1457 (ad (i0)) )).trans (((hp_1455 (ad (i0)) )).trans ((hp_1453 (ad (i0)) )))))))) C0 hw vw_X5_62 ((hL 1 (by omega))) hf_1470 rfl rfl rfl hl.1 rfl (Nat.le_of_ble_eq_true rfl) dX5_orderAlone_29 ⟨by decide, by decide⟩ ⟨by decide, by decide⟩) rfl rfl (fun F_1471 H locs hw hp_1472 => ?_)
  refine lv_aload_n hx hb dX5_orderAlone_32 rfl (lv_at hl 0 rfl) ?_
  refine lv_iload_n hx hb dX5_orderAlone_33 rfl (lv_at hl 1 rfl) ?_
  refine lv_iload_n hx hb dX5_orderAlone_34 rfl (lv_at hl 2 rfl) ?_
  refine lv_iload_n hx hb dX5_orderAlone_35 rfl (lv_at hl 3 rfl) ?_
  refine lv_iload hx hb dX5_orderAlone_36 (lv_at hl 4 rfl) ?_
  have f_1473 : F_1471 (ad 0) = xO ad := (hp_1472.2 (ad 0) (fun i hS => hin 0 i (by omega) (by omega) (by omega))).trans f_1469
  have f_1474 : F_1452 (ad 134) = rw7 G u9 := (hp_1453 (ad 134) ).trans h134
  have f_1475 : F_1454 (ad 134) = rw7 G u9 := (hp_1455 (ad 134) ).trans f_1474
  have f_1476 : F_1456 (ad 134) = rw7 G u9 := (hp_1457 (ad 134) ).trans f_1475
  have f_1477 : F_1458 (ad 134) = rw7 G u9 := (o_1462 (ad 134) ).trans f_1476
  have f_1478 : F_1467 (ad 134) = rw7 G u9 := (hp_1468 (ad 134) ).trans f_1477
  have f_1479 : F_1471 (ad 134) = rw7 G u9 := (hp_1472.2 (ad 134) (fun i hS => hin 134 i (by omega) (by omega) (by omega))).trans f_1478
  refine q_calli hw (q_runV (As := [.int (nI (115)), .int (nI (f9)), .int (nI (g9)), .int (nI (t9))]) (c_X5_carryOut_115 l G L F_1471 ad hL hin f9 g9 t9 A.1 _ f_1473 (hn.keep (fun i0 hi => ((hp_1472.2 (ad (i0)) (fun i hS => hin (i0) i (by omega) (by omega) (by omega)))).trans (((hp_1468 (ad (i0)) )).trans (((o_1462 (ad (i0)) )).trans (((hp_1457 (ad (i0)) )).trans (((hp_1455 (ad (i0)) )).trans ((hp_1453 (ad (i0)) )))))))) (hrk.keep (fun i0 hi => ((hp_1472.2 (ad (i0)) (fun i hS => hin (i0) i (by omega) (by omega) (by omega)))).trans (((hp_1468 (ad (i0)) )).trans (((o_1462 (ad (i0)) )).trans (((hp_1457 (ad (i0)) )).trans (((hp_1455 (ad (i0)) )).trans ((hp_1453 (ad (i0)) )))))))) f_1479 (by omega) (by omega) (by omega) (by omega) (by omega) (by omega) (by omega)) C0 hw vw_X5_299 ((hL 0 (by omega))) f_1473 rfl rfl rfl hl.1 rfl (Nat.le_of_ble_eq_true rfl) dX5_orderAlone_38 ⟨by decide, by decide⟩ ⟨by decide, by decide⟩) rfl rfl (fun r_1482 F_1480 H locs hw hp_1481 => ?_)
  obtain ⟨h_1483, h_1484, h_1485, ⟨u_1488, h_1486⟩, h_1487⟩ := hp_1481
  subst h_1483
  have f_1489 : F_1480 (ad 0) = xO ad := (h_1487 (ad 0) (fun i hS => hin 0 i (by omega) (by omega) (by omega))).trans f_1473
  have f_1490 : F_1452 (ad 150) = rw7 G v9 := (hp_1453 (ad 150) ).trans h150
  have f_1491 : F_1454 (ad 150) = rw7 G v9 := (hp_1455 (ad 150) ).trans f_1490
  have f_1492 : F_1456 (ad 150) = rw7 G v9 := (hp_1457 (ad 150) ).trans f_1491
  have f_1493 : F_1458 (ad 150) = rw7 G v9 := (o_1462 (ad 150) ).trans f_1492
  have f_1494 : F_1467 (ad 150) = rw7 G v9 := (hp_1468 (ad 150) ).trans f_1493
  have f_1495 : F_1471 (ad 150) = rw7 G v9 := (hp_1472.2 (ad 150) (fun i hS => hin 150 i (by omega) (by omega) (by omega))).trans f_1494
  have f_1496 : F_1480 (ad 150) = rw7 G v9 := (h_1487 (ad 150) (fun i hS => hin 150 i (by omega) (by omega) (by omega))).trans f_1495
  exact r_i C0 hr hlk hw (v := (lowR (ordR 115 f9 g9 A.1.1 A.1.2.2.2.2.2))) rfl ⟨rfl, ⟨f_1489, h_1484, (hp_1472.1.keep (fun i0 hi => (h_1487 (ad (i0)) (fun i hS => hin (i0) i (by omega) (by omega) (by omega))))), (hsn.keep (fun i0 hi => ((h_1487 (ad (i0)) (fun i hS => hin (i0) i (by omega) (by omega) (by omega)))).trans (((hp_1472.2 (ad (i0)) (fun i hS => hin (i0) i (by omega) (by omega) (by omega)))).trans (((hp_1468 (ad (i0)) )).trans (((o_1462 (ad (i0)) )).trans (((hp_1457 (ad (i0)) )).trans (((hp_1455 (ad (i0)) )).trans ((hp_1453 (ad (i0)) ))))))))), (htx.keep (fun i0 hi => ((h_1487 (ad (i0)) (fun i hS => hin (i0) i (by omega) (by omega) (by omega)))).trans (((hp_1472.2 (ad (i0)) (fun i hS => hin (i0) i (by omega) (by omega) (by omega)))).trans (((hp_1468 (ad (i0)) )).trans (((o_1462 (ad (i0)) )).trans (((hp_1457 (ad (i0)) )).trans (((hp_1455 (ad (i0)) )).trans ((hp_1453 (ad (i0)) ))))))))), h_1485, ⟨_, h_1486⟩, ⟨_, f_1496⟩⟩, (fun q hq => ((h_1487 q (fun i hS => hq i (by omega))).trans ((hp_1472.2 q (fun i hS => hq i (by omega))).trans ((hp_1468 q ).trans ((o_1462 q ).trans ((hp_1457 q ).trans ((hp_1455 q ).trans (hp_1453 q ))))))))⟩ (Nat.le_refl _) (Nat.le_refl _) dX5_orderAlone_41 hQ
set_option maxHeartbeats 4000000 in
set_option maxRecDepth 100000 in
theorem c_X5_orderAlone_119 (l : Launch) (G : Gl) (L : List Nat) (F : Nat → va_E) (ad : Nat → Nat) (hL : ∀ i, i < 166 → ad i ∈ L) (hin : ∀ i j, i < 166 → j < 166 → i ≠ j → ad i ≠ ad j) (A : AB) (f9 g9 t9 : Nat) (hf9 : f9 < 6) (hg9 : g9 < 6) (ht9 : t9 < 6) (hm : 20 * A.1.1 ≤ A.1.2.1) (hX : XW G F ad A) (hA : okA A) : CI l yX5_orderAlone cX5_orderAlone 5 (some .int) rm_X5_orderAlone G L F [.ref (ad 0), .int (nI (119)), .int (nI (f9)), .int (nI (g9)), .int (nI (t9))] (fun r F1 => r = lowR (ordR 119 f9 g9 A.1.1 A.1.2.2.2.2.2) ∧ XW G F1 ad (aSave A (ordS 119 f9 g9 t9 A.1)) ∧ ∀ q, (∀ i, (i < 166) → q ≠ ad i) → F1 q = F q) := by
  obtain ⟨fx, hn, hh, hsn, htx, hrk, ⟨u9, h134⟩, ⟨v9, h150⟩⟩ := hX
  obtain ⟨⟨hc2, hc, hpu, hok⟩, ⟨hh6, hho⟩, hso, hl60, hco⟩ := id hA
  refine CG_of (by decide) (Nat.le_of_ble_eq_true rfl) rfl ?_
  intro p e s m args below meth c Q C0 hr hlk hnm hQ hw ls hl
  have hx := C0.x
  have hb := C0.b
  refine lv_iload_n hx hb dX5_orderAlone_0 rfl (lv_at hl 2 rfl) ?_
  refine q_callv hw (q_runS (As := [.int (nI (f9))]) (c_X5_needSlot l G L F f9 (by omega)) C0 hw sw_X5_78 rfl hl.1 rfl (Nat.le_of_ble_eq_true rfl) dX5_orderAlone_1 ⟨by decide, by decide⟩ ⟨by decide, by decide⟩) rfl rfl (fun F_1497 H locs hw hp_1498 => ?_)
  refine lv_iload_n hx hb dX5_orderAlone_4 rfl (lv_at hl 3 rfl) ?_
  refine q_callv hw (q_runS (As := [.int (nI (g9))]) (c_X5_needSlot l G L F_1497 g9 (by omega)) C0 hw sw_X5_78 rfl hl.1 rfl (Nat.le_of_ble_eq_true rfl) dX5_orderAlone_5 ⟨by decide, by decide⟩ ⟨by decide, by decide⟩) rfl rfl (fun F_1499 H locs hw hp_1500 => ?_)
  refine lv_iload hx hb dX5_orderAlone_8 (lv_at hl 4 rfl) ?_
  refine q_callv hw (q_runS (As := [.int (nI (t9))]) (c_X5_needSlot l G L F_1499 t9 (by omega)) C0 hw sw_X5_78 rfl hl.1 rfl (Nat.le_of_ble_eq_true rfl) dX5_orderAlone_10 ⟨by decide, by decide⟩ ⟨by decide, by decide⟩) rfl rfl (fun F_1501 H locs hw hp_1502 => ?_)
  refine lv_aload_n hx hb dX5_orderAlone_13 rfl (lv_at hl 0 rfl) ?_
  refine lv_iload_n hx hb dX5_orderAlone_14 rfl (lv_at hl 1 rfl) ?_
  refine q_calli hw (q_runS (As := [.int (nI (119))]) (c_X5_unitsOf_119 l G L F_1501 ) C0 hw sw_X5_225 rfl hl.1 rfl (Nat.le_of_ble_eq_true rfl) dX5_orderAlone_15 ⟨by decide, by decide⟩ ⟨by decide, by decide⟩) rfl rfl (fun r_1505 F_1503 H locs hw hp_1504 => ?_)
  obtain ⟨he_1506, o_1507⟩ := hp_1504
  subst he_1506
  have f_1508 : F_1497 (ad 0) = xO ad := (hp_1498 (ad 0) ).trans fx
  have f_1509 : F_1499 (ad 0) = xO ad := (hp_1500 (ad 0) ).trans f_1508
  have f_1510 : F_1501 (ad 0) = xO ad := (hp_1502 (ad 0) ).trans f_1509
  have f_1511 : F_1503 (ad 0) = xO ad := (o_1507 (ad 0) ).trans f_1510
  refine q_callv hw (q_runV (As := [.int (nI (20))]) (c_X5_needMoney l G L F_1503 ad hL hin 20 A.1 f_1511 (hn.keep (fun i0 hi => ((o_1507 (ad (i0)) )).trans (((hp_1502 (ad (i0)) )).trans (((hp_1500 (ad (i0)) )).trans ((hp_1498 (ad (i0)) )))))) (by omega) (by omega)) C0 hw vw_X5_111 ((hL 0 (by omega))) f_1511 rfl rfl rfl hl.1 rfl (Nat.le_of_ble_eq_true rfl) dX5_orderAlone_18 ⟨by decide, by decide⟩ ⟨by decide, by decide⟩) rfl rfl (fun F_1512 H locs hw hp_1513 => ?_)
  refine lv_aload_n hx hb dX5_orderAlone_21 rfl (lv_at hl 0 rfl) ?_
  have f_1514 : F_1512 (ad 0) = xO ad := (hp_1513 (ad 0) ).trans f_1511
  refine q_get C0 hw ((hL 0 (by omega))) f_1514 fw_X5_19 rfl dX5_orderAlone_22 ?_
  refine lv_aload_n hx hb dX5_orderAlone_25 rfl (lv_at hl 0 rfl) ?_
  refine q_get C0 hw ((hL 0 (by omega))) f_1514 fw_X5_12 rfl dX5_orderAlone_26 ?_
  obtain ⟨_, _, hf_1515, _⟩ := id (hh.keep (fun i0 hi => ((hp_1513 (ad (i0)) )).trans (((o_1507 (ad (i0)) )).trans (((hp_1502 (ad (i0)) )).trans (((hp_1500 (ad (i0)) )).trans ((hp_1498 (ad (i0)) )))))))
  refine q_callv hw (q_runV (As := [.ref (ad 22)]) (c_X0_save l G L F_1512 ad hL hin A.2.1 A.1 (hh.keep (fun i0 hi => ((hp_1513 (ad (i0)) )).trans (((o_1507 (ad (i0)) )).trans (((hp_1502 (ad (i0)) )).trans (((hp_1500 (ad (i0)) )).trans ((hp_1498 (ad (i0)) ))))))) (hn.keep (fun i0 hi => ((hp_1513 (ad (i0)) )).trans (((o_1507 (ad (i0)) )).trans (((hp_1502 (ad (i0)) )).trans (((hp_1500 (ad (i0)) )).trans ((hp_1498 (ad (i0)) )))))))) C0 hw vw_X5_62 ((hL 1 (by omega))) hf_1515 rfl rfl rfl hl.1 rfl (Nat.le_of_ble_eq_true rfl) dX5_orderAlone_29 ⟨by decide, by decide⟩ ⟨by decide, by decide⟩) rfl rfl (fun F_1516 H locs hw hp_1517 => ?_)
  refine lv_aload_n hx hb dX5_orderAlone_32 rfl (lv_at hl 0 rfl) ?_
  refine lv_iload_n hx hb dX5_orderAlone_33 rfl (lv_at hl 1 rfl) ?_
  refine lv_iload_n hx hb dX5_orderAlone_34 rfl (lv_at hl 2 rfl) ?_
  refine lv_iload_n hx hb dX5_orderAlone_35 rfl (lv_at hl 3 rfl) ?_
  refine lv_iload hx hb dX5_orderAlone_36 (lv_at hl 4 rfl) ?_
  have f_1518 : F_1516 (ad 0) = xO ad := (hp_1517.2 (ad 0) (fun i hS => hin 0 i (by omega) (by omega) (by omega))).trans f_1514
  have f_1519 : F_1497 (ad 134) = rw7 G u9 := (hp_1498 (ad 134) ).trans h134
  have f_1520 : F_1499 (ad 134) = rw7 G u9 := (hp_1500 (ad 134) ).trans f_1519
  have f_1521 : F_1501 (ad 134) = rw7 G u9 := (hp_1502 (ad 134) ).trans f_1520
  have f_1522 : F_1503 (ad 134) = rw7 G u9 := (o_1507 (ad 134) ).trans f_1521
  have f_1523 : F_1512 (ad 134) = rw7 G u9 := (hp_1513 (ad 134) ).trans f_1522
  have f_1524 : F_1516 (ad 134) = rw7 G u9 := (hp_1517.2 (ad 134) (fun i hS => hin 134 i (by omega) (by omega) (by omega))).trans f_1523
  refine q_calli hw (q_runV (As := [.int (nI (119)), .int (nI (f9)), .int (nI (g9)), .int (nI (t9))]) (c_X5_carryOut_119 l G L F_1516 ad hL hin f9 g9 t9 A.1 _ f_1518 (hn.keep (fun i0 hi => ((hp_1517.2 (ad (i0)) (fun i hS => hin (i0) i (by omega) (by omega) (by omega)))).trans (((hp_1513 (ad (i0)) )).trans (((o_1507 (ad (i0)) )).trans (((hp_1502 (ad (i0)) )).trans (((hp_1500 (ad (i0)) )).trans ((hp_1498 (ad (i0)) )))))))) (hrk.keep (fun i0 hi => ((hp_1517.2 (ad (i0)) (fun i hS => hin (i0) i (by omega) (by omega) (by omega)))).trans (((hp_1513 (ad (i0)) )).trans (((o_1507 (ad (i0)) )).trans (((hp_1502 (ad (i0)) )).trans (((hp_1500 (ad (i0)) )).trans ((hp_1498 (ad (i0)) )))))))) f_1524 (by omega) (by omega) (by omega) (by omega) (by omega) (by omega) (by omega)) C0 hw vw_X5_299 ((hL 0 (by omega))) f_1518 rfl rfl rfl hl.1 rfl (Nat.le_of_ble_eq_true rfl) dX5_orderAlone_38 ⟨by decide, by decide⟩ ⟨by decide, by decide⟩) rfl rfl (fun r_1527 F_1525 H locs hw hp_1526 => ?_)
  obtain ⟨h_1528, h_1529, h_1530, ⟨u_1533, h_1531⟩, h_1532⟩ := hp_1526
  subst h_1528
  have f_1534 : F_1525 (ad 0) = xO ad := (h_1532 (ad 0) (fun i hS => hin 0 i (by omega) (by omega) (by omega))).trans f_1518
  have f_1535 : F_1497 (ad 150) = rw7 G v9 := (hp_1498 (ad 150) ).trans h150
  have f_1536 : F_1499 (ad 150) = rw7 G v9 := (hp_1500 (ad 150) ).trans f_1535
  have f_1537 : F_1501 (ad 150) = rw7 G v9 := (hp_1502 (ad 150) ).trans f_1536
  have f_1538 : F_1503 (ad 150) = rw7 G v9 := (o_1507 (ad 150) ).trans f_1537
  have f_1539 : F_1512 (ad 150) = rw7 G v9 := (hp_1513 (ad 150) ).trans f_1538
  have f_1540 : F_1516 (ad 150) = rw7 G v9 := (hp_1517.2 (ad 150) (fun i hS => hin 150 i (by omega) (by omega) (by omega))).trans f_1539
  have f_1541 : F_1525 (ad 150) = rw7 G v9 := (h_1532 (ad 150) (fun i hS => hin 150 i (by omega) (by omega) (by omega))).trans f_1540
  exact r_i C0 hr hlk hw (v := (lowR (ordR 119 f9 g9 A.1.1 A.1.2.2.2.2.2))) rfl ⟨rfl, ⟨f_1534, h_1529, (hp_1517.1.keep (fun i0 hi => (h_1532 (ad (i0)) (fun i hS => hin (i0) i (by omega) (by omega) (by omega))))), (hsn.keep (fun i0 hi => ((h_1532 (ad (i0)) (fun i hS => hin (i0) i (by omega) (by omega) (by omega)))).trans (((hp_1517.2 (ad (i0)) (fun i hS => hin (i0) i (by omega) (by omega) (by omega)))).trans (((hp_1513 (ad (i0)) )).trans (((o_1507 (ad (i0)) )).trans (((hp_1502 (ad (i0)) )).trans (((hp_1500 (ad (i0)) )).trans ((hp_1498 (ad (i0)) ))))))))), (htx.keep (fun i0 hi => ((h_1532 (ad (i0)) (fun i hS => hin (i0) i (by omega) (by omega) (by omega)))).trans (((hp_1517.2 (ad (i0)) (fun i hS => hin (i0) i (by omega) (by omega) (by omega)))).trans (((hp_1513 (ad (i0)) )).trans (((o_1507 (ad (i0)) )).trans (((hp_1502 (ad (i0)) )).trans (((hp_1500 (ad (i0)) )).trans ((hp_1498 (ad (i0)) ))))))))), h_1530, ⟨_, h_1531⟩, ⟨_, f_1541⟩⟩, (fun q hq => ((h_1532 q (fun i hS => hq i (by omega))).trans ((hp_1517.2 q (fun i hS => hq i (by omega))).trans ((hp_1513 q ).trans ((o_1507 q ).trans ((hp_1502 q ).trans ((hp_1500 q ).trans (hp_1498 q ))))))))⟩ (Nat.le_refl _) (Nat.le_refl _) dX5_orderAlone_41 hQ
set_option maxHeartbeats 4000000 in
set_option maxRecDepth 100000 in
theorem c_X5_orderAlone_112 (l : Launch) (G : Gl) (L : List Nat) (F : Nat → va_E) (ad : Nat → Nat) (hL : ∀ i, i < 166 → ad i ∈ L) (hin : ∀ i j, i < 166 → j < 166 → i ≠ j → ad i ≠ ad j) (A : AB) (f9 g9 t9 : Nat) (hf9 : f9 < 6) (hg9 : g9 < 6) (ht9 : t9 < 6) (hm : 6 * A.1.1 ≤ A.1.2.1) (hX : XW G F ad A) (hA : okA A) : CI l yX5_orderAlone cX5_orderAlone 5 (some .int) rm_X5_orderAlone G L F [.ref (ad 0), .int (nI (112)), .int (nI (f9)), .int (nI (g9)), .int (nI (t9))] (fun r F1 => r = lowR (ordR 112 f9 g9 A.1.1 A.1.2.2.2.2.2) ∧ XW G F1 ad (aSave A (ordS 112 f9 g9 t9 A.1)) ∧ ∀ q, (∀ i, (i < 166) → q ≠ ad i) → F1 q = F q) := by
  obtain ⟨fx, hn, hh, hsn, htx, hrk, ⟨u9, h134⟩, ⟨v9, h150⟩⟩ := hX
  obtain ⟨⟨hc2, hc, hpu, hok⟩, ⟨hh6, hho⟩, hso, hl60, hco⟩ := id hA
  refine CG_of (by decide) (Nat.le_of_ble_eq_true rfl) rfl ?_
  intro p e s m args below meth c Q C0 hr hlk hnm hQ hw ls hl
  have hx := C0.x
  have hb := C0.b
  refine lv_iload_n hx hb dX5_orderAlone_0 rfl (lv_at hl 2 rfl) ?_
  refine q_callv hw (q_runS (As := [.int (nI (f9))]) (c_X5_needSlot l G L F f9 (by omega)) C0 hw sw_X5_78 rfl hl.1 rfl (Nat.le_of_ble_eq_true rfl) dX5_orderAlone_1 ⟨by decide, by decide⟩ ⟨by decide, by decide⟩) rfl rfl (fun F_1542 H locs hw hp_1543 => ?_)
  refine lv_iload_n hx hb dX5_orderAlone_4 rfl (lv_at hl 3 rfl) ?_
  refine q_callv hw (q_runS (As := [.int (nI (g9))]) (c_X5_needSlot l G L F_1542 g9 (by omega)) C0 hw sw_X5_78 rfl hl.1 rfl (Nat.le_of_ble_eq_true rfl) dX5_orderAlone_5 ⟨by decide, by decide⟩ ⟨by decide, by decide⟩) rfl rfl (fun F_1544 H locs hw hp_1545 => ?_)
  refine lv_iload hx hb dX5_orderAlone_8 (lv_at hl 4 rfl) ?_
  refine q_callv hw (q_runS (As := [.int (nI (t9))]) (c_X5_needSlot l G L F_1544 t9 (by omega)) C0 hw sw_X5_78 rfl hl.1 rfl (Nat.le_of_ble_eq_true rfl) dX5_orderAlone_10 ⟨by decide, by decide⟩ ⟨by decide, by decide⟩) rfl rfl (fun F_1546 H locs hw hp_1547 => ?_)
  refine lv_aload_n hx hb dX5_orderAlone_13 rfl (lv_at hl 0 rfl) ?_
  refine lv_iload_n hx hb dX5_orderAlone_14 rfl (lv_at hl 1 rfl) ?_
  refine q_calli hw (q_runS (As := [.int (nI (112))]) (c_X5_unitsOf_112 l G L F_1546 ) C0 hw sw_X5_225 rfl hl.1 rfl (Nat.le_of_ble_eq_true rfl) dX5_orderAlone_15 ⟨by decide, by decide⟩ ⟨by decide, by decide⟩) rfl rfl (fun r_1550 F_1548 H locs hw hp_1549 => ?_)
  obtain ⟨he_1551, o_1552⟩ := hp_1549
  subst he_1551
  have f_1553 : F_1542 (ad 0) = xO ad := (hp_1543 (ad 0) ).trans fx
  have f_1554 : F_1544 (ad 0) = xO ad := (hp_1545 (ad 0) ).trans f_1553
  have f_1555 : F_1546 (ad 0) = xO ad := (hp_1547 (ad 0) ).trans f_1554
  have f_1556 : F_1548 (ad 0) = xO ad := (o_1552 (ad 0) ).trans f_1555
  refine q_callv hw (q_runV (As := [.int (nI (6))]) (c_X5_needMoney l G L F_1548 ad hL hin 6 A.1 f_1556 (hn.keep (fun i0 hi => ((o_1552 (ad (i0)) )).trans (((hp_1547 (ad (i0)) )).trans (((hp_1545 (ad (i0)) )).trans ((hp_1543 (ad (i0)) )))))) (by omega) (by omega)) C0 hw vw_X5_111 ((hL 0 (by omega))) f_1556 rfl rfl rfl hl.1 rfl (Nat.le_of_ble_eq_true rfl) dX5_orderAlone_18 ⟨by decide, by decide⟩ ⟨by decide, by decide⟩) rfl rfl (fun F_1557 H locs hw hp_1558 => ?_)
  refine lv_aload_n hx hb dX5_orderAlone_21 rfl (lv_at hl 0 rfl) ?_
  have f_1559 : F_1557 (ad 0) = xO ad := (hp_1558 (ad 0) ).trans f_1556
  refine q_get C0 hw ((hL 0 (by omega))) f_1559 fw_X5_19 rfl dX5_orderAlone_22 ?_
  refine lv_aload_n hx hb dX5_orderAlone_25 rfl (lv_at hl 0 rfl) ?_
  refine q_get C0 hw ((hL 0 (by omega))) f_1559 fw_X5_12 rfl dX5_orderAlone_26 ?_
  obtain ⟨_, _, hf_1560, _⟩ := id (hh.keep (fun i0 hi => ((hp_1558 (ad (i0)) )).trans (((o_1552 (ad (i0)) )).trans (((hp_1547 (ad (i0)) )).trans (((hp_1545 (ad (i0)) )).trans ((hp_1543 (ad (i0)) )))))))
  refine q_callv hw (q_runV (As := [.ref (ad 22)]) (c_X0_save l G L F_1557 ad hL hin A.2.1 A.1 (hh.keep (fun i0 hi => ((hp_1558 (ad (i0)) )).trans (((o_1552 (ad (i0)) )).trans (((hp_1547 (ad (i0)) )).trans (((hp_1545 (ad (i0)) )).trans ((hp_1543 (ad (i0)) ))))))) (hn.keep (fun i0 hi => ((hp_1558 (ad (i0)) )).trans (((o_1552 (ad (i0)) )).trans (((hp_1547 (ad (i0)) )).trans (((hp_1545 (ad (i0)) )).trans ((hp_1543 (ad (i0)) )))))))) C0 hw vw_X5_62 ((hL 1 (by omega))) hf_1560 rfl rfl rfl hl.1 rfl (Nat.le_of_ble_eq_true rfl) dX5_orderAlone_29 ⟨by decide, by decide⟩ ⟨by decide, by decide⟩) rfl rfl (fun F_1561 H locs hw hp_1562 => ?_)
  refine lv_aload_n hx hb dX5_orderAlone_32 rfl (lv_at hl 0 rfl) ?_
  refine lv_iload_n hx hb dX5_orderAlone_33 rfl (lv_at hl 1 rfl) ?_
  refine lv_iload_n hx hb dX5_orderAlone_34 rfl (lv_at hl 2 rfl) ?_
  refine lv_iload_n hx hb dX5_orderAlone_35 rfl (lv_at hl 3 rfl) ?_
  refine lv_iload hx hb dX5_orderAlone_36 (lv_at hl 4 rfl) ?_
  have f_1563 : F_1561 (ad 0) = xO ad := (hp_1562.2 (ad 0) (fun i hS => hin 0 i (by omega) (by omega) (by omega))).trans f_1559
  have f_1564 : F_1542 (ad 134) = rw7 G u9 := (hp_1543 (ad 134) ).trans h134
  have f_1565 : F_1544 (ad 134) = rw7 G u9 := (hp_1545 (ad 134) ).trans f_1564
  have f_1566 : F_1546 (ad 134) = rw7 G u9 := (hp_1547 (ad 134) ).trans f_1565
  have f_1567 : F_1548 (ad 134) = rw7 G u9 := (o_1552 (ad 134) ).trans f_1566
  have f_1568 : F_1557 (ad 134) = rw7 G u9 := (hp_1558 (ad 134) ).trans f_1567
  have f_1569 : F_1561 (ad 134) = rw7 G u9 := (hp_1562.2 (ad 134) (fun i hS => hin 134 i (by omega) (by omega) (by omega))).trans f_1568
  refine q_calli hw (q_runV (As := [.int (nI (112)), .int (nI (f9)), .int (nI (g9)), .int (nI (t9))]) (c_X5_carryOut_112 l G L F_1561 ad hL hin f9 g9 t9 A.1 _ f_1563 (hn.keep (fun i0 hi => ((hp_1562.2 (ad (i0)) (fun i hS => hin (i0) i (by omega) (by omega) (by omega)))).trans (((hp_1558 (ad (i0)) )).trans (((o_1552 (ad (i0)) )).trans (((hp_1547 (ad (i0)) )).trans (((hp_1545 (ad (i0)) )).trans ((hp_1543 (ad (i0)) )))))))) (hrk.keep (fun i0 hi => ((hp_1562.2 (ad (i0)) (fun i hS => hin (i0) i (by omega) (by omega) (by omega)))).trans (((hp_1558 (ad (i0)) )).trans (((o_1552 (ad (i0)) )).trans (((hp_1547 (ad (i0)) )).trans (((hp_1545 (ad (i0)) )).trans ((hp_1543 (ad (i0)) )))))))) f_1569 (by omega) (by omega) (by omega) (by omega) (by omega) (by omega) (by omega)) C0 hw vw_X5_299 ((hL 0 (by omega))) f_1563 rfl rfl rfl hl.1 rfl (Nat.le_of_ble_eq_true rfl) dX5_orderAlone_38 ⟨by decide, by decide⟩ ⟨by decide, by decide⟩) rfl rfl (fun r_1572 F_1570 H locs hw hp_1571 => ?_)
  obtain ⟨h_1573, h_1574, h_1575, ⟨u_1578, h_1576⟩, h_1577⟩ := hp_1571
  subst h_1573
  have f_1579 : F_1570 (ad 0) = xO ad := (h_1577 (ad 0) (fun i hS => hin 0 i (by omega) (by omega) (by omega))).trans f_1563
  have f_1580 : F_1542 (ad 150) = rw7 G v9 := (hp_1543 (ad 150) ).trans h150
  have f_1581 : F_1544 (ad 150) = rw7 G v9 := (hp_1545 (ad 150) ).trans f_1580
  have f_1582 : F_1546 (ad 150) = rw7 G v9 := (hp_1547 (ad 150) ).trans f_1581
  have f_1583 : F_1548 (ad 150) = rw7 G v9 := (o_1552 (ad 150) ).trans f_1582
  have f_1584 : F_1557 (ad 150) = rw7 G v9 := (hp_1558 (ad 150) ).trans f_1583
  have f_1585 : F_1561 (ad 150) = rw7 G v9 := (hp_1562.2 (ad 150) (fun i hS => hin 150 i (by omega) (by omega) (by omega))).trans f_1584
  have f_1586 : F_1570 (ad 150) = rw7 G v9 := (h_1577 (ad 150) (fun i hS => hin 150 i (by omega) (by omega) (by omega))).trans f_1585
  exact r_i C0 hr hlk hw (v := (lowR (ordR 112 f9 g9 A.1.1 A.1.2.2.2.2.2))) rfl ⟨rfl, ⟨f_1579, h_1574, (hp_1562.1.keep (fun i0 hi => (h_1577 (ad (i0)) (fun i hS => hin (i0) i (by omega) (by omega) (by omega))))), (hsn.keep (fun i0 hi => ((h_1577 (ad (i0)) (fun i hS => hin (i0) i (by omega) (by omega) (by omega)))).trans (((hp_1562.2 (ad (i0)) (fun i hS => hin (i0) i (by omega) (by omega) (by omega)))).trans (((hp_1558 (ad (i0)) )).trans (((o_1552 (ad (i0)) )).trans (((hp_1547 (ad (i0)) )).trans (((hp_1545 (ad (i0)) )).trans ((hp_1543 (ad (i0)) ))))))))), (htx.keep (fun i0 hi => ((h_1577 (ad (i0)) (fun i hS => hin (i0) i (by omega) (by omega) (by omega)))).trans (((hp_1562.2 (ad (i0)) (fun i hS => hin (i0) i (by omega) (by omega) (by omega)))).trans (((hp_1558 (ad (i0)) )).trans (((o_1552 (ad (i0)) )).trans (((hp_1547 (ad (i0)) )).trans (((hp_1545 (ad (i0)) )).trans ((hp_1543 (ad (i0)) ))))))))), h_1575, ⟨_, h_1576⟩, ⟨_, f_1586⟩⟩, (fun q hq => ((h_1577 q (fun i hS => hq i (by omega))).trans ((hp_1562.2 q (fun i hS => hq i (by omega))).trans ((hp_1558 q ).trans ((o_1552 q ).trans ((hp_1547 q ).trans ((hp_1545 q ).trans (hp_1543 q ))))))))⟩ (Nat.le_refl _) (Nat.le_refl _) dX5_orderAlone_41 hQ
set_option maxHeartbeats 4000000 in
set_option maxRecDepth 100000 in
theorem c_X5_orderAlone_108 (l : Launch) (G : Gl) (L : List Nat) (F : Nat → va_E) (ad : Nat → Nat) (hL : ∀ i, i < 166 → ad i ∈ L) (hin : ∀ i j, i < 166 → j < 166 → i ≠ j → ad i ≠ ad j) (A : AB) (f9 g9 t9 : Nat) (hf9 : f9 < 6) (hg9 : g9 < 6) (ht9 : t9 < 6) (hm : 6 * A.1.1 ≤ A.1.2.1) (hX : XW G F ad A) (hA : okA A) : CI l yX5_orderAlone cX5_orderAlone 5 (some .int) rm_X5_orderAlone G L F [.ref (ad 0), .int (nI (108)), .int (nI (f9)), .int (nI (g9)), .int (nI (t9))] (fun r F1 => r = lowR (ordR 108 f9 g9 A.1.1 A.1.2.2.2.2.2) ∧ XW G F1 ad (aSave A (ordS 108 f9 g9 t9 A.1)) ∧ ∀ q, (∀ i, (i < 166) → q ≠ ad i) → F1 q = F q) := by
  obtain ⟨fx, hn, hh, hsn, htx, hrk, ⟨u9, h134⟩, ⟨v9, h150⟩⟩ := hX
  obtain ⟨⟨hc2, hc, hpu, hok⟩, ⟨hh6, hho⟩, hso, hl60, hco⟩ := id hA
  refine CG_of (by decide) (Nat.le_of_ble_eq_true rfl) rfl ?_
  intro p e s m args below meth c Q C0 hr hlk hnm hQ hw ls hl
  have hx := C0.x
  have hb := C0.b
  refine lv_iload_n hx hb dX5_orderAlone_0 rfl (lv_at hl 2 rfl) ?_
  refine q_callv hw (q_runS (As := [.int (nI (f9))]) (c_X5_needSlot l G L F f9 (by omega)) C0 hw sw_X5_78 rfl hl.1 rfl (Nat.le_of_ble_eq_true rfl) dX5_orderAlone_1 ⟨by decide, by decide⟩ ⟨by decide, by decide⟩) rfl rfl (fun F_1587 H locs hw hp_1588 => ?_)
  refine lv_iload_n hx hb dX5_orderAlone_4 rfl (lv_at hl 3 rfl) ?_
  refine q_callv hw (q_runS (As := [.int (nI (g9))]) (c_X5_needSlot l G L F_1587 g9 (by omega)) C0 hw sw_X5_78 rfl hl.1 rfl (Nat.le_of_ble_eq_true rfl) dX5_orderAlone_5 ⟨by decide, by decide⟩ ⟨by decide, by decide⟩) rfl rfl (fun F_1589 H locs hw hp_1590 => ?_)
  refine lv_iload hx hb dX5_orderAlone_8 (lv_at hl 4 rfl) ?_
  refine q_callv hw (q_runS (As := [.int (nI (t9))]) (c_X5_needSlot l G L F_1589 t9 (by omega)) C0 hw sw_X5_78 rfl hl.1 rfl (Nat.le_of_ble_eq_true rfl) dX5_orderAlone_10 ⟨by decide, by decide⟩ ⟨by decide, by decide⟩) rfl rfl (fun F_1591 H locs hw hp_1592 => ?_)
  refine lv_aload_n hx hb dX5_orderAlone_13 rfl (lv_at hl 0 rfl) ?_
  refine lv_iload_n hx hb dX5_orderAlone_14 rfl (lv_at hl 1 rfl) ?_
  refine q_calli hw (q_runS (As := [.int (nI (108))]) (c_X5_unitsOf_108 l G L F_1591 ) C0 hw sw_X5_225 rfl hl.1 rfl (Nat.le_of_ble_eq_true rfl) dX5_orderAlone_15 ⟨by decide, by decide⟩ ⟨by decide, by decide⟩) rfl rfl (fun r_1595 F_1593 H locs hw hp_1594 => ?_)
  obtain ⟨he_1596, o_1597⟩ := hp_1594
  subst he_1596
  have f_1598 : F_1587 (ad 0) = xO ad := (hp_1588 (ad 0) ).trans fx
  have f_1599 : F_1589 (ad 0) = xO ad := (hp_1590 (ad 0) ).trans f_1598
  have f_1600 : F_1591 (ad 0) = xO ad := (hp_1592 (ad 0) ).trans f_1599
  have f_1601 : F_1593 (ad 0) = xO ad := (o_1597 (ad 0) ).trans f_1600
  refine q_callv hw (q_runV (As := [.int (nI (6))]) (c_X5_needMoney l G L F_1593 ad hL hin 6 A.1 f_1601 (hn.keep (fun i0 hi => ((o_1597 (ad (i0)) )).trans (((hp_1592 (ad (i0)) )).trans (((hp_1590 (ad (i0)) )).trans ((hp_1588 (ad (i0)) )))))) (by omega) (by omega)) C0 hw vw_X5_111 ((hL 0 (by omega))) f_1601 rfl rfl rfl hl.1 rfl (Nat.le_of_ble_eq_true rfl) dX5_orderAlone_18 ⟨by decide, by decide⟩ ⟨by decide, by decide⟩) rfl rfl (fun F_1602 H locs hw hp_1603 => ?_)
  refine lv_aload_n hx hb dX5_orderAlone_21 rfl (lv_at hl 0 rfl) ?_
  have f_1604 : F_1602 (ad 0) = xO ad := (hp_1603 (ad 0) ).trans f_1601
  refine q_get C0 hw ((hL 0 (by omega))) f_1604 fw_X5_19 rfl dX5_orderAlone_22 ?_
  refine lv_aload_n hx hb dX5_orderAlone_25 rfl (lv_at hl 0 rfl) ?_
  refine q_get C0 hw ((hL 0 (by omega))) f_1604 fw_X5_12 rfl dX5_orderAlone_26 ?_
  obtain ⟨_, _, hf_1605, _⟩ := id (hh.keep (fun i0 hi => ((hp_1603 (ad (i0)) )).trans (((o_1597 (ad (i0)) )).trans (((hp_1592 (ad (i0)) )).trans (((hp_1590 (ad (i0)) )).trans ((hp_1588 (ad (i0)) )))))))
  refine q_callv hw (q_runV (As := [.ref (ad 22)]) (c_X0_save l G L F_1602 ad hL hin A.2.1 A.1 (hh.keep (fun i0 hi => ((hp_1603 (ad (i0)) )).trans (((o_1597 (ad (i0)) )).trans (((hp_1592 (ad (i0)) )).trans (((hp_1590 (ad (i0)) )).trans ((hp_1588 (ad (i0)) ))))))) (hn.keep (fun i0 hi => ((hp_1603 (ad (i0)) )).trans (((o_1597 (ad (i0)) )).trans (((hp_1592 (ad (i0)) )).trans (((hp_1590 (ad (i0)) )).trans ((hp_1588 (ad (i0)) )))))))) C0 hw vw_X5_62 ((hL 1 (by omega))) hf_1605 rfl rfl rfl hl.1 rfl (Nat.le_of_ble_eq_true rfl) dX5_orderAlone_29 ⟨by decide, by decide⟩ ⟨by decide, by decide⟩) rfl rfl (fun F_1606 H locs hw hp_1607 => ?_)
  refine lv_aload_n hx hb dX5_orderAlone_32 rfl (lv_at hl 0 rfl) ?_
  refine lv_iload_n hx hb dX5_orderAlone_33 rfl (lv_at hl 1 rfl) ?_
  refine lv_iload_n hx hb dX5_orderAlone_34 rfl (lv_at hl 2 rfl) ?_
  refine lv_iload_n hx hb dX5_orderAlone_35 rfl (lv_at hl 3 rfl) ?_
  refine lv_iload hx hb dX5_orderAlone_36 (lv_at hl 4 rfl) ?_
  have f_1608 : F_1606 (ad 0) = xO ad := (hp_1607.2 (ad 0) (fun i hS => hin 0 i (by omega) (by omega) (by omega))).trans f_1604
  have f_1609 : F_1587 (ad 134) = rw7 G u9 := (hp_1588 (ad 134) ).trans h134
  have f_1610 : F_1589 (ad 134) = rw7 G u9 := (hp_1590 (ad 134) ).trans f_1609
  have f_1611 : F_1591 (ad 134) = rw7 G u9 := (hp_1592 (ad 134) ).trans f_1610
  have f_1612 : F_1593 (ad 134) = rw7 G u9 := (o_1597 (ad 134) ).trans f_1611
  have f_1613 : F_1602 (ad 134) = rw7 G u9 := (hp_1603 (ad 134) ).trans f_1612
  have f_1614 : F_1606 (ad 134) = rw7 G u9 := (hp_1607.2 (ad 134) (fun i hS => hin 134 i (by omega) (by omega) (by omega))).trans f_1613
  refine q_calli hw (q_runV (As := [.int (nI (108)), .int (nI (f9)), .int (nI (g9)), .int (nI (t9))]) (c_X5_carryOut_108 l G L F_1606 ad hL hin f9 g9 t9 A.1 _ f_1608 (hn.keep (fun i0 hi => ((hp_1607.2 (ad (i0)) (fun i hS => hin (i0) i (by omega) (by omega) (by omega)))).trans (((hp_1603 (ad (i0)) )).trans (((o_1597 (ad (i0)) )).trans (((hp_1592 (ad (i0)) )).trans (((hp_1590 (ad (i0)) )).trans ((hp_1588 (ad (i0)) )))))))) (hrk.keep (fun i0 hi => ((hp_1607.2 (ad (i0)) (fun i hS => hin (i0) i (by omega) (by omega) (by omega)))).trans (((hp_1603 (ad (i0)) )).trans (((o_1597 (ad (i0)) )).trans (((hp_1592 (ad (i0)) )).trans (((hp_1590 (ad (i0)) )).trans ((hp_1588 (ad (i0)) )))))))) f_1614 (by omega) (by omega) (by omega) (by omega) (by omega) (by omega) (by omega)) C0 hw vw_X5_299 ((hL 0 (by omega))) f_1608 rfl rfl rfl hl.1 rfl (Nat.le_of_ble_eq_true rfl) dX5_orderAlone_38 ⟨by decide, by decide⟩ ⟨by decide, by decide⟩) rfl rfl (fun r_1617 F_1615 H locs hw hp_1616 => ?_)
  obtain ⟨h_1618, h_1619, h_1620, ⟨u_1623, h_1621⟩, h_1622⟩ := hp_1616
  subst h_1618
  have f_1624 : F_1615 (ad 0) = xO ad := (h_1622 (ad 0) (fun i hS => hin 0 i (by omega) (by omega) (by omega))).trans f_1608
  have f_1625 : F_1587 (ad 150) = rw7 G v9 := (hp_1588 (ad 150) ).trans h150
  have f_1626 : F_1589 (ad 150) = rw7 G v9 := (hp_1590 (ad 150) ).trans f_1625
  have f_1627 : F_1591 (ad 150) = rw7 G v9 := (hp_1592 (ad 150) ).trans f_1626
  have f_1628 : F_1593 (ad 150) = rw7 G v9 := (o_1597 (ad 150) ).trans f_1627
  have f_1629 : F_1602 (ad 150) = rw7 G v9 := (hp_1603 (ad 150) ).trans f_1628
  have f_1630 : F_1606 (ad 150) = rw7 G v9 := (hp_1607.2 (ad 150) (fun i hS => hin 150 i (by omega) (by omega) (by omega))).trans f_1629
  have f_1631 : F_1615 (ad 150) = rw7 G v9 := (h_1622 (ad 150) (fun i hS => hin 150 i (by omega) (by omega) (by omega))).trans f_1630
  exact r_i C0 hr hlk hw (v := (lowR (ordR 108 f9 g9 A.1.1 A.1.2.2.2.2.2))) rfl ⟨rfl, ⟨f_1624, h_1619, (hp_1607.1.keep (fun i0 hi => (h_1622 (ad (i0)) (fun i hS => hin (i0) i (by omega) (by omega) (by omega))))), (hsn.keep (fun i0 hi => ((h_1622 (ad (i0)) (fun i hS => hin (i0) i (by omega) (by omega) (by omega)))).trans (((hp_1607.2 (ad (i0)) (fun i hS => hin (i0) i (by omega) (by omega) (by omega)))).trans (((hp_1603 (ad (i0)) )).trans (((o_1597 (ad (i0)) )).trans (((hp_1592 (ad (i0)) )).trans (((hp_1590 (ad (i0)) )).trans ((hp_1588 (ad (i0)) ))))))))), (htx.keep (fun i0 hi => ((h_1622 (ad (i0)) (fun i hS => hin (i0) i (by omega) (by omega) (by omega)))).trans (((hp_1607.2 (ad (i0)) (fun i hS => hin (i0) i (by omega) (by omega) (by omega)))).trans (((hp_1603 (ad (i0)) )).trans (((o_1597 (ad (i0)) )).trans (((hp_1592 (ad (i0)) )).trans (((hp_1590 (ad (i0)) )).trans ((hp_1588 (ad (i0)) ))))))))), h_1620, ⟨_, h_1621⟩, ⟨_, f_1631⟩⟩, (fun q hq => ((h_1622 q (fun i hS => hq i (by omega))).trans ((hp_1607.2 q (fun i hS => hq i (by omega))).trans ((hp_1603 q ).trans ((o_1597 q ).trans ((hp_1592 q ).trans ((hp_1590 q ).trans (hp_1588 q ))))))))⟩ (Nat.le_refl _) (Nat.le_refl _) dX5_orderAlone_41 hQ
set_option maxHeartbeats 4000000 in
set_option maxRecDepth 100000 in
theorem c_X5_orderAlone_101 (l : Launch) (G : Gl) (L : List Nat) (F : Nat → va_E) (ad : Nat → Nat) (hL : ∀ i, i < 166 → ad i ∈ L) (hin : ∀ i j, i < 166 → j < 166 → i ≠ j → ad i ≠ ad j) (A : AB) (f9 g9 t9 : Nat) (hf9 : f9 < 6) (hg9 : g9 < 6) (ht9 : t9 < 6) (hm : 5 * A.1.1 ≤ A.1.2.1) (hX : XW G F ad A) (hA : okA A) : CI l yX5_orderAlone cX5_orderAlone 5 (some .int) rm_X5_orderAlone G L F [.ref (ad 0), .int (nI (101)), .int (nI (f9)), .int (nI (g9)), .int (nI (t9))] (fun r F1 => r = lowR (ordR 101 f9 g9 A.1.1 A.1.2.2.2.2.2) ∧ XW G F1 ad (aSave A (ordS 101 f9 g9 t9 A.1)) ∧ ∀ q, (∀ i, (i < 166) → q ≠ ad i) → F1 q = F q) := by
  obtain ⟨fx, hn, hh, hsn, htx, hrk, ⟨u9, h134⟩, ⟨v9, h150⟩⟩ := hX
  obtain ⟨⟨hc2, hc, hpu, hok⟩, ⟨hh6, hho⟩, hso, hl60, hco⟩ := id hA
  refine CG_of (by decide) (Nat.le_of_ble_eq_true rfl) rfl ?_
  intro p e s m args below meth c Q C0 hr hlk hnm hQ hw ls hl
  have hx := C0.x
  have hb := C0.b
  refine lv_iload_n hx hb dX5_orderAlone_0 rfl (lv_at hl 2 rfl) ?_
  refine q_callv hw (q_runS (As := [.int (nI (f9))]) (c_X5_needSlot l G L F f9 (by omega)) C0 hw sw_X5_78 rfl hl.1 rfl (Nat.le_of_ble_eq_true rfl) dX5_orderAlone_1 ⟨by decide, by decide⟩ ⟨by decide, by decide⟩) rfl rfl (fun F_1632 H locs hw hp_1633 => ?_)
  refine lv_iload_n hx hb dX5_orderAlone_4 rfl (lv_at hl 3 rfl) ?_
  refine q_callv hw (q_runS (As := [.int (nI (g9))]) (c_X5_needSlot l G L F_1632 g9 (by omega)) C0 hw sw_X5_78 rfl hl.1 rfl (Nat.le_of_ble_eq_true rfl) dX5_orderAlone_5 ⟨by decide, by decide⟩ ⟨by decide, by decide⟩) rfl rfl (fun F_1634 H locs hw hp_1635 => ?_)
  refine lv_iload hx hb dX5_orderAlone_8 (lv_at hl 4 rfl) ?_
  refine q_callv hw (q_runS (As := [.int (nI (t9))]) (c_X5_needSlot l G L F_1634 t9 (by omega)) C0 hw sw_X5_78 rfl hl.1 rfl (Nat.le_of_ble_eq_true rfl) dX5_orderAlone_10 ⟨by decide, by decide⟩ ⟨by decide, by decide⟩) rfl rfl (fun F_1636 H locs hw hp_1637 => ?_)
  refine lv_aload_n hx hb dX5_orderAlone_13 rfl (lv_at hl 0 rfl) ?_
  refine lv_iload_n hx hb dX5_orderAlone_14 rfl (lv_at hl 1 rfl) ?_
  refine q_calli hw (q_runS (As := [.int (nI (101))]) (c_X5_unitsOf_101 l G L F_1636 ) C0 hw sw_X5_225 rfl hl.1 rfl (Nat.le_of_ble_eq_true rfl) dX5_orderAlone_15 ⟨by decide, by decide⟩ ⟨by decide, by decide⟩) rfl rfl (fun r_1640 F_1638 H locs hw hp_1639 => ?_)
  obtain ⟨he_1641, o_1642⟩ := hp_1639
  subst he_1641
  have f_1643 : F_1632 (ad 0) = xO ad := (hp_1633 (ad 0) ).trans fx
  have f_1644 : F_1634 (ad 0) = xO ad := (hp_1635 (ad 0) ).trans f_1643
  have f_1645 : F_1636 (ad 0) = xO ad := (hp_1637 (ad 0) ).trans f_1644
  have f_1646 : F_1638 (ad 0) = xO ad := (o_1642 (ad 0) ).trans f_1645
  refine q_callv hw (q_runV (As := [.int (nI (5))]) (c_X5_needMoney l G L F_1638 ad hL hin 5 A.1 f_1646 (hn.keep (fun i0 hi => ((o_1642 (ad (i0)) )).trans (((hp_1637 (ad (i0)) )).trans (((hp_1635 (ad (i0)) )).trans ((hp_1633 (ad (i0)) )))))) (by omega) (by omega)) C0 hw vw_X5_111 ((hL 0 (by omega))) f_1646 rfl rfl rfl hl.1 rfl (Nat.le_of_ble_eq_true rfl) dX5_orderAlone_18 ⟨by decide, by decide⟩ ⟨by decide, by decide⟩) rfl rfl (fun F_1647 H locs hw hp_1648 => ?_)
  refine lv_aload_n hx hb dX5_orderAlone_21 rfl (lv_at hl 0 rfl) ?_
  have f_1649 : F_1647 (ad 0) = xO ad := (hp_1648 (ad 0) ).trans f_1646
  refine q_get C0 hw ((hL 0 (by omega))) f_1649 fw_X5_19 rfl dX5_orderAlone_22 ?_
  refine lv_aload_n hx hb dX5_orderAlone_25 rfl (lv_at hl 0 rfl) ?_
  refine q_get C0 hw ((hL 0 (by omega))) f_1649 fw_X5_12 rfl dX5_orderAlone_26 ?_
  obtain ⟨_, _, hf_1650, _⟩ := id (hh.keep (fun i0 hi => ((hp_1648 (ad (i0)) )).trans (((o_1642 (ad (i0)) )).trans (((hp_1637 (ad (i0)) )).trans (((hp_1635 (ad (i0)) )).trans ((hp_1633 (ad (i0)) )))))))
  refine q_callv hw (q_runV (As := [.ref (ad 22)]) (c_X0_save l G L F_1647 ad hL hin A.2.1 A.1 (hh.keep (fun i0 hi => ((hp_1648 (ad (i0)) )).trans (((o_1642 (ad (i0)) )).trans (((hp_1637 (ad (i0)) )).trans (((hp_1635 (ad (i0)) )).trans ((hp_1633 (ad (i0)) ))))))) (hn.keep (fun i0 hi => ((hp_1648 (ad (i0)) )).trans (((o_1642 (ad (i0)) )).trans (((hp_1637 (ad (i0)) )).trans (((hp_1635 (ad (i0)) )).trans ((hp_1633 (ad (i0)) )))))))) C0 hw vw_X5_62 ((hL 1 (by omega))) hf_1650 rfl rfl rfl hl.1 rfl (Nat.le_of_ble_eq_true rfl) dX5_orderAlone_29 ⟨by decide, by decide⟩ ⟨by decide, by decide⟩) rfl rfl (fun F_1651 H locs hw hp_1652 => ?_)
  refine lv_aload_n hx hb dX5_orderAlone_32 rfl (lv_at hl 0 rfl) ?_
  refine lv_iload_n hx hb dX5_orderAlone_33 rfl (lv_at hl 1 rfl) ?_
  refine lv_iload_n hx hb dX5_orderAlone_34 rfl (lv_at hl 2 rfl) ?_
  refine lv_iload_n hx hb dX5_orderAlone_35 rfl (lv_at hl 3 rfl) ?_
  refine lv_iload hx hb dX5_orderAlone_36 (lv_at hl 4 rfl) ?_
  have f_1653 : F_1651 (ad 0) = xO ad := (hp_1652.2 (ad 0) (fun i hS => hin 0 i (by omega) (by omega) (by omega))).trans f_1649
  have f_1654 : F_1632 (ad 134) = rw7 G u9 := (hp_1633 (ad 134) ).trans h134
  have f_1655 : F_1634 (ad 134) = rw7 G u9 := (hp_1635 (ad 134) ).trans f_1654
  have f_1656 : F_1636 (ad 134) = rw7 G u9 := (hp_1637 (ad 134) ).trans f_1655
  have f_1657 : F_1638 (ad 134) = rw7 G u9 := (o_1642 (ad 134) ).trans f_1656
  have f_1658 : F_1647 (ad 134) = rw7 G u9 := (hp_1648 (ad 134) ).trans f_1657
  have f_1659 : F_1651 (ad 134) = rw7 G u9 := (hp_1652.2 (ad 134) (fun i hS => hin 134 i (by omega) (by omega) (by omega))).trans f_1658
  refine q_calli hw (q_runV (As := [.int (nI (101)), .int (nI (f9)), .int (nI (g9)), .int (nI (t9))]) (c_X5_carryOut_101 l G L F_1651 ad hL hin f9 g9 t9 A.1 _ f_1653 (hn.keep (fun i0 hi => ((hp_1652.2 (ad (i0)) (fun i hS => hin (i0) i (by omega) (by omega) (by omega)))).trans (((hp_1648 (ad (i0)) )).trans (((o_1642 (ad (i0)) )).trans (((hp_1637 (ad (i0)) )).trans (((hp_1635 (ad (i0)) )).trans ((hp_1633 (ad (i0)) )))))))) (hrk.keep (fun i0 hi => ((hp_1652.2 (ad (i0)) (fun i hS => hin (i0) i (by omega) (by omega) (by omega)))).trans (((hp_1648 (ad (i0)) )).trans (((o_1642 (ad (i0)) )).trans (((hp_1637 (ad (i0)) )).trans (((hp_1635 (ad (i0)) )).trans ((hp_1633 (ad (i0)) )))))))) f_1659 (by omega) (by omega) (by omega) (by omega) (by omega) (by omega) (by omega)) C0 hw vw_X5_299 ((hL 0 (by omega))) f_1653 rfl rfl rfl hl.1 rfl (Nat.le_of_ble_eq_true rfl) dX5_orderAlone_38 ⟨by decide, by decide⟩ ⟨by decide, by decide⟩) rfl rfl (fun r_1662 F_1660 H locs hw hp_1661 => ?_)
  obtain ⟨h_1663, h_1664, h_1665, ⟨u_1668, h_1666⟩, h_1667⟩ := hp_1661
  subst h_1663
  have f_1669 : F_1660 (ad 0) = xO ad := (h_1667 (ad 0) (fun i hS => hin 0 i (by omega) (by omega) (by omega))).trans f_1653
  have f_1670 : F_1632 (ad 150) = rw7 G v9 := (hp_1633 (ad 150) ).trans h150
  have f_1671 : F_1634 (ad 150) = rw7 G v9 := (hp_1635 (ad 150) ).trans f_1670
  have f_1672 : F_1636 (ad 150) = rw7 G v9 := (hp_1637 (ad 150) ).trans f_1671
  have f_1673 : F_1638 (ad 150) = rw7 G v9 := (o_1642 (ad 150) ).trans f_1672
  have f_1674 : F_1647 (ad 150) = rw7 G v9 := (hp_1648 (ad 150) ).trans f_1673
  have f_1675 : F_1651 (ad 150) = rw7 G v9 := (hp_1652.2 (ad 150) (fun i hS => hin 150 i (by omega) (by omega) (by omega))).trans f_1674
  have f_1676 : F_1660 (ad 150) = rw7 G v9 := (h_1667 (ad 150) (fun i hS => hin 150 i (by omega) (by omega) (by omega))).trans f_1675
  exact r_i C0 hr hlk hw (v := (lowR (ordR 101 f9 g9 A.1.1 A.1.2.2.2.2.2))) rfl ⟨rfl, ⟨f_1669, h_1664, (hp_1652.1.keep (fun i0 hi => (h_1667 (ad (i0)) (fun i hS => hin (i0) i (by omega) (by omega) (by omega))))), (hsn.keep (fun i0 hi => ((h_1667 (ad (i0)) (fun i hS => hin (i0) i (by omega) (by omega) (by omega)))).trans (((hp_1652.2 (ad (i0)) (fun i hS => hin (i0) i (by omega) (by omega) (by omega)))).trans (((hp_1648 (ad (i0)) )).trans (((o_1642 (ad (i0)) )).trans (((hp_1637 (ad (i0)) )).trans (((hp_1635 (ad (i0)) )).trans ((hp_1633 (ad (i0)) ))))))))), (htx.keep (fun i0 hi => ((h_1667 (ad (i0)) (fun i hS => hin (i0) i (by omega) (by omega) (by omega)))).trans (((hp_1652.2 (ad (i0)) (fun i hS => hin (i0) i (by omega) (by omega) (by omega)))).trans (((hp_1648 (ad (i0)) )).trans (((o_1642 (ad (i0)) )).trans (((hp_1637 (ad (i0)) )).trans (((hp_1635 (ad (i0)) )).trans ((hp_1633 (ad (i0)) ))))))))), h_1665, ⟨_, h_1666⟩, ⟨_, f_1676⟩⟩, (fun q hq => ((h_1667 q (fun i hS => hq i (by omega))).trans ((hp_1652.2 q (fun i hS => hq i (by omega))).trans ((hp_1648 q ).trans ((o_1642 q ).trans ((hp_1637 q ).trans ((hp_1635 q ).trans (hp_1633 q ))))))))⟩ (Nat.le_refl _) (Nat.le_refl _) dX5_orderAlone_41 hQ
set_option maxHeartbeats 4000000 in
set_option maxRecDepth 100000 in
theorem c_X5_orderAlone_99 (l : Launch) (G : Gl) (L : List Nat) (F : Nat → va_E) (ad : Nat → Nat) (hL : ∀ i, i < 166 → ad i ∈ L) (hin : ∀ i j, i < 166 → j < 166 → i ≠ j → ad i ≠ ad j) (A : AB) (f9 g9 t9 : Nat) (hf9 : f9 < 6) (hg9 : g9 < 6) (ht9 : t9 < 6) (hm : 4 * A.1.1 ≤ A.1.2.1) (hX : XW G F ad A) (hA : okA A) : CI l yX5_orderAlone cX5_orderAlone 5 (some .int) rm_X5_orderAlone G L F [.ref (ad 0), .int (nI (99)), .int (nI (f9)), .int (nI (g9)), .int (nI (t9))] (fun r F1 => r = lowR (ordR 99 f9 g9 A.1.1 A.1.2.2.2.2.2) ∧ XW G F1 ad (aSave A (ordS 99 f9 g9 t9 A.1)) ∧ ∀ q, (∀ i, (i < 166) → q ≠ ad i) → F1 q = F q) := by
  obtain ⟨fx, hn, hh, hsn, htx, hrk, ⟨u9, h134⟩, ⟨v9, h150⟩⟩ := hX
  obtain ⟨⟨hc2, hc, hpu, hok⟩, ⟨hh6, hho⟩, hso, hl60, hco⟩ := id hA
  refine CG_of (by decide) (Nat.le_of_ble_eq_true rfl) rfl ?_
  intro p e s m args below meth c Q C0 hr hlk hnm hQ hw ls hl
  have hx := C0.x
  have hb := C0.b
  refine lv_iload_n hx hb dX5_orderAlone_0 rfl (lv_at hl 2 rfl) ?_
  refine q_callv hw (q_runS (As := [.int (nI (f9))]) (c_X5_needSlot l G L F f9 (by omega)) C0 hw sw_X5_78 rfl hl.1 rfl (Nat.le_of_ble_eq_true rfl) dX5_orderAlone_1 ⟨by decide, by decide⟩ ⟨by decide, by decide⟩) rfl rfl (fun F_1677 H locs hw hp_1678 => ?_)
  refine lv_iload_n hx hb dX5_orderAlone_4 rfl (lv_at hl 3 rfl) ?_
  refine q_callv hw (q_runS (As := [.int (nI (g9))]) (c_X5_needSlot l G L F_1677 g9 (by omega)) C0 hw sw_X5_78 rfl hl.1 rfl (Nat.le_of_ble_eq_true rfl) dX5_orderAlone_5 ⟨by decide, by decide⟩ ⟨by decide, by decide⟩) rfl rfl (fun F_1679 H locs hw hp_1680 => ?_)
  refine lv_iload hx hb dX5_orderAlone_8 (lv_at hl 4 rfl) ?_
  refine q_callv hw (q_runS (As := [.int (nI (t9))]) (c_X5_needSlot l G L F_1679 t9 (by omega)) C0 hw sw_X5_78 rfl hl.1 rfl (Nat.le_of_ble_eq_true rfl) dX5_orderAlone_10 ⟨by decide, by decide⟩ ⟨by decide, by decide⟩) rfl rfl (fun F_1681 H locs hw hp_1682 => ?_)
  refine lv_aload_n hx hb dX5_orderAlone_13 rfl (lv_at hl 0 rfl) ?_
  refine lv_iload_n hx hb dX5_orderAlone_14 rfl (lv_at hl 1 rfl) ?_
  refine q_calli hw (q_runS (As := [.int (nI (99))]) (c_X5_unitsOf_99 l G L F_1681 ) C0 hw sw_X5_225 rfl hl.1 rfl (Nat.le_of_ble_eq_true rfl) dX5_orderAlone_15 ⟨by decide, by decide⟩ ⟨by decide, by decide⟩) rfl rfl (fun r_1685 F_1683 H locs hw hp_1684 => ?_)
  obtain ⟨he_1686, o_1687⟩ := hp_1684
  subst he_1686
  have f_1688 : F_1677 (ad 0) = xO ad := (hp_1678 (ad 0) ).trans fx
  have f_1689 : F_1679 (ad 0) = xO ad := (hp_1680 (ad 0) ).trans f_1688
  have f_1690 : F_1681 (ad 0) = xO ad := (hp_1682 (ad 0) ).trans f_1689
  have f_1691 : F_1683 (ad 0) = xO ad := (o_1687 (ad 0) ).trans f_1690
  refine q_callv hw (q_runV (As := [.int (nI (4))]) (c_X5_needMoney l G L F_1683 ad hL hin 4 A.1 f_1691 (hn.keep (fun i0 hi => ((o_1687 (ad (i0)) )).trans (((hp_1682 (ad (i0)) )).trans (((hp_1680 (ad (i0)) )).trans ((hp_1678 (ad (i0)) )))))) (by omega) (by omega)) C0 hw vw_X5_111 ((hL 0 (by omega))) f_1691 rfl rfl rfl hl.1 rfl (Nat.le_of_ble_eq_true rfl) dX5_orderAlone_18 ⟨by decide, by decide⟩ ⟨by decide, by decide⟩) rfl rfl (fun F_1692 H locs hw hp_1693 => ?_)
  refine lv_aload_n hx hb dX5_orderAlone_21 rfl (lv_at hl 0 rfl) ?_
  have f_1694 : F_1692 (ad 0) = xO ad := (hp_1693 (ad 0) ).trans f_1691
  refine q_get C0 hw ((hL 0 (by omega))) f_1694 fw_X5_19 rfl dX5_orderAlone_22 ?_
  refine lv_aload_n hx hb dX5_orderAlone_25 rfl (lv_at hl 0 rfl) ?_
  refine q_get C0 hw ((hL 0 (by omega))) f_1694 fw_X5_12 rfl dX5_orderAlone_26 ?_
  obtain ⟨_, _, hf_1695, _⟩ := id (hh.keep (fun i0 hi => ((hp_1693 (ad (i0)) )).trans (((o_1687 (ad (i0)) )).trans (((hp_1682 (ad (i0)) )).trans (((hp_1680 (ad (i0)) )).trans ((hp_1678 (ad (i0)) )))))))
  refine q_callv hw (q_runV (As := [.ref (ad 22)]) (c_X0_save l G L F_1692 ad hL hin A.2.1 A.1 (hh.keep (fun i0 hi => ((hp_1693 (ad (i0)) )).trans (((o_1687 (ad (i0)) )).trans (((hp_1682 (ad (i0)) )).trans (((hp_1680 (ad (i0)) )).trans ((hp_1678 (ad (i0)) ))))))) (hn.keep (fun i0 hi => ((hp_1693 (ad (i0)) )).trans (((o_1687 (ad (i0)) )).trans (((hp_1682 (ad (i0)) )).trans (((hp_1680 (ad (i0)) )).trans ((hp_1678 (ad (i0)) )))))))) C0 hw vw_X5_62 ((hL 1 (by omega))) hf_1695 rfl rfl rfl hl.1 rfl (Nat.le_of_ble_eq_true rfl) dX5_orderAlone_29 ⟨by decide, by decide⟩ ⟨by decide, by decide⟩) rfl rfl (fun F_1696 H locs hw hp_1697 => ?_)
  refine lv_aload_n hx hb dX5_orderAlone_32 rfl (lv_at hl 0 rfl) ?_
  refine lv_iload_n hx hb dX5_orderAlone_33 rfl (lv_at hl 1 rfl) ?_
  refine lv_iload_n hx hb dX5_orderAlone_34 rfl (lv_at hl 2 rfl) ?_
  refine lv_iload_n hx hb dX5_orderAlone_35 rfl (lv_at hl 3 rfl) ?_
  refine lv_iload hx hb dX5_orderAlone_36 (lv_at hl 4 rfl) ?_
  have f_1698 : F_1696 (ad 0) = xO ad := (hp_1697.2 (ad 0) (fun i hS => hin 0 i (by omega) (by omega) (by omega))).trans f_1694
  have f_1699 : F_1677 (ad 134) = rw7 G u9 := (hp_1678 (ad 134) ).trans h134
  have f_1700 : F_1679 (ad 134) = rw7 G u9 := (hp_1680 (ad 134) ).trans f_1699
  have f_1701 : F_1681 (ad 134) = rw7 G u9 := (hp_1682 (ad 134) ).trans f_1700
  have f_1702 : F_1683 (ad 134) = rw7 G u9 := (o_1687 (ad 134) ).trans f_1701
  have f_1703 : F_1692 (ad 134) = rw7 G u9 := (hp_1693 (ad 134) ).trans f_1702
  have f_1704 : F_1696 (ad 134) = rw7 G u9 := (hp_1697.2 (ad 134) (fun i hS => hin 134 i (by omega) (by omega) (by omega))).trans f_1703
  refine q_calli hw (q_runV (As := [.int (nI (99)), .int (nI (f9)), .int (nI (g9)), .int (nI (t9))]) (c_X5_carryOut_99 l G L F_1696 ad hL hin f9 g9 t9 A.1 _ f_1698 (hn.keep (fun i0 hi => ((hp_1697.2 (ad (i0)) (fun i hS => hin (i0) i (by omega) (by omega) (by omega)))).trans (((hp_1693 (ad (i0)) )).trans (((o_1687 (ad (i0)) )).trans (((hp_1682 (ad (i0)) )).trans (((hp_1680 (ad (i0)) )).trans ((hp_1678 (ad (i0)) )))))))) (hrk.keep (fun i0 hi => ((hp_1697.2 (ad (i0)) (fun i hS => hin (i0) i (by omega) (by omega) (by omega)))).trans (((hp_1693 (ad (i0)) )).trans (((o_1687 (ad (i0)) )).trans (((hp_1682 (ad (i0)) )).trans (((hp_1680 (ad (i0)) )).trans ((hp_1678 (ad (i0)) )))))))) f_1704 (by omega) (by omega) (by omega) (by omega) (by omega) (by omega) (by omega)) C0 hw vw_X5_299 ((hL 0 (by omega))) f_1698 rfl rfl rfl hl.1 rfl (Nat.le_of_ble_eq_true rfl) dX5_orderAlone_38 ⟨by decide, by decide⟩ ⟨by decide, by decide⟩) rfl rfl (fun r_1707 F_1705 H locs hw hp_1706 => ?_)
  obtain ⟨h_1708, h_1709, h_1710, ⟨u_1713, h_1711⟩, h_1712⟩ := hp_1706
  subst h_1708
  have f_1714 : F_1705 (ad 0) = xO ad := (h_1712 (ad 0) (fun i hS => hin 0 i (by omega) (by omega) (by omega))).trans f_1698
  have f_1715 : F_1677 (ad 150) = rw7 G v9 := (hp_1678 (ad 150) ).trans h150
  have f_1716 : F_1679 (ad 150) = rw7 G v9 := (hp_1680 (ad 150) ).trans f_1715
  have f_1717 : F_1681 (ad 150) = rw7 G v9 := (hp_1682 (ad 150) ).trans f_1716
  have f_1718 : F_1683 (ad 150) = rw7 G v9 := (o_1687 (ad 150) ).trans f_1717
  have f_1719 : F_1692 (ad 150) = rw7 G v9 := (hp_1693 (ad 150) ).trans f_1718
  have f_1720 : F_1696 (ad 150) = rw7 G v9 := (hp_1697.2 (ad 150) (fun i hS => hin 150 i (by omega) (by omega) (by omega))).trans f_1719
  have f_1721 : F_1705 (ad 150) = rw7 G v9 := (h_1712 (ad 150) (fun i hS => hin 150 i (by omega) (by omega) (by omega))).trans f_1720
  exact r_i C0 hr hlk hw (v := (lowR (ordR 99 f9 g9 A.1.1 A.1.2.2.2.2.2))) rfl ⟨rfl, ⟨f_1714, h_1709, (hp_1697.1.keep (fun i0 hi => (h_1712 (ad (i0)) (fun i hS => hin (i0) i (by omega) (by omega) (by omega))))), (hsn.keep (fun i0 hi => ((h_1712 (ad (i0)) (fun i hS => hin (i0) i (by omega) (by omega) (by omega)))).trans (((hp_1697.2 (ad (i0)) (fun i hS => hin (i0) i (by omega) (by omega) (by omega)))).trans (((hp_1693 (ad (i0)) )).trans (((o_1687 (ad (i0)) )).trans (((hp_1682 (ad (i0)) )).trans (((hp_1680 (ad (i0)) )).trans ((hp_1678 (ad (i0)) ))))))))), (htx.keep (fun i0 hi => ((h_1712 (ad (i0)) (fun i hS => hin (i0) i (by omega) (by omega) (by omega)))).trans (((hp_1697.2 (ad (i0)) (fun i hS => hin (i0) i (by omega) (by omega) (by omega)))).trans (((hp_1693 (ad (i0)) )).trans (((o_1687 (ad (i0)) )).trans (((hp_1682 (ad (i0)) )).trans (((hp_1680 (ad (i0)) )).trans ((hp_1678 (ad (i0)) ))))))))), h_1710, ⟨_, h_1711⟩, ⟨_, f_1721⟩⟩, (fun q hq => ((h_1712 q (fun i hS => hq i (by omega))).trans ((hp_1697.2 q (fun i hS => hq i (by omega))).trans ((hp_1693 q ).trans ((o_1687 q ).trans ((hp_1682 q ).trans ((hp_1680 q ).trans (hp_1678 q ))))))))⟩ (Nat.le_refl _) (Nat.le_refl _) dX5_orderAlone_41 hQ
set_option maxHeartbeats 4000000 in
set_option maxRecDepth 100000 in
theorem c_X5_orderAlone_105 (l : Launch) (G : Gl) (L : List Nat) (F : Nat → va_E) (ad : Nat → Nat) (hL : ∀ i, i < 166 → ad i ∈ L) (hin : ∀ i j, i < 166 → j < 166 → i ≠ j → ad i ≠ ad j) (A : AB) (f9 g9 t9 : Nat) (hf9 : f9 < 6) (hg9 : g9 < 6) (ht9 : t9 < 6) (hm : 4 * A.1.1 ≤ A.1.2.1) (hX : XW G F ad A) (hA : okA A) : CI l yX5_orderAlone cX5_orderAlone 5 (some .int) rm_X5_orderAlone G L F [.ref (ad 0), .int (nI (105)), .int (nI (f9)), .int (nI (g9)), .int (nI (t9))] (fun r F1 => r = lowR (ordR 105 f9 g9 A.1.1 A.1.2.2.2.2.2) ∧ XW G F1 ad (aSave A (ordS 105 f9 g9 t9 A.1)) ∧ ∀ q, (∀ i, (i < 166) → q ≠ ad i) → F1 q = F q) := by
  obtain ⟨fx, hn, hh, hsn, htx, hrk, ⟨u9, h134⟩, ⟨v9, h150⟩⟩ := hX
  obtain ⟨⟨hc2, hc, hpu, hok⟩, ⟨hh6, hho⟩, hso, hl60, hco⟩ := id hA
  refine CG_of (by decide) (Nat.le_of_ble_eq_true rfl) rfl ?_
  intro p e s m args below meth c Q C0 hr hlk hnm hQ hw ls hl
  have hx := C0.x
  have hb := C0.b
  refine lv_iload_n hx hb dX5_orderAlone_0 rfl (lv_at hl 2 rfl) ?_
  refine q_callv hw (q_runS (As := [.int (nI (f9))]) (c_X5_needSlot l G L F f9 (by omega)) C0 hw sw_X5_78 rfl hl.1 rfl (Nat.le_of_ble_eq_true rfl) dX5_orderAlone_1 ⟨by decide, by decide⟩ ⟨by decide, by decide⟩) rfl rfl (fun F_1722 H locs hw hp_1723 => ?_)
  refine lv_iload_n hx hb dX5_orderAlone_4 rfl (lv_at hl 3 rfl) ?_
  refine q_callv hw (q_runS (As := [.int (nI (g9))]) (c_X5_needSlot l G L F_1722 g9 (by omega)) C0 hw sw_X5_78 rfl hl.1 rfl (Nat.le_of_ble_eq_true rfl) dX5_orderAlone_5 ⟨by decide, by decide⟩ ⟨by decide, by decide⟩) rfl rfl (fun F_1724 H locs hw hp_1725 => ?_)
  refine lv_iload hx hb dX5_orderAlone_8 (lv_at hl 4 rfl) ?_
  refine q_callv hw (q_runS (As := [.int (nI (t9))]) (c_X5_needSlot l G L F_1724 t9 (by omega)) C0 hw sw_X5_78 rfl hl.1 rfl (Nat.le_of_ble_eq_true rfl) dX5_orderAlone_10 ⟨by decide, by decide⟩ ⟨by decide, by decide⟩) rfl rfl (fun F_1726 H locs hw hp_1727 => ?_)
  refine lv_aload_n hx hb dX5_orderAlone_13 rfl (lv_at hl 0 rfl) ?_
  refine lv_iload_n hx hb dX5_orderAlone_14 rfl (lv_at hl 1 rfl) ?_
  refine q_calli hw (q_runS (As := [.int (nI (105))]) (c_X5_unitsOf_105 l G L F_1726 ) C0 hw sw_X5_225 rfl hl.1 rfl (Nat.le_of_ble_eq_true rfl) dX5_orderAlone_15 ⟨by decide, by decide⟩ ⟨by decide, by decide⟩) rfl rfl (fun r_1730 F_1728 H locs hw hp_1729 => ?_)
  obtain ⟨he_1731, o_1732⟩ := hp_1729
  subst he_1731
  have f_1733 : F_1722 (ad 0) = xO ad := (hp_1723 (ad 0) ).trans fx
  have f_1734 : F_1724 (ad 0) = xO ad := (hp_1725 (ad 0) ).trans f_1733
  have f_1735 : F_1726 (ad 0) = xO ad := (hp_1727 (ad 0) ).trans f_1734
  have f_1736 : F_1728 (ad 0) = xO ad := (o_1732 (ad 0) ).trans f_1735
  refine q_callv hw (q_runV (As := [.int (nI (4))]) (c_X5_needMoney l G L F_1728 ad hL hin 4 A.1 f_1736 (hn.keep (fun i0 hi => ((o_1732 (ad (i0)) )).trans (((hp_1727 (ad (i0)) )).trans (((hp_1725 (ad (i0)) )).trans ((hp_1723 (ad (i0)) )))))) (by omega) (by omega)) C0 hw vw_X5_111 ((hL 0 (by omega))) f_1736 rfl rfl rfl hl.1 rfl (Nat.le_of_ble_eq_true rfl) dX5_orderAlone_18 ⟨by decide, by decide⟩ ⟨by decide, by decide⟩) rfl rfl (fun F_1737 H locs hw hp_1738 => ?_)
  refine lv_aload_n hx hb dX5_orderAlone_21 rfl (lv_at hl 0 rfl) ?_
  have f_1739 : F_1737 (ad 0) = xO ad := (hp_1738 (ad 0) ).trans f_1736
  refine q_get C0 hw ((hL 0 (by omega))) f_1739 fw_X5_19 rfl dX5_orderAlone_22 ?_
  refine lv_aload_n hx hb dX5_orderAlone_25 rfl (lv_at hl 0 rfl) ?_
  refine q_get C0 hw ((hL 0 (by omega))) f_1739 fw_X5_12 rfl dX5_orderAlone_26 ?_
  obtain ⟨_, _, hf_1740, _⟩ := id (hh.keep (fun i0 hi => ((hp_1738 (ad (i0)) )).trans (((o_1732 (ad (i0)) )).trans (((hp_1727 (ad (i0)) )).trans (((hp_1725 (ad (i0)) )).trans ((hp_1723 (ad (i0)) )))))))
  refine q_callv hw (q_runV (As := [.ref (ad 22)]) (c_X0_save l G L F_1737 ad hL hin A.2.1 A.1 (hh.keep (fun i0 hi => ((hp_1738 (ad (i0)) )).trans (((o_1732 (ad (i0)) )).trans (((hp_1727 (ad (i0)) )).trans (((hp_1725 (ad (i0)) )).trans ((hp_1723 (ad (i0)) ))))))) (hn.keep (fun i0 hi => ((hp_1738 (ad (i0)) )).trans (((o_1732 (ad (i0)) )).trans (((hp_1727 (ad (i0)) )).trans (((hp_1725 (ad (i0)) )).trans ((hp_1723 (ad (i0)) )))))))) C0 hw vw_X5_62 ((hL 1 (by omega))) hf_1740 rfl rfl rfl hl.1 rfl (Nat.le_of_ble_eq_true rfl) dX5_orderAlone_29 ⟨by decide, by decide⟩ ⟨by decide, by decide⟩) rfl rfl (fun F_1741 H locs hw hp_1742 => ?_)
  refine lv_aload_n hx hb dX5_orderAlone_32 rfl (lv_at hl 0 rfl) ?_
  refine lv_iload_n hx hb dX5_orderAlone_33 rfl (lv_at hl 1 rfl) ?_
  refine lv_iload_n hx hb dX5_orderAlone_34 rfl (lv_at hl 2 rfl) ?_
  refine lv_iload_n hx hb dX5_orderAlone_35 rfl (lv_at hl 3 rfl) ?_
  refine lv_iload hx hb dX5_orderAlone_36 (lv_at hl 4 rfl) ?_
  have f_1743 : F_1741 (ad 0) = xO ad := (hp_1742.2 (ad 0) (fun i hS => hin 0 i (by omega) (by omega) (by omega))).trans f_1739
  have f_1744 : F_1722 (ad 134) = rw7 G u9 := (hp_1723 (ad 134) ).trans h134
  have f_1745 : F_1724 (ad 134) = rw7 G u9 := (hp_1725 (ad 134) ).trans f_1744
  have f_1746 : F_1726 (ad 134) = rw7 G u9 := (hp_1727 (ad 134) ).trans f_1745
  have f_1747 : F_1728 (ad 134) = rw7 G u9 := (o_1732 (ad 134) ).trans f_1746
  have f_1748 : F_1737 (ad 134) = rw7 G u9 := (hp_1738 (ad 134) ).trans f_1747
  have f_1749 : F_1741 (ad 134) = rw7 G u9 := (hp_1742.2 (ad 134) (fun i hS => hin 134 i (by omega) (by omega) (by omega))).trans f_1748
  refine q_calli hw (q_runV (As := [.int (nI (105)), .int (nI (f9)), .int (nI (g9)), .int (nI (t9))]) (c_X5_carryOut_105 l G L F_1741 ad hL hin f9 g9 t9 A.1 _ f_1743 (hn.keep (fun i0 hi => ((hp_1742.2 (ad (i0)) (fun i hS => hin (i0) i (by omega) (by omega) (by omega)))).trans (((hp_1738 (ad (i0)) )).trans (((o_1732 (ad (i0)) )).trans (((hp_1727 (ad (i0)) )).trans (((hp_1725 (ad (i0)) )).trans ((hp_1723 (ad (i0)) )))))))) (hrk.keep (fun i0 hi => ((hp_1742.2 (ad (i0)) (fun i hS => hin (i0) i (by omega) (by omega) (by omega)))).trans (((hp_1738 (ad (i0)) )).trans (((o_1732 (ad (i0)) )).trans (((hp_1727 (ad (i0)) )).trans (((hp_1725 (ad (i0)) )).trans ((hp_1723 (ad (i0)) )))))))) f_1749 (by omega) (by omega) (by omega) (by omega) (by omega) (by omega) (by omega)) C0 hw vw_X5_299 ((hL 0 (by omega))) f_1743 rfl rfl rfl hl.1 rfl (Nat.le_of_ble_eq_true rfl) dX5_orderAlone_38 ⟨by decide, by decide⟩ ⟨by decide, by decide⟩) rfl rfl (fun r_1752 F_1750 H locs hw hp_1751 => ?_)
  obtain ⟨h_1753, h_1754, h_1755, ⟨u_1758, h_1756⟩, h_1757⟩ := hp_1751
  subst h_1753
  have f_1759 : F_1750 (ad 0) = xO ad := (h_1757 (ad 0) (fun i hS => hin 0 i (by omega) (by omega) (by omega))).trans f_1743
  have f_1760 : F_1722 (ad 150) = rw7 G v9 := (hp_1723 (ad 150) ).trans h150
  have f_1761 : F_1724 (ad 150) = rw7 G v9 := (hp_1725 (ad 150) ).trans f_1760
  have f_1762 : F_1726 (ad 150) = rw7 G v9 := (hp_1727 (ad 150) ).trans f_1761
  have f_1763 : F_1728 (ad 150) = rw7 G v9 := (o_1732 (ad 150) ).trans f_1762
  have f_1764 : F_1737 (ad 150) = rw7 G v9 := (hp_1738 (ad 150) ).trans f_1763
  have f_1765 : F_1741 (ad 150) = rw7 G v9 := (hp_1742.2 (ad 150) (fun i hS => hin 150 i (by omega) (by omega) (by omega))).trans f_1764
  have f_1766 : F_1750 (ad 150) = rw7 G v9 := (h_1757 (ad 150) (fun i hS => hin 150 i (by omega) (by omega) (by omega))).trans f_1765
  exact r_i C0 hr hlk hw (v := (lowR (ordR 105 f9 g9 A.1.1 A.1.2.2.2.2.2))) rfl ⟨rfl, ⟨f_1759, h_1754, (hp_1742.1.keep (fun i0 hi => (h_1757 (ad (i0)) (fun i hS => hin (i0) i (by omega) (by omega) (by omega))))), (hsn.keep (fun i0 hi => ((h_1757 (ad (i0)) (fun i hS => hin (i0) i (by omega) (by omega) (by omega)))).trans (((hp_1742.2 (ad (i0)) (fun i hS => hin (i0) i (by omega) (by omega) (by omega)))).trans (((hp_1738 (ad (i0)) )).trans (((o_1732 (ad (i0)) )).trans (((hp_1727 (ad (i0)) )).trans (((hp_1725 (ad (i0)) )).trans ((hp_1723 (ad (i0)) ))))))))), (htx.keep (fun i0 hi => ((h_1757 (ad (i0)) (fun i hS => hin (i0) i (by omega) (by omega) (by omega)))).trans (((hp_1742.2 (ad (i0)) (fun i hS => hin (i0) i (by omega) (by omega) (by omega)))).trans (((hp_1738 (ad (i0)) )).trans (((o_1732 (ad (i0)) )).trans (((hp_1727 (ad (i0)) )).trans (((hp_1725 (ad (i0)) )).trans ((hp_1723 (ad (i0)) ))))))))), h_1755, ⟨_, h_1756⟩, ⟨_, f_1766⟩⟩, (fun q hq => ((h_1757 q (fun i hS => hq i (by omega))).trans ((hp_1742.2 q (fun i hS => hq i (by omega))).trans ((hp_1738 q ).trans ((o_1732 q ).trans ((hp_1727 q ).trans ((hp_1725 q ).trans (hp_1723 q ))))))))⟩ (Nat.le_refl _) (Nat.le_refl _) dX5_orderAlone_41 hQ
abbrev rm_X5_bracket : Room := { frames := 6, cells := 0, slots := 0, locals := 164 }
set_option maxHeartbeats 4000000 in
set_option maxRecDepth 100000 in
theorem c_X5_bracket (l : Launch) (G : Gl) (L : List Nat) (F : Nat → va_E) (ad : Nat → Nat) (hL : ∀ i, i < 166 → ad i ∈ L) (hin : ∀ i j, i < 166 → j < 166 → i ≠ j → ad i ≠ ad j) (A : AB) (f9 g9 t9 : Nat) (hf9 : f9 < 6) (hg9 : g9 < 6) (ht9 : t9 < 6) (hm : 2 * A.1.1 ≤ A.1.2.1) (hX : XW G F ad A) (hA : okA A) : CI l yX5_bracket cX5_bracket 4 (some .int) rm_X5_bracket G L F [.ref (ad 0), .int (nI (f9)), .int (nI (g9)), .int (nI (t9))] (fun r F1 => r = lowR (ordR 98 f9 g9 A.1.1 A.1.2.2.2.2.2) ∧ XW G F1 ad (aSave A (ordS 98 f9 g9 t9 A.1)) ∧ ∀ q, (∀ i, (i < 166) → q ≠ ad i) → F1 q = F q) := by
  obtain ⟨fx, hn, hh, hsn, htx, hrk, ⟨u9, h134⟩, ⟨v9, h150⟩⟩ := id hX
  obtain ⟨⟨hc2, hc, hpu, hok⟩, ⟨hh6, hho⟩, hso, hl60, hco⟩ := id hA
  refine CG_of (by decide) (Nat.le_of_ble_eq_true rfl) rfl ?_
  intro p e s m args below meth c Q C0 hr hlk hnm hQ hw ls hl
  have hx := C0.x
  have hb := C0.b
  refine lv_aload_n hx hb dX5_bracket_0 rfl (lv_at hl 0 rfl) ?_
  refine lv_bipush (v := nI 98) hx hb dX5_bracket_1 (by decide) ?_
  refine lv_iload_n hx hb dX5_bracket_3 rfl (lv_at hl 1 rfl) ?_
  refine lv_iload_n hx hb dX5_bracket_4 rfl (lv_at hl 2 rfl) ?_
  refine lv_iload_n hx hb dX5_bracket_5 rfl (lv_at hl 3 rfl) ?_
  refine q_calli hw (q_runV (As := [.int (nI (98)), .int (nI (f9)), .int (nI (g9)), .int (nI (t9))]) (c_X5_orderAlone_98 l G L F ad hL hin A f9 g9 t9 (by omega) (by omega) (by omega) (by omega) hX hA) C0 hw vw_X5_107 ((hL 0 (by omega))) fx rfl rfl rfl hl.1 rfl (Nat.le_of_ble_eq_true rfl) dX5_bracket_6 ⟨by decide, by decide⟩ ⟨by decide, by decide⟩) rfl rfl (fun r_1769 F_1767 H locs hw hp_1768 => ?_)
  obtain ⟨h_1770, h_1771, h_1772⟩ := hp_1768
  subst h_1770
  exact r_i C0 hr hlk hw (v := (lowR (ordR 98 f9 g9 A.1.1 A.1.2.2.2.2.2))) rfl ⟨rfl, h_1771, (fun q hq => (h_1772 q (fun i hS => hq i (by omega))))⟩ (Nat.le_refl _) (Nat.le_refl _) dX5_bracket_9 hQ
abbrev rm_X5_sum : Room := { frames := 6, cells := 0, slots := 0, locals := 164 }
set_option maxHeartbeats 4000000 in
set_option maxRecDepth 100000 in
theorem c_X5_sum (l : Launch) (G : Gl) (L : List Nat) (F : Nat → va_E) (ad : Nat → Nat) (hL : ∀ i, i < 166 → ad i ∈ L) (hin : ∀ i j, i < 166 → j < 166 → i ≠ j → ad i ≠ ad j) (A : AB) (f9 g9 t9 : Nat) (hf9 : f9 < 6) (hg9 : g9 < 6) (ht9 : t9 < 6) (hm : 1 * A.1.1 ≤ A.1.2.1) (hX : XW G F ad A) (hA : okA A) : CI l yX5_sum cX5_sum 4 (some .int) rm_X5_sum G L F [.ref (ad 0), .int (nI (f9)), .int (nI (g9)), .int (nI (t9))] (fun r F1 => r = lowR (ordR 115 f9 g9 A.1.1 A.1.2.2.2.2.2) ∧ XW G F1 ad (aSave A (ordS 115 f9 g9 t9 A.1)) ∧ ∀ q, (∀ i, (i < 166) → q ≠ ad i) → F1 q = F q) := by
  obtain ⟨fx, hn, hh, hsn, htx, hrk, ⟨u9, h134⟩, ⟨v9, h150⟩⟩ := id hX
  obtain ⟨⟨hc2, hc, hpu, hok⟩, ⟨hh6, hho⟩, hso, hl60, hco⟩ := id hA
  refine CG_of (by decide) (Nat.le_of_ble_eq_true rfl) rfl ?_
  intro p e s m args below meth c Q C0 hr hlk hnm hQ hw ls hl
  have hx := C0.x
  have hb := C0.b
  refine lv_aload_n hx hb dX5_sum_0 rfl (lv_at hl 0 rfl) ?_
  refine lv_bipush (v := nI 115) hx hb dX5_sum_1 (by decide) ?_
  refine lv_iload_n hx hb dX5_sum_3 rfl (lv_at hl 1 rfl) ?_
  refine lv_iload_n hx hb dX5_sum_4 rfl (lv_at hl 2 rfl) ?_
  refine lv_iload_n hx hb dX5_sum_5 rfl (lv_at hl 3 rfl) ?_
  refine q_calli hw (q_runV (As := [.int (nI (115)), .int (nI (f9)), .int (nI (g9)), .int (nI (t9))]) (c_X5_orderAlone_115 l G L F ad hL hin A f9 g9 t9 (by omega) (by omega) (by omega) (by omega) hX hA) C0 hw vw_X5_107 ((hL 0 (by omega))) fx rfl rfl rfl hl.1 rfl (Nat.le_of_ble_eq_true rfl) dX5_sum_6 ⟨by decide, by decide⟩ ⟨by decide, by decide⟩) rfl rfl (fun r_1775 F_1773 H locs hw hp_1774 => ?_)
  obtain ⟨h_1776, h_1777, h_1778⟩ := hp_1774
  subst h_1776
  exact r_i C0 hr hlk hw (v := (lowR (ordR 115 f9 g9 A.1.1 A.1.2.2.2.2.2))) rfl ⟨rfl, h_1777, (fun q hq => (h_1778 q (fun i hS => hq i (by omega))))⟩ (Nat.le_refl _) (Nat.le_refl _) dX5_sum_9 hQ
abbrev rm_X5_byBrackets : Room := { frames := 6, cells := 0, slots := 0, locals := 164 }
set_option maxHeartbeats 4000000 in
set_option maxRecDepth 100000 in
theorem c_X5_byBrackets (l : Launch) (G : Gl) (L : List Nat) (F : Nat → va_E) (ad : Nat → Nat) (hL : ∀ i, i < 166 → ad i ∈ L) (hin : ∀ i j, i < 166 → j < 166 → i ≠ j → ad i ≠ ad j) (A : AB) (f9 g9 t9 : Nat) (hf9 : f9 < 6) (hg9 : g9 < 6) (ht9 : t9 < 6) (hm : 20 * A.1.1 ≤ A.1.2.1) (hX : XW G F ad A) (hA : okA A) : CI l yX5_byBrackets cX5_byBrackets 4 (some .int) rm_X5_byBrackets G L F [.ref (ad 0), .int (nI (f9)), .int (nI (g9)), .int (nI (t9))] (fun r F1 => r = lowR (ordR 119 f9 g9 A.1.1 A.1.2.2.2.2.2) ∧ XW G F1 ad (aSave A (ordS 119 f9 g9 t9 A.1)) ∧ ∀ q, (∀ i, (i < 166) → q ≠ ad i) → F1 q = F q) := by
  obtain ⟨fx, hn, hh, hsn, htx, hrk, ⟨u9, h134⟩, ⟨v9, h150⟩⟩ := id hX
  obtain ⟨⟨hc2, hc, hpu, hok⟩, ⟨hh6, hho⟩, hso, hl60, hco⟩ := id hA
  refine CG_of (by decide) (Nat.le_of_ble_eq_true rfl) rfl ?_
  intro p e s m args below meth c Q C0 hr hlk hnm hQ hw ls hl
  have hx := C0.x
  have hb := C0.b
  refine lv_aload_n hx hb dX5_byBrackets_0 rfl (lv_at hl 0 rfl) ?_
  refine lv_bipush (v := nI 119) hx hb dX5_byBrackets_1 (by decide) ?_
  refine lv_iload_n hx hb dX5_byBrackets_3 rfl (lv_at hl 1 rfl) ?_
  refine lv_iload_n hx hb dX5_byBrackets_4 rfl (lv_at hl 2 rfl) ?_
  refine lv_iload_n hx hb dX5_byBrackets_5 rfl (lv_at hl 3 rfl) ?_
  refine q_calli hw (q_runV (As := [.int (nI (119)), .int (nI (f9)), .int (nI (g9)), .int (nI (t9))]) (c_X5_orderAlone_119 l G L F ad hL hin A f9 g9 t9 (by omega) (by omega) (by omega) (by omega) hX hA) C0 hw vw_X5_107 ((hL 0 (by omega))) fx rfl rfl rfl hl.1 rfl (Nat.le_of_ble_eq_true rfl) dX5_byBrackets_6 ⟨by decide, by decide⟩ ⟨by decide, by decide⟩) rfl rfl (fun r_1781 F_1779 H locs hw hp_1780 => ?_)
  obtain ⟨h_1782, h_1783, h_1784⟩ := hp_1780
  subst h_1782
  exact r_i C0 hr hlk hw (v := (lowR (ordR 119 f9 g9 A.1.1 A.1.2.2.2.2.2))) rfl ⟨rfl, h_1783, (fun q hq => (h_1784 q (fun i hS => hq i (by omega))))⟩ (Nat.le_refl _) (Nat.le_refl _) dX5_byBrackets_9 hQ
abbrev rm_X5_push : Room := { frames := 6, cells := 0, slots := 0, locals := 164 }
set_option maxHeartbeats 4000000 in
set_option maxRecDepth 100000 in
theorem c_X5_push (l : Launch) (G : Gl) (L : List Nat) (F : Nat → va_E) (ad : Nat → Nat) (hL : ∀ i, i < 166 → ad i ∈ L) (hin : ∀ i j, i < 166 → j < 166 → i ≠ j → ad i ≠ ad j) (A : AB) (f9 g9 t9 : Nat) (hf9 : f9 < 6) (hg9 : g9 < 6) (ht9 : t9 < 6) (hm : 6 * A.1.1 ≤ A.1.2.1) (hX : XW G F ad A) (hA : okA A) : CI l yX5_push cX5_push 4 (some .int) rm_X5_push G L F [.ref (ad 0), .int (nI (f9)), .int (nI (g9)), .int (nI (t9))] (fun r F1 => r = lowR (ordR 112 f9 g9 A.1.1 A.1.2.2.2.2.2) ∧ XW G F1 ad (aSave A (ordS 112 f9 g9 t9 A.1)) ∧ ∀ q, (∀ i, (i < 166) → q ≠ ad i) → F1 q = F q) := by
  obtain ⟨fx, hn, hh, hsn, htx, hrk, ⟨u9, h134⟩, ⟨v9, h150⟩⟩ := id hX
  obtain ⟨⟨hc2, hc, hpu, hok⟩, ⟨hh6, hho⟩, hso, hl60, hco⟩ := id hA
  refine CG_of (by decide) (Nat.le_of_ble_eq_true rfl) rfl ?_
  intro p e s m args below meth c Q C0 hr hlk hnm hQ hw ls hl
  have hx := C0.x
  have hb := C0.b
  refine lv_aload_n hx hb dX5_push_0 rfl (lv_at hl 0 rfl) ?_
  refine lv_bipush (v := nI 112) hx hb dX5_push_1 (by decide) ?_
  refine lv_iload_n hx hb dX5_push_3 rfl (lv_at hl 1 rfl) ?_
  refine lv_iload_n hx hb dX5_push_4 rfl (lv_at hl 2 rfl) ?_
  refine lv_iload_n hx hb dX5_push_5 rfl (lv_at hl 3 rfl) ?_
  refine q_calli hw (q_runV (As := [.int (nI (112)), .int (nI (f9)), .int (nI (g9)), .int (nI (t9))]) (c_X5_orderAlone_112 l G L F ad hL hin A f9 g9 t9 (by omega) (by omega) (by omega) (by omega) hX hA) C0 hw vw_X5_107 ((hL 0 (by omega))) fx rfl rfl rfl hl.1 rfl (Nat.le_of_ble_eq_true rfl) dX5_push_6 ⟨by decide, by decide⟩ ⟨by decide, by decide⟩) rfl rfl (fun r_1787 F_1785 H locs hw hp_1786 => ?_)
  obtain ⟨h_1788, h_1789, h_1790⟩ := hp_1786
  subst h_1788
  exact r_i C0 hr hlk hw (v := (lowR (ordR 112 f9 g9 A.1.1 A.1.2.2.2.2.2))) rfl ⟨rfl, h_1789, (fun q hq => (h_1790 q (fun i hS => hq i (by omega))))⟩ (Nat.le_refl _) (Nat.le_refl _) dX5_push_9 hQ
abbrev rm_X5_log : Room := { frames := 6, cells := 0, slots := 0, locals := 164 }
set_option maxHeartbeats 4000000 in
set_option maxRecDepth 100000 in
theorem c_X5_log (l : Launch) (G : Gl) (L : List Nat) (F : Nat → va_E) (ad : Nat → Nat) (hL : ∀ i, i < 166 → ad i ∈ L) (hin : ∀ i j, i < 166 → j < 166 → i ≠ j → ad i ≠ ad j) (A : AB) (f9 t9 : Nat) (hf9 : f9 < 6) (ht9 : t9 < 6) (hm : 6 * A.1.1 ≤ A.1.2.1) (hX : XW G F ad A) (hA : okA A) : CI l yX5_log cX5_log 3 (some .int) rm_X5_log G L F [.ref (ad 0), .int (nI (f9)), .int (nI (t9))] (fun r F1 => r = lowR (ordR 108 f9 f9 A.1.1 A.1.2.2.2.2.2) ∧ XW G F1 ad (aSave A (ordS 108 f9 f9 t9 A.1)) ∧ ∀ q, (∀ i, (i < 166) → q ≠ ad i) → F1 q = F q) := by
  obtain ⟨fx, hn, hh, hsn, htx, hrk, ⟨u9, h134⟩, ⟨v9, h150⟩⟩ := id hX
  obtain ⟨⟨hc2, hc, hpu, hok⟩, ⟨hh6, hho⟩, hso, hl60, hco⟩ := id hA
  refine CG_of (by decide) (Nat.le_of_ble_eq_true rfl) rfl ?_
  intro p e s m args below meth c Q C0 hr hlk hnm hQ hw ls hl
  have hx := C0.x
  have hb := C0.b
  refine lv_aload_n hx hb dX5_log_0 rfl (lv_at hl 0 rfl) ?_
  refine lv_bipush (v := nI 108) hx hb dX5_log_1 (by decide) ?_
  refine lv_iload_n hx hb dX5_log_3 rfl (lv_at hl 1 rfl) ?_
  refine lv_iload_n hx hb dX5_log_4 rfl (lv_at hl 1 rfl) ?_
  refine lv_iload_n hx hb dX5_log_5 rfl (lv_at hl 2 rfl) ?_
  refine q_calli hw (q_runV (As := [.int (nI (108)), .int (nI (f9)), .int (nI (f9)), .int (nI (t9))]) (c_X5_orderAlone_108 l G L F ad hL hin A f9 f9 t9 (by omega) (by omega) (by omega) (by omega) hX hA) C0 hw vw_X5_107 ((hL 0 (by omega))) fx rfl rfl rfl hl.1 rfl (Nat.le_of_ble_eq_true rfl) dX5_log_6 ⟨by decide, by decide⟩ ⟨by decide, by decide⟩) rfl rfl (fun r_1793 F_1791 H locs hw hp_1792 => ?_)
  obtain ⟨h_1794, h_1795, h_1796⟩ := hp_1792
  subst h_1794
  exact r_i C0 hr hlk hw (v := (lowR (ordR 108 f9 f9 A.1.1 A.1.2.2.2.2.2))) rfl ⟨rfl, h_1795, (fun q hq => (h_1796 q (fun i hS => hq i (by omega))))⟩ (Nat.le_refl _) (Nat.le_refl _) dX5_log_9 hQ
abbrev rm_X5_exp : Room := { frames := 6, cells := 0, slots := 0, locals := 164 }
set_option maxHeartbeats 4000000 in
set_option maxRecDepth 100000 in
theorem c_X5_exp (l : Launch) (G : Gl) (L : List Nat) (F : Nat → va_E) (ad : Nat → Nat) (hL : ∀ i, i < 166 → ad i ∈ L) (hin : ∀ i j, i < 166 → j < 166 → i ≠ j → ad i ≠ ad j) (A : AB) (f9 t9 : Nat) (hf9 : f9 < 6) (ht9 : t9 < 6) (hm : 5 * A.1.1 ≤ A.1.2.1) (hX : XW G F ad A) (hA : okA A) : CI l yX5_exp cX5_exp 3 (some .int) rm_X5_exp G L F [.ref (ad 0), .int (nI (f9)), .int (nI (t9))] (fun r F1 => r = lowR (ordR 101 f9 f9 A.1.1 A.1.2.2.2.2.2) ∧ XW G F1 ad (aSave A (ordS 101 f9 f9 t9 A.1)) ∧ ∀ q, (∀ i, (i < 166) → q ≠ ad i) → F1 q = F q) := by
  obtain ⟨fx, hn, hh, hsn, htx, hrk, ⟨u9, h134⟩, ⟨v9, h150⟩⟩ := id hX
  obtain ⟨⟨hc2, hc, hpu, hok⟩, ⟨hh6, hho⟩, hso, hl60, hco⟩ := id hA
  refine CG_of (by decide) (Nat.le_of_ble_eq_true rfl) rfl ?_
  intro p e s m args below meth c Q C0 hr hlk hnm hQ hw ls hl
  have hx := C0.x
  have hb := C0.b
  refine lv_aload_n hx hb dX5_exp_0 rfl (lv_at hl 0 rfl) ?_
  refine lv_bipush (v := nI 101) hx hb dX5_exp_1 (by decide) ?_
  refine lv_iload_n hx hb dX5_exp_3 rfl (lv_at hl 1 rfl) ?_
  refine lv_iload_n hx hb dX5_exp_4 rfl (lv_at hl 1 rfl) ?_
  refine lv_iload_n hx hb dX5_exp_5 rfl (lv_at hl 2 rfl) ?_
  refine q_calli hw (q_runV (As := [.int (nI (101)), .int (nI (f9)), .int (nI (f9)), .int (nI (t9))]) (c_X5_orderAlone_101 l G L F ad hL hin A f9 f9 t9 (by omega) (by omega) (by omega) (by omega) hX hA) C0 hw vw_X5_107 ((hL 0 (by omega))) fx rfl rfl rfl hl.1 rfl (Nat.le_of_ble_eq_true rfl) dX5_exp_6 ⟨by decide, by decide⟩ ⟨by decide, by decide⟩) rfl rfl (fun r_1799 F_1797 H locs hw hp_1798 => ?_)
  obtain ⟨h_1800, h_1801, h_1802⟩ := hp_1798
  subst h_1800
  exact r_i C0 hr hlk hw (v := (lowR (ordR 101 f9 f9 A.1.1 A.1.2.2.2.2.2))) rfl ⟨rfl, h_1801, (fun q hq => (h_1802 q (fun i hS => hq i (by omega))))⟩ (Nat.le_refl _) (Nat.le_refl _) dX5_exp_9 hQ
abbrev rm_X5_compose : Room := { frames := 6, cells := 0, slots := 0, locals := 164 }
set_option maxHeartbeats 4000000 in
set_option maxRecDepth 100000 in
theorem c_X5_compose (l : Launch) (G : Gl) (L : List Nat) (F : Nat → va_E) (ad : Nat → Nat) (hL : ∀ i, i < 166 → ad i ∈ L) (hin : ∀ i j, i < 166 → j < 166 → i ≠ j → ad i ≠ ad j) (A : AB) (f9 g9 t9 : Nat) (hf9 : f9 < 6) (hg9 : g9 < 6) (ht9 : t9 < 6) (hm : 4 * A.1.1 ≤ A.1.2.1) (hX : XW G F ad A) (hA : okA A) : CI l yX5_compose cX5_compose 4 (some .int) rm_X5_compose G L F [.ref (ad 0), .int (nI (f9)), .int (nI (g9)), .int (nI (t9))] (fun r F1 => r = lowR (ordR 99 f9 g9 A.1.1 A.1.2.2.2.2.2) ∧ XW G F1 ad (aSave A (ordS 99 f9 g9 t9 A.1)) ∧ ∀ q, (∀ i, (i < 166) → q ≠ ad i) → F1 q = F q) := by
  obtain ⟨fx, hn, hh, hsn, htx, hrk, ⟨u9, h134⟩, ⟨v9, h150⟩⟩ := id hX
  obtain ⟨⟨hc2, hc, hpu, hok⟩, ⟨hh6, hho⟩, hso, hl60, hco⟩ := id hA
  refine CG_of (by decide) (Nat.le_of_ble_eq_true rfl) rfl ?_
  intro p e s m args below meth c Q C0 hr hlk hnm hQ hw ls hl
  have hx := C0.x
  have hb := C0.b
  refine lv_aload_n hx hb dX5_compose_0 rfl (lv_at hl 0 rfl) ?_
  refine lv_bipush (v := nI 99) hx hb dX5_compose_1 (by decide) ?_
  refine lv_iload_n hx hb dX5_compose_3 rfl (lv_at hl 1 rfl) ?_
  refine lv_iload_n hx hb dX5_compose_4 rfl (lv_at hl 2 rfl) ?_
  refine lv_iload_n hx hb dX5_compose_5 rfl (lv_at hl 3 rfl) ?_
  refine q_calli hw (q_runV (As := [.int (nI (99)), .int (nI (f9)), .int (nI (g9)), .int (nI (t9))]) (c_X5_orderAlone_99 l G L F ad hL hin A f9 g9 t9 (by omega) (by omega) (by omega) (by omega) hX hA) C0 hw vw_X5_107 ((hL 0 (by omega))) fx rfl rfl rfl hl.1 rfl (Nat.le_of_ble_eq_true rfl) dX5_compose_6 ⟨by decide, by decide⟩ ⟨by decide, by decide⟩) rfl rfl (fun r_1805 F_1803 H locs hw hp_1804 => ?_)
  obtain ⟨h_1806, h_1807, h_1808⟩ := hp_1804
  subst h_1806
  exact r_i C0 hr hlk hw (v := (lowR (ordR 99 f9 g9 A.1.1 A.1.2.2.2.2.2))) rfl ⟨rfl, h_1807, (fun q hq => (h_1808 q (fun i hS => hq i (by omega))))⟩ (Nat.le_refl _) (Nat.le_refl _) dX5_compose_9 hQ
abbrev rm_X5_invert : Room := { frames := 6, cells := 0, slots := 0, locals := 164 }
set_option maxHeartbeats 4000000 in
set_option maxRecDepth 100000 in
theorem c_X5_invert (l : Launch) (G : Gl) (L : List Nat) (F : Nat → va_E) (ad : Nat → Nat) (hL : ∀ i, i < 166 → ad i ∈ L) (hin : ∀ i j, i < 166 → j < 166 → i ≠ j → ad i ≠ ad j) (A : AB) (f9 t9 : Nat) (hf9 : f9 < 6) (ht9 : t9 < 6) (hm : 4 * A.1.1 ≤ A.1.2.1) (hX : XW G F ad A) (hA : okA A) : CI l yX5_invert cX5_invert 3 (some .int) rm_X5_invert G L F [.ref (ad 0), .int (nI (f9)), .int (nI (t9))] (fun r F1 => r = lowR (ordR 105 f9 f9 A.1.1 A.1.2.2.2.2.2) ∧ XW G F1 ad (aSave A (ordS 105 f9 f9 t9 A.1)) ∧ ∀ q, (∀ i, (i < 166) → q ≠ ad i) → F1 q = F q) := by
  obtain ⟨fx, hn, hh, hsn, htx, hrk, ⟨u9, h134⟩, ⟨v9, h150⟩⟩ := id hX
  obtain ⟨⟨hc2, hc, hpu, hok⟩, ⟨hh6, hho⟩, hso, hl60, hco⟩ := id hA
  refine CG_of (by decide) (Nat.le_of_ble_eq_true rfl) rfl ?_
  intro p e s m args below meth c Q C0 hr hlk hnm hQ hw ls hl
  have hx := C0.x
  have hb := C0.b
  refine lv_aload_n hx hb dX5_invert_0 rfl (lv_at hl 0 rfl) ?_
  refine lv_bipush (v := nI 105) hx hb dX5_invert_1 (by decide) ?_
  refine lv_iload_n hx hb dX5_invert_3 rfl (lv_at hl 1 rfl) ?_
  refine lv_iload_n hx hb dX5_invert_4 rfl (lv_at hl 1 rfl) ?_
  refine lv_iload_n hx hb dX5_invert_5 rfl (lv_at hl 2 rfl) ?_
  refine q_calli hw (q_runV (As := [.int (nI (105)), .int (nI (f9)), .int (nI (f9)), .int (nI (t9))]) (c_X5_orderAlone_105 l G L F ad hL hin A f9 f9 t9 (by omega) (by omega) (by omega) (by omega) hX hA) C0 hw vw_X5_107 ((hL 0 (by omega))) fx rfl rfl rfl hl.1 rfl (Nat.le_of_ble_eq_true rfl) dX5_invert_6 ⟨by decide, by decide⟩ ⟨by decide, by decide⟩) rfl rfl (fun r_1811 F_1809 H locs hw hp_1810 => ?_)
  obtain ⟨h_1812, h_1813, h_1814⟩ := hp_1810
  subst h_1812
  exact r_i C0 hr hlk hw (v := (lowR (ordR 105 f9 f9 A.1.1 A.1.2.2.2.2.2))) rfl ⟨rfl, h_1813, (fun q hq => (h_1814 q (fun i hS => hq i (by omega))))⟩ (Nat.le_refl _) (Nat.le_refl _) dX5_invert_9 hQ
