theorem shp_mv {G : Gl} {F : Nat → va_E} {n n2 : Nat → Nat} {tb cu : Nat} {r : Rws} (e : ∀ i, 1 ≤ i → n2 (tb + i) = n (0 + i)) (h : shp G F n 0 cu r) : shp G F n2 tb cu r := by
  obtain ⟨h1, h2, h3, h4⟩ := h
  have q : ∀ k, (fun i => n2 (tb + (k + 1) + i)) = (fun i => n (0 + (k + 1) + i)) := fun k => funext fun i => by rw [show tb + (k + 1) + i = tb + (k + 1 + i) by omega, show 0 + (k + 1) + i = 0 + (k + 1 + i) by omega]; exact e (k + 1 + i) (by omega)
  refine ⟨?_, ?_, ?_, fun i hi => ?_⟩
  · rw [e 1 (by decide), e 2 (by decide), e 3 (by decide)]; exact h1
  · rw [e 2 (by decide), q 3]; exact h2
  · rw [e 3 (by decide), q 9]; exact h3
  · rw [show tb + 4 + i = tb + (4 + i) by omega, e (4 + i) (by omega), ← Nat.add_assoc]; exact h4 i hi
abbrev rm_X3_init : Room := { frames := 2, cells := 15, slots := 99, locals := 61 }
set_option maxHeartbeats 4000000 in
set_option maxRecDepth 100000 in
theorem c_X3_init (l : Launch) (G : Gl) (L : List Nat) (F : Nat → va_E) (a : Nat) (ma : a ∈ L) (fa : F a = .inr (3, [.null, .int (nI (0)), .int (nI (0)), .int (nI (0)), .int (nI (0))])) : CN l yX3_init cX3_init 1 rm_X3_init G L F [.ref a] (fun sz L1 F1 => gr L L1 sz ∧ ∃ n : Nat → Nat, n 0 = a ∧ sta G F1 n 0 st0 ∧ (∀ i, 1 ≤ i → i < 16 → sz ≤ n i ∧ n i ∈ L1) ∧ (∀ i j, i < 16 → j < 16 → i ≠ j → n i ≠ n j) ∧ (∀ q ∈ L, q ≠ a → F1 q = F q)) := by
  refine CN_of (by decide) (Nat.le_of_ble_eq_true rfl) rfl ?_
  intro p e s m args below meth c Q C0 hOv hr hlk hnm hQ hw ls hl
  have hx := C0.x
  have hb := C0.b
  have hwS := hw
  have hg0 := gr.rfl (L := L) s.heap.size
  have hlt0 := hw.lt ma
  refine lv_aload_n hx hb dX3_init_0 rfl (lv_at hl 0 rfl) ?_
  refine q_obj C0 hl.1 ob_X3 ob_i ob_c (by decide) (by decide) dX3_init_1 ?_
  refine lv_aload_n hx hb dX3_init_4 rfl (lv_at hl 0 rfl) ?_
  refine k_new C0 hw nw_X3_9 (Nat.le_of_ble_eq_true rfl) (Nat.le_of_ble_eq_true rfl) dX3_init_5 (fun L_2435 F_2436 a_2437 H_2439 g_2438 hw1 => ?_)
  have hge_a_2437 : s.heap.size ≤ a_2437 := Nat.le_trans hw.2.2.1 g_2438.2.2.2.2
  have f_2440 : F_2436 a = .inr (3, [.null, .int (nI (0)), .int (nI (0)), .int (nI (0)), .int (nI (0))]) := (g_2438.2.2.1 a ma).1.trans fa
  have lt_2442 := (g_2438.2.2.1 a ma).2
  have m_2441 : a ∈ L_2435 := g_2438.1.1 a ma
  have hg_2443 := hg0.step g_2438.1 hw.2.2.1
  have C0 := C0.grow g_2438.1 hw.2.2.1
  have hw := hw1
  have m_2444 : a_2437 ∈ L_2435 := g_2438.2.2.2.1
  have f_2445 : F_2436 a_2437 = .inr (2, [.int (nI (0)), .null, .null]) := g_2438.2.1
  refine lv_dup hx hb dX3_init_8 rfl ?_
  refine q_calln hw (fun L1 F1 h => h.1) (q_runI (As := []) (c_X2_init l G L_2435 F_2436 a_2437 m_2444 f_2445) C0 hOv hw iw_X3_11 rfl hl.1 rfl (Nat.le_of_ble_eq_true rfl) dX3_init_9 ⟨by decide, by decide⟩ ⟨by decide, by decide⟩) (fun L_2446 F_2447 H_2449 locs hz_2450 hw1 hp_2448 => ?_)
  have hgs_2451 : s.heap.size ≤ H_2439.size := hw.2.2.1
  obtain ⟨g_2452, n_2453, e_2454, fb_2455, hm_2456, hj_2457, hf_2458⟩ := hp_2448
  have lt_2459 := hw.lt m_2441
  have lt_2460 := hw.lt m_2444
  have f_2461 : F_2447 a = .inr (3, [.null, .int (nI (0)), .int (nI (0)), .int (nI (0)), .int (nI (0))]) := (hf_2458 a m_2441 (by omega)).trans f_2440
  have m_2462 : a ∈ L_2446 := g_2452.1 a m_2441
  have m_2463 : a_2437 ∈ L_2446 := g_2452.1 a_2437 m_2444
  have hg_2464 := hg_2443.step g_2452 hw.2.2.1
  have C0 := C0.grow g_2452 hw.2.2.1
  have hw := hw1
  have mb_2465 : ∀ i, 1 ≤ i → i < 16 → n_2453 i ∈ L_2446 := fun i h1 h2 => by
    by_cases ei : i = 1
    · rw [ei, e_2454]; exact m_2463
    · exact (hm_2456 i (by omega) h2).2
  have gb_2466 : ∀ i, 1 ≤ i → i < 16 → a_2437 ≤ n_2453 i := fun i h1 h2 => by
    by_cases ei : i = 1
    · rw [ei, e_2454]; exact Nat.le_refl _
    · have := (hm_2456 i (by omega) h2).1; omega
  refine q_putF C0 hnm hw m_2462 f_2461 fw_X3_12 pw_X3_0 rfl rfl rfl rfl (Nat.le_of_ble_eq_true rfl) dX3_init_12 (fun F_2467 H locs hw f_2468 o_2469 => ?_)
  have f_2468 : F_2467 a = .inr (3, [.ref a_2437, .int (nI (0)), .int (nI (0)), .int (nI (0)), .int (nI (0))]) := f_2468
  refine lv_aload_n hx hb dX3_init_15 rfl (lv_at hl 0 rfl) ?_
  refine lv_sipush (v := nI 500) hx hb dX3_init_16 (by decide) ?_
  refine q_put C0 hw m_2462 f_2468 fw_X3_18 pw_X3_1 rfl rfl rfl (Nat.le_of_ble_eq_true rfl) dX3_init_19 (fun F_2470 H locs hw f_2471 o_2472 => ?_)
  have f_2471 : F_2470 a = .inr (3, [.ref a_2437, .int (nI (500)), .int (nI (0)), .int (nI (0)), .int (nI (0))]) := f_2471
  have fb_2473 : shp G F_2467 n_2453 0 5 r0 := fb_2455.keep (fun i hi => o_2469 (n_2453 i) (by (have := gb_2466 i (by omega) (by omega); omega)))
  have fb_2474 : shp G F_2470 n_2453 0 5 r0 := fb_2473.keep (fun i hi => o_2472 (n_2453 i) (by (have := gb_2466 i (by omega) (by omega); omega)))
  have hfr_2475 : ∀ q ∈ L, q ≠ a → F_2470 q = F q := by
    intro q hq hne
    have hqlt := hwS.lt hq
    exact ((((o_2472 q (by omega)).trans (o_2469 q (by omega))).trans (hf_2458 q (hg_2443.1 q hq) (by omega))).trans (g_2438.2.2.1 q (hg0.1 q hq)).1)
  obtain ⟨n, en⟩ : ∃ n : Nat → Nat, n = (fun i => if i = 0 then a else n_2453 i) := ⟨_, rfl⟩
  have e0 : n 0 = a := by rw [en]; rfl
  have ei : ∀ i, 1 ≤ i → n i = n_2453 i := fun i hi => by rw [en]; exact if_neg (by omega)
  have hsta : sta G F_2470 n 0 st0 := ⟨by rw [e0, show n (0 + 1) = _ from (ei 1 (by decide)).trans e_2454]; exact f_2471, shp_mv (fun i hi => by rw [Nat.zero_add, ei i hi]) fb_2474⟩
  have hnm9 : ∀ i, 1 ≤ i → i < 16 → s.heap.size ≤ n i ∧ n i ∈ L_2446 := fun i h1 h2 => by rw [ei i h1]; exact ⟨by have := gb_2466 i (by omega) (by omega); omega, mb_2465 i (by omega) h2⟩
  have hinj : ∀ i j, i < 16 → j < 16 → i ≠ j → n i ≠ n j := by
    intro i j hi hj hne
    rcases Nat.eq_zero_or_pos i with rfl | h1 <;> rcases Nat.eq_zero_or_pos j with rfl | h2
    · exact absurd rfl hne
    · rw [e0, ei j h2]; have := gb_2466 j h2 hj; omega
    · rw [e0, ei i h1]; have := gb_2466 i h1 hi; omega
    · rw [ei i h1, ei j h2]; exact hj_2457 i j h1 hi h2 hj hne
  exact r_vN C0 hg_2464 hr hlk hw ⟨hg_2464, n, e0, hsta, hnm9, hinj, hfr_2475⟩ (Nat.le_of_ble_eq_true rfl) (Nat.le_of_ble_eq_true rfl) dX3_init_22 hQ
abbrev rm_X4_init : Room := { frames := 1, cells := 1, slots := 60, locals := 40 }
set_option maxHeartbeats 4000000 in
set_option maxRecDepth 100000 in
theorem c_X4_init (l : Launch) (G : Gl) (L : List Nat) (F : Nat → va_E) (a : Nat) (ma : a ∈ L) (fa : F a = .inr (4, [.null, .int (nI (0))])) : CN l yX4_init cX4_init 1 rm_X4_init G L F [.ref a] (fun sz L1 F1 => gr L L1 sz ∧ ∃ x : Nat, F1 a = tO x 0 ∧ F1 x = .inl (G.2 0, 60, .inl (fun _ => nI 0)) ∧ sz ≤ x ∧ x ∈ L1 ∧ (∀ q ∈ L, q ≠ a → F1 q = F q)) := by
  refine CN_of (by decide) (Nat.le_of_ble_eq_true rfl) rfl ?_
  intro p e s m args below meth c Q C0 hOv hr hlk hnm hQ hw ls hl
  have hx := C0.x
  have hb := C0.b
  have hwS := hw
  have hg0 := gr.rfl (L := L) s.heap.size
  have hlt0 := hw.lt ma
  refine lv_aload_n hx hb dX4_init_0 rfl (lv_at hl 0 rfl) ?_
  refine q_obj C0 hl.1 ob_X4 ob_i ob_c (by decide) (by decide) dX4_init_1 ?_
  refine lv_aload_n hx hb dX4_init_4 rfl (lv_at hl 0 rfl) ?_
  refine lv_bipush (v := nI 60) hx hb dX4_init_5 (by decide) ?_
  refine k_newi C0 hw (by decide) (by decide) (Nat.le_of_ble_eq_true rfl) (Nat.le_of_ble_eq_true rfl) dX4_init_7 (fun L_2476 F_2477 a_2478 H_2480 g_2479 hw1 => ?_)
  have hge_a_2478 : s.heap.size ≤ a_2478 := Nat.le_trans hw.2.2.1 g_2479.2.2.2.2
  have f_2481 : F_2477 a = .inr (4, [.null, .int (nI (0))]) := (g_2479.2.2.1 a ma).1.trans fa
  have lt_2483 := (g_2479.2.2.1 a ma).2
  have m_2482 : a ∈ L_2476 := g_2479.1.1 a ma
  have hg_2484 := hg0.step g_2479.1 hw.2.2.1
  have C0 := C0.grow g_2479.1 hw.2.2.1
  have hw := hw1
  have m_2485 : a_2478 ∈ L_2476 := g_2479.2.2.2.1
  have f_2486 : F_2477 a_2478 = .inl (G.2 0, 60, .inl ((fun _ => nI 0))) := g_2479.2.1
  refine q_putF C0 hnm hw m_2482 f_2481 fw_X4_9 pw_X4_0 rfl rfl rfl rfl (Nat.le_of_ble_eq_true rfl) dX4_init_9 (fun F_2487 H locs hw f_2488 o_2489 => ?_)
  have f_2488 : F_2487 a = .inr (4, [.ref a_2478, .int (nI (0))]) := f_2488
  have hfr_2490 : ∀ q ∈ L, q ≠ a → F_2487 q = F q := by
    intro q hq hne
    have hqlt := hwS.lt hq
    exact ((o_2489 q (by omega)).trans (g_2479.2.2.1 q (hg0.1 q hq)).1)
  have f_2491 : F_2487 a_2478 = .inl (G.2 0, 60, .inl ((fun _ => nI 0))) := (o_2489 a_2478 (by omega)).trans f_2486
  exact r_vN C0 hg_2484 hr hlk hw ⟨hg_2484, a_2478, f_2488, f_2491, by omega, m_2485, hfr_2490⟩ (Nat.le_of_ble_eq_true rfl) (Nat.le_of_ble_eq_true rfl) dX4_init_12 hQ
abbrev rm_X1_init : Room := { frames := 1, cells := 14, slots := 98, locals := 40 }
theorem lt_chain {n : Nat → Nat} {m : Nat} (hs : ∀ k, k < m → n k < n (k + 1)) : ∀ i j, i < j → j ≤ m → n i < n j := by
  intro i j hij
  induction j with
  | zero => exact absurd hij (Nat.not_lt_zero i)
  | succ j ih =>
    intro hj
    have h1 := hs j (by omega)
    rcases Nat.lt_or_ge i j with h | h
    · have h2 := ih h (by omega)
      omega
    · have e : i = j := by omega
      rw [e]
      exact h1
set_option maxHeartbeats 4000000 in
set_option maxRecDepth 100000 in
theorem c_X1_init (l : Launch) (G : Gl) (L : List Nat) (F : Nat → va_E) (a : Nat) (ma : a ∈ L) (fa : F a = .inr (1, [.null, .null, .null, .null, .null, .null, .null, .null, .null, .null, .null, .null, .null, .null])) : CN l yX1_init cX1_init 1 rm_X1_init G L F [.ref a] (fun sz L1 F1 => gr L L1 sz ∧ ∃ n : Nat → Nat, F1 a = rkO n ∧ (∀ i, i < 14 → F1 (n i) = rw7 G (fun _ => zc 0)) ∧ (∀ i, i < 14 → sz ≤ n i ∧ n i ∈ L1) ∧ (∀ i j, i < 14 → j < 14 → i ≠ j → n i ≠ n j) ∧ (∀ q ∈ L, q ≠ a → F1 q = F q)) := by
  refine CN_of (by decide) (Nat.le_of_ble_eq_true rfl) rfl ?_
  intro p e s m args below meth c Q C0 hOv hr hlk hnm hQ hw ls hl
  have hx := C0.x
  have hb := C0.b
  have hwS := hw
  have hg0 := gr.rfl (L := L) s.heap.size
  have hlt0 := hw.lt ma
  refine lv_aload_n hx hb dX1_init_0 rfl (lv_at hl 0 rfl) ?_
  refine q_obj C0 hl.1 ob_X1 ob_i ob_c (by decide) (by decide) dX1_init_1 ?_
  refine lv_aload_n hx hb dX1_init_4 rfl (lv_at hl 0 rfl) ?_
  refine lv_bipush (v := nI 7) hx hb dX1_init_5 (by decide) ?_
  refine k_newi C0 hw (by decide) (by decide) (Nat.le_of_ble_eq_true rfl) (Nat.le_of_ble_eq_true rfl) dX1_init_7 (fun L_2492 F_2493 a_2494 H_2496 g_2495 hw1 => ?_)
  have hge_a_2494 : s.heap.size ≤ a_2494 := Nat.le_trans hw.2.2.1 g_2495.2.2.2.2
  have f_2497 : F_2493 a = .inr (1, [.null, .null, .null, .null, .null, .null, .null, .null, .null, .null, .null, .null, .null, .null]) := (g_2495.2.2.1 a ma).1.trans fa
  have lt_2499 := (g_2495.2.2.1 a ma).2
  have m_2498 : a ∈ L_2492 := g_2495.1.1 a ma
  have hg_2500 := hg0.step g_2495.1 hw.2.2.1
  have C0 := C0.grow g_2495.1 hw.2.2.1
  have hw := hw1
  have m_2501 : a_2494 ∈ L_2492 := g_2495.2.2.2.1
  have f_2502 : F_2493 a_2494 = .inl (G.2 0, 7, .inl ((fun _ => nI 0))) := g_2495.2.1
  refine q_putF C0 hnm hw m_2498 f_2497 fw_X1_9 pw_X1_0 rfl rfl rfl rfl (Nat.le_of_ble_eq_true rfl) dX1_init_9 (fun F_2503 H locs hw f_2504 o_2505 => ?_)
  have f_2504 : F_2503 a = .inr (1, [.ref a_2494, .null, .null, .null, .null, .null, .null, .null, .null, .null, .null, .null, .null, .null]) := f_2504
  refine lv_aload_n hx hb dX1_init_12 rfl (lv_at hl 0 rfl) ?_
  refine lv_bipush (v := nI 7) hx hb dX1_init_13 (by decide) ?_
  refine k_newi C0 hw (by decide) (by decide) (Nat.le_of_ble_eq_true rfl) (Nat.le_of_ble_eq_true rfl) dX1_init_15 (fun L_2506 F_2507 a_2508 H_2510 g_2509 hw1 => ?_)
  have hge_a_2508 : s.heap.size ≤ a_2508 := Nat.le_trans hw.2.2.1 g_2509.2.2.2.2
  have f_2511 : F_2507 a = .inr (1, [.ref a_2494, .null, .null, .null, .null, .null, .null, .null, .null, .null, .null, .null, .null, .null]) := (g_2509.2.2.1 a m_2498).1.trans f_2504
  have lt_2513 := (g_2509.2.2.1 a m_2498).2
  have m_2512 : a ∈ L_2506 := g_2509.1.1 a m_2498
  have f_2514 : F_2503 a_2494 = .inl (G.2 0, 7, .inl ((fun _ => nI 0))) := (o_2505 a_2494 (by omega)).trans f_2502
  have f_2515 : F_2507 a_2494 = .inl (G.2 0, 7, .inl ((fun _ => nI 0))) := (g_2509.2.2.1 a_2494 m_2501).1.trans f_2514
  have lt_2517 := (g_2509.2.2.1 a_2494 m_2501).2
  have m_2516 : a_2494 ∈ L_2506 := g_2509.1.1 a_2494 m_2501
  have hg_2518 := hg_2500.step g_2509.1 hw.2.2.1
  have C0 := C0.grow g_2509.1 hw.2.2.1
  have hw := hw1
  have m_2519 : a_2508 ∈ L_2506 := g_2509.2.2.2.1
  have f_2520 : F_2507 a_2508 = .inl (G.2 0, 7, .inl ((fun _ => nI 0))) := g_2509.2.1
  refine q_putF C0 hnm hw m_2512 f_2511 fw_X1_15 pw_X1_1 rfl rfl rfl rfl (Nat.le_of_ble_eq_true rfl) dX1_init_17 (fun F_2521 H locs hw f_2522 o_2523 => ?_)
  have f_2522 : F_2521 a = .inr (1, [.ref a_2494, .ref a_2508, .null, .null, .null, .null, .null, .null, .null, .null, .null, .null, .null, .null]) := f_2522
  refine lv_aload_n hx hb dX1_init_20 rfl (lv_at hl 0 rfl) ?_
  refine lv_bipush (v := nI 7) hx hb dX1_init_21 (by decide) ?_
  refine k_newi C0 hw (by decide) (by decide) (Nat.le_of_ble_eq_true rfl) (Nat.le_of_ble_eq_true rfl) dX1_init_23 (fun L_2524 F_2525 a_2526 H_2528 g_2527 hw1 => ?_)
  have hge_a_2526 : s.heap.size ≤ a_2526 := Nat.le_trans hw.2.2.1 g_2527.2.2.2.2
  have f_2529 : F_2525 a = .inr (1, [.ref a_2494, .ref a_2508, .null, .null, .null, .null, .null, .null, .null, .null, .null, .null, .null, .null]) := (g_2527.2.2.1 a m_2512).1.trans f_2522
  have lt_2531 := (g_2527.2.2.1 a m_2512).2
  have m_2530 : a ∈ L_2524 := g_2527.1.1 a m_2512
  have f_2532 : F_2521 a_2494 = .inl (G.2 0, 7, .inl ((fun _ => nI 0))) := (o_2523 a_2494 (by omega)).trans f_2515
  have f_2533 : F_2525 a_2494 = .inl (G.2 0, 7, .inl ((fun _ => nI 0))) := (g_2527.2.2.1 a_2494 m_2516).1.trans f_2532
  have lt_2535 := (g_2527.2.2.1 a_2494 m_2516).2
  have m_2534 : a_2494 ∈ L_2524 := g_2527.1.1 a_2494 m_2516
  have f_2536 : F_2521 a_2508 = .inl (G.2 0, 7, .inl ((fun _ => nI 0))) := (o_2523 a_2508 (by omega)).trans f_2520
  have f_2537 : F_2525 a_2508 = .inl (G.2 0, 7, .inl ((fun _ => nI 0))) := (g_2527.2.2.1 a_2508 m_2519).1.trans f_2536
  have lt_2539 := (g_2527.2.2.1 a_2508 m_2519).2
  have m_2538 : a_2508 ∈ L_2524 := g_2527.1.1 a_2508 m_2519
  have hg_2540 := hg_2518.step g_2527.1 hw.2.2.1
  have C0 := C0.grow g_2527.1 hw.2.2.1
  have hw := hw1
  have m_2541 : a_2526 ∈ L_2524 := g_2527.2.2.2.1
  have f_2542 : F_2525 a_2526 = .inl (G.2 0, 7, .inl ((fun _ => nI 0))) := g_2527.2.1
  refine q_putF C0 hnm hw m_2530 f_2529 fw_X1_18 pw_X1_2 rfl rfl rfl rfl (Nat.le_of_ble_eq_true rfl) dX1_init_25 (fun F_2543 H locs hw f_2544 o_2545 => ?_)
  have f_2544 : F_2543 a = .inr (1, [.ref a_2494, .ref a_2508, .ref a_2526, .null, .null, .null, .null, .null, .null, .null, .null, .null, .null, .null]) := f_2544
  refine lv_aload_n hx hb dX1_init_28 rfl (lv_at hl 0 rfl) ?_
  refine lv_bipush (v := nI 7) hx hb dX1_init_29 (by decide) ?_
  refine k_newi C0 hw (by decide) (by decide) (Nat.le_of_ble_eq_true rfl) (Nat.le_of_ble_eq_true rfl) dX1_init_31 (fun L_2546 F_2547 a_2548 H_2550 g_2549 hw1 => ?_)
  have hge_a_2548 : s.heap.size ≤ a_2548 := Nat.le_trans hw.2.2.1 g_2549.2.2.2.2
  have f_2551 : F_2547 a = .inr (1, [.ref a_2494, .ref a_2508, .ref a_2526, .null, .null, .null, .null, .null, .null, .null, .null, .null, .null, .null]) := (g_2549.2.2.1 a m_2530).1.trans f_2544
  have lt_2553 := (g_2549.2.2.1 a m_2530).2
  have m_2552 : a ∈ L_2546 := g_2549.1.1 a m_2530
  have f_2554 : F_2543 a_2494 = .inl (G.2 0, 7, .inl ((fun _ => nI 0))) := (o_2545 a_2494 (by omega)).trans f_2533
  have f_2555 : F_2547 a_2494 = .inl (G.2 0, 7, .inl ((fun _ => nI 0))) := (g_2549.2.2.1 a_2494 m_2534).1.trans f_2554
  have lt_2557 := (g_2549.2.2.1 a_2494 m_2534).2
  have m_2556 : a_2494 ∈ L_2546 := g_2549.1.1 a_2494 m_2534
  have f_2558 : F_2543 a_2508 = .inl (G.2 0, 7, .inl ((fun _ => nI 0))) := (o_2545 a_2508 (by omega)).trans f_2537
  have f_2559 : F_2547 a_2508 = .inl (G.2 0, 7, .inl ((fun _ => nI 0))) := (g_2549.2.2.1 a_2508 m_2538).1.trans f_2558
  have lt_2561 := (g_2549.2.2.1 a_2508 m_2538).2
  have m_2560 : a_2508 ∈ L_2546 := g_2549.1.1 a_2508 m_2538
  have f_2562 : F_2543 a_2526 = .inl (G.2 0, 7, .inl ((fun _ => nI 0))) := (o_2545 a_2526 (by omega)).trans f_2542
  have f_2563 : F_2547 a_2526 = .inl (G.2 0, 7, .inl ((fun _ => nI 0))) := (g_2549.2.2.1 a_2526 m_2541).1.trans f_2562
  have lt_2565 := (g_2549.2.2.1 a_2526 m_2541).2
  have m_2564 : a_2526 ∈ L_2546 := g_2549.1.1 a_2526 m_2541
  have hg_2566 := hg_2540.step g_2549.1 hw.2.2.1
  have C0 := C0.grow g_2549.1 hw.2.2.1
  have hw := hw1
  have m_2567 : a_2548 ∈ L_2546 := g_2549.2.2.2.1
  have f_2568 : F_2547 a_2548 = .inl (G.2 0, 7, .inl ((fun _ => nI 0))) := g_2549.2.1
  refine q_putF C0 hnm hw m_2552 f_2551 fw_X1_21 pw_X1_3 rfl rfl rfl rfl (Nat.le_of_ble_eq_true rfl) dX1_init_33 (fun F_2569 H locs hw f_2570 o_2571 => ?_)
  have f_2570 : F_2569 a = .inr (1, [.ref a_2494, .ref a_2508, .ref a_2526, .ref a_2548, .null, .null, .null, .null, .null, .null, .null, .null, .null, .null]) := f_2570
  refine lv_aload_n hx hb dX1_init_36 rfl (lv_at hl 0 rfl) ?_
  refine lv_bipush (v := nI 7) hx hb dX1_init_37 (by decide) ?_
  refine k_newi C0 hw (by decide) (by decide) (Nat.le_of_ble_eq_true rfl) (Nat.le_of_ble_eq_true rfl) dX1_init_39 (fun L_2572 F_2573 a_2574 H_2576 g_2575 hw1 => ?_)
  have hge_a_2574 : s.heap.size ≤ a_2574 := Nat.le_trans hw.2.2.1 g_2575.2.2.2.2
  have f_2577 : F_2573 a = .inr (1, [.ref a_2494, .ref a_2508, .ref a_2526, .ref a_2548, .null, .null, .null, .null, .null, .null, .null, .null, .null, .null]) := (g_2575.2.2.1 a m_2552).1.trans f_2570
  have lt_2579 := (g_2575.2.2.1 a m_2552).2
  have m_2578 : a ∈ L_2572 := g_2575.1.1 a m_2552
  have f_2580 : F_2569 a_2494 = .inl (G.2 0, 7, .inl ((fun _ => nI 0))) := (o_2571 a_2494 (by omega)).trans f_2555
  have f_2581 : F_2573 a_2494 = .inl (G.2 0, 7, .inl ((fun _ => nI 0))) := (g_2575.2.2.1 a_2494 m_2556).1.trans f_2580
  have lt_2583 := (g_2575.2.2.1 a_2494 m_2556).2
  have m_2582 : a_2494 ∈ L_2572 := g_2575.1.1 a_2494 m_2556
  have f_2584 : F_2569 a_2508 = .inl (G.2 0, 7, .inl ((fun _ => nI 0))) := (o_2571 a_2508 (by omega)).trans f_2559
  have f_2585 : F_2573 a_2508 = .inl (G.2 0, 7, .inl ((fun _ => nI 0))) := (g_2575.2.2.1 a_2508 m_2560).1.trans f_2584
  have lt_2587 := (g_2575.2.2.1 a_2508 m_2560).2
  have m_2586 : a_2508 ∈ L_2572 := g_2575.1.1 a_2508 m_2560
  have f_2588 : F_2569 a_2526 = .inl (G.2 0, 7, .inl ((fun _ => nI 0))) := (o_2571 a_2526 (by omega)).trans f_2563
  have f_2589 : F_2573 a_2526 = .inl (G.2 0, 7, .inl ((fun _ => nI 0))) := (g_2575.2.2.1 a_2526 m_2564).1.trans f_2588
  have lt_2591 := (g_2575.2.2.1 a_2526 m_2564).2
  have m_2590 : a_2526 ∈ L_2572 := g_2575.1.1 a_2526 m_2564
  have f_2592 : F_2569 a_2548 = .inl (G.2 0, 7, .inl ((fun _ => nI 0))) := (o_2571 a_2548 (by omega)).trans f_2568
  have f_2593 : F_2573 a_2548 = .inl (G.2 0, 7, .inl ((fun _ => nI 0))) := (g_2575.2.2.1 a_2548 m_2567).1.trans f_2592
  have lt_2595 := (g_2575.2.2.1 a_2548 m_2567).2
  have m_2594 : a_2548 ∈ L_2572 := g_2575.1.1 a_2548 m_2567
  have hg_2596 := hg_2566.step g_2575.1 hw.2.2.1
  have C0 := C0.grow g_2575.1 hw.2.2.1
  have hw := hw1
  have m_2597 : a_2574 ∈ L_2572 := g_2575.2.2.2.1
  have f_2598 : F_2573 a_2574 = .inl (G.2 0, 7, .inl ((fun _ => nI 0))) := g_2575.2.1
  refine q_putF C0 hnm hw m_2578 f_2577 fw_X1_24 pw_X1_4 rfl rfl rfl rfl (Nat.le_of_ble_eq_true rfl) dX1_init_41 (fun F_2599 H locs hw f_2600 o_2601 => ?_)
  have f_2600 : F_2599 a = .inr (1, [.ref a_2494, .ref a_2508, .ref a_2526, .ref a_2548, .ref a_2574, .null, .null, .null, .null, .null, .null, .null, .null, .null]) := f_2600
  refine lv_aload_n hx hb dX1_init_44 rfl (lv_at hl 0 rfl) ?_
  refine lv_bipush (v := nI 7) hx hb dX1_init_45 (by decide) ?_
  refine k_newi C0 hw (by decide) (by decide) (Nat.le_of_ble_eq_true rfl) (Nat.le_of_ble_eq_true rfl) dX1_init_47 (fun L_2602 F_2603 a_2604 H_2606 g_2605 hw1 => ?_)
  have hge_a_2604 : s.heap.size ≤ a_2604 := Nat.le_trans hw.2.2.1 g_2605.2.2.2.2
  have f_2607 : F_2603 a = .inr (1, [.ref a_2494, .ref a_2508, .ref a_2526, .ref a_2548, .ref a_2574, .null, .null, .null, .null, .null, .null, .null, .null, .null]) := (g_2605.2.2.1 a m_2578).1.trans f_2600
  have lt_2609 := (g_2605.2.2.1 a m_2578).2
  have m_2608 : a ∈ L_2602 := g_2605.1.1 a m_2578
  have f_2610 : F_2599 a_2494 = .inl (G.2 0, 7, .inl ((fun _ => nI 0))) := (o_2601 a_2494 (by omega)).trans f_2581
  have f_2611 : F_2603 a_2494 = .inl (G.2 0, 7, .inl ((fun _ => nI 0))) := (g_2605.2.2.1 a_2494 m_2582).1.trans f_2610
  have lt_2613 := (g_2605.2.2.1 a_2494 m_2582).2
  have m_2612 : a_2494 ∈ L_2602 := g_2605.1.1 a_2494 m_2582
  have f_2614 : F_2599 a_2508 = .inl (G.2 0, 7, .inl ((fun _ => nI 0))) := (o_2601 a_2508 (by omega)).trans f_2585
  have f_2615 : F_2603 a_2508 = .inl (G.2 0, 7, .inl ((fun _ => nI 0))) := (g_2605.2.2.1 a_2508 m_2586).1.trans f_2614
  have lt_2617 := (g_2605.2.2.1 a_2508 m_2586).2
  have m_2616 : a_2508 ∈ L_2602 := g_2605.1.1 a_2508 m_2586
  have f_2618 : F_2599 a_2526 = .inl (G.2 0, 7, .inl ((fun _ => nI 0))) := (o_2601 a_2526 (by omega)).trans f_2589
  have f_2619 : F_2603 a_2526 = .inl (G.2 0, 7, .inl ((fun _ => nI 0))) := (g_2605.2.2.1 a_2526 m_2590).1.trans f_2618
  have lt_2621 := (g_2605.2.2.1 a_2526 m_2590).2
  have m_2620 : a_2526 ∈ L_2602 := g_2605.1.1 a_2526 m_2590
  have f_2622 : F_2599 a_2548 = .inl (G.2 0, 7, .inl ((fun _ => nI 0))) := (o_2601 a_2548 (by omega)).trans f_2593
  have f_2623 : F_2603 a_2548 = .inl (G.2 0, 7, .inl ((fun _ => nI 0))) := (g_2605.2.2.1 a_2548 m_2594).1.trans f_2622
  have lt_2625 := (g_2605.2.2.1 a_2548 m_2594).2
  have m_2624 : a_2548 ∈ L_2602 := g_2605.1.1 a_2548 m_2594
  have f_2626 : F_2599 a_2574 = .inl (G.2 0, 7, .inl ((fun _ => nI 0))) := (o_2601 a_2574 (by omega)).trans f_2598
  have f_2627 : F_2603 a_2574 = .inl (G.2 0, 7, .inl ((fun _ => nI 0))) := (g_2605.2.2.1 a_2574 m_2597).1.trans f_2626
  have lt_2629 := (g_2605.2.2.1 a_2574 m_2597).2
  have m_2628 : a_2574 ∈ L_2602 := g_2605.1.1 a_2574 m_2597
  have hg_2630 := hg_2596.step g_2605.1 hw.2.2.1
  have C0 := C0.grow g_2605.1 hw.2.2.1
  have hw := hw1
  have m_2631 : a_2604 ∈ L_2602 := g_2605.2.2.2.1
  have f_2632 : F_2603 a_2604 = .inl (G.2 0, 7, .inl ((fun _ => nI 0))) := g_2605.2.1
  refine q_putF C0 hnm hw m_2608 f_2607 fw_X1_27 pw_X1_5 rfl rfl rfl rfl (Nat.le_of_ble_eq_true rfl) dX1_init_49 (fun F_2633 H locs hw f_2634 o_2635 => ?_)
  have f_2634 : F_2633 a = .inr (1, [.ref a_2494, .ref a_2508, .ref a_2526, .ref a_2548, .ref a_2574, .ref a_2604, .null, .null, .null, .null, .null, .null, .null, .null]) := f_2634
  refine lv_aload_n hx hb dX1_init_52 rfl (lv_at hl 0 rfl) ?_
  refine lv_bipush (v := nI 7) hx hb dX1_init_53 (by decide) ?_
  refine k_newi C0 hw (by decide) (by decide) (Nat.le_of_ble_eq_true rfl) (Nat.le_of_ble_eq_true rfl) dX1_init_55 (fun L_2636 F_2637 a_2638 H_2640 g_2639 hw1 => ?_)
  have hge_a_2638 : s.heap.size ≤ a_2638 := Nat.le_trans hw.2.2.1 g_2639.2.2.2.2
  have f_2641 : F_2637 a = .inr (1, [.ref a_2494, .ref a_2508, .ref a_2526, .ref a_2548, .ref a_2574, .ref a_2604, .null, .null, .null, .null, .null, .null, .null, .null]) := (g_2639.2.2.1 a m_2608).1.trans f_2634
  have lt_2643 := (g_2639.2.2.1 a m_2608).2
  have m_2642 : a ∈ L_2636 := g_2639.1.1 a m_2608
  have f_2644 : F_2633 a_2494 = .inl (G.2 0, 7, .inl ((fun _ => nI 0))) := (o_2635 a_2494 (by omega)).trans f_2611
  have f_2645 : F_2637 a_2494 = .inl (G.2 0, 7, .inl ((fun _ => nI 0))) := (g_2639.2.2.1 a_2494 m_2612).1.trans f_2644
  have lt_2647 := (g_2639.2.2.1 a_2494 m_2612).2
  have m_2646 : a_2494 ∈ L_2636 := g_2639.1.1 a_2494 m_2612
  have f_2648 : F_2633 a_2508 = .inl (G.2 0, 7, .inl ((fun _ => nI 0))) := (o_2635 a_2508 (by omega)).trans f_2615
  have f_2649 : F_2637 a_2508 = .inl (G.2 0, 7, .inl ((fun _ => nI 0))) := (g_2639.2.2.1 a_2508 m_2616).1.trans f_2648
  have lt_2651 := (g_2639.2.2.1 a_2508 m_2616).2
  have m_2650 : a_2508 ∈ L_2636 := g_2639.1.1 a_2508 m_2616
  have f_2652 : F_2633 a_2526 = .inl (G.2 0, 7, .inl ((fun _ => nI 0))) := (o_2635 a_2526 (by omega)).trans f_2619
  have f_2653 : F_2637 a_2526 = .inl (G.2 0, 7, .inl ((fun _ => nI 0))) := (g_2639.2.2.1 a_2526 m_2620).1.trans f_2652
  have lt_2655 := (g_2639.2.2.1 a_2526 m_2620).2
  have m_2654 : a_2526 ∈ L_2636 := g_2639.1.1 a_2526 m_2620
  have f_2656 : F_2633 a_2548 = .inl (G.2 0, 7, .inl ((fun _ => nI 0))) := (o_2635 a_2548 (by omega)).trans f_2623
  have f_2657 : F_2637 a_2548 = .inl (G.2 0, 7, .inl ((fun _ => nI 0))) := (g_2639.2.2.1 a_2548 m_2624).1.trans f_2656
  have lt_2659 := (g_2639.2.2.1 a_2548 m_2624).2
  have m_2658 : a_2548 ∈ L_2636 := g_2639.1.1 a_2548 m_2624
  have f_2660 : F_2633 a_2574 = .inl (G.2 0, 7, .inl ((fun _ => nI 0))) := (o_2635 a_2574 (by omega)).trans f_2627
  have f_2661 : F_2637 a_2574 = .inl (G.2 0, 7, .inl ((fun _ => nI 0))) := (g_2639.2.2.1 a_2574 m_2628).1.trans f_2660
  have lt_2663 := (g_2639.2.2.1 a_2574 m_2628).2
  have m_2662 : a_2574 ∈ L_2636 := g_2639.1.1 a_2574 m_2628
  have f_2664 : F_2633 a_2604 = .inl (G.2 0, 7, .inl ((fun _ => nI 0))) := (o_2635 a_2604 (by omega)).trans f_2632
  have f_2665 : F_2637 a_2604 = .inl (G.2 0, 7, .inl ((fun _ => nI 0))) := (g_2639.2.2.1 a_2604 m_2631).1.trans f_2664
  have lt_2667 := (g_2639.2.2.1 a_2604 m_2631).2
  have m_2666 : a_2604 ∈ L_2636 := g_2639.1.1 a_2604 m_2631
  have hg_2668 := hg_2630.step g_2639.1 hw.2.2.1
  have C0 := C0.grow g_2639.1 hw.2.2.1
  have hw := hw1
  have m_2669 : a_2638 ∈ L_2636 := g_2639.2.2.2.1
  have f_2670 : F_2637 a_2638 = .inl (G.2 0, 7, .inl ((fun _ => nI 0))) := g_2639.2.1
  refine q_putF C0 hnm hw m_2642 f_2641 fw_X1_30 pw_X1_6 rfl rfl rfl rfl (Nat.le_of_ble_eq_true rfl) dX1_init_57 (fun F_2671 H locs hw f_2672 o_2673 => ?_)
  have f_2672 : F_2671 a = .inr (1, [.ref a_2494, .ref a_2508, .ref a_2526, .ref a_2548, .ref a_2574, .ref a_2604, .ref a_2638, .null, .null, .null, .null, .null, .null, .null]) := f_2672
  refine lv_aload_n hx hb dX1_init_60 rfl (lv_at hl 0 rfl) ?_
  refine lv_bipush (v := nI 7) hx hb dX1_init_61 (by decide) ?_
  refine k_newi C0 hw (by decide) (by decide) (Nat.le_of_ble_eq_true rfl) (Nat.le_of_ble_eq_true rfl) dX1_init_63 (fun L_2674 F_2675 a_2676 H_2678 g_2677 hw1 => ?_)
  have hge_a_2676 : s.heap.size ≤ a_2676 := Nat.le_trans hw.2.2.1 g_2677.2.2.2.2
  have f_2679 : F_2675 a = .inr (1, [.ref a_2494, .ref a_2508, .ref a_2526, .ref a_2548, .ref a_2574, .ref a_2604, .ref a_2638, .null, .null, .null, .null, .null, .null, .null]) := (g_2677.2.2.1 a m_2642).1.trans f_2672
  have lt_2681 := (g_2677.2.2.1 a m_2642).2
  have m_2680 : a ∈ L_2674 := g_2677.1.1 a m_2642
  have f_2682 : F_2671 a_2494 = .inl (G.2 0, 7, .inl ((fun _ => nI 0))) := (o_2673 a_2494 (by omega)).trans f_2645
  have f_2683 : F_2675 a_2494 = .inl (G.2 0, 7, .inl ((fun _ => nI 0))) := (g_2677.2.2.1 a_2494 m_2646).1.trans f_2682
  have lt_2685 := (g_2677.2.2.1 a_2494 m_2646).2
  have m_2684 : a_2494 ∈ L_2674 := g_2677.1.1 a_2494 m_2646
  have f_2686 : F_2671 a_2508 = .inl (G.2 0, 7, .inl ((fun _ => nI 0))) := (o_2673 a_2508 (by omega)).trans f_2649
  have f_2687 : F_2675 a_2508 = .inl (G.2 0, 7, .inl ((fun _ => nI 0))) := (g_2677.2.2.1 a_2508 m_2650).1.trans f_2686
  have lt_2689 := (g_2677.2.2.1 a_2508 m_2650).2
  have m_2688 : a_2508 ∈ L_2674 := g_2677.1.1 a_2508 m_2650
  have f_2690 : F_2671 a_2526 = .inl (G.2 0, 7, .inl ((fun _ => nI 0))) := (o_2673 a_2526 (by omega)).trans f_2653
  have f_2691 : F_2675 a_2526 = .inl (G.2 0, 7, .inl ((fun _ => nI 0))) := (g_2677.2.2.1 a_2526 m_2654).1.trans f_2690
  have lt_2693 := (g_2677.2.2.1 a_2526 m_2654).2
  have m_2692 : a_2526 ∈ L_2674 := g_2677.1.1 a_2526 m_2654
  have f_2694 : F_2671 a_2548 = .inl (G.2 0, 7, .inl ((fun _ => nI 0))) := (o_2673 a_2548 (by omega)).trans f_2657
  have f_2695 : F_2675 a_2548 = .inl (G.2 0, 7, .inl ((fun _ => nI 0))) := (g_2677.2.2.1 a_2548 m_2658).1.trans f_2694
  have lt_2697 := (g_2677.2.2.1 a_2548 m_2658).2
  have m_2696 : a_2548 ∈ L_2674 := g_2677.1.1 a_2548 m_2658
  have f_2698 : F_2671 a_2574 = .inl (G.2 0, 7, .inl ((fun _ => nI 0))) := (o_2673 a_2574 (by omega)).trans f_2661
  have f_2699 : F_2675 a_2574 = .inl (G.2 0, 7, .inl ((fun _ => nI 0))) := (g_2677.2.2.1 a_2574 m_2662).1.trans f_2698
  have lt_2701 := (g_2677.2.2.1 a_2574 m_2662).2
  have m_2700 : a_2574 ∈ L_2674 := g_2677.1.1 a_2574 m_2662
  have f_2702 : F_2671 a_2604 = .inl (G.2 0, 7, .inl ((fun _ => nI 0))) := (o_2673 a_2604 (by omega)).trans f_2665
  have f_2703 : F_2675 a_2604 = .inl (G.2 0, 7, .inl ((fun _ => nI 0))) := (g_2677.2.2.1 a_2604 m_2666).1.trans f_2702
  have lt_2705 := (g_2677.2.2.1 a_2604 m_2666).2
  have m_2704 : a_2604 ∈ L_2674 := g_2677.1.1 a_2604 m_2666
  have f_2706 : F_2671 a_2638 = .inl (G.2 0, 7, .inl ((fun _ => nI 0))) := (o_2673 a_2638 (by omega)).trans f_2670
  have f_2707 : F_2675 a_2638 = .inl (G.2 0, 7, .inl ((fun _ => nI 0))) := (g_2677.2.2.1 a_2638 m_2669).1.trans f_2706
  have lt_2709 := (g_2677.2.2.1 a_2638 m_2669).2
  have m_2708 : a_2638 ∈ L_2674 := g_2677.1.1 a_2638 m_2669
  have hg_2710 := hg_2668.step g_2677.1 hw.2.2.1
  have C0 := C0.grow g_2677.1 hw.2.2.1
  have hw := hw1
  have m_2711 : a_2676 ∈ L_2674 := g_2677.2.2.2.1
  have f_2712 : F_2675 a_2676 = .inl (G.2 0, 7, .inl ((fun _ => nI 0))) := g_2677.2.1
  refine q_putF C0 hnm hw m_2680 f_2679 fw_X1_33 pw_X1_7 rfl rfl rfl rfl (Nat.le_of_ble_eq_true rfl) dX1_init_65 (fun F_2713 H locs hw f_2714 o_2715 => ?_)
  have f_2714 : F_2713 a = .inr (1, [.ref a_2494, .ref a_2508, .ref a_2526, .ref a_2548, .ref a_2574, .ref a_2604, .ref a_2638, .ref a_2676, .null, .null, .null, .null, .null, .null]) := f_2714
  refine lv_aload_n hx hb dX1_init_68 rfl (lv_at hl 0 rfl) ?_
  refine lv_bipush (v := nI 7) hx hb dX1_init_69 (by decide) ?_
  refine k_newi C0 hw (by decide) (by decide) (Nat.le_of_ble_eq_true rfl) (Nat.le_of_ble_eq_true rfl) dX1_init_71 (fun L_2716 F_2717 a_2718 H_2720 g_2719 hw1 => ?_)
  have hge_a_2718 : s.heap.size ≤ a_2718 := Nat.le_trans hw.2.2.1 g_2719.2.2.2.2
  have f_2721 : F_2717 a = .inr (1, [.ref a_2494, .ref a_2508, .ref a_2526, .ref a_2548, .ref a_2574, .ref a_2604, .ref a_2638, .ref a_2676, .null, .null, .null, .null, .null, .null]) := (g_2719.2.2.1 a m_2680).1.trans f_2714
  have lt_2723 := (g_2719.2.2.1 a m_2680).2
  have m_2722 : a ∈ L_2716 := g_2719.1.1 a m_2680
  have f_2724 : F_2713 a_2494 = .inl (G.2 0, 7, .inl ((fun _ => nI 0))) := (o_2715 a_2494 (by omega)).trans f_2683
  have f_2725 : F_2717 a_2494 = .inl (G.2 0, 7, .inl ((fun _ => nI 0))) := (g_2719.2.2.1 a_2494 m_2684).1.trans f_2724
  have lt_2727 := (g_2719.2.2.1 a_2494 m_2684).2
  have m_2726 : a_2494 ∈ L_2716 := g_2719.1.1 a_2494 m_2684
  have f_2728 : F_2713 a_2508 = .inl (G.2 0, 7, .inl ((fun _ => nI 0))) := (o_2715 a_2508 (by omega)).trans f_2687
  have f_2729 : F_2717 a_2508 = .inl (G.2 0, 7, .inl ((fun _ => nI 0))) := (g_2719.2.2.1 a_2508 m_2688).1.trans f_2728
  have lt_2731 := (g_2719.2.2.1 a_2508 m_2688).2
  have m_2730 : a_2508 ∈ L_2716 := g_2719.1.1 a_2508 m_2688
  have f_2732 : F_2713 a_2526 = .inl (G.2 0, 7, .inl ((fun _ => nI 0))) := (o_2715 a_2526 (by omega)).trans f_2691
  have f_2733 : F_2717 a_2526 = .inl (G.2 0, 7, .inl ((fun _ => nI 0))) := (g_2719.2.2.1 a_2526 m_2692).1.trans f_2732
  have lt_2735 := (g_2719.2.2.1 a_2526 m_2692).2
  have m_2734 : a_2526 ∈ L_2716 := g_2719.1.1 a_2526 m_2692
  have f_2736 : F_2713 a_2548 = .inl (G.2 0, 7, .inl ((fun _ => nI 0))) := (o_2715 a_2548 (by omega)).trans f_2695
  have f_2737 : F_2717 a_2548 = .inl (G.2 0, 7, .inl ((fun _ => nI 0))) := (g_2719.2.2.1 a_2548 m_2696).1.trans f_2736
  have lt_2739 := (g_2719.2.2.1 a_2548 m_2696).2
  have m_2738 : a_2548 ∈ L_2716 := g_2719.1.1 a_2548 m_2696
  have f_2740 : F_2713 a_2574 = .inl (G.2 0, 7, .inl ((fun _ => nI 0))) := (o_2715 a_2574 (by omega)).trans f_2699
  have f_2741 : F_2717 a_2574 = .inl (G.2 0, 7, .inl ((fun _ => nI 0))) := (g_2719.2.2.1 a_2574 m_2700).1.trans f_2740
  have lt_2743 := (g_2719.2.2.1 a_2574 m_2700).2
  have m_2742 : a_2574 ∈ L_2716 := g_2719.1.1 a_2574 m_2700
  have f_2744 : F_2713 a_2604 = .inl (G.2 0, 7, .inl ((fun _ => nI 0))) := (o_2715 a_2604 (by omega)).trans f_2703
  have f_2745 : F_2717 a_2604 = .inl (G.2 0, 7, .inl ((fun _ => nI 0))) := (g_2719.2.2.1 a_2604 m_2704).1.trans f_2744
  have lt_2747 := (g_2719.2.2.1 a_2604 m_2704).2
  have m_2746 : a_2604 ∈ L_2716 := g_2719.1.1 a_2604 m_2704
  have f_2748 : F_2713 a_2638 = .inl (G.2 0, 7, .inl ((fun _ => nI 0))) := (o_2715 a_2638 (by omega)).trans f_2707
  have f_2749 : F_2717 a_2638 = .inl (G.2 0, 7, .inl ((fun _ => nI 0))) := (g_2719.2.2.1 a_2638 m_2708).1.trans f_2748
  have lt_2751 := (g_2719.2.2.1 a_2638 m_2708).2
  have m_2750 : a_2638 ∈ L_2716 := g_2719.1.1 a_2638 m_2708
  have f_2752 : F_2713 a_2676 = .inl (G.2 0, 7, .inl ((fun _ => nI 0))) := (o_2715 a_2676 (by omega)).trans f_2712
  have f_2753 : F_2717 a_2676 = .inl (G.2 0, 7, .inl ((fun _ => nI 0))) := (g_2719.2.2.1 a_2676 m_2711).1.trans f_2752
  have lt_2755 := (g_2719.2.2.1 a_2676 m_2711).2
  have m_2754 : a_2676 ∈ L_2716 := g_2719.1.1 a_2676 m_2711
  have hg_2756 := hg_2710.step g_2719.1 hw.2.2.1
  have C0 := C0.grow g_2719.1 hw.2.2.1
  have hw := hw1
  have m_2757 : a_2718 ∈ L_2716 := g_2719.2.2.2.1
  have f_2758 : F_2717 a_2718 = .inl (G.2 0, 7, .inl ((fun _ => nI 0))) := g_2719.2.1
  refine q_putF C0 hnm hw m_2722 f_2721 fw_X1_36 pw_X1_8 rfl rfl rfl rfl (Nat.le_of_ble_eq_true rfl) dX1_init_73 (fun F_2759 H locs hw f_2760 o_2761 => ?_)
  have f_2760 : F_2759 a = .inr (1, [.ref a_2494, .ref a_2508, .ref a_2526, .ref a_2548, .ref a_2574, .ref a_2604, .ref a_2638, .ref a_2676, .ref a_2718, .null, .null, .null, .null, .null]) := f_2760
  refine lv_aload_n hx hb dX1_init_76 rfl (lv_at hl 0 rfl) ?_
  refine lv_bipush (v := nI 7) hx hb dX1_init_77 (by decide) ?_
  refine k_newi C0 hw (by decide) (by decide) (Nat.le_of_ble_eq_true rfl) (Nat.le_of_ble_eq_true rfl) dX1_init_79 (fun L_2762 F_2763 a_2764 H_2766 g_2765 hw1 => ?_)
  have hge_a_2764 : s.heap.size ≤ a_2764 := Nat.le_trans hw.2.2.1 g_2765.2.2.2.2
  have f_2767 : F_2763 a = .inr (1, [.ref a_2494, .ref a_2508, .ref a_2526, .ref a_2548, .ref a_2574, .ref a_2604, .ref a_2638, .ref a_2676, .ref a_2718, .null, .null, .null, .null, .null]) := (g_2765.2.2.1 a m_2722).1.trans f_2760
  have lt_2769 := (g_2765.2.2.1 a m_2722).2
  have m_2768 : a ∈ L_2762 := g_2765.1.1 a m_2722
  have f_2770 : F_2759 a_2494 = .inl (G.2 0, 7, .inl ((fun _ => nI 0))) := (o_2761 a_2494 (by omega)).trans f_2725
  have f_2771 : F_2763 a_2494 = .inl (G.2 0, 7, .inl ((fun _ => nI 0))) := (g_2765.2.2.1 a_2494 m_2726).1.trans f_2770
  have lt_2773 := (g_2765.2.2.1 a_2494 m_2726).2
  have m_2772 : a_2494 ∈ L_2762 := g_2765.1.1 a_2494 m_2726
  have f_2774 : F_2759 a_2508 = .inl (G.2 0, 7, .inl ((fun _ => nI 0))) := (o_2761 a_2508 (by omega)).trans f_2729
  have f_2775 : F_2763 a_2508 = .inl (G.2 0, 7, .inl ((fun _ => nI 0))) := (g_2765.2.2.1 a_2508 m_2730).1.trans f_2774
  have lt_2777 := (g_2765.2.2.1 a_2508 m_2730).2
  have m_2776 : a_2508 ∈ L_2762 := g_2765.1.1 a_2508 m_2730
  have f_2778 : F_2759 a_2526 = .inl (G.2 0, 7, .inl ((fun _ => nI 0))) := (o_2761 a_2526 (by omega)).trans f_2733
  have f_2779 : F_2763 a_2526 = .inl (G.2 0, 7, .inl ((fun _ => nI 0))) := (g_2765.2.2.1 a_2526 m_2734).1.trans f_2778
  have lt_2781 := (g_2765.2.2.1 a_2526 m_2734).2
  have m_2780 : a_2526 ∈ L_2762 := g_2765.1.1 a_2526 m_2734
  have f_2782 : F_2759 a_2548 = .inl (G.2 0, 7, .inl ((fun _ => nI 0))) := (o_2761 a_2548 (by omega)).trans f_2737
  have f_2783 : F_2763 a_2548 = .inl (G.2 0, 7, .inl ((fun _ => nI 0))) := (g_2765.2.2.1 a_2548 m_2738).1.trans f_2782
  have lt_2785 := (g_2765.2.2.1 a_2548 m_2738).2
  have m_2784 : a_2548 ∈ L_2762 := g_2765.1.1 a_2548 m_2738
  have f_2786 : F_2759 a_2574 = .inl (G.2 0, 7, .inl ((fun _ => nI 0))) := (o_2761 a_2574 (by omega)).trans f_2741
  have f_2787 : F_2763 a_2574 = .inl (G.2 0, 7, .inl ((fun _ => nI 0))) := (g_2765.2.2.1 a_2574 m_2742).1.trans f_2786
  have lt_2789 := (g_2765.2.2.1 a_2574 m_2742).2
  have m_2788 : a_2574 ∈ L_2762 := g_2765.1.1 a_2574 m_2742
  have f_2790 : F_2759 a_2604 = .inl (G.2 0, 7, .inl ((fun _ => nI 0))) := (o_2761 a_2604 (by omega)).trans f_2745
  have f_2791 : F_2763 a_2604 = .inl (G.2 0, 7, .inl ((fun _ => nI 0))) := (g_2765.2.2.1 a_2604 m_2746).1.trans f_2790
  have lt_2793 := (g_2765.2.2.1 a_2604 m_2746).2
  have m_2792 : a_2604 ∈ L_2762 := g_2765.1.1 a_2604 m_2746
  have f_2794 : F_2759 a_2638 = .inl (G.2 0, 7, .inl ((fun _ => nI 0))) := (o_2761 a_2638 (by omega)).trans f_2749
  have f_2795 : F_2763 a_2638 = .inl (G.2 0, 7, .inl ((fun _ => nI 0))) := (g_2765.2.2.1 a_2638 m_2750).1.trans f_2794
  have lt_2797 := (g_2765.2.2.1 a_2638 m_2750).2
  have m_2796 : a_2638 ∈ L_2762 := g_2765.1.1 a_2638 m_2750
  have f_2798 : F_2759 a_2676 = .inl (G.2 0, 7, .inl ((fun _ => nI 0))) := (o_2761 a_2676 (by omega)).trans f_2753
  have f_2799 : F_2763 a_2676 = .inl (G.2 0, 7, .inl ((fun _ => nI 0))) := (g_2765.2.2.1 a_2676 m_2754).1.trans f_2798
  have lt_2801 := (g_2765.2.2.1 a_2676 m_2754).2
  have m_2800 : a_2676 ∈ L_2762 := g_2765.1.1 a_2676 m_2754
  have f_2802 : F_2759 a_2718 = .inl (G.2 0, 7, .inl ((fun _ => nI 0))) := (o_2761 a_2718 (by omega)).trans f_2758
  have f_2803 : F_2763 a_2718 = .inl (G.2 0, 7, .inl ((fun _ => nI 0))) := (g_2765.2.2.1 a_2718 m_2757).1.trans f_2802
  have lt_2805 := (g_2765.2.2.1 a_2718 m_2757).2
  have m_2804 : a_2718 ∈ L_2762 := g_2765.1.1 a_2718 m_2757
  have hg_2806 := hg_2756.step g_2765.1 hw.2.2.1
  have C0 := C0.grow g_2765.1 hw.2.2.1
  have hw := hw1
  have m_2807 : a_2764 ∈ L_2762 := g_2765.2.2.2.1
  have f_2808 : F_2763 a_2764 = .inl (G.2 0, 7, .inl ((fun _ => nI 0))) := g_2765.2.1
  refine q_putF C0 hnm hw m_2768 f_2767 fw_X1_39 pw_X1_9 rfl rfl rfl rfl (Nat.le_of_ble_eq_true rfl) dX1_init_81 (fun F_2809 H locs hw f_2810 o_2811 => ?_)
  have f_2810 : F_2809 a = .inr (1, [.ref a_2494, .ref a_2508, .ref a_2526, .ref a_2548, .ref a_2574, .ref a_2604, .ref a_2638, .ref a_2676, .ref a_2718, .ref a_2764, .null, .null, .null, .null]) := f_2810
  refine lv_aload_n hx hb dX1_init_84 rfl (lv_at hl 0 rfl) ?_
  refine lv_bipush (v := nI 7) hx hb dX1_init_85 (by decide) ?_
  refine k_newi C0 hw (by decide) (by decide) (Nat.le_of_ble_eq_true rfl) (Nat.le_of_ble_eq_true rfl) dX1_init_87 (fun L_2812 F_2813 a_2814 H_2816 g_2815 hw1 => ?_)
  have hge_a_2814 : s.heap.size ≤ a_2814 := Nat.le_trans hw.2.2.1 g_2815.2.2.2.2
  have f_2817 : F_2813 a = .inr (1, [.ref a_2494, .ref a_2508, .ref a_2526, .ref a_2548, .ref a_2574, .ref a_2604, .ref a_2638, .ref a_2676, .ref a_2718, .ref a_2764, .null, .null, .null, .null]) := (g_2815.2.2.1 a m_2768).1.trans f_2810
  have lt_2819 := (g_2815.2.2.1 a m_2768).2
  have m_2818 : a ∈ L_2812 := g_2815.1.1 a m_2768
  have f_2820 : F_2809 a_2494 = .inl (G.2 0, 7, .inl ((fun _ => nI 0))) := (o_2811 a_2494 (by omega)).trans f_2771
  have f_2821 : F_2813 a_2494 = .inl (G.2 0, 7, .inl ((fun _ => nI 0))) := (g_2815.2.2.1 a_2494 m_2772).1.trans f_2820
  have lt_2823 := (g_2815.2.2.1 a_2494 m_2772).2
  have m_2822 : a_2494 ∈ L_2812 := g_2815.1.1 a_2494 m_2772
  have f_2824 : F_2809 a_2508 = .inl (G.2 0, 7, .inl ((fun _ => nI 0))) := (o_2811 a_2508 (by omega)).trans f_2775
  have f_2825 : F_2813 a_2508 = .inl (G.2 0, 7, .inl ((fun _ => nI 0))) := (g_2815.2.2.1 a_2508 m_2776).1.trans f_2824
  have lt_2827 := (g_2815.2.2.1 a_2508 m_2776).2
  have m_2826 : a_2508 ∈ L_2812 := g_2815.1.1 a_2508 m_2776
  have f_2828 : F_2809 a_2526 = .inl (G.2 0, 7, .inl ((fun _ => nI 0))) := (o_2811 a_2526 (by omega)).trans f_2779
  have f_2829 : F_2813 a_2526 = .inl (G.2 0, 7, .inl ((fun _ => nI 0))) := (g_2815.2.2.1 a_2526 m_2780).1.trans f_2828
  have lt_2831 := (g_2815.2.2.1 a_2526 m_2780).2
  have m_2830 : a_2526 ∈ L_2812 := g_2815.1.1 a_2526 m_2780
  have f_2832 : F_2809 a_2548 = .inl (G.2 0, 7, .inl ((fun _ => nI 0))) := (o_2811 a_2548 (by omega)).trans f_2783
  have f_2833 : F_2813 a_2548 = .inl (G.2 0, 7, .inl ((fun _ => nI 0))) := (g_2815.2.2.1 a_2548 m_2784).1.trans f_2832
  have lt_2835 := (g_2815.2.2.1 a_2548 m_2784).2
  have m_2834 : a_2548 ∈ L_2812 := g_2815.1.1 a_2548 m_2784
  have f_2836 : F_2809 a_2574 = .inl (G.2 0, 7, .inl ((fun _ => nI 0))) := (o_2811 a_2574 (by omega)).trans f_2787
  have f_2837 : F_2813 a_2574 = .inl (G.2 0, 7, .inl ((fun _ => nI 0))) := (g_2815.2.2.1 a_2574 m_2788).1.trans f_2836
  have lt_2839 := (g_2815.2.2.1 a_2574 m_2788).2
  have m_2838 : a_2574 ∈ L_2812 := g_2815.1.1 a_2574 m_2788
  have f_2840 : F_2809 a_2604 = .inl (G.2 0, 7, .inl ((fun _ => nI 0))) := (o_2811 a_2604 (by omega)).trans f_2791
  have f_2841 : F_2813 a_2604 = .inl (G.2 0, 7, .inl ((fun _ => nI 0))) := (g_2815.2.2.1 a_2604 m_2792).1.trans f_2840
  have lt_2843 := (g_2815.2.2.1 a_2604 m_2792).2
  have m_2842 : a_2604 ∈ L_2812 := g_2815.1.1 a_2604 m_2792
  have f_2844 : F_2809 a_2638 = .inl (G.2 0, 7, .inl ((fun _ => nI 0))) := (o_2811 a_2638 (by omega)).trans f_2795
  have f_2845 : F_2813 a_2638 = .inl (G.2 0, 7, .inl ((fun _ => nI 0))) := (g_2815.2.2.1 a_2638 m_2796).1.trans f_2844
  have lt_2847 := (g_2815.2.2.1 a_2638 m_2796).2
  have m_2846 : a_2638 ∈ L_2812 := g_2815.1.1 a_2638 m_2796
  have f_2848 : F_2809 a_2676 = .inl (G.2 0, 7, .inl ((fun _ => nI 0))) := (o_2811 a_2676 (by omega)).trans f_2799
  have f_2849 : F_2813 a_2676 = .inl (G.2 0, 7, .inl ((fun _ => nI 0))) := (g_2815.2.2.1 a_2676 m_2800).1.trans f_2848
  have lt_2851 := (g_2815.2.2.1 a_2676 m_2800).2
  have m_2850 : a_2676 ∈ L_2812 := g_2815.1.1 a_2676 m_2800
  have f_2852 : F_2809 a_2718 = .inl (G.2 0, 7, .inl ((fun _ => nI 0))) := (o_2811 a_2718 (by omega)).trans f_2803
  have f_2853 : F_2813 a_2718 = .inl (G.2 0, 7, .inl ((fun _ => nI 0))) := (g_2815.2.2.1 a_2718 m_2804).1.trans f_2852
  have lt_2855 := (g_2815.2.2.1 a_2718 m_2804).2
  have m_2854 : a_2718 ∈ L_2812 := g_2815.1.1 a_2718 m_2804
  have f_2856 : F_2809 a_2764 = .inl (G.2 0, 7, .inl ((fun _ => nI 0))) := (o_2811 a_2764 (by omega)).trans f_2808
  have f_2857 : F_2813 a_2764 = .inl (G.2 0, 7, .inl ((fun _ => nI 0))) := (g_2815.2.2.1 a_2764 m_2807).1.trans f_2856
  have lt_2859 := (g_2815.2.2.1 a_2764 m_2807).2
  have m_2858 : a_2764 ∈ L_2812 := g_2815.1.1 a_2764 m_2807
  have hg_2860 := hg_2806.step g_2815.1 hw.2.2.1
  have C0 := C0.grow g_2815.1 hw.2.2.1
  have hw := hw1
  have m_2861 : a_2814 ∈ L_2812 := g_2815.2.2.2.1
  have f_2862 : F_2813 a_2814 = .inl (G.2 0, 7, .inl ((fun _ => nI 0))) := g_2815.2.1
  refine q_putF C0 hnm hw m_2818 f_2817 fw_X1_42 pw_X1_10 rfl rfl rfl rfl (Nat.le_of_ble_eq_true rfl) dX1_init_89 (fun F_2863 H locs hw f_2864 o_2865 => ?_)
  have f_2864 : F_2863 a = .inr (1, [.ref a_2494, .ref a_2508, .ref a_2526, .ref a_2548, .ref a_2574, .ref a_2604, .ref a_2638, .ref a_2676, .ref a_2718, .ref a_2764, .ref a_2814, .null, .null, .null]) := f_2864
  refine lv_aload_n hx hb dX1_init_92 rfl (lv_at hl 0 rfl) ?_
  refine lv_bipush (v := nI 7) hx hb dX1_init_93 (by decide) ?_
  refine k_newi C0 hw (by decide) (by decide) (Nat.le_of_ble_eq_true rfl) (Nat.le_of_ble_eq_true rfl) dX1_init_95 (fun L_2866 F_2867 a_2868 H_2870 g_2869 hw1 => ?_)
  have hge_a_2868 : s.heap.size ≤ a_2868 := Nat.le_trans hw.2.2.1 g_2869.2.2.2.2
  have f_2871 : F_2867 a = .inr (1, [.ref a_2494, .ref a_2508, .ref a_2526, .ref a_2548, .ref a_2574, .ref a_2604, .ref a_2638, .ref a_2676, .ref a_2718, .ref a_2764, .ref a_2814, .null, .null, .null]) := (g_2869.2.2.1 a m_2818).1.trans f_2864
  have lt_2873 := (g_2869.2.2.1 a m_2818).2
  have m_2872 : a ∈ L_2866 := g_2869.1.1 a m_2818
  have f_2874 : F_2863 a_2494 = .inl (G.2 0, 7, .inl ((fun _ => nI 0))) := (o_2865 a_2494 (by omega)).trans f_2821
  have f_2875 : F_2867 a_2494 = .inl (G.2 0, 7, .inl ((fun _ => nI 0))) := (g_2869.2.2.1 a_2494 m_2822).1.trans f_2874
  have lt_2877 := (g_2869.2.2.1 a_2494 m_2822).2
  have m_2876 : a_2494 ∈ L_2866 := g_2869.1.1 a_2494 m_2822
  have f_2878 : F_2863 a_2508 = .inl (G.2 0, 7, .inl ((fun _ => nI 0))) := (o_2865 a_2508 (by omega)).trans f_2825
  have f_2879 : F_2867 a_2508 = .inl (G.2 0, 7, .inl ((fun _ => nI 0))) := (g_2869.2.2.1 a_2508 m_2826).1.trans f_2878
  have lt_2881 := (g_2869.2.2.1 a_2508 m_2826).2
  have m_2880 : a_2508 ∈ L_2866 := g_2869.1.1 a_2508 m_2826
  have f_2882 : F_2863 a_2526 = .inl (G.2 0, 7, .inl ((fun _ => nI 0))) := (o_2865 a_2526 (by omega)).trans f_2829
  have f_2883 : F_2867 a_2526 = .inl (G.2 0, 7, .inl ((fun _ => nI 0))) := (g_2869.2.2.1 a_2526 m_2830).1.trans f_2882
  have lt_2885 := (g_2869.2.2.1 a_2526 m_2830).2
  have m_2884 : a_2526 ∈ L_2866 := g_2869.1.1 a_2526 m_2830
  have f_2886 : F_2863 a_2548 = .inl (G.2 0, 7, .inl ((fun _ => nI 0))) := (o_2865 a_2548 (by omega)).trans f_2833
  have f_2887 : F_2867 a_2548 = .inl (G.2 0, 7, .inl ((fun _ => nI 0))) := (g_2869.2.2.1 a_2548 m_2834).1.trans f_2886
  have lt_2889 := (g_2869.2.2.1 a_2548 m_2834).2
  have m_2888 : a_2548 ∈ L_2866 := g_2869.1.1 a_2548 m_2834
  have f_2890 : F_2863 a_2574 = .inl (G.2 0, 7, .inl ((fun _ => nI 0))) := (o_2865 a_2574 (by omega)).trans f_2837
  have f_2891 : F_2867 a_2574 = .inl (G.2 0, 7, .inl ((fun _ => nI 0))) := (g_2869.2.2.1 a_2574 m_2838).1.trans f_2890
  have lt_2893 := (g_2869.2.2.1 a_2574 m_2838).2
  have m_2892 : a_2574 ∈ L_2866 := g_2869.1.1 a_2574 m_2838
  have f_2894 : F_2863 a_2604 = .inl (G.2 0, 7, .inl ((fun _ => nI 0))) := (o_2865 a_2604 (by omega)).trans f_2841
  have f_2895 : F_2867 a_2604 = .inl (G.2 0, 7, .inl ((fun _ => nI 0))) := (g_2869.2.2.1 a_2604 m_2842).1.trans f_2894
  have lt_2897 := (g_2869.2.2.1 a_2604 m_2842).2
  have m_2896 : a_2604 ∈ L_2866 := g_2869.1.1 a_2604 m_2842
  have f_2898 : F_2863 a_2638 = .inl (G.2 0, 7, .inl ((fun _ => nI 0))) := (o_2865 a_2638 (by omega)).trans f_2845
  have f_2899 : F_2867 a_2638 = .inl (G.2 0, 7, .inl ((fun _ => nI 0))) := (g_2869.2.2.1 a_2638 m_2846).1.trans f_2898
  have lt_2901 := (g_2869.2.2.1 a_2638 m_2846).2
  have m_2900 : a_2638 ∈ L_2866 := g_2869.1.1 a_2638 m_2846
  have f_2902 : F_2863 a_2676 = .inl (G.2 0, 7, .inl ((fun _ => nI 0))) := (o_2865 a_2676 (by omega)).trans f_2849
  have f_2903 : F_2867 a_2676 = .inl (G.2 0, 7, .inl ((fun _ => nI 0))) := (g_2869.2.2.1 a_2676 m_2850).1.trans f_2902
  have lt_2905 := (g_2869.2.2.1 a_2676 m_2850).2
  have m_2904 : a_2676 ∈ L_2866 := g_2869.1.1 a_2676 m_2850
  have f_2906 : F_2863 a_2718 = .inl (G.2 0, 7, .inl ((fun _ => nI 0))) := (o_2865 a_2718 (by omega)).trans f_2853
  have f_2907 : F_2867 a_2718 = .inl (G.2 0, 7, .inl ((fun _ => nI 0))) := (g_2869.2.2.1 a_2718 m_2854).1.trans f_2906
  have lt_2909 := (g_2869.2.2.1 a_2718 m_2854).2
  have m_2908 : a_2718 ∈ L_2866 := g_2869.1.1 a_2718 m_2854
  have f_2910 : F_2863 a_2764 = .inl (G.2 0, 7, .inl ((fun _ => nI 0))) := (o_2865 a_2764 (by omega)).trans f_2857
  have f_2911 : F_2867 a_2764 = .inl (G.2 0, 7, .inl ((fun _ => nI 0))) := (g_2869.2.2.1 a_2764 m_2858).1.trans f_2910
  have lt_2913 := (g_2869.2.2.1 a_2764 m_2858).2
  have m_2912 : a_2764 ∈ L_2866 := g_2869.1.1 a_2764 m_2858
  have f_2914 : F_2863 a_2814 = .inl (G.2 0, 7, .inl ((fun _ => nI 0))) := (o_2865 a_2814 (by omega)).trans f_2862
  have f_2915 : F_2867 a_2814 = .inl (G.2 0, 7, .inl ((fun _ => nI 0))) := (g_2869.2.2.1 a_2814 m_2861).1.trans f_2914
  have lt_2917 := (g_2869.2.2.1 a_2814 m_2861).2
  have m_2916 : a_2814 ∈ L_2866 := g_2869.1.1 a_2814 m_2861
  have hg_2918 := hg_2860.step g_2869.1 hw.2.2.1
  have C0 := C0.grow g_2869.1 hw.2.2.1
  have hw := hw1
  have m_2919 : a_2868 ∈ L_2866 := g_2869.2.2.2.1
  have f_2920 : F_2867 a_2868 = .inl (G.2 0, 7, .inl ((fun _ => nI 0))) := g_2869.2.1
  refine q_putF C0 hnm hw m_2872 f_2871 fw_X1_45 pw_X1_11 rfl rfl rfl rfl (Nat.le_of_ble_eq_true rfl) dX1_init_97 (fun F_2921 H locs hw f_2922 o_2923 => ?_)
  have f_2922 : F_2921 a = .inr (1, [.ref a_2494, .ref a_2508, .ref a_2526, .ref a_2548, .ref a_2574, .ref a_2604, .ref a_2638, .ref a_2676, .ref a_2718, .ref a_2764, .ref a_2814, .ref a_2868, .null, .null]) := f_2922
  refine lv_aload_n hx hb dX1_init_100 rfl (lv_at hl 0 rfl) ?_
  refine lv_bipush (v := nI 7) hx hb dX1_init_101 (by decide) ?_
  refine k_newi C0 hw (by decide) (by decide) (Nat.le_of_ble_eq_true rfl) (Nat.le_of_ble_eq_true rfl) dX1_init_103 (fun L_2924 F_2925 a_2926 H_2928 g_2927 hw1 => ?_)
  have hge_a_2926 : s.heap.size ≤ a_2926 := Nat.le_trans hw.2.2.1 g_2927.2.2.2.2
  have f_2929 : F_2925 a = .inr (1, [.ref a_2494, .ref a_2508, .ref a_2526, .ref a_2548, .ref a_2574, .ref a_2604, .ref a_2638, .ref a_2676, .ref a_2718, .ref a_2764, .ref a_2814, .ref a_2868, .null, .null]) := (g_2927.2.2.1 a m_2872).1.trans f_2922
  have lt_2931 := (g_2927.2.2.1 a m_2872).2
  have m_2930 : a ∈ L_2924 := g_2927.1.1 a m_2872
  have f_2932 : F_2921 a_2494 = .inl (G.2 0, 7, .inl ((fun _ => nI 0))) := (o_2923 a_2494 (by omega)).trans f_2875
  have f_2933 : F_2925 a_2494 = .inl (G.2 0, 7, .inl ((fun _ => nI 0))) := (g_2927.2.2.1 a_2494 m_2876).1.trans f_2932
  have lt_2935 := (g_2927.2.2.1 a_2494 m_2876).2
  have m_2934 : a_2494 ∈ L_2924 := g_2927.1.1 a_2494 m_2876
  have f_2936 : F_2921 a_2508 = .inl (G.2 0, 7, .inl ((fun _ => nI 0))) := (o_2923 a_2508 (by omega)).trans f_2879
  have f_2937 : F_2925 a_2508 = .inl (G.2 0, 7, .inl ((fun _ => nI 0))) := (g_2927.2.2.1 a_2508 m_2880).1.trans f_2936
  have lt_2939 := (g_2927.2.2.1 a_2508 m_2880).2
  have m_2938 : a_2508 ∈ L_2924 := g_2927.1.1 a_2508 m_2880
  have f_2940 : F_2921 a_2526 = .inl (G.2 0, 7, .inl ((fun _ => nI 0))) := (o_2923 a_2526 (by omega)).trans f_2883
  have f_2941 : F_2925 a_2526 = .inl (G.2 0, 7, .inl ((fun _ => nI 0))) := (g_2927.2.2.1 a_2526 m_2884).1.trans f_2940
  have lt_2943 := (g_2927.2.2.1 a_2526 m_2884).2
  have m_2942 : a_2526 ∈ L_2924 := g_2927.1.1 a_2526 m_2884
  have f_2944 : F_2921 a_2548 = .inl (G.2 0, 7, .inl ((fun _ => nI 0))) := (o_2923 a_2548 (by omega)).trans f_2887
  have f_2945 : F_2925 a_2548 = .inl (G.2 0, 7, .inl ((fun _ => nI 0))) := (g_2927.2.2.1 a_2548 m_2888).1.trans f_2944
  have lt_2947 := (g_2927.2.2.1 a_2548 m_2888).2
  have m_2946 : a_2548 ∈ L_2924 := g_2927.1.1 a_2548 m_2888
  have f_2948 : F_2921 a_2574 = .inl (G.2 0, 7, .inl ((fun _ => nI 0))) := (o_2923 a_2574 (by omega)).trans f_2891
  have f_2949 : F_2925 a_2574 = .inl (G.2 0, 7, .inl ((fun _ => nI 0))) := (g_2927.2.2.1 a_2574 m_2892).1.trans f_2948
  have lt_2951 := (g_2927.2.2.1 a_2574 m_2892).2
  have m_2950 : a_2574 ∈ L_2924 := g_2927.1.1 a_2574 m_2892
  have f_2952 : F_2921 a_2604 = .inl (G.2 0, 7, .inl ((fun _ => nI 0))) := (o_2923 a_2604 (by omega)).trans f_2895
  have f_2953 : F_2925 a_2604 = .inl (G.2 0, 7, .inl ((fun _ => nI 0))) := (g_2927.2.2.1 a_2604 m_2896).1.trans f_2952
  have lt_2955 := (g_2927.2.2.1 a_2604 m_2896).2
  have m_2954 : a_2604 ∈ L_2924 := g_2927.1.1 a_2604 m_2896
  have f_2956 : F_2921 a_2638 = .inl (G.2 0, 7, .inl ((fun _ => nI 0))) := (o_2923 a_2638 (by omega)).trans f_2899
  have f_2957 : F_2925 a_2638 = .inl (G.2 0, 7, .inl ((fun _ => nI 0))) := (g_2927.2.2.1 a_2638 m_2900).1.trans f_2956
  have lt_2959 := (g_2927.2.2.1 a_2638 m_2900).2
  have m_2958 : a_2638 ∈ L_2924 := g_2927.1.1 a_2638 m_2900
  have f_2960 : F_2921 a_2676 = .inl (G.2 0, 7, .inl ((fun _ => nI 0))) := (o_2923 a_2676 (by omega)).trans f_2903
  have f_2961 : F_2925 a_2676 = .inl (G.2 0, 7, .inl ((fun _ => nI 0))) := (g_2927.2.2.1 a_2676 m_2904).1.trans f_2960
  have lt_2963 := (g_2927.2.2.1 a_2676 m_2904).2
  have m_2962 : a_2676 ∈ L_2924 := g_2927.1.1 a_2676 m_2904
  have f_2964 : F_2921 a_2718 = .inl (G.2 0, 7, .inl ((fun _ => nI 0))) := (o_2923 a_2718 (by omega)).trans f_2907
  have f_2965 : F_2925 a_2718 = .inl (G.2 0, 7, .inl ((fun _ => nI 0))) := (g_2927.2.2.1 a_2718 m_2908).1.trans f_2964
  have lt_2967 := (g_2927.2.2.1 a_2718 m_2908).2
  have m_2966 : a_2718 ∈ L_2924 := g_2927.1.1 a_2718 m_2908
  have f_2968 : F_2921 a_2764 = .inl (G.2 0, 7, .inl ((fun _ => nI 0))) := (o_2923 a_2764 (by omega)).trans f_2911
  have f_2969 : F_2925 a_2764 = .inl (G.2 0, 7, .inl ((fun _ => nI 0))) := (g_2927.2.2.1 a_2764 m_2912).1.trans f_2968
  have lt_2971 := (g_2927.2.2.1 a_2764 m_2912).2
  have m_2970 : a_2764 ∈ L_2924 := g_2927.1.1 a_2764 m_2912
  have f_2972 : F_2921 a_2814 = .inl (G.2 0, 7, .inl ((fun _ => nI 0))) := (o_2923 a_2814 (by omega)).trans f_2915
  have f_2973 : F_2925 a_2814 = .inl (G.2 0, 7, .inl ((fun _ => nI 0))) := (g_2927.2.2.1 a_2814 m_2916).1.trans f_2972
  have lt_2975 := (g_2927.2.2.1 a_2814 m_2916).2
  have m_2974 : a_2814 ∈ L_2924 := g_2927.1.1 a_2814 m_2916
  have f_2976 : F_2921 a_2868 = .inl (G.2 0, 7, .inl ((fun _ => nI 0))) := (o_2923 a_2868 (by omega)).trans f_2920
  have f_2977 : F_2925 a_2868 = .inl (G.2 0, 7, .inl ((fun _ => nI 0))) := (g_2927.2.2.1 a_2868 m_2919).1.trans f_2976
  have lt_2979 := (g_2927.2.2.1 a_2868 m_2919).2
  have m_2978 : a_2868 ∈ L_2924 := g_2927.1.1 a_2868 m_2919
  have hg_2980 := hg_2918.step g_2927.1 hw.2.2.1
  have C0 := C0.grow g_2927.1 hw.2.2.1
  have hw := hw1
  have m_2981 : a_2926 ∈ L_2924 := g_2927.2.2.2.1
  have f_2982 : F_2925 a_2926 = .inl (G.2 0, 7, .inl ((fun _ => nI 0))) := g_2927.2.1
  refine q_putF C0 hnm hw m_2930 f_2929 fw_X1_48 pw_X1_12 rfl rfl rfl rfl (Nat.le_of_ble_eq_true rfl) dX1_init_105 (fun F_2983 H locs hw f_2984 o_2985 => ?_)
  have f_2984 : F_2983 a = .inr (1, [.ref a_2494, .ref a_2508, .ref a_2526, .ref a_2548, .ref a_2574, .ref a_2604, .ref a_2638, .ref a_2676, .ref a_2718, .ref a_2764, .ref a_2814, .ref a_2868, .ref a_2926, .null]) := f_2984
  refine lv_aload_n hx hb dX1_init_108 rfl (lv_at hl 0 rfl) ?_
  refine lv_bipush (v := nI 7) hx hb dX1_init_109 (by decide) ?_
  refine k_newi C0 hw (by decide) (by decide) (Nat.le_of_ble_eq_true rfl) (Nat.le_of_ble_eq_true rfl) dX1_init_111 (fun L_2986 F_2987 a_2988 H_2990 g_2989 hw1 => ?_)
  have hge_a_2988 : s.heap.size ≤ a_2988 := Nat.le_trans hw.2.2.1 g_2989.2.2.2.2
  have f_2991 : F_2987 a = .inr (1, [.ref a_2494, .ref a_2508, .ref a_2526, .ref a_2548, .ref a_2574, .ref a_2604, .ref a_2638, .ref a_2676, .ref a_2718, .ref a_2764, .ref a_2814, .ref a_2868, .ref a_2926, .null]) := (g_2989.2.2.1 a m_2930).1.trans f_2984
  have lt_2993 := (g_2989.2.2.1 a m_2930).2
  have m_2992 : a ∈ L_2986 := g_2989.1.1 a m_2930
  have f_2994 : F_2983 a_2494 = .inl (G.2 0, 7, .inl ((fun _ => nI 0))) := (o_2985 a_2494 (by omega)).trans f_2933
  have f_2995 : F_2987 a_2494 = .inl (G.2 0, 7, .inl ((fun _ => nI 0))) := (g_2989.2.2.1 a_2494 m_2934).1.trans f_2994
  have lt_2997 := (g_2989.2.2.1 a_2494 m_2934).2
  have m_2996 : a_2494 ∈ L_2986 := g_2989.1.1 a_2494 m_2934
  have f_2998 : F_2983 a_2508 = .inl (G.2 0, 7, .inl ((fun _ => nI 0))) := (o_2985 a_2508 (by omega)).trans f_2937
  have f_2999 : F_2987 a_2508 = .inl (G.2 0, 7, .inl ((fun _ => nI 0))) := (g_2989.2.2.1 a_2508 m_2938).1.trans f_2998
  have lt_3001 := (g_2989.2.2.1 a_2508 m_2938).2
  have m_3000 : a_2508 ∈ L_2986 := g_2989.1.1 a_2508 m_2938
  have f_3002 : F_2983 a_2526 = .inl (G.2 0, 7, .inl ((fun _ => nI 0))) := (o_2985 a_2526 (by omega)).trans f_2941
  have f_3003 : F_2987 a_2526 = .inl (G.2 0, 7, .inl ((fun _ => nI 0))) := (g_2989.2.2.1 a_2526 m_2942).1.trans f_3002
  have lt_3005 := (g_2989.2.2.1 a_2526 m_2942).2
  have m_3004 : a_2526 ∈ L_2986 := g_2989.1.1 a_2526 m_2942
  have f_3006 : F_2983 a_2548 = .inl (G.2 0, 7, .inl ((fun _ => nI 0))) := (o_2985 a_2548 (by omega)).trans f_2945
  have f_3007 : F_2987 a_2548 = .inl (G.2 0, 7, .inl ((fun _ => nI 0))) := (g_2989.2.2.1 a_2548 m_2946).1.trans f_3006
  have lt_3009 := (g_2989.2.2.1 a_2548 m_2946).2
  have m_3008 : a_2548 ∈ L_2986 := g_2989.1.1 a_2548 m_2946
  have f_3010 : F_2983 a_2574 = .inl (G.2 0, 7, .inl ((fun _ => nI 0))) := (o_2985 a_2574 (by omega)).trans f_2949
  have f_3011 : F_2987 a_2574 = .inl (G.2 0, 7, .inl ((fun _ => nI 0))) := (g_2989.2.2.1 a_2574 m_2950).1.trans f_3010
  have lt_3013 := (g_2989.2.2.1 a_2574 m_2950).2
  have m_3012 : a_2574 ∈ L_2986 := g_2989.1.1 a_2574 m_2950
  have f_3014 : F_2983 a_2604 = .inl (G.2 0, 7, .inl ((fun _ => nI 0))) := (o_2985 a_2604 (by omega)).trans f_2953
  have f_3015 : F_2987 a_2604 = .inl (G.2 0, 7, .inl ((fun _ => nI 0))) := (g_2989.2.2.1 a_2604 m_2954).1.trans f_3014
  have lt_3017 := (g_2989.2.2.1 a_2604 m_2954).2
  have m_3016 : a_2604 ∈ L_2986 := g_2989.1.1 a_2604 m_2954
  have f_3018 : F_2983 a_2638 = .inl (G.2 0, 7, .inl ((fun _ => nI 0))) := (o_2985 a_2638 (by omega)).trans f_2957
  have f_3019 : F_2987 a_2638 = .inl (G.2 0, 7, .inl ((fun _ => nI 0))) := (g_2989.2.2.1 a_2638 m_2958).1.trans f_3018
  have lt_3021 := (g_2989.2.2.1 a_2638 m_2958).2
  have m_3020 : a_2638 ∈ L_2986 := g_2989.1.1 a_2638 m_2958
  have f_3022 : F_2983 a_2676 = .inl (G.2 0, 7, .inl ((fun _ => nI 0))) := (o_2985 a_2676 (by omega)).trans f_2961
  have f_3023 : F_2987 a_2676 = .inl (G.2 0, 7, .inl ((fun _ => nI 0))) := (g_2989.2.2.1 a_2676 m_2962).1.trans f_3022
  have lt_3025 := (g_2989.2.2.1 a_2676 m_2962).2
  have m_3024 : a_2676 ∈ L_2986 := g_2989.1.1 a_2676 m_2962
  have f_3026 : F_2983 a_2718 = .inl (G.2 0, 7, .inl ((fun _ => nI 0))) := (o_2985 a_2718 (by omega)).trans f_2965
  have f_3027 : F_2987 a_2718 = .inl (G.2 0, 7, .inl ((fun _ => nI 0))) := (g_2989.2.2.1 a_2718 m_2966).1.trans f_3026
  have lt_3029 := (g_2989.2.2.1 a_2718 m_2966).2
  have m_3028 : a_2718 ∈ L_2986 := g_2989.1.1 a_2718 m_2966
  have f_3030 : F_2983 a_2764 = .inl (G.2 0, 7, .inl ((fun _ => nI 0))) := (o_2985 a_2764 (by omega)).trans f_2969
  have f_3031 : F_2987 a_2764 = .inl (G.2 0, 7, .inl ((fun _ => nI 0))) := (g_2989.2.2.1 a_2764 m_2970).1.trans f_3030
  have lt_3033 := (g_2989.2.2.1 a_2764 m_2970).2
  have m_3032 : a_2764 ∈ L_2986 := g_2989.1.1 a_2764 m_2970
  have f_3034 : F_2983 a_2814 = .inl (G.2 0, 7, .inl ((fun _ => nI 0))) := (o_2985 a_2814 (by omega)).trans f_2973
  have f_3035 : F_2987 a_2814 = .inl (G.2 0, 7, .inl ((fun _ => nI 0))) := (g_2989.2.2.1 a_2814 m_2974).1.trans f_3034
  have lt_3037 := (g_2989.2.2.1 a_2814 m_2974).2
  have m_3036 : a_2814 ∈ L_2986 := g_2989.1.1 a_2814 m_2974
  have f_3038 : F_2983 a_2868 = .inl (G.2 0, 7, .inl ((fun _ => nI 0))) := (o_2985 a_2868 (by omega)).trans f_2977
  have f_3039 : F_2987 a_2868 = .inl (G.2 0, 7, .inl ((fun _ => nI 0))) := (g_2989.2.2.1 a_2868 m_2978).1.trans f_3038
  have lt_3041 := (g_2989.2.2.1 a_2868 m_2978).2
  have m_3040 : a_2868 ∈ L_2986 := g_2989.1.1 a_2868 m_2978
  have f_3042 : F_2983 a_2926 = .inl (G.2 0, 7, .inl ((fun _ => nI 0))) := (o_2985 a_2926 (by omega)).trans f_2982
  have f_3043 : F_2987 a_2926 = .inl (G.2 0, 7, .inl ((fun _ => nI 0))) := (g_2989.2.2.1 a_2926 m_2981).1.trans f_3042
  have lt_3045 := (g_2989.2.2.1 a_2926 m_2981).2
  have m_3044 : a_2926 ∈ L_2986 := g_2989.1.1 a_2926 m_2981
  have hg_3046 := hg_2980.step g_2989.1 hw.2.2.1
  have C0 := C0.grow g_2989.1 hw.2.2.1
  have hw := hw1
  have m_3047 : a_2988 ∈ L_2986 := g_2989.2.2.2.1
  have f_3048 : F_2987 a_2988 = .inl (G.2 0, 7, .inl ((fun _ => nI 0))) := g_2989.2.1
  refine q_putF C0 hnm hw m_2992 f_2991 fw_X1_51 pw_X1_13 rfl rfl rfl rfl (Nat.le_of_ble_eq_true rfl) dX1_init_113 (fun F_3049 H locs hw f_3050 o_3051 => ?_)
  have f_3050 : F_3049 a = .inr (1, [.ref a_2494, .ref a_2508, .ref a_2526, .ref a_2548, .ref a_2574, .ref a_2604, .ref a_2638, .ref a_2676, .ref a_2718, .ref a_2764, .ref a_2814, .ref a_2868, .ref a_2926, .ref a_2988]) := f_3050
  have hfr_3052 : ∀ q ∈ L, q ≠ a → F_3049 q = F q := by
    intro q hq hne
    have hqlt := hwS.lt hq
    exact ((((((((((((((((((((((((((((o_3051 q (by omega)).trans (g_2989.2.2.1 q (hg_2980.1 q hq)).1).trans (o_2985 q (by omega))).trans (g_2927.2.2.1 q (hg_2918.1 q hq)).1).trans (o_2923 q (by omega))).trans (g_2869.2.2.1 q (hg_2860.1 q hq)).1).trans (o_2865 q (by omega))).trans (g_2815.2.2.1 q (hg_2806.1 q hq)).1).trans (o_2811 q (by omega))).trans (g_2765.2.2.1 q (hg_2756.1 q hq)).1).trans (o_2761 q (by omega))).trans (g_2719.2.2.1 q (hg_2710.1 q hq)).1).trans (o_2715 q (by omega))).trans (g_2677.2.2.1 q (hg_2668.1 q hq)).1).trans (o_2673 q (by omega))).trans (g_2639.2.2.1 q (hg_2630.1 q hq)).1).trans (o_2635 q (by omega))).trans (g_2605.2.2.1 q (hg_2596.1 q hq)).1).trans (o_2601 q (by omega))).trans (g_2575.2.2.1 q (hg_2566.1 q hq)).1).trans (o_2571 q (by omega))).trans (g_2549.2.2.1 q (hg_2540.1 q hq)).1).trans (o_2545 q (by omega))).trans (g_2527.2.2.1 q (hg_2518.1 q hq)).1).trans (o_2523 q (by omega))).trans (g_2509.2.2.1 q (hg_2500.1 q hq)).1).trans (o_2505 q (by omega))).trans (g_2495.2.2.1 q (hg0.1 q hq)).1)
  have f_3053 : F_3049 a_2494 = .inl (G.2 0, 7, .inl ((fun _ => nI 0))) := (o_3051 a_2494 (by omega)).trans f_2995
  have f_3054 : F_3049 a_2508 = .inl (G.2 0, 7, .inl ((fun _ => nI 0))) := (o_3051 a_2508 (by omega)).trans f_2999
  have f_3055 : F_3049 a_2526 = .inl (G.2 0, 7, .inl ((fun _ => nI 0))) := (o_3051 a_2526 (by omega)).trans f_3003
  have f_3056 : F_3049 a_2548 = .inl (G.2 0, 7, .inl ((fun _ => nI 0))) := (o_3051 a_2548 (by omega)).trans f_3007
  have f_3057 : F_3049 a_2574 = .inl (G.2 0, 7, .inl ((fun _ => nI 0))) := (o_3051 a_2574 (by omega)).trans f_3011
  have f_3058 : F_3049 a_2604 = .inl (G.2 0, 7, .inl ((fun _ => nI 0))) := (o_3051 a_2604 (by omega)).trans f_3015
  have f_3059 : F_3049 a_2638 = .inl (G.2 0, 7, .inl ((fun _ => nI 0))) := (o_3051 a_2638 (by omega)).trans f_3019
  have f_3060 : F_3049 a_2676 = .inl (G.2 0, 7, .inl ((fun _ => nI 0))) := (o_3051 a_2676 (by omega)).trans f_3023
  have f_3061 : F_3049 a_2718 = .inl (G.2 0, 7, .inl ((fun _ => nI 0))) := (o_3051 a_2718 (by omega)).trans f_3027
  have f_3062 : F_3049 a_2764 = .inl (G.2 0, 7, .inl ((fun _ => nI 0))) := (o_3051 a_2764 (by omega)).trans f_3031
  have f_3063 : F_3049 a_2814 = .inl (G.2 0, 7, .inl ((fun _ => nI 0))) := (o_3051 a_2814 (by omega)).trans f_3035
  have f_3064 : F_3049 a_2868 = .inl (G.2 0, 7, .inl ((fun _ => nI 0))) := (o_3051 a_2868 (by omega)).trans f_3039
  have f_3065 : F_3049 a_2926 = .inl (G.2 0, 7, .inl ((fun _ => nI 0))) := (o_3051 a_2926 (by omega)).trans f_3043
  have f_3066 : F_3049 a_2988 = .inl (G.2 0, 7, .inl ((fun _ => nI 0))) := (o_3051 a_2988 (by omega)).trans f_3048
  obtain ⟨n, en⟩ : ∃ n : Nat → Nat, n = (fun i => if i = 0 then a_2494 else if i = 1 then a_2508 else if i = 2 then a_2526 else if i = 3 then a_2548 else if i = 4 then a_2574 else if i = 5 then a_2604 else if i = 6 then a_2638 else if i = 7 then a_2676 else if i = 8 then a_2718 else if i = 9 then a_2764 else if i = 10 then a_2814 else if i = 11 then a_2868 else if i = 12 then a_2926 else a_2988) := ⟨_, rfl⟩
  have e0 : n 0 = a_2494 := by rw [en]; rfl
  have e1 : n 1 = a_2508 := by rw [en]; rfl
  have e2 : n 2 = a_2526 := by rw [en]; rfl
  have e3 : n 3 = a_2548 := by rw [en]; rfl
  have e4 : n 4 = a_2574 := by rw [en]; rfl
  have e5 : n 5 = a_2604 := by rw [en]; rfl
  have e6 : n 6 = a_2638 := by rw [en]; rfl
  have e7 : n 7 = a_2676 := by rw [en]; rfl
  have e8 : n 8 = a_2718 := by rw [en]; rfl
  have e9 : n 9 = a_2764 := by rw [en]; rfl
  have e10 : n 10 = a_2814 := by rw [en]; rfl
  have e11 : n 11 = a_2868 := by rw [en]; rfl
  have e12 : n 12 = a_2926 := by rw [en]; rfl
  have e13 : n 13 = a_2988 := by rw [en]; rfl
  have hro : F_3049 a = rkO n := f_3050.trans (by unfold rkO; rw [e0, e1, e2, e3, e4, e5, e6, e7, e8, e9, e10, e11, e12, e13])
  have hrr : ∀ i, i < 14 → F_3049 (n i) = rw7 G (fun _ => zc 0) := by
    intro i hi
    match i, hi with
    | 0, _ => rw [e0]; exact f_3053
    | 1, _ => rw [e1]; exact f_3054
    | 2, _ => rw [e2]; exact f_3055
    | 3, _ => rw [e3]; exact f_3056
    | 4, _ => rw [e4]; exact f_3057
    | 5, _ => rw [e5]; exact f_3058
    | 6, _ => rw [e6]; exact f_3059
    | 7, _ => rw [e7]; exact f_3060
    | 8, _ => rw [e8]; exact f_3061
    | 9, _ => rw [e9]; exact f_3062
    | 10, _ => rw [e10]; exact f_3063
    | 11, _ => rw [e11]; exact f_3064
    | 12, _ => rw [e12]; exact f_3065
    | 13, _ => rw [e13]; exact f_3066
    | i + 14, h9 => exact absurd h9 (by omega)
  have hnm9 : ∀ i, i < 14 → s.heap.size ≤ n i ∧ n i ∈ L_2986 := by
    intro i hi
    match i, hi with
    | 0, _ => rw [e0]; exact ⟨by omega, m_2996⟩
    | 1, _ => rw [e1]; exact ⟨by omega, m_3000⟩
    | 2, _ => rw [e2]; exact ⟨by omega, m_3004⟩
    | 3, _ => rw [e3]; exact ⟨by omega, m_3008⟩
    | 4, _ => rw [e4]; exact ⟨by omega, m_3012⟩
    | 5, _ => rw [e5]; exact ⟨by omega, m_3016⟩
    | 6, _ => rw [e6]; exact ⟨by omega, m_3020⟩
    | 7, _ => rw [e7]; exact ⟨by omega, m_3024⟩
    | 8, _ => rw [e8]; exact ⟨by omega, m_3028⟩
    | 9, _ => rw [e9]; exact ⟨by omega, m_3032⟩
    | 10, _ => rw [e10]; exact ⟨by omega, m_3036⟩
    | 11, _ => rw [e11]; exact ⟨by omega, m_3040⟩
    | 12, _ => rw [e12]; exact ⟨by omega, m_3044⟩
    | 13, _ => rw [e13]; exact ⟨by omega, m_3047⟩
    | i + 14, h9 => exact absurd h9 (by omega)
  have hlt9 : ∀ i j, i < 14 → j < 14 → i < j → n i < n j := by
    intro i j hi hj hij
    have hs : ∀ k, k < 13 → n k < n (k + 1) := by
      intro k hk
      match k, hk with
      | 0, _ => rw [show n 0 = _ from e0, show n (0 + 1) = _ from e1]; omega
      | 1, _ => rw [show n 1 = _ from e1, show n (1 + 1) = _ from e2]; omega
      | 2, _ => rw [show n 2 = _ from e2, show n (2 + 1) = _ from e3]; omega
      | 3, _ => rw [show n 3 = _ from e3, show n (3 + 1) = _ from e4]; omega
      | 4, _ => rw [show n 4 = _ from e4, show n (4 + 1) = _ from e5]; omega
      | 5, _ => rw [show n 5 = _ from e5, show n (5 + 1) = _ from e6]; omega
      | 6, _ => rw [show n 6 = _ from e6, show n (6 + 1) = _ from e7]; omega
      | 7, _ => rw [show n 7 = _ from e7, show n (7 + 1) = _ from e8]; omega
      | 8, _ => rw [show n 8 = _ from e8, show n (8 + 1) = _ from e9]; omega
      | 9, _ => rw [show n 9 = _ from e9, show n (9 + 1) = _ from e10]; omega
      | 10, _ => rw [show n 10 = _ from e10, show n (10 + 1) = _ from e11]; omega
      | 11, _ => rw [show n 11 = _ from e11, show n (11 + 1) = _ from e12]; omega
      | 12, _ => rw [show n 12 = _ from e12, show n (12 + 1) = _ from e13]; omega
      | k + 13, h9 => exact absurd h9 (by omega)
    exact lt_chain (n := n) (m := 13) hs i j hij (by omega)
  have hinj : ∀ i j, i < 14 → j < 14 → i ≠ j → n i ≠ n j := fun i j hi hj hne => by
    rcases Nat.lt_or_gt_of_ne hne with h | h
    · have := hlt9 i j hi hj h; omega
    · have := hlt9 j i hj hi h; omega
  exact r_vN C0 hg_3046 hr hlk hw ⟨hg_3046, n, hro, hrr, hnm9, hinj, hfr_3052⟩ (Nat.le_of_ble_eq_true rfl) (Nat.le_of_ble_eq_true rfl) dX1_init_116 hQ
