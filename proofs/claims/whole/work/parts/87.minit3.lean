theorem blk_chain {A : Nat → Nat} {nn : Nat → Nat → Nat} {m : Nat} (h1 : ∀ k i, k < m → i < 16 → A k ≤ nn k i) (h2 : ∀ k i, k + 1 < m → i < 16 → nn k i < A (k + 1)) : ∀ k k2 i j, k < k2 → k2 < m → i < 16 → j < 16 → nn k i < nn k2 j := by
  intro k k2 i j hk hm hi hj
  have hs : ∀ q, q < m - 1 → A q < A (q + 1) := fun q hq => by
    have a1 := h1 q 0 (by omega) (by decide)
    have a2 := h2 q 0 (by omega) (by decide)
    omega
  have a1 := h2 k i (by omega) hi
  have a2 := h1 k2 j hm hj
  rcases Nat.lt_or_ge (k + 1) k2 with h | h
  · have a3 := lt_chain hs (k + 1) k2 h (by omega)
    omega
  · have e : k + 1 = k2 := by omega
    rw [e] at a1
    omega
abbrev rm_X0_init : Room := { frames := 3, cells := 97, slots := 630, locals := 81 }
set_option maxHeartbeats 4000000 in
set_option maxRecDepth 100000 in
theorem c_X0_init (l : Launch) (G : Gl) (L : List Nat) (F : Nat → va_E) (a : Nat) (ma : a ∈ L) (fa : F a = .inr (0, [.null, .int (nI (0))])) : CN l yX0_init cX0_init 2 rm_X0_init G L F [.ref a] (fun sz L1 F1 => gr L L1 sz ∧ ∃ (x : Nat) (nn : Nat → Nat → Nat), F1 a = hO x 0 ∧ (∃ f : Nat → Option Nat, F1 x = .inl (G.2 3, 6, .inr (.inr (.inr (.inr f)))) ∧ ∀ i, i < 6 → f i = some (nn i 0)) ∧ sz ≤ x ∧ x ∈ L1 ∧ (∀ k, k < 6 → sta G F1 (nn k) 0 st0) ∧ (∀ k i, k < 6 → i < 16 → x < nn k i ∧ nn k i ∈ L1) ∧ (∀ k k2 i j, k < k2 → k2 < 6 → i < 16 → j < 16 → nn k i < nn k2 j) ∧ (∀ k i j, k < 6 → i < 16 → j < 16 → i ≠ j → nn k i ≠ nn k j) ∧ (∀ k i, k < 6 → i < 16 → nn k 0 ≤ nn k i) ∧ (∀ q ∈ L, q ≠ a → F1 q = F q)) := by
  refine CN_of (by decide) (Nat.le_of_ble_eq_true rfl) rfl ?_
  intro p e s m args below meth c Q C0 hOv hr hlk hnm hQ hw ls hl
  have hx := C0.x
  have hb := C0.b
  have hwS := hw
  have hg0 := gr.rfl (L := L) s.heap.size
  have hlt0 := hw.lt ma
  refine lv_aload_n hx hb dX0_init_0 rfl (lv_at hl 0 rfl) ?_
  refine q_obj C0 hl.1 ob_X0 ob_i ob_c (by decide) (by decide) dX0_init_1 ?_
  refine lv_aload_n hx hb dX0_init_4 rfl (lv_at hl 0 rfl) ?_
  refine lv_bipush (v := nI 6) hx hb dX0_init_5 (by decide) ?_
  refine k_newq C0 hw 3 rfl cl_X0_9 hOv.1 (by decide) (Nat.le_of_ble_eq_true rfl) (Nat.le_of_ble_eq_true rfl) dX0_init_7 (fun L_12540 F_12541 a_12542 H_12544 g_12543 hw1 => ?_)
  have hge_a_12542 : s.heap.size ≤ a_12542 := Nat.le_trans hw.2.2.1 g_12543.2.2.2.2
  have f_12545 : F_12541 a = .inr (0, [.null, .int (nI (0))]) := (g_12543.2.2.1 a ma).1.trans fa
  have lt_12547 := (g_12543.2.2.1 a ma).2
  have m_12546 : a ∈ L_12540 := g_12543.1.1 a ma
  have hg_12548 := hg0.step g_12543.1 hw.2.2.1
  have C0 := C0.grow g_12543.1 hw.2.2.1
  have hw := hw1
  have m_12549 : a_12542 ∈ L_12540 := g_12543.2.2.2.1
  have f_12550 : F_12541 a_12542 = .inl (G.2 3, 6, .inr (.inr (.inr (.inr ((fun _ => none)))))) := g_12543.2.1
  refine q_putF C0 hnm hw m_12546 f_12545 fw_X0_11 pw_X0_0 rfl rfl rfl rfl (Nat.le_of_ble_eq_true rfl) dX0_init_10 (fun F_12551 H locs hw f_12552 o_12553 => ?_)
  have f_12552 : F_12551 a = .inr (0, [.ref a_12542, .int (nI (0))]) := f_12552
  refine lv_iconst (v := nI 0) hx hb dX0_init_13 (by decide) ?_
  refine lv_istore_n (lv' := [(1, .int (nI (0))), (0, .ref a)]) hx hb dX0_init_14 rfl hl (by decide) rfl (fun ls hl => ?_)
  refine lv_iload_n hx hb dX0_init_15 rfl (lv_at hl 0 rfl) ?_
  refine lv_bipush (v := nI 6) hx hb dX0_init_16 (by decide) ?_
  refine n_icmp_ge (tgt := 40) hx hb dX0_init_18 (by decide) (by decide) (by decide) (fun c_18 => ?_) (fun c_18 => ?_)
  · skip
    exact absurd c_18 (by omega)
  · skip
    refine lv_aload_n hx hb dX0_init_21 rfl (lv_at hl 1 rfl) ?_
    refine q_get C0 hw m_12546 f_12552 fw_X0_11 rfl dX0_init_22 ?_
    refine lv_iload_n hx hb dX0_init_25 rfl (lv_at hl 0 rfl) ?_
    refine k_new C0 hw nw_X0_9 (Nat.le_of_ble_eq_true rfl) (Nat.le_of_ble_eq_true rfl) dX0_init_26 (fun L_12554 F_12555 a_12556 H_12558 g_12557 hw1 => ?_)
    have hge_a_12556 : s.heap.size ≤ a_12556 := Nat.le_trans hw.2.2.1 g_12557.2.2.2.2
    have f_12559 : F_12555 a = .inr (0, [.ref a_12542, .int (nI (0))]) := (g_12557.2.2.1 a m_12546).1.trans f_12552
    have lt_12561 := (g_12557.2.2.1 a m_12546).2
    have m_12560 : a ∈ L_12554 := g_12557.1.1 a m_12546
    have f_12562 : F_12551 a_12542 = .inl (G.2 3, 6, .inr (.inr (.inr (.inr ((fun _ => none)))))) := (o_12553 a_12542 (by omega)).trans f_12550
    have f_12563 : F_12555 a_12542 = .inl (G.2 3, 6, .inr (.inr (.inr (.inr ((fun _ => none)))))) := (g_12557.2.2.1 a_12542 m_12549).1.trans f_12562
    have lt_12565 := (g_12557.2.2.1 a_12542 m_12549).2
    have m_12564 : a_12542 ∈ L_12554 := g_12557.1.1 a_12542 m_12549
    have hg_12566 := hg_12548.step g_12557.1 hw.2.2.1
    have C0 := C0.grow g_12557.1 hw.2.2.1
    have hw := hw1
    have m_12567 : a_12556 ∈ L_12554 := g_12557.2.2.2.1
    have f_12568 : F_12555 a_12556 = .inr (3, [.null, .int (nI (0)), .int (nI (0)), .int (nI (0)), .int (nI (0))]) := g_12557.2.1
    refine lv_dup hx hb dX0_init_29 rfl ?_
    refine q_calln hw (fun L1 F1 h => h.1) (q_runI (As := []) (c_X3_init l G L_12554 F_12555 a_12556 m_12567 f_12568) C0 hOv hw iw_X0_17 rfl hl.1 rfl (Nat.le_of_ble_eq_true rfl) dX0_init_30 ⟨by decide, by decide⟩ ⟨by decide, by decide⟩) (fun L_12569 F_12570 H_12572 locs hz_12573 hw1 hp_12571 => ?_)
    have hgs_12574 : s.heap.size ≤ H_12558.size := hw.2.2.1
    obtain ⟨g_12575, n_12576, e_12577, fb_12578, hm_12579, hj_12580, hf_12581⟩ := hp_12571
    have lt_12582 := hw.lt m_12560
    have lt_12583 := hw.lt m_12564
    have lt_12584 := hw.lt m_12567
    have f_12585 : F_12570 a = .inr (0, [.ref a_12542, .int (nI (0))]) := (hf_12581 a m_12560 (by omega)).trans f_12559
    have f_12586 : F_12570 a_12542 = .inl (G.2 3, 6, .inr (.inr (.inr (.inr ((fun _ => none)))))) := (hf_12581 a_12542 m_12564 (by omega)).trans f_12563
    have m_12587 : a ∈ L_12569 := g_12575.1 a m_12560
    have m_12588 : a_12542 ∈ L_12569 := g_12575.1 a_12542 m_12564
    have m_12589 : a_12556 ∈ L_12569 := g_12575.1 a_12556 m_12567
    have hg_12590 := hg_12566.step g_12575 hw.2.2.1
    have C0 := C0.grow g_12575 hw.2.2.1
    have hw := hw1
    have mb_12591 : ∀ i, i < 16 → n_12576 i ∈ L_12569 := fun i h2 => by
      by_cases ei : i = 0
      · rw [ei, e_12577]; exact m_12589
      · exact (hm_12579 i (by omega) h2).2
    have gb_12592 : ∀ i, i < 16 → a_12556 ≤ n_12576 i := fun i h2 => by
      by_cases ei : i = 0
      · rw [ei, e_12577]; exact Nat.le_refl _
      · have := (hm_12579 i (by omega) h2).1; omega
    refine q_aast C0 hw m_12588 3 3 rfl rfl f_12586 0 (by decide) (by decide) m_12589 ((congrArg F_12570 e_12577.symm).trans (show F_12570 (n_12576 0) = _ from fb_12578.1)) dX0_init_33 (fun F_12593 H locs hw f_12594 o_12595 => ?_)
    refine lv_iinc (v := nI 1) (lv' := [(1, .int (nI (1))), (0, .ref a)]) hx hb dX0_init_34 hl (k := 0) rfl (by decide) (by decide) rfl (fun ls hl => ?_)
    refine lv_goto (tgt := 15) hx hb dX0_init_37 (by decide) ?_
    refine lv_iload_n hx hb dX0_init_15 rfl (lv_at hl 0 rfl) ?_
    refine lv_bipush (v := nI 6) hx hb dX0_init_16 (by decide) ?_
    refine n_icmp_ge (tgt := 40) hx hb dX0_init_18 (by decide) (by decide) (by decide) (fun c_18 => ?_) (fun c_18 => ?_)
    · skip
      exact absurd c_18 (by omega)
    · skip
      refine lv_aload_n hx hb dX0_init_21 rfl (lv_at hl 1 rfl) ?_
      have f_12596 : F_12593 a = .inr (0, [.ref a_12542, .int (nI (0))]) := (o_12595 a (by omega)).trans f_12585
      refine q_get C0 hw m_12587 f_12596 fw_X0_11 rfl dX0_init_22 ?_
      refine lv_iload_n hx hb dX0_init_25 rfl (lv_at hl 0 rfl) ?_
      refine k_new C0 hw nw_X0_9 (Nat.le_of_ble_eq_true rfl) (Nat.le_of_ble_eq_true rfl) dX0_init_26 (fun L_12597 F_12598 a_12599 H_12601 g_12600 hw1 => ?_)
      have hge_a_12599 : s.heap.size ≤ a_12599 := Nat.le_trans hw.2.2.1 g_12600.2.2.2.2
      have f_12602 : F_12598 a = .inr (0, [.ref a_12542, .int (nI (0))]) := (g_12600.2.2.1 a m_12587).1.trans f_12596
      have lt_12604 := (g_12600.2.2.1 a m_12587).2
      have m_12603 : a ∈ L_12597 := g_12600.1.1 a m_12587
      have f_12605 : F_12598 a_12542 = .inl (G.2 3, 6, .inr (.inr (.inr (.inr ((va_up ((fun _ => none)) 0 (some a_12556))))))) := (g_12600.2.2.1 a_12542 m_12588).1.trans f_12594
      have lt_12607 := (g_12600.2.2.1 a_12542 m_12588).2
      have m_12606 : a_12542 ∈ L_12597 := g_12600.1.1 a_12542 m_12588
      have lt_12609 := (g_12600.2.2.1 a_12556 m_12589).2
      have m_12608 : a_12556 ∈ L_12597 := g_12600.1.1 a_12556 m_12589
      have fb_12610 : sta G F_12593 n_12576 0 st0 := fb_12578.keep (fun i hi => o_12595 (n_12576 i) (by (have := gb_12592 i (by omega); omega)))
      have lb_12613 : ∀ i, i < 16 → n_12576 i < a_12599 := fun i h1 => (g_12600.2.2.1 ((n_12576 i)) (mb_12591 i h1)).2
      have fb_12611 : sta G F_12598 n_12576 0 st0 := fb_12610.keep (fun i hi => (g_12600.2.2.1 ((n_12576 i)) (mb_12591 i (by omega))).1)
      have mb_12612 : ∀ i, i < 16 → n_12576 i ∈ L_12597 := fun i h1 => g_12600.1.1 ((n_12576 i)) (mb_12591 i h1)
      have hg_12614 := hg_12590.step g_12600.1 hw.2.2.1
      have C0 := C0.grow g_12600.1 hw.2.2.1
      have hw := hw1
      have m_12615 : a_12599 ∈ L_12597 := g_12600.2.2.2.1
      have f_12616 : F_12598 a_12599 = .inr (3, [.null, .int (nI (0)), .int (nI (0)), .int (nI (0)), .int (nI (0))]) := g_12600.2.1
      refine lv_dup hx hb dX0_init_29 rfl ?_
      refine q_calln hw (fun L1 F1 h => h.1) (q_runI (As := []) (c_X3_init l G L_12597 F_12598 a_12599 m_12615 f_12616) C0 hOv hw iw_X0_17 rfl hl.1 rfl (Nat.le_of_ble_eq_true rfl) dX0_init_30 ⟨by decide, by decide⟩ ⟨by decide, by decide⟩) (fun L_12617 F_12618 H_12620 locs hz_12621 hw1 hp_12619 => ?_)
      have hgs_12622 : s.heap.size ≤ H_12601.size := hw.2.2.1
      obtain ⟨g_12623, n_12624, e_12625, fb_12626, hm_12627, hj_12628, hf_12629⟩ := hp_12619
      have lt_12630 := hw.lt m_12603
      have lt_12631 := hw.lt m_12606
      have lt_12632 := hw.lt m_12608
      have lt_12633 := hw.lt m_12615
      have f_12634 : F_12618 a = .inr (0, [.ref a_12542, .int (nI (0))]) := (hf_12629 a m_12603 (by omega)).trans f_12602
      have f_12635 : F_12618 a_12542 = .inl (G.2 3, 6, .inr (.inr (.inr (.inr ((va_up ((fun _ => none)) 0 (some a_12556))))))) := (hf_12629 a_12542 m_12606 (by omega)).trans f_12605
      have lb_12638 : ∀ i, i < 16 → n_12576 i < H_12601.size := fun i h1 => hw.lt (mb_12612 i h1)
      have fb_12636 : sta G F_12618 n_12576 0 st0 := fb_12611.keep (fun i hi => hf_12629 (n_12576 i) (mb_12612 i (by omega)) (by (have := gb_12592 i (by omega); have := lb_12613 i (by omega); omega)))
      have mb_12637 : ∀ i, i < 16 → n_12576 i ∈ L_12617 := fun i h1 => g_12623.1 (n_12576 i) (mb_12612 i h1)
      have m_12639 : a ∈ L_12617 := g_12623.1 a m_12603
      have m_12640 : a_12542 ∈ L_12617 := g_12623.1 a_12542 m_12606
      have m_12641 : a_12556 ∈ L_12617 := g_12623.1 a_12556 m_12608
      have m_12642 : a_12599 ∈ L_12617 := g_12623.1 a_12599 m_12615
      have hg_12643 := hg_12614.step g_12623 hw.2.2.1
      have C0 := C0.grow g_12623 hw.2.2.1
      have hw := hw1
      have mb_12644 : ∀ i, i < 16 → n_12624 i ∈ L_12617 := fun i h2 => by
        by_cases ei : i = 0
        · rw [ei, e_12625]; exact m_12642
        · exact (hm_12627 i (by omega) h2).2
      have gb_12645 : ∀ i, i < 16 → a_12599 ≤ n_12624 i := fun i h2 => by
        by_cases ei : i = 0
        · rw [ei, e_12625]; exact Nat.le_refl _
        · have := (hm_12627 i (by omega) h2).1; omega
      refine q_aast C0 hw m_12640 3 3 rfl rfl f_12635 1 (by decide) (by decide) m_12642 ((congrArg F_12618 e_12625.symm).trans (show F_12618 (n_12624 0) = _ from fb_12626.1)) dX0_init_33 (fun F_12646 H locs hw f_12647 o_12648 => ?_)
      refine lv_iinc (v := nI 2) (lv' := [(1, .int (nI (2))), (0, .ref a)]) hx hb dX0_init_34 hl (k := 0) rfl (by decide) (by decide) rfl (fun ls hl => ?_)
      refine lv_goto (tgt := 15) hx hb dX0_init_37 (by decide) ?_
      refine lv_iload_n hx hb dX0_init_15 rfl (lv_at hl 0 rfl) ?_
      refine lv_bipush (v := nI 6) hx hb dX0_init_16 (by decide) ?_
      refine n_icmp_ge (tgt := 40) hx hb dX0_init_18 (by decide) (by decide) (by decide) (fun c_18 => ?_) (fun c_18 => ?_)
      · skip
        exact absurd c_18 (by omega)
      · skip
        refine lv_aload_n hx hb dX0_init_21 rfl (lv_at hl 1 rfl) ?_
        have f_12649 : F_12646 a = .inr (0, [.ref a_12542, .int (nI (0))]) := (o_12648 a (by omega)).trans f_12634
        refine q_get C0 hw m_12639 f_12649 fw_X0_11 rfl dX0_init_22 ?_
        refine lv_iload_n hx hb dX0_init_25 rfl (lv_at hl 0 rfl) ?_
        refine k_new C0 hw nw_X0_9 (Nat.le_of_ble_eq_true rfl) (Nat.le_of_ble_eq_true rfl) dX0_init_26 (fun L_12650 F_12651 a_12652 H_12654 g_12653 hw1 => ?_)
        have hge_a_12652 : s.heap.size ≤ a_12652 := Nat.le_trans hw.2.2.1 g_12653.2.2.2.2
        have f_12655 : F_12651 a = .inr (0, [.ref a_12542, .int (nI (0))]) := (g_12653.2.2.1 a m_12639).1.trans f_12649
        have lt_12657 := (g_12653.2.2.1 a m_12639).2
        have m_12656 : a ∈ L_12650 := g_12653.1.1 a m_12639
        have f_12658 : F_12651 a_12542 = .inl (G.2 3, 6, .inr (.inr (.inr (.inr ((va_up ((va_up ((fun _ => none)) 0 (some a_12556))) 1 (some a_12599))))))) := (g_12653.2.2.1 a_12542 m_12640).1.trans f_12647
        have lt_12660 := (g_12653.2.2.1 a_12542 m_12640).2
        have m_12659 : a_12542 ∈ L_12650 := g_12653.1.1 a_12542 m_12640
        have lt_12662 := (g_12653.2.2.1 a_12556 m_12641).2
        have m_12661 : a_12556 ∈ L_12650 := g_12653.1.1 a_12556 m_12641
        have lt_12664 := (g_12653.2.2.1 a_12599 m_12642).2
        have m_12663 : a_12599 ∈ L_12650 := g_12653.1.1 a_12599 m_12642
        have fb_12665 : sta G F_12646 n_12576 0 st0 := fb_12636.keep (fun i hi => o_12648 (n_12576 i) (by (have := gb_12592 i (by omega); have := lb_12613 i (by omega); have := lb_12638 i (by omega); omega)))
        have lb_12668 : ∀ i, i < 16 → n_12576 i < a_12652 := fun i h1 => (g_12653.2.2.1 ((n_12576 i)) (mb_12637 i h1)).2
        have fb_12666 : sta G F_12651 n_12576 0 st0 := fb_12665.keep (fun i hi => (g_12653.2.2.1 ((n_12576 i)) (mb_12637 i (by omega))).1)
        have mb_12667 : ∀ i, i < 16 → n_12576 i ∈ L_12650 := fun i h1 => g_12653.1.1 ((n_12576 i)) (mb_12637 i h1)
        have fb_12669 : sta G F_12646 n_12624 0 st0 := fb_12626.keep (fun i hi => o_12648 (n_12624 i) (by (have := gb_12645 i (by omega); omega)))
        have lb_12672 : ∀ i, i < 16 → n_12624 i < a_12652 := fun i h1 => (g_12653.2.2.1 ((n_12624 i)) (mb_12644 i h1)).2
        have fb_12670 : sta G F_12651 n_12624 0 st0 := fb_12669.keep (fun i hi => (g_12653.2.2.1 ((n_12624 i)) (mb_12644 i (by omega))).1)
        have mb_12671 : ∀ i, i < 16 → n_12624 i ∈ L_12650 := fun i h1 => g_12653.1.1 ((n_12624 i)) (mb_12644 i h1)
        have hg_12673 := hg_12643.step g_12653.1 hw.2.2.1
        have C0 := C0.grow g_12653.1 hw.2.2.1
        have hw := hw1
        have m_12674 : a_12652 ∈ L_12650 := g_12653.2.2.2.1
        have f_12675 : F_12651 a_12652 = .inr (3, [.null, .int (nI (0)), .int (nI (0)), .int (nI (0)), .int (nI (0))]) := g_12653.2.1
        refine lv_dup hx hb dX0_init_29 rfl ?_
        refine q_calln hw (fun L1 F1 h => h.1) (q_runI (As := []) (c_X3_init l G L_12650 F_12651 a_12652 m_12674 f_12675) C0 hOv hw iw_X0_17 rfl hl.1 rfl (Nat.le_of_ble_eq_true rfl) dX0_init_30 ⟨by decide, by decide⟩ ⟨by decide, by decide⟩) (fun L_12676 F_12677 H_12679 locs hz_12680 hw1 hp_12678 => ?_)
        have hgs_12681 : s.heap.size ≤ H_12654.size := hw.2.2.1
        obtain ⟨g_12682, n_12683, e_12684, fb_12685, hm_12686, hj_12687, hf_12688⟩ := hp_12678
        have lt_12689 := hw.lt m_12656
        have lt_12690 := hw.lt m_12659
        have lt_12691 := hw.lt m_12661
        have lt_12692 := hw.lt m_12663
        have lt_12693 := hw.lt m_12674
        have f_12694 : F_12677 a = .inr (0, [.ref a_12542, .int (nI (0))]) := (hf_12688 a m_12656 (by omega)).trans f_12655
        have f_12695 : F_12677 a_12542 = .inl (G.2 3, 6, .inr (.inr (.inr (.inr ((va_up ((va_up ((fun _ => none)) 0 (some a_12556))) 1 (some a_12599))))))) := (hf_12688 a_12542 m_12659 (by omega)).trans f_12658
        have lb_12698 : ∀ i, i < 16 → n_12576 i < H_12654.size := fun i h1 => hw.lt (mb_12667 i h1)
        have fb_12696 : sta G F_12677 n_12576 0 st0 := fb_12666.keep (fun i hi => hf_12688 (n_12576 i) (mb_12667 i (by omega)) (by (have := gb_12592 i (by omega); have := lb_12613 i (by omega); have := lb_12638 i (by omega); have := lb_12668 i (by omega); omega)))
        have mb_12697 : ∀ i, i < 16 → n_12576 i ∈ L_12676 := fun i h1 => g_12682.1 (n_12576 i) (mb_12667 i h1)
        have lb_12701 : ∀ i, i < 16 → n_12624 i < H_12654.size := fun i h1 => hw.lt (mb_12671 i h1)
        have fb_12699 : sta G F_12677 n_12624 0 st0 := fb_12670.keep (fun i hi => hf_12688 (n_12624 i) (mb_12671 i (by omega)) (by (have := gb_12645 i (by omega); have := lb_12672 i (by omega); omega)))
        have mb_12700 : ∀ i, i < 16 → n_12624 i ∈ L_12676 := fun i h1 => g_12682.1 (n_12624 i) (mb_12671 i h1)
        have m_12702 : a ∈ L_12676 := g_12682.1 a m_12656
        have m_12703 : a_12542 ∈ L_12676 := g_12682.1 a_12542 m_12659
        have m_12704 : a_12556 ∈ L_12676 := g_12682.1 a_12556 m_12661
        have m_12705 : a_12599 ∈ L_12676 := g_12682.1 a_12599 m_12663
        have m_12706 : a_12652 ∈ L_12676 := g_12682.1 a_12652 m_12674
        have hg_12707 := hg_12673.step g_12682 hw.2.2.1
        have C0 := C0.grow g_12682 hw.2.2.1
        have hw := hw1
        have mb_12708 : ∀ i, i < 16 → n_12683 i ∈ L_12676 := fun i h2 => by
          by_cases ei : i = 0
          · rw [ei, e_12684]; exact m_12706
          · exact (hm_12686 i (by omega) h2).2
        have gb_12709 : ∀ i, i < 16 → a_12652 ≤ n_12683 i := fun i h2 => by
          by_cases ei : i = 0
          · rw [ei, e_12684]; exact Nat.le_refl _
          · have := (hm_12686 i (by omega) h2).1; omega
        refine q_aast C0 hw m_12703 3 3 rfl rfl f_12695 2 (by decide) (by decide) m_12706 ((congrArg F_12677 e_12684.symm).trans (show F_12677 (n_12683 0) = _ from fb_12685.1)) dX0_init_33 (fun F_12710 H locs hw f_12711 o_12712 => ?_)
        refine lv_iinc (v := nI 3) (lv' := [(1, .int (nI (3))), (0, .ref a)]) hx hb dX0_init_34 hl (k := 0) rfl (by decide) (by decide) rfl (fun ls hl => ?_)
        refine lv_goto (tgt := 15) hx hb dX0_init_37 (by decide) ?_
        refine lv_iload_n hx hb dX0_init_15 rfl (lv_at hl 0 rfl) ?_
        refine lv_bipush (v := nI 6) hx hb dX0_init_16 (by decide) ?_
        refine n_icmp_ge (tgt := 40) hx hb dX0_init_18 (by decide) (by decide) (by decide) (fun c_18 => ?_) (fun c_18 => ?_)
        · skip
          exact absurd c_18 (by omega)
        · skip
          refine lv_aload_n hx hb dX0_init_21 rfl (lv_at hl 1 rfl) ?_
          have f_12713 : F_12710 a = .inr (0, [.ref a_12542, .int (nI (0))]) := (o_12712 a (by omega)).trans f_12694
          refine q_get C0 hw m_12702 f_12713 fw_X0_11 rfl dX0_init_22 ?_
          refine lv_iload_n hx hb dX0_init_25 rfl (lv_at hl 0 rfl) ?_
          refine k_new C0 hw nw_X0_9 (Nat.le_of_ble_eq_true rfl) (Nat.le_of_ble_eq_true rfl) dX0_init_26 (fun L_12714 F_12715 a_12716 H_12718 g_12717 hw1 => ?_)
          have hge_a_12716 : s.heap.size ≤ a_12716 := Nat.le_trans hw.2.2.1 g_12717.2.2.2.2
          have f_12719 : F_12715 a = .inr (0, [.ref a_12542, .int (nI (0))]) := (g_12717.2.2.1 a m_12702).1.trans f_12713
          have lt_12721 := (g_12717.2.2.1 a m_12702).2
          have m_12720 : a ∈ L_12714 := g_12717.1.1 a m_12702
          have f_12722 : F_12715 a_12542 = .inl (G.2 3, 6, .inr (.inr (.inr (.inr ((va_up ((va_up ((va_up ((fun _ => none)) 0 (some a_12556))) 1 (some a_12599))) 2 (some a_12652))))))) := (g_12717.2.2.1 a_12542 m_12703).1.trans f_12711
          have lt_12724 := (g_12717.2.2.1 a_12542 m_12703).2
          have m_12723 : a_12542 ∈ L_12714 := g_12717.1.1 a_12542 m_12703
          have lt_12726 := (g_12717.2.2.1 a_12556 m_12704).2
          have m_12725 : a_12556 ∈ L_12714 := g_12717.1.1 a_12556 m_12704
          have lt_12728 := (g_12717.2.2.1 a_12599 m_12705).2
          have m_12727 : a_12599 ∈ L_12714 := g_12717.1.1 a_12599 m_12705
          have lt_12730 := (g_12717.2.2.1 a_12652 m_12706).2
          have m_12729 : a_12652 ∈ L_12714 := g_12717.1.1 a_12652 m_12706
          have fb_12731 : sta G F_12710 n_12576 0 st0 := fb_12696.keep (fun i hi => o_12712 (n_12576 i) (by (have := gb_12592 i (by omega); have := lb_12613 i (by omega); have := lb_12638 i (by omega); have := lb_12668 i (by omega); have := lb_12698 i (by omega); omega)))
          have lb_12734 : ∀ i, i < 16 → n_12576 i < a_12716 := fun i h1 => (g_12717.2.2.1 ((n_12576 i)) (mb_12697 i h1)).2
          have fb_12732 : sta G F_12715 n_12576 0 st0 := fb_12731.keep (fun i hi => (g_12717.2.2.1 ((n_12576 i)) (mb_12697 i (by omega))).1)
          have mb_12733 : ∀ i, i < 16 → n_12576 i ∈ L_12714 := fun i h1 => g_12717.1.1 ((n_12576 i)) (mb_12697 i h1)
          have fb_12735 : sta G F_12710 n_12624 0 st0 := fb_12699.keep (fun i hi => o_12712 (n_12624 i) (by (have := gb_12645 i (by omega); have := lb_12672 i (by omega); have := lb_12701 i (by omega); omega)))
          have lb_12738 : ∀ i, i < 16 → n_12624 i < a_12716 := fun i h1 => (g_12717.2.2.1 ((n_12624 i)) (mb_12700 i h1)).2
          have fb_12736 : sta G F_12715 n_12624 0 st0 := fb_12735.keep (fun i hi => (g_12717.2.2.1 ((n_12624 i)) (mb_12700 i (by omega))).1)
          have mb_12737 : ∀ i, i < 16 → n_12624 i ∈ L_12714 := fun i h1 => g_12717.1.1 ((n_12624 i)) (mb_12700 i h1)
          have fb_12739 : sta G F_12710 n_12683 0 st0 := fb_12685.keep (fun i hi => o_12712 (n_12683 i) (by (have := gb_12709 i (by omega); omega)))
          have lb_12742 : ∀ i, i < 16 → n_12683 i < a_12716 := fun i h1 => (g_12717.2.2.1 ((n_12683 i)) (mb_12708 i h1)).2
          have fb_12740 : sta G F_12715 n_12683 0 st0 := fb_12739.keep (fun i hi => (g_12717.2.2.1 ((n_12683 i)) (mb_12708 i (by omega))).1)
          have mb_12741 : ∀ i, i < 16 → n_12683 i ∈ L_12714 := fun i h1 => g_12717.1.1 ((n_12683 i)) (mb_12708 i h1)
          have hg_12743 := hg_12707.step g_12717.1 hw.2.2.1
          have C0 := C0.grow g_12717.1 hw.2.2.1
          have hw := hw1
          have m_12744 : a_12716 ∈ L_12714 := g_12717.2.2.2.1
          have f_12745 : F_12715 a_12716 = .inr (3, [.null, .int (nI (0)), .int (nI (0)), .int (nI (0)), .int (nI (0))]) := g_12717.2.1
          refine lv_dup hx hb dX0_init_29 rfl ?_
          refine q_calln hw (fun L1 F1 h => h.1) (q_runI (As := []) (c_X3_init l G L_12714 F_12715 a_12716 m_12744 f_12745) C0 hOv hw iw_X0_17 rfl hl.1 rfl (Nat.le_of_ble_eq_true rfl) dX0_init_30 ⟨by decide, by decide⟩ ⟨by decide, by decide⟩) (fun L_12746 F_12747 H_12749 locs hz_12750 hw1 hp_12748 => ?_)
          have hgs_12751 : s.heap.size ≤ H_12718.size := hw.2.2.1
          obtain ⟨g_12752, n_12753, e_12754, fb_12755, hm_12756, hj_12757, hf_12758⟩ := hp_12748
          have lt_12759 := hw.lt m_12720
          have lt_12760 := hw.lt m_12723
          have lt_12761 := hw.lt m_12725
          have lt_12762 := hw.lt m_12727
          have lt_12763 := hw.lt m_12729
          have lt_12764 := hw.lt m_12744
          have f_12765 : F_12747 a = .inr (0, [.ref a_12542, .int (nI (0))]) := (hf_12758 a m_12720 (by omega)).trans f_12719
          have f_12766 : F_12747 a_12542 = .inl (G.2 3, 6, .inr (.inr (.inr (.inr ((va_up ((va_up ((va_up ((fun _ => none)) 0 (some a_12556))) 1 (some a_12599))) 2 (some a_12652))))))) := (hf_12758 a_12542 m_12723 (by omega)).trans f_12722
          have lb_12769 : ∀ i, i < 16 → n_12576 i < H_12718.size := fun i h1 => hw.lt (mb_12733 i h1)
          have fb_12767 : sta G F_12747 n_12576 0 st0 := fb_12732.keep (fun i hi => hf_12758 (n_12576 i) (mb_12733 i (by omega)) (by (have := gb_12592 i (by omega); have := lb_12613 i (by omega); have := lb_12638 i (by omega); have := lb_12668 i (by omega); have := lb_12698 i (by omega); have := lb_12734 i (by omega); omega)))
          have mb_12768 : ∀ i, i < 16 → n_12576 i ∈ L_12746 := fun i h1 => g_12752.1 (n_12576 i) (mb_12733 i h1)
          have lb_12772 : ∀ i, i < 16 → n_12624 i < H_12718.size := fun i h1 => hw.lt (mb_12737 i h1)
          have fb_12770 : sta G F_12747 n_12624 0 st0 := fb_12736.keep (fun i hi => hf_12758 (n_12624 i) (mb_12737 i (by omega)) (by (have := gb_12645 i (by omega); have := lb_12672 i (by omega); have := lb_12701 i (by omega); have := lb_12738 i (by omega); omega)))
          have mb_12771 : ∀ i, i < 16 → n_12624 i ∈ L_12746 := fun i h1 => g_12752.1 (n_12624 i) (mb_12737 i h1)
          have lb_12775 : ∀ i, i < 16 → n_12683 i < H_12718.size := fun i h1 => hw.lt (mb_12741 i h1)
          have fb_12773 : sta G F_12747 n_12683 0 st0 := fb_12740.keep (fun i hi => hf_12758 (n_12683 i) (mb_12741 i (by omega)) (by (have := gb_12709 i (by omega); have := lb_12742 i (by omega); omega)))
          have mb_12774 : ∀ i, i < 16 → n_12683 i ∈ L_12746 := fun i h1 => g_12752.1 (n_12683 i) (mb_12741 i h1)
          have m_12776 : a ∈ L_12746 := g_12752.1 a m_12720
          have m_12777 : a_12542 ∈ L_12746 := g_12752.1 a_12542 m_12723
          have m_12778 : a_12556 ∈ L_12746 := g_12752.1 a_12556 m_12725
          have m_12779 : a_12599 ∈ L_12746 := g_12752.1 a_12599 m_12727
          have m_12780 : a_12652 ∈ L_12746 := g_12752.1 a_12652 m_12729
          have m_12781 : a_12716 ∈ L_12746 := g_12752.1 a_12716 m_12744
          have hg_12782 := hg_12743.step g_12752 hw.2.2.1
          have C0 := C0.grow g_12752 hw.2.2.1
          have hw := hw1
          have mb_12783 : ∀ i, i < 16 → n_12753 i ∈ L_12746 := fun i h2 => by
            by_cases ei : i = 0
            · rw [ei, e_12754]; exact m_12781
            · exact (hm_12756 i (by omega) h2).2
          have gb_12784 : ∀ i, i < 16 → a_12716 ≤ n_12753 i := fun i h2 => by
            by_cases ei : i = 0
            · rw [ei, e_12754]; exact Nat.le_refl _
            · have := (hm_12756 i (by omega) h2).1; omega
          refine q_aast C0 hw m_12777 3 3 rfl rfl f_12766 3 (by decide) (by decide) m_12781 ((congrArg F_12747 e_12754.symm).trans (show F_12747 (n_12753 0) = _ from fb_12755.1)) dX0_init_33 (fun F_12785 H locs hw f_12786 o_12787 => ?_)
          refine lv_iinc (v := nI 4) (lv' := [(1, .int (nI (4))), (0, .ref a)]) hx hb dX0_init_34 hl (k := 0) rfl (by decide) (by decide) rfl (fun ls hl => ?_)
          refine lv_goto (tgt := 15) hx hb dX0_init_37 (by decide) ?_
          refine lv_iload_n hx hb dX0_init_15 rfl (lv_at hl 0 rfl) ?_
          refine lv_bipush (v := nI 6) hx hb dX0_init_16 (by decide) ?_
          refine n_icmp_ge (tgt := 40) hx hb dX0_init_18 (by decide) (by decide) (by decide) (fun c_18 => ?_) (fun c_18 => ?_)
          · skip
            exact absurd c_18 (by omega)
          · skip
            refine lv_aload_n hx hb dX0_init_21 rfl (lv_at hl 1 rfl) ?_
            have f_12788 : F_12785 a = .inr (0, [.ref a_12542, .int (nI (0))]) := (o_12787 a (by omega)).trans f_12765
            refine q_get C0 hw m_12776 f_12788 fw_X0_11 rfl dX0_init_22 ?_
            refine lv_iload_n hx hb dX0_init_25 rfl (lv_at hl 0 rfl) ?_
            refine k_new C0 hw nw_X0_9 (Nat.le_of_ble_eq_true rfl) (Nat.le_of_ble_eq_true rfl) dX0_init_26 (fun L_12789 F_12790 a_12791 H_12793 g_12792 hw1 => ?_)
            have hge_a_12791 : s.heap.size ≤ a_12791 := Nat.le_trans hw.2.2.1 g_12792.2.2.2.2
            have f_12794 : F_12790 a = .inr (0, [.ref a_12542, .int (nI (0))]) := (g_12792.2.2.1 a m_12776).1.trans f_12788
            have lt_12796 := (g_12792.2.2.1 a m_12776).2
            have m_12795 : a ∈ L_12789 := g_12792.1.1 a m_12776
            have f_12797 : F_12790 a_12542 = .inl (G.2 3, 6, .inr (.inr (.inr (.inr ((va_up ((va_up ((va_up ((va_up ((fun _ => none)) 0 (some a_12556))) 1 (some a_12599))) 2 (some a_12652))) 3 (some a_12716))))))) := (g_12792.2.2.1 a_12542 m_12777).1.trans f_12786
            have lt_12799 := (g_12792.2.2.1 a_12542 m_12777).2
            have m_12798 : a_12542 ∈ L_12789 := g_12792.1.1 a_12542 m_12777
            have lt_12801 := (g_12792.2.2.1 a_12556 m_12778).2
            have m_12800 : a_12556 ∈ L_12789 := g_12792.1.1 a_12556 m_12778
            have lt_12803 := (g_12792.2.2.1 a_12599 m_12779).2
            have m_12802 : a_12599 ∈ L_12789 := g_12792.1.1 a_12599 m_12779
            have lt_12805 := (g_12792.2.2.1 a_12652 m_12780).2
            have m_12804 : a_12652 ∈ L_12789 := g_12792.1.1 a_12652 m_12780
            have lt_12807 := (g_12792.2.2.1 a_12716 m_12781).2
            have m_12806 : a_12716 ∈ L_12789 := g_12792.1.1 a_12716 m_12781
            have fb_12808 : sta G F_12785 n_12576 0 st0 := fb_12767.keep (fun i hi => o_12787 (n_12576 i) (by (have := gb_12592 i (by omega); have := lb_12613 i (by omega); have := lb_12638 i (by omega); have := lb_12668 i (by omega); have := lb_12698 i (by omega); have := lb_12734 i (by omega); have := lb_12769 i (by omega); omega)))
            have lb_12811 : ∀ i, i < 16 → n_12576 i < a_12791 := fun i h1 => (g_12792.2.2.1 ((n_12576 i)) (mb_12768 i h1)).2
            have fb_12809 : sta G F_12790 n_12576 0 st0 := fb_12808.keep (fun i hi => (g_12792.2.2.1 ((n_12576 i)) (mb_12768 i (by omega))).1)
            have mb_12810 : ∀ i, i < 16 → n_12576 i ∈ L_12789 := fun i h1 => g_12792.1.1 ((n_12576 i)) (mb_12768 i h1)
            have fb_12812 : sta G F_12785 n_12624 0 st0 := fb_12770.keep (fun i hi => o_12787 (n_12624 i) (by (have := gb_12645 i (by omega); have := lb_12672 i (by omega); have := lb_12701 i (by omega); have := lb_12738 i (by omega); have := lb_12772 i (by omega); omega)))
            have lb_12815 : ∀ i, i < 16 → n_12624 i < a_12791 := fun i h1 => (g_12792.2.2.1 ((n_12624 i)) (mb_12771 i h1)).2
            have fb_12813 : sta G F_12790 n_12624 0 st0 := fb_12812.keep (fun i hi => (g_12792.2.2.1 ((n_12624 i)) (mb_12771 i (by omega))).1)
            have mb_12814 : ∀ i, i < 16 → n_12624 i ∈ L_12789 := fun i h1 => g_12792.1.1 ((n_12624 i)) (mb_12771 i h1)
            have fb_12816 : sta G F_12785 n_12683 0 st0 := fb_12773.keep (fun i hi => o_12787 (n_12683 i) (by (have := gb_12709 i (by omega); have := lb_12742 i (by omega); have := lb_12775 i (by omega); omega)))
            have lb_12819 : ∀ i, i < 16 → n_12683 i < a_12791 := fun i h1 => (g_12792.2.2.1 ((n_12683 i)) (mb_12774 i h1)).2
            have fb_12817 : sta G F_12790 n_12683 0 st0 := fb_12816.keep (fun i hi => (g_12792.2.2.1 ((n_12683 i)) (mb_12774 i (by omega))).1)
            have mb_12818 : ∀ i, i < 16 → n_12683 i ∈ L_12789 := fun i h1 => g_12792.1.1 ((n_12683 i)) (mb_12774 i h1)
            have fb_12820 : sta G F_12785 n_12753 0 st0 := fb_12755.keep (fun i hi => o_12787 (n_12753 i) (by (have := gb_12784 i (by omega); omega)))
            have lb_12823 : ∀ i, i < 16 → n_12753 i < a_12791 := fun i h1 => (g_12792.2.2.1 ((n_12753 i)) (mb_12783 i h1)).2
            have fb_12821 : sta G F_12790 n_12753 0 st0 := fb_12820.keep (fun i hi => (g_12792.2.2.1 ((n_12753 i)) (mb_12783 i (by omega))).1)
            have mb_12822 : ∀ i, i < 16 → n_12753 i ∈ L_12789 := fun i h1 => g_12792.1.1 ((n_12753 i)) (mb_12783 i h1)
            have hg_12824 := hg_12782.step g_12792.1 hw.2.2.1
            have C0 := C0.grow g_12792.1 hw.2.2.1
            have hw := hw1
            have m_12825 : a_12791 ∈ L_12789 := g_12792.2.2.2.1
            have f_12826 : F_12790 a_12791 = .inr (3, [.null, .int (nI (0)), .int (nI (0)), .int (nI (0)), .int (nI (0))]) := g_12792.2.1
            refine lv_dup hx hb dX0_init_29 rfl ?_
            refine q_calln hw (fun L1 F1 h => h.1) (q_runI (As := []) (c_X3_init l G L_12789 F_12790 a_12791 m_12825 f_12826) C0 hOv hw iw_X0_17 rfl hl.1 rfl (Nat.le_of_ble_eq_true rfl) dX0_init_30 ⟨by decide, by decide⟩ ⟨by decide, by decide⟩) (fun L_12827 F_12828 H_12830 locs hz_12831 hw1 hp_12829 => ?_)
            have hgs_12832 : s.heap.size ≤ H_12793.size := hw.2.2.1
            obtain ⟨g_12833, n_12834, e_12835, fb_12836, hm_12837, hj_12838, hf_12839⟩ := hp_12829
            have lt_12840 := hw.lt m_12795
            have lt_12841 := hw.lt m_12798
            have lt_12842 := hw.lt m_12800
            have lt_12843 := hw.lt m_12802
            have lt_12844 := hw.lt m_12804
            have lt_12845 := hw.lt m_12806
            have lt_12846 := hw.lt m_12825
            have f_12847 : F_12828 a = .inr (0, [.ref a_12542, .int (nI (0))]) := (hf_12839 a m_12795 (by omega)).trans f_12794
            have f_12848 : F_12828 a_12542 = .inl (G.2 3, 6, .inr (.inr (.inr (.inr ((va_up ((va_up ((va_up ((va_up ((fun _ => none)) 0 (some a_12556))) 1 (some a_12599))) 2 (some a_12652))) 3 (some a_12716))))))) := (hf_12839 a_12542 m_12798 (by omega)).trans f_12797
            have lb_12851 : ∀ i, i < 16 → n_12576 i < H_12793.size := fun i h1 => hw.lt (mb_12810 i h1)
            have fb_12849 : sta G F_12828 n_12576 0 st0 := fb_12809.keep (fun i hi => hf_12839 (n_12576 i) (mb_12810 i (by omega)) (by (have := gb_12592 i (by omega); have := lb_12613 i (by omega); have := lb_12638 i (by omega); have := lb_12668 i (by omega); have := lb_12698 i (by omega); have := lb_12734 i (by omega); have := lb_12769 i (by omega); have := lb_12811 i (by omega); omega)))
            have mb_12850 : ∀ i, i < 16 → n_12576 i ∈ L_12827 := fun i h1 => g_12833.1 (n_12576 i) (mb_12810 i h1)
            have lb_12854 : ∀ i, i < 16 → n_12624 i < H_12793.size := fun i h1 => hw.lt (mb_12814 i h1)
            have fb_12852 : sta G F_12828 n_12624 0 st0 := fb_12813.keep (fun i hi => hf_12839 (n_12624 i) (mb_12814 i (by omega)) (by (have := gb_12645 i (by omega); have := lb_12672 i (by omega); have := lb_12701 i (by omega); have := lb_12738 i (by omega); have := lb_12772 i (by omega); have := lb_12815 i (by omega); omega)))
            have mb_12853 : ∀ i, i < 16 → n_12624 i ∈ L_12827 := fun i h1 => g_12833.1 (n_12624 i) (mb_12814 i h1)
            have lb_12857 : ∀ i, i < 16 → n_12683 i < H_12793.size := fun i h1 => hw.lt (mb_12818 i h1)
            have fb_12855 : sta G F_12828 n_12683 0 st0 := fb_12817.keep (fun i hi => hf_12839 (n_12683 i) (mb_12818 i (by omega)) (by (have := gb_12709 i (by omega); have := lb_12742 i (by omega); have := lb_12775 i (by omega); have := lb_12819 i (by omega); omega)))
            have mb_12856 : ∀ i, i < 16 → n_12683 i ∈ L_12827 := fun i h1 => g_12833.1 (n_12683 i) (mb_12818 i h1)
            have lb_12860 : ∀ i, i < 16 → n_12753 i < H_12793.size := fun i h1 => hw.lt (mb_12822 i h1)
            have fb_12858 : sta G F_12828 n_12753 0 st0 := fb_12821.keep (fun i hi => hf_12839 (n_12753 i) (mb_12822 i (by omega)) (by (have := gb_12784 i (by omega); have := lb_12823 i (by omega); omega)))
            have mb_12859 : ∀ i, i < 16 → n_12753 i ∈ L_12827 := fun i h1 => g_12833.1 (n_12753 i) (mb_12822 i h1)
            have m_12861 : a ∈ L_12827 := g_12833.1 a m_12795
            have m_12862 : a_12542 ∈ L_12827 := g_12833.1 a_12542 m_12798
            have m_12863 : a_12556 ∈ L_12827 := g_12833.1 a_12556 m_12800
            have m_12864 : a_12599 ∈ L_12827 := g_12833.1 a_12599 m_12802
            have m_12865 : a_12652 ∈ L_12827 := g_12833.1 a_12652 m_12804
            have m_12866 : a_12716 ∈ L_12827 := g_12833.1 a_12716 m_12806
            have m_12867 : a_12791 ∈ L_12827 := g_12833.1 a_12791 m_12825
            have hg_12868 := hg_12824.step g_12833 hw.2.2.1
            have C0 := C0.grow g_12833 hw.2.2.1
            have hw := hw1
            have mb_12869 : ∀ i, i < 16 → n_12834 i ∈ L_12827 := fun i h2 => by
              by_cases ei : i = 0
              · rw [ei, e_12835]; exact m_12867
              · exact (hm_12837 i (by omega) h2).2
            have gb_12870 : ∀ i, i < 16 → a_12791 ≤ n_12834 i := fun i h2 => by
              by_cases ei : i = 0
              · rw [ei, e_12835]; exact Nat.le_refl _
              · have := (hm_12837 i (by omega) h2).1; omega
            refine q_aast C0 hw m_12862 3 3 rfl rfl f_12848 4 (by decide) (by decide) m_12867 ((congrArg F_12828 e_12835.symm).trans (show F_12828 (n_12834 0) = _ from fb_12836.1)) dX0_init_33 (fun F_12871 H locs hw f_12872 o_12873 => ?_)
            refine lv_iinc (v := nI 5) (lv' := [(1, .int (nI (5))), (0, .ref a)]) hx hb dX0_init_34 hl (k := 0) rfl (by decide) (by decide) rfl (fun ls hl => ?_)
            refine lv_goto (tgt := 15) hx hb dX0_init_37 (by decide) ?_
            refine lv_iload_n hx hb dX0_init_15 rfl (lv_at hl 0 rfl) ?_
            refine lv_bipush (v := nI 6) hx hb dX0_init_16 (by decide) ?_
            refine n_icmp_ge (tgt := 40) hx hb dX0_init_18 (by decide) (by decide) (by decide) (fun c_18 => ?_) (fun c_18 => ?_)
            · skip
              exact absurd c_18 (by omega)
            · skip
              refine lv_aload_n hx hb dX0_init_21 rfl (lv_at hl 1 rfl) ?_
              have f_12874 : F_12871 a = .inr (0, [.ref a_12542, .int (nI (0))]) := (o_12873 a (by omega)).trans f_12847
              refine q_get C0 hw m_12861 f_12874 fw_X0_11 rfl dX0_init_22 ?_
              refine lv_iload_n hx hb dX0_init_25 rfl (lv_at hl 0 rfl) ?_
              refine k_new C0 hw nw_X0_9 (Nat.le_of_ble_eq_true rfl) (Nat.le_of_ble_eq_true rfl) dX0_init_26 (fun L_12875 F_12876 a_12877 H_12879 g_12878 hw1 => ?_)
              have hge_a_12877 : s.heap.size ≤ a_12877 := Nat.le_trans hw.2.2.1 g_12878.2.2.2.2
              have f_12880 : F_12876 a = .inr (0, [.ref a_12542, .int (nI (0))]) := (g_12878.2.2.1 a m_12861).1.trans f_12874
              have lt_12882 := (g_12878.2.2.1 a m_12861).2
              have m_12881 : a ∈ L_12875 := g_12878.1.1 a m_12861
              have f_12883 : F_12876 a_12542 = .inl (G.2 3, 6, .inr (.inr (.inr (.inr ((va_up ((va_up ((va_up ((va_up ((va_up ((fun _ => none)) 0 (some a_12556))) 1 (some a_12599))) 2 (some a_12652))) 3 (some a_12716))) 4 (some a_12791))))))) := (g_12878.2.2.1 a_12542 m_12862).1.trans f_12872
              have lt_12885 := (g_12878.2.2.1 a_12542 m_12862).2
              have m_12884 : a_12542 ∈ L_12875 := g_12878.1.1 a_12542 m_12862
              have lt_12887 := (g_12878.2.2.1 a_12556 m_12863).2
              have m_12886 : a_12556 ∈ L_12875 := g_12878.1.1 a_12556 m_12863
              have lt_12889 := (g_12878.2.2.1 a_12599 m_12864).2
              have m_12888 : a_12599 ∈ L_12875 := g_12878.1.1 a_12599 m_12864
              have lt_12891 := (g_12878.2.2.1 a_12652 m_12865).2
              have m_12890 : a_12652 ∈ L_12875 := g_12878.1.1 a_12652 m_12865
              have lt_12893 := (g_12878.2.2.1 a_12716 m_12866).2
              have m_12892 : a_12716 ∈ L_12875 := g_12878.1.1 a_12716 m_12866
              have lt_12895 := (g_12878.2.2.1 a_12791 m_12867).2
              have m_12894 : a_12791 ∈ L_12875 := g_12878.1.1 a_12791 m_12867
              have fb_12896 : sta G F_12871 n_12576 0 st0 := fb_12849.keep (fun i hi => o_12873 (n_12576 i) (by (have := gb_12592 i (by omega); have := lb_12613 i (by omega); have := lb_12638 i (by omega); have := lb_12668 i (by omega); have := lb_12698 i (by omega); have := lb_12734 i (by omega); have := lb_12769 i (by omega); have := lb_12811 i (by omega); have := lb_12851 i (by omega); omega)))
              have lb_12899 : ∀ i, i < 16 → n_12576 i < a_12877 := fun i h1 => (g_12878.2.2.1 ((n_12576 i)) (mb_12850 i h1)).2
              have fb_12897 : sta G F_12876 n_12576 0 st0 := fb_12896.keep (fun i hi => (g_12878.2.2.1 ((n_12576 i)) (mb_12850 i (by omega))).1)
              have mb_12898 : ∀ i, i < 16 → n_12576 i ∈ L_12875 := fun i h1 => g_12878.1.1 ((n_12576 i)) (mb_12850 i h1)
              have fb_12900 : sta G F_12871 n_12624 0 st0 := fb_12852.keep (fun i hi => o_12873 (n_12624 i) (by (have := gb_12645 i (by omega); have := lb_12672 i (by omega); have := lb_12701 i (by omega); have := lb_12738 i (by omega); have := lb_12772 i (by omega); have := lb_12815 i (by omega); have := lb_12854 i (by omega); omega)))
              have lb_12903 : ∀ i, i < 16 → n_12624 i < a_12877 := fun i h1 => (g_12878.2.2.1 ((n_12624 i)) (mb_12853 i h1)).2
              have fb_12901 : sta G F_12876 n_12624 0 st0 := fb_12900.keep (fun i hi => (g_12878.2.2.1 ((n_12624 i)) (mb_12853 i (by omega))).1)
              have mb_12902 : ∀ i, i < 16 → n_12624 i ∈ L_12875 := fun i h1 => g_12878.1.1 ((n_12624 i)) (mb_12853 i h1)
              have fb_12904 : sta G F_12871 n_12683 0 st0 := fb_12855.keep (fun i hi => o_12873 (n_12683 i) (by (have := gb_12709 i (by omega); have := lb_12742 i (by omega); have := lb_12775 i (by omega); have := lb_12819 i (by omega); have := lb_12857 i (by omega); omega)))
              have lb_12907 : ∀ i, i < 16 → n_12683 i < a_12877 := fun i h1 => (g_12878.2.2.1 ((n_12683 i)) (mb_12856 i h1)).2
              have fb_12905 : sta G F_12876 n_12683 0 st0 := fb_12904.keep (fun i hi => (g_12878.2.2.1 ((n_12683 i)) (mb_12856 i (by omega))).1)
              have mb_12906 : ∀ i, i < 16 → n_12683 i ∈ L_12875 := fun i h1 => g_12878.1.1 ((n_12683 i)) (mb_12856 i h1)
              have fb_12908 : sta G F_12871 n_12753 0 st0 := fb_12858.keep (fun i hi => o_12873 (n_12753 i) (by (have := gb_12784 i (by omega); have := lb_12823 i (by omega); have := lb_12860 i (by omega); omega)))
              have lb_12911 : ∀ i, i < 16 → n_12753 i < a_12877 := fun i h1 => (g_12878.2.2.1 ((n_12753 i)) (mb_12859 i h1)).2
              have fb_12909 : sta G F_12876 n_12753 0 st0 := fb_12908.keep (fun i hi => (g_12878.2.2.1 ((n_12753 i)) (mb_12859 i (by omega))).1)
              have mb_12910 : ∀ i, i < 16 → n_12753 i ∈ L_12875 := fun i h1 => g_12878.1.1 ((n_12753 i)) (mb_12859 i h1)
              have fb_12912 : sta G F_12871 n_12834 0 st0 := fb_12836.keep (fun i hi => o_12873 (n_12834 i) (by (have := gb_12870 i (by omega); omega)))
              have lb_12915 : ∀ i, i < 16 → n_12834 i < a_12877 := fun i h1 => (g_12878.2.2.1 ((n_12834 i)) (mb_12869 i h1)).2
              have fb_12913 : sta G F_12876 n_12834 0 st0 := fb_12912.keep (fun i hi => (g_12878.2.2.1 ((n_12834 i)) (mb_12869 i (by omega))).1)
              have mb_12914 : ∀ i, i < 16 → n_12834 i ∈ L_12875 := fun i h1 => g_12878.1.1 ((n_12834 i)) (mb_12869 i h1)
              have hg_12916 := hg_12868.step g_12878.1 hw.2.2.1
              have C0 := C0.grow g_12878.1 hw.2.2.1
              have hw := hw1
              have m_12917 : a_12877 ∈ L_12875 := g_12878.2.2.2.1
              have f_12918 : F_12876 a_12877 = .inr (3, [.null, .int (nI (0)), .int (nI (0)), .int (nI (0)), .int (nI (0))]) := g_12878.2.1
              refine lv_dup hx hb dX0_init_29 rfl ?_
              refine q_calln hw (fun L1 F1 h => h.1) (q_runI (As := []) (c_X3_init l G L_12875 F_12876 a_12877 m_12917 f_12918) C0 hOv hw iw_X0_17 rfl hl.1 rfl (Nat.le_of_ble_eq_true rfl) dX0_init_30 ⟨by decide, by decide⟩ ⟨by decide, by decide⟩) (fun L_12919 F_12920 H_12922 locs hz_12923 hw1 hp_12921 => ?_)
              have hgs_12924 : s.heap.size ≤ H_12879.size := hw.2.2.1
              obtain ⟨g_12925, n_12926, e_12927, fb_12928, hm_12929, hj_12930, hf_12931⟩ := hp_12921
              have lt_12932 := hw.lt m_12881
              have lt_12933 := hw.lt m_12884
              have lt_12934 := hw.lt m_12886
              have lt_12935 := hw.lt m_12888
              have lt_12936 := hw.lt m_12890
              have lt_12937 := hw.lt m_12892
              have lt_12938 := hw.lt m_12894
              have lt_12939 := hw.lt m_12917
              have f_12940 : F_12920 a = .inr (0, [.ref a_12542, .int (nI (0))]) := (hf_12931 a m_12881 (by omega)).trans f_12880
              have f_12941 : F_12920 a_12542 = .inl (G.2 3, 6, .inr (.inr (.inr (.inr ((va_up ((va_up ((va_up ((va_up ((va_up ((fun _ => none)) 0 (some a_12556))) 1 (some a_12599))) 2 (some a_12652))) 3 (some a_12716))) 4 (some a_12791))))))) := (hf_12931 a_12542 m_12884 (by omega)).trans f_12883
              have lb_12944 : ∀ i, i < 16 → n_12576 i < H_12879.size := fun i h1 => hw.lt (mb_12898 i h1)
              have fb_12942 : sta G F_12920 n_12576 0 st0 := fb_12897.keep (fun i hi => hf_12931 (n_12576 i) (mb_12898 i (by omega)) (by (have := gb_12592 i (by omega); have := lb_12613 i (by omega); have := lb_12638 i (by omega); have := lb_12668 i (by omega); have := lb_12698 i (by omega); have := lb_12734 i (by omega); have := lb_12769 i (by omega); have := lb_12811 i (by omega); have := lb_12851 i (by omega); have := lb_12899 i (by omega); omega)))
              have mb_12943 : ∀ i, i < 16 → n_12576 i ∈ L_12919 := fun i h1 => g_12925.1 (n_12576 i) (mb_12898 i h1)
              have lb_12947 : ∀ i, i < 16 → n_12624 i < H_12879.size := fun i h1 => hw.lt (mb_12902 i h1)
              have fb_12945 : sta G F_12920 n_12624 0 st0 := fb_12901.keep (fun i hi => hf_12931 (n_12624 i) (mb_12902 i (by omega)) (by (have := gb_12645 i (by omega); have := lb_12672 i (by omega); have := lb_12701 i (by omega); have := lb_12738 i (by omega); have := lb_12772 i (by omega); have := lb_12815 i (by omega); have := lb_12854 i (by omega); have := lb_12903 i (by omega); omega)))
              have mb_12946 : ∀ i, i < 16 → n_12624 i ∈ L_12919 := fun i h1 => g_12925.1 (n_12624 i) (mb_12902 i h1)
              have lb_12950 : ∀ i, i < 16 → n_12683 i < H_12879.size := fun i h1 => hw.lt (mb_12906 i h1)
              have fb_12948 : sta G F_12920 n_12683 0 st0 := fb_12905.keep (fun i hi => hf_12931 (n_12683 i) (mb_12906 i (by omega)) (by (have := gb_12709 i (by omega); have := lb_12742 i (by omega); have := lb_12775 i (by omega); have := lb_12819 i (by omega); have := lb_12857 i (by omega); have := lb_12907 i (by omega); omega)))
              have mb_12949 : ∀ i, i < 16 → n_12683 i ∈ L_12919 := fun i h1 => g_12925.1 (n_12683 i) (mb_12906 i h1)
              have lb_12953 : ∀ i, i < 16 → n_12753 i < H_12879.size := fun i h1 => hw.lt (mb_12910 i h1)
              have fb_12951 : sta G F_12920 n_12753 0 st0 := fb_12909.keep (fun i hi => hf_12931 (n_12753 i) (mb_12910 i (by omega)) (by (have := gb_12784 i (by omega); have := lb_12823 i (by omega); have := lb_12860 i (by omega); have := lb_12911 i (by omega); omega)))
              have mb_12952 : ∀ i, i < 16 → n_12753 i ∈ L_12919 := fun i h1 => g_12925.1 (n_12753 i) (mb_12910 i h1)
              have lb_12956 : ∀ i, i < 16 → n_12834 i < H_12879.size := fun i h1 => hw.lt (mb_12914 i h1)
              have fb_12954 : sta G F_12920 n_12834 0 st0 := fb_12913.keep (fun i hi => hf_12931 (n_12834 i) (mb_12914 i (by omega)) (by (have := gb_12870 i (by omega); have := lb_12915 i (by omega); omega)))
              have mb_12955 : ∀ i, i < 16 → n_12834 i ∈ L_12919 := fun i h1 => g_12925.1 (n_12834 i) (mb_12914 i h1)
              have m_12957 : a ∈ L_12919 := g_12925.1 a m_12881
              have m_12958 : a_12542 ∈ L_12919 := g_12925.1 a_12542 m_12884
              have m_12959 : a_12556 ∈ L_12919 := g_12925.1 a_12556 m_12886
              have m_12960 : a_12599 ∈ L_12919 := g_12925.1 a_12599 m_12888
              have m_12961 : a_12652 ∈ L_12919 := g_12925.1 a_12652 m_12890
              have m_12962 : a_12716 ∈ L_12919 := g_12925.1 a_12716 m_12892
              have m_12963 : a_12791 ∈ L_12919 := g_12925.1 a_12791 m_12894
              have m_12964 : a_12877 ∈ L_12919 := g_12925.1 a_12877 m_12917
              have hg_12965 := hg_12916.step g_12925 hw.2.2.1
              have C0 := C0.grow g_12925 hw.2.2.1
              have hw := hw1
              have mb_12966 : ∀ i, i < 16 → n_12926 i ∈ L_12919 := fun i h2 => by
                by_cases ei : i = 0
                · rw [ei, e_12927]; exact m_12964
                · exact (hm_12929 i (by omega) h2).2
              have gb_12967 : ∀ i, i < 16 → a_12877 ≤ n_12926 i := fun i h2 => by
                by_cases ei : i = 0
                · rw [ei, e_12927]; exact Nat.le_refl _
                · have := (hm_12929 i (by omega) h2).1; omega
              refine q_aast C0 hw m_12958 3 3 rfl rfl f_12941 5 (by decide) (by decide) m_12964 ((congrArg F_12920 e_12927.symm).trans (show F_12920 (n_12926 0) = _ from fb_12928.1)) dX0_init_33 (fun F_12968 H locs hw f_12969 o_12970 => ?_)
              refine lv_iinc (v := nI 6) (lv' := [(1, .int (nI (6))), (0, .ref a)]) hx hb dX0_init_34 hl (k := 0) rfl (by decide) (by decide) rfl (fun ls hl => ?_)
              refine lv_goto (tgt := 15) hx hb dX0_init_37 (by decide) ?_
              refine lv_iload_n hx hb dX0_init_15 rfl (lv_at hl 0 rfl) ?_
              refine lv_bipush (v := nI 6) hx hb dX0_init_16 (by decide) ?_
              refine n_icmp_ge (tgt := 40) hx hb dX0_init_18 (by decide) (by decide) (by decide) (fun c_18 => ?_) (fun c_18 => ?_)
              · skip
                have fb_12971 : sta G F_12968 n_12576 0 st0 := fb_12942.keep (fun i hi => o_12970 (n_12576 i) (by (have := gb_12592 i (by omega); have := lb_12613 i (by omega); have := lb_12638 i (by omega); have := lb_12668 i (by omega); have := lb_12698 i (by omega); have := lb_12734 i (by omega); have := lb_12769 i (by omega); have := lb_12811 i (by omega); have := lb_12851 i (by omega); have := lb_12899 i (by omega); have := lb_12944 i (by omega); omega)))
                have fb_12972 : sta G F_12968 n_12624 0 st0 := fb_12945.keep (fun i hi => o_12970 (n_12624 i) (by (have := gb_12645 i (by omega); have := lb_12672 i (by omega); have := lb_12701 i (by omega); have := lb_12738 i (by omega); have := lb_12772 i (by omega); have := lb_12815 i (by omega); have := lb_12854 i (by omega); have := lb_12903 i (by omega); have := lb_12947 i (by omega); omega)))
                have fb_12973 : sta G F_12968 n_12683 0 st0 := fb_12948.keep (fun i hi => o_12970 (n_12683 i) (by (have := gb_12709 i (by omega); have := lb_12742 i (by omega); have := lb_12775 i (by omega); have := lb_12819 i (by omega); have := lb_12857 i (by omega); have := lb_12907 i (by omega); have := lb_12950 i (by omega); omega)))
                have fb_12974 : sta G F_12968 n_12753 0 st0 := fb_12951.keep (fun i hi => o_12970 (n_12753 i) (by (have := gb_12784 i (by omega); have := lb_12823 i (by omega); have := lb_12860 i (by omega); have := lb_12911 i (by omega); have := lb_12953 i (by omega); omega)))
                have fb_12975 : sta G F_12968 n_12834 0 st0 := fb_12954.keep (fun i hi => o_12970 (n_12834 i) (by (have := gb_12870 i (by omega); have := lb_12915 i (by omega); have := lb_12956 i (by omega); omega)))
                have fb_12976 : sta G F_12968 n_12926 0 st0 := fb_12928.keep (fun i hi => o_12970 (n_12926 i) (by (have := gb_12967 i (by omega); omega)))
                have hfr_12977 : ∀ q ∈ L, q ≠ a → F_12968 q = F q := by
                  intro q hq hne
                  have hqlt := hwS.lt hq
                  exact ((((((((((((((((((((o_12970 q (by omega)).trans (hf_12931 q (hg_12916.1 q hq) (by omega))).trans (g_12878.2.2.1 q (hg_12868.1 q hq)).1).trans (o_12873 q (by omega))).trans (hf_12839 q (hg_12824.1 q hq) (by omega))).trans (g_12792.2.2.1 q (hg_12782.1 q hq)).1).trans (o_12787 q (by omega))).trans (hf_12758 q (hg_12743.1 q hq) (by omega))).trans (g_12717.2.2.1 q (hg_12707.1 q hq)).1).trans (o_12712 q (by omega))).trans (hf_12688 q (hg_12673.1 q hq) (by omega))).trans (g_12653.2.2.1 q (hg_12643.1 q hq)).1).trans (o_12648 q (by omega))).trans (hf_12629 q (hg_12614.1 q hq) (by omega))).trans (g_12600.2.2.1 q (hg_12590.1 q hq)).1).trans (o_12595 q (by omega))).trans (hf_12581 q (hg_12566.1 q hq) (by omega))).trans (g_12557.2.2.1 q (hg_12548.1 q hq)).1).trans (o_12553 q (by omega))).trans (g_12543.2.2.1 q (hg0.1 q hq)).1)
                have f_12978 : F_12968 a = .inr (0, [.ref a_12542, .int (nI (0))]) := (o_12970 a (by omega)).trans f_12940
                obtain ⟨nn, en⟩ : ∃ nn : Nat → Nat → Nat, nn = (fun k => if k = 0 then n_12576 else if k = 1 then n_12624 else if k = 2 then n_12683 else if k = 3 then n_12753 else if k = 4 then n_12834 else n_12926) := ⟨_, rfl⟩
                obtain ⟨A9, eA⟩ : ∃ A9 : Nat → Nat, A9 = (fun k => if k = 0 then a_12556 else if k = 1 then a_12599 else if k = 2 then a_12652 else if k = 3 then a_12716 else if k = 4 then a_12791 else a_12877) := ⟨_, rfl⟩
                have e0 : nn 0 = n_12576 := by rw [en]; rfl
                have g0 : A9 0 = a_12556 := by rw [eA]; rfl
                have e1 : nn 1 = n_12624 := by rw [en]; rfl
                have g1 : A9 1 = a_12599 := by rw [eA]; rfl
                have e2 : nn 2 = n_12683 := by rw [en]; rfl
                have g2 : A9 2 = a_12652 := by rw [eA]; rfl
                have e3 : nn 3 = n_12753 := by rw [en]; rfl
                have g3 : A9 3 = a_12716 := by rw [eA]; rfl
                have e4 : nn 4 = n_12834 := by rw [en]; rfl
                have g4 : A9 4 = a_12791 := by rw [eA]; rfl
                have e5 : nn 5 = n_12926 := by rw [en]; rfl
                have g5 : A9 5 = a_12877 := by rw [eA]; rfl
                have hf9 : ∀ k, k < 6 → ((va_up ((va_up ((va_up ((va_up ((va_up ((va_up ((fun _ => none)) 0 (some a_12556))) 1 (some a_12599))) 2 (some a_12652))) 3 (some a_12716))) 4 (some a_12791))) 5 (some a_12877))) k = some (nn k 0) := by
                  intro k hk9
                  match k, hk9 with
                  | 0, _ => rw [e0, e_12577]; rfl
                  | 1, _ => rw [e1, e_12625]; rfl
                  | 2, _ => rw [e2, e_12684]; rfl
                  | 3, _ => rw [e3, e_12754]; rfl
                  | 4, _ => rw [e4, e_12835]; rfl
                  | 5, _ => rw [e5, e_12927]; rfl
                  | k + 6, h9 => exact absurd h9 (by omega)
                have hst : ∀ k, k < 6 → sta G F_12968 (nn k) 0 st0 := by
                  intro k hk9
                  match k, hk9 with
                  | 0, _ => rw [e0]; exact fb_12971
                  | 1, _ => rw [e1]; exact fb_12972
                  | 2, _ => rw [e2]; exact fb_12973
                  | 3, _ => rw [e3]; exact fb_12974
                  | 4, _ => rw [e4]; exact fb_12975
                  | 5, _ => rw [e5]; exact fb_12976
                  | k + 6, h9 => exact absurd h9 (by omega)
                have hm9 : ∀ k, k < 6 → ∀ i, i < 16 → a_12542 < nn k i ∧ nn k i ∈ L_12919 := by
                  intro k hk9
                  match k, hk9 with
                  | 0, _ => exact fun i hi => by rw [e0]; exact ⟨by have := gb_12592 i hi; omega, mb_12943 i hi⟩
                  | 1, _ => exact fun i hi => by rw [e1]; exact ⟨by have := gb_12645 i hi; omega, mb_12946 i hi⟩
                  | 2, _ => exact fun i hi => by rw [e2]; exact ⟨by have := gb_12709 i hi; omega, mb_12949 i hi⟩
                  | 3, _ => exact fun i hi => by rw [e3]; exact ⟨by have := gb_12784 i hi; omega, mb_12952 i hi⟩
                  | 4, _ => exact fun i hi => by rw [e4]; exact ⟨by have := gb_12870 i hi; omega, mb_12955 i hi⟩
                  | 5, _ => exact fun i hi => by rw [e5]; exact ⟨by have := gb_12967 i hi; omega, mb_12966 i hi⟩
                  | k + 6, h9 => exact absurd h9 (by omega)
                have h19 : ∀ k, k < 6 → ∀ i, i < 16 → A9 k ≤ nn k i := by
                  intro k hk9
                  match k, hk9 with
                  | 0, _ => exact fun i hi => by rw [e0, g0]; exact gb_12592 i hi
                  | 1, _ => exact fun i hi => by rw [e1, g1]; exact gb_12645 i hi
                  | 2, _ => exact fun i hi => by rw [e2, g2]; exact gb_12709 i hi
                  | 3, _ => exact fun i hi => by rw [e3, g3]; exact gb_12784 i hi
                  | 4, _ => exact fun i hi => by rw [e4, g4]; exact gb_12870 i hi
                  | 5, _ => exact fun i hi => by rw [e5, g5]; exact gb_12967 i hi
                  | k + 6, h9 => exact absurd h9 (by omega)
                have h29 : ∀ k, k < 5 → ∀ i, i < 16 → nn k i < A9 (k + 1) := by
                  intro k hk9
                  match k, hk9 with
                  | 0, _ => exact fun i hi => by rw [e0, show A9 (0 + 1) = _ from g1]; exact lb_12613 i hi
                  | 1, _ => exact fun i hi => by rw [e1, show A9 (1 + 1) = _ from g2]; exact lb_12672 i hi
                  | 2, _ => exact fun i hi => by rw [e2, show A9 (2 + 1) = _ from g3]; exact lb_12742 i hi
                  | 3, _ => exact fun i hi => by rw [e3, show A9 (3 + 1) = _ from g4]; exact lb_12823 i hi
                  | 4, _ => exact fun i hi => by rw [e4, show A9 (4 + 1) = _ from g5]; exact lb_12915 i hi
                  | k + 5, h9 => exact absurd h9 (by omega)
                have hj9 : ∀ k, k < 6 → ∀ i j, i < 16 → j < 16 → i ≠ j → nn k i ≠ nn k j := by
                  intro k hk9
                  match k, hk9 with
                  | 0, _ => exact by rw [e0]; exact hj_12580
                  | 1, _ => exact by rw [e1]; exact hj_12628
                  | 2, _ => exact by rw [e2]; exact hj_12687
                  | 3, _ => exact by rw [e3]; exact hj_12757
                  | 4, _ => exact by rw [e4]; exact hj_12838
                  | 5, _ => exact by rw [e5]; exact hj_12930
                  | k + 6, h9 => exact absurd h9 (by omega)
                have hl9 : ∀ k, k < 6 → ∀ i, i < 16 → nn k 0 ≤ nn k i := by
                  intro k hk9
                  match k, hk9 with
                  | 0, _ => exact fun i hi => by rw [e0, e_12577]; exact gb_12592 i hi
                  | 1, _ => exact fun i hi => by rw [e1, e_12625]; exact gb_12645 i hi
                  | 2, _ => exact fun i hi => by rw [e2, e_12684]; exact gb_12709 i hi
                  | 3, _ => exact fun i hi => by rw [e3, e_12754]; exact gb_12784 i hi
                  | 4, _ => exact fun i hi => by rw [e4, e_12835]; exact gb_12870 i hi
                  | 5, _ => exact fun i hi => by rw [e5, e_12927]; exact gb_12967 i hi
                  | k + 6, h9 => exact absurd h9 (by omega)
                exact r_vN C0 hg_12965 hr hlk hw ⟨hg_12965, a_12542, nn, f_12978, ⟨_, f_12969, hf9⟩, by omega, m_12958, hst, fun k i hk hi => hm9 k hk i hi, blk_chain (fun k i hk hi => h19 k hk i hi) (fun k i hk hi => h29 k (by omega) i hi), fun k i j hk => hj9 k hk i j, fun k i hk hi => hl9 k hk i hi, hfr_12977⟩ (Nat.le_of_ble_eq_true rfl) (Nat.le_of_ble_eq_true rfl) dX0_init_40 hQ
              · skip
                exact absurd c_18 (by omega)
def A0 : AB := (st0, (0, fun _ => st0), (fun _ => (false, 0, r0)), (0, fun _ => 0))
theorem zA_0 : zA (upd (upd (upd (upd (upd (upd (upd (upd ((fun _ => nI 0)) (0) (nI 5)) (1) (nI 500)) (47 + (7 * 0) + 1) (nI 1)) (47 + (7 * 1) + 1) (nI 1)) (47 + (7 * 2) + 1) (nI 1)) (47 + (7 * 3) + 1) (nI 1)) (47 + (7 * 4) + 1) (nI 1)) (47 + (7 * 5) + 1) (nI 1)) st0 := by
  unfold zA
  decide +kernel
abbrev rm_X6_init : Room := { frames := 1, cells := 7, slots := 1055, locals := 40 }
set_option maxHeartbeats 4000000 in
set_option maxRecDepth 100000 in
theorem c_X6_init (l : Launch) (G : Gl) (L : List Nat) (F : Nat → va_E) (a : Nat) (ma : a ∈ L) (fa : F a = .inr (6, [.null, .int (nI (0)), .null, .null, .null, .null, .int (nI (0)), .null, .int (nI (0)), .null, .int (nI (0)), .int (nI (0)), .long (0)])) : CN l yX6_init cX6_init 2 rm_X6_init G L F [.ref a] (fun sz L1 F1 => gr L L1 sz ∧ ∃ ma : Nat → Nat, (∀ i, i < 7 → sz ≤ ma i ∧ ma i ∈ L1) ∧ MW G F1 a ma A0 0 ∧ (∀ q ∈ L, q ≠ a → F1 q = F q)) := by
  refine CN_of (by decide) (Nat.le_of_ble_eq_true rfl) rfl ?_
  intro p e s m args below meth c Q C0 hOv hr hlk hnm hQ hw ls hl
  have hx := C0.x
  have hb := C0.b
  have hwS := hw
  have hg0 := gr.rfl (L := L) s.heap.size
  have hlt0 := hw.lt ma
  refine lv_aload_n hx hb dX6_init_0 rfl (lv_at hl 0 rfl) ?_
  refine q_obj C0 hl.1 ob_X6 ob_i ob_c (by decide) (by decide) dX6_init_1 ?_
  refine lv_aload_n hx hb dX6_init_4 rfl (lv_at hl 0 rfl) ?_
  refine lv_bipush (v := nI 89) hx hb dX6_init_5 (by decide) ?_
  refine k_newi C0 hw (by decide) (by decide) (Nat.le_of_ble_eq_true rfl) (Nat.le_of_ble_eq_true rfl) dX6_init_7 (fun L_12979 F_12980 a_12981 H_12983 g_12982 hw1 => ?_)
  have hge_a_12981 : s.heap.size ≤ a_12981 := Nat.le_trans hw.2.2.1 g_12982.2.2.2.2
  have f_12984 : F_12980 a = .inr (6, [.null, .int (nI (0)), .null, .null, .null, .null, .int (nI (0)), .null, .int (nI (0)), .null, .int (nI (0)), .int (nI (0)), .long (0)]) := (g_12982.2.2.1 a ma).1.trans fa
  have lt_12986 := (g_12982.2.2.1 a ma).2
  have m_12985 : a ∈ L_12979 := g_12982.1.1 a ma
  have hg_12987 := hg0.step g_12982.1 hw.2.2.1
  have C0 := C0.grow g_12982.1 hw.2.2.1
  have hw := hw1
  have m_12988 : a_12981 ∈ L_12979 := g_12982.2.2.2.1
  have f_12989 : F_12980 a_12981 = .inl (G.2 0, 89, .inl ((fun _ => nI 0))) := g_12982.2.1
  refine q_putF C0 hnm hw m_12985 f_12984 fw_X6_7 pw_X6_0 rfl rfl rfl rfl (Nat.le_of_ble_eq_true rfl) dX6_init_9 (fun F_12990 H locs hw f_12991 o_12992 => ?_)
  have f_12991 : F_12990 a = .inr (6, [.ref a_12981, .int (nI (0)), .null, .null, .null, .null, .int (nI (0)), .null, .int (nI (0)), .null, .int (nI (0)), .int (nI (0)), .long (0)]) := f_12991
  refine lv_aload_n hx hb dX6_init_12 rfl (lv_at hl 0 rfl) ?_
  refine lv_sipush (v := nI 534) hx hb dX6_init_13 (by decide) ?_
  refine k_newi C0 hw (by decide) (by decide) (Nat.le_of_ble_eq_true rfl) (Nat.le_of_ble_eq_true rfl) dX6_init_16 (fun L_12993 F_12994 a_12995 H_12997 g_12996 hw1 => ?_)
  have hge_a_12995 : s.heap.size ≤ a_12995 := Nat.le_trans hw.2.2.1 g_12996.2.2.2.2
  have f_12998 : F_12994 a = .inr (6, [.ref a_12981, .int (nI (0)), .null, .null, .null, .null, .int (nI (0)), .null, .int (nI (0)), .null, .int (nI (0)), .int (nI (0)), .long (0)]) := (g_12996.2.2.1 a m_12985).1.trans f_12991
  have lt_13000 := (g_12996.2.2.1 a m_12985).2
  have m_12999 : a ∈ L_12993 := g_12996.1.1 a m_12985
  have f_13001 : F_12990 a_12981 = .inl (G.2 0, 89, .inl ((fun _ => nI 0))) := (o_12992 a_12981 (by omega)).trans f_12989
  have f_13002 : F_12994 a_12981 = .inl (G.2 0, 89, .inl ((fun _ => nI 0))) := (g_12996.2.2.1 a_12981 m_12988).1.trans f_13001
  have lt_13004 := (g_12996.2.2.1 a_12981 m_12988).2
  have m_13003 : a_12981 ∈ L_12993 := g_12996.1.1 a_12981 m_12988
  have hg_13005 := hg_12987.step g_12996.1 hw.2.2.1
  have C0 := C0.grow g_12996.1 hw.2.2.1
  have hw := hw1
  have m_13006 : a_12995 ∈ L_12993 := g_12996.2.2.2.1
  have f_13007 : F_12994 a_12995 = .inl (G.2 0, 534, .inl ((fun _ => nI 0))) := g_12996.2.1
  refine q_putF C0 hnm hw m_12999 f_12998 fw_X6_13 pw_X6_2 rfl rfl rfl rfl (Nat.le_of_ble_eq_true rfl) dX6_init_18 (fun F_13008 H locs hw f_13009 o_13010 => ?_)
  have f_13009 : F_13008 a = .inr (6, [.ref a_12981, .int (nI (0)), .ref a_12995, .null, .null, .null, .int (nI (0)), .null, .int (nI (0)), .null, .int (nI (0)), .int (nI (0)), .long (0)]) := f_13009
  refine lv_aload_n hx hb dX6_init_21 rfl (lv_at hl 0 rfl) ?_
  refine lv_sipush (v := nI 178) hx hb dX6_init_22 (by decide) ?_
  refine k_newi C0 hw (by decide) (by decide) (Nat.le_of_ble_eq_true rfl) (Nat.le_of_ble_eq_true rfl) dX6_init_25 (fun L_13011 F_13012 a_13013 H_13015 g_13014 hw1 => ?_)
  have hge_a_13013 : s.heap.size ≤ a_13013 := Nat.le_trans hw.2.2.1 g_13014.2.2.2.2
  have f_13016 : F_13012 a = .inr (6, [.ref a_12981, .int (nI (0)), .ref a_12995, .null, .null, .null, .int (nI (0)), .null, .int (nI (0)), .null, .int (nI (0)), .int (nI (0)), .long (0)]) := (g_13014.2.2.1 a m_12999).1.trans f_13009
  have lt_13018 := (g_13014.2.2.1 a m_12999).2
  have m_13017 : a ∈ L_13011 := g_13014.1.1 a m_12999
  have f_13019 : F_13008 a_12981 = .inl (G.2 0, 89, .inl ((fun _ => nI 0))) := (o_13010 a_12981 (by omega)).trans f_13002
  have f_13020 : F_13012 a_12981 = .inl (G.2 0, 89, .inl ((fun _ => nI 0))) := (g_13014.2.2.1 a_12981 m_13003).1.trans f_13019
  have lt_13022 := (g_13014.2.2.1 a_12981 m_13003).2
  have m_13021 : a_12981 ∈ L_13011 := g_13014.1.1 a_12981 m_13003
  have f_13023 : F_13008 a_12995 = .inl (G.2 0, 534, .inl ((fun _ => nI 0))) := (o_13010 a_12995 (by omega)).trans f_13007
  have f_13024 : F_13012 a_12995 = .inl (G.2 0, 534, .inl ((fun _ => nI 0))) := (g_13014.2.2.1 a_12995 m_13006).1.trans f_13023
  have lt_13026 := (g_13014.2.2.1 a_12995 m_13006).2
  have m_13025 : a_12995 ∈ L_13011 := g_13014.1.1 a_12995 m_13006
  have hg_13027 := hg_13005.step g_13014.1 hw.2.2.1
  have C0 := C0.grow g_13014.1 hw.2.2.1
  have hw := hw1
  have m_13028 : a_13013 ∈ L_13011 := g_13014.2.2.2.1
  have f_13029 : F_13012 a_13013 = .inl (G.2 0, 178, .inl ((fun _ => nI 0))) := g_13014.2.1
  refine q_putF C0 hnm hw m_13017 f_13016 fw_X6_16 pw_X6_3 rfl rfl rfl rfl (Nat.le_of_ble_eq_true rfl) dX6_init_27 (fun F_13030 H locs hw f_13031 o_13032 => ?_)
  have f_13031 : F_13030 a = .inr (6, [.ref a_12981, .int (nI (0)), .ref a_12995, .ref a_13013, .null, .null, .int (nI (0)), .null, .int (nI (0)), .null, .int (nI (0)), .int (nI (0)), .long (0)]) := f_13031
  refine lv_aload_n hx hb dX6_init_30 rfl (lv_at hl 0 rfl) ?_
  refine lv_iconst (v := nI 2) hx hb dX6_init_31 (by decide) ?_
  refine k_newi C0 hw (by decide) (by decide) (Nat.le_of_ble_eq_true rfl) (Nat.le_of_ble_eq_true rfl) dX6_init_32 (fun L_13033 F_13034 a_13035 H_13037 g_13036 hw1 => ?_)
  have hge_a_13035 : s.heap.size ≤ a_13035 := Nat.le_trans hw.2.2.1 g_13036.2.2.2.2
  have f_13038 : F_13034 a = .inr (6, [.ref a_12981, .int (nI (0)), .ref a_12995, .ref a_13013, .null, .null, .int (nI (0)), .null, .int (nI (0)), .null, .int (nI (0)), .int (nI (0)), .long (0)]) := (g_13036.2.2.1 a m_13017).1.trans f_13031
  have lt_13040 := (g_13036.2.2.1 a m_13017).2
  have m_13039 : a ∈ L_13033 := g_13036.1.1 a m_13017
  have f_13041 : F_13030 a_12981 = .inl (G.2 0, 89, .inl ((fun _ => nI 0))) := (o_13032 a_12981 (by omega)).trans f_13020
  have f_13042 : F_13034 a_12981 = .inl (G.2 0, 89, .inl ((fun _ => nI 0))) := (g_13036.2.2.1 a_12981 m_13021).1.trans f_13041
  have lt_13044 := (g_13036.2.2.1 a_12981 m_13021).2
  have m_13043 : a_12981 ∈ L_13033 := g_13036.1.1 a_12981 m_13021
  have f_13045 : F_13030 a_12995 = .inl (G.2 0, 534, .inl ((fun _ => nI 0))) := (o_13032 a_12995 (by omega)).trans f_13024
  have f_13046 : F_13034 a_12995 = .inl (G.2 0, 534, .inl ((fun _ => nI 0))) := (g_13036.2.2.1 a_12995 m_13025).1.trans f_13045
  have lt_13048 := (g_13036.2.2.1 a_12995 m_13025).2
  have m_13047 : a_12995 ∈ L_13033 := g_13036.1.1 a_12995 m_13025
  have f_13049 : F_13030 a_13013 = .inl (G.2 0, 178, .inl ((fun _ => nI 0))) := (o_13032 a_13013 (by omega)).trans f_13029
  have f_13050 : F_13034 a_13013 = .inl (G.2 0, 178, .inl ((fun _ => nI 0))) := (g_13036.2.2.1 a_13013 m_13028).1.trans f_13049
  have lt_13052 := (g_13036.2.2.1 a_13013 m_13028).2
  have m_13051 : a_13013 ∈ L_13033 := g_13036.1.1 a_13013 m_13028
  have hg_13053 := hg_13027.step g_13036.1 hw.2.2.1
  have C0 := C0.grow g_13036.1 hw.2.2.1
  have hw := hw1
  have m_13054 : a_13035 ∈ L_13033 := g_13036.2.2.2.1
  have f_13055 : F_13034 a_13035 = .inl (G.2 0, 2, .inl ((fun _ => nI 0))) := g_13036.2.1
  refine q_putF C0 hnm hw m_13039 f_13038 fw_X6_19 pw_X6_4 rfl rfl rfl rfl (Nat.le_of_ble_eq_true rfl) dX6_init_34 (fun F_13056 H locs hw f_13057 o_13058 => ?_)
  have f_13057 : F_13056 a = .inr (6, [.ref a_12981, .int (nI (0)), .ref a_12995, .ref a_13013, .ref a_13035, .null, .int (nI (0)), .null, .int (nI (0)), .null, .int (nI (0)), .int (nI (0)), .long (0)]) := f_13057
  refine lv_aload_n hx hb dX6_init_37 rfl (lv_at hl 0 rfl) ?_
  refine lv_sipush (v := nI 140) hx hb dX6_init_38 (by decide) ?_
  refine k_newi C0 hw (by decide) (by decide) (Nat.le_of_ble_eq_true rfl) (Nat.le_of_ble_eq_true rfl) dX6_init_41 (fun L_13059 F_13060 a_13061 H_13063 g_13062 hw1 => ?_)
  have hge_a_13061 : s.heap.size ≤ a_13061 := Nat.le_trans hw.2.2.1 g_13062.2.2.2.2
  have f_13064 : F_13060 a = .inr (6, [.ref a_12981, .int (nI (0)), .ref a_12995, .ref a_13013, .ref a_13035, .null, .int (nI (0)), .null, .int (nI (0)), .null, .int (nI (0)), .int (nI (0)), .long (0)]) := (g_13062.2.2.1 a m_13039).1.trans f_13057
  have lt_13066 := (g_13062.2.2.1 a m_13039).2
  have m_13065 : a ∈ L_13059 := g_13062.1.1 a m_13039
  have f_13067 : F_13056 a_12981 = .inl (G.2 0, 89, .inl ((fun _ => nI 0))) := (o_13058 a_12981 (by omega)).trans f_13042
  have f_13068 : F_13060 a_12981 = .inl (G.2 0, 89, .inl ((fun _ => nI 0))) := (g_13062.2.2.1 a_12981 m_13043).1.trans f_13067
  have lt_13070 := (g_13062.2.2.1 a_12981 m_13043).2
  have m_13069 : a_12981 ∈ L_13059 := g_13062.1.1 a_12981 m_13043
  have f_13071 : F_13056 a_12995 = .inl (G.2 0, 534, .inl ((fun _ => nI 0))) := (o_13058 a_12995 (by omega)).trans f_13046
  have f_13072 : F_13060 a_12995 = .inl (G.2 0, 534, .inl ((fun _ => nI 0))) := (g_13062.2.2.1 a_12995 m_13047).1.trans f_13071
  have lt_13074 := (g_13062.2.2.1 a_12995 m_13047).2
  have m_13073 : a_12995 ∈ L_13059 := g_13062.1.1 a_12995 m_13047
  have f_13075 : F_13056 a_13013 = .inl (G.2 0, 178, .inl ((fun _ => nI 0))) := (o_13058 a_13013 (by omega)).trans f_13050
  have f_13076 : F_13060 a_13013 = .inl (G.2 0, 178, .inl ((fun _ => nI 0))) := (g_13062.2.2.1 a_13013 m_13051).1.trans f_13075
  have lt_13078 := (g_13062.2.2.1 a_13013 m_13051).2
  have m_13077 : a_13013 ∈ L_13059 := g_13062.1.1 a_13013 m_13051
  have f_13079 : F_13056 a_13035 = .inl (G.2 0, 2, .inl ((fun _ => nI 0))) := (o_13058 a_13035 (by omega)).trans f_13055
  have f_13080 : F_13060 a_13035 = .inl (G.2 0, 2, .inl ((fun _ => nI 0))) := (g_13062.2.2.1 a_13035 m_13054).1.trans f_13079
  have lt_13082 := (g_13062.2.2.1 a_13035 m_13054).2
  have m_13081 : a_13035 ∈ L_13059 := g_13062.1.1 a_13035 m_13054
  have hg_13083 := hg_13053.step g_13062.1 hw.2.2.1
  have C0 := C0.grow g_13062.1 hw.2.2.1
  have hw := hw1
  have m_13084 : a_13061 ∈ L_13059 := g_13062.2.2.2.1
  have f_13085 : F_13060 a_13061 = .inl (G.2 0, 140, .inl ((fun _ => nI 0))) := g_13062.2.1
  refine q_putF C0 hnm hw m_13065 f_13064 fw_X6_22 pw_X6_5 rfl rfl rfl rfl (Nat.le_of_ble_eq_true rfl) dX6_init_43 (fun F_13086 H locs hw f_13087 o_13088 => ?_)
  have f_13087 : F_13086 a = .inr (6, [.ref a_12981, .int (nI (0)), .ref a_12995, .ref a_13013, .ref a_13035, .ref a_13061, .int (nI (0)), .null, .int (nI (0)), .null, .int (nI (0)), .int (nI (0)), .long (0)]) := f_13087
  refine lv_aload_n hx hb dX6_init_46 rfl (lv_at hl 0 rfl) ?_
  refine lv_bipush (v := nI 60) hx hb dX6_init_47 (by decide) ?_
  refine k_newi C0 hw (by decide) (by decide) (Nat.le_of_ble_eq_true rfl) (Nat.le_of_ble_eq_true rfl) dX6_init_49 (fun L_13089 F_13090 a_13091 H_13093 g_13092 hw1 => ?_)
  have hge_a_13091 : s.heap.size ≤ a_13091 := Nat.le_trans hw.2.2.1 g_13092.2.2.2.2
  have f_13094 : F_13090 a = .inr (6, [.ref a_12981, .int (nI (0)), .ref a_12995, .ref a_13013, .ref a_13035, .ref a_13061, .int (nI (0)), .null, .int (nI (0)), .null, .int (nI (0)), .int (nI (0)), .long (0)]) := (g_13092.2.2.1 a m_13065).1.trans f_13087
  have lt_13096 := (g_13092.2.2.1 a m_13065).2
  have m_13095 : a ∈ L_13089 := g_13092.1.1 a m_13065
  have f_13097 : F_13086 a_12981 = .inl (G.2 0, 89, .inl ((fun _ => nI 0))) := (o_13088 a_12981 (by omega)).trans f_13068
  have f_13098 : F_13090 a_12981 = .inl (G.2 0, 89, .inl ((fun _ => nI 0))) := (g_13092.2.2.1 a_12981 m_13069).1.trans f_13097
  have lt_13100 := (g_13092.2.2.1 a_12981 m_13069).2
  have m_13099 : a_12981 ∈ L_13089 := g_13092.1.1 a_12981 m_13069
  have f_13101 : F_13086 a_12995 = .inl (G.2 0, 534, .inl ((fun _ => nI 0))) := (o_13088 a_12995 (by omega)).trans f_13072
  have f_13102 : F_13090 a_12995 = .inl (G.2 0, 534, .inl ((fun _ => nI 0))) := (g_13092.2.2.1 a_12995 m_13073).1.trans f_13101
  have lt_13104 := (g_13092.2.2.1 a_12995 m_13073).2
  have m_13103 : a_12995 ∈ L_13089 := g_13092.1.1 a_12995 m_13073
  have f_13105 : F_13086 a_13013 = .inl (G.2 0, 178, .inl ((fun _ => nI 0))) := (o_13088 a_13013 (by omega)).trans f_13076
  have f_13106 : F_13090 a_13013 = .inl (G.2 0, 178, .inl ((fun _ => nI 0))) := (g_13092.2.2.1 a_13013 m_13077).1.trans f_13105
  have lt_13108 := (g_13092.2.2.1 a_13013 m_13077).2
  have m_13107 : a_13013 ∈ L_13089 := g_13092.1.1 a_13013 m_13077
  have f_13109 : F_13086 a_13035 = .inl (G.2 0, 2, .inl ((fun _ => nI 0))) := (o_13088 a_13035 (by omega)).trans f_13080
  have f_13110 : F_13090 a_13035 = .inl (G.2 0, 2, .inl ((fun _ => nI 0))) := (g_13092.2.2.1 a_13035 m_13081).1.trans f_13109
  have lt_13112 := (g_13092.2.2.1 a_13035 m_13081).2
  have m_13111 : a_13035 ∈ L_13089 := g_13092.1.1 a_13035 m_13081
  have f_13113 : F_13086 a_13061 = .inl (G.2 0, 140, .inl ((fun _ => nI 0))) := (o_13088 a_13061 (by omega)).trans f_13085
  have f_13114 : F_13090 a_13061 = .inl (G.2 0, 140, .inl ((fun _ => nI 0))) := (g_13092.2.2.1 a_13061 m_13084).1.trans f_13113
  have lt_13116 := (g_13092.2.2.1 a_13061 m_13084).2
  have m_13115 : a_13061 ∈ L_13089 := g_13092.1.1 a_13061 m_13084
  have hg_13117 := hg_13083.step g_13092.1 hw.2.2.1
  have C0 := C0.grow g_13092.1 hw.2.2.1
  have hw := hw1
  have m_13118 : a_13091 ∈ L_13089 := g_13092.2.2.2.1
  have f_13119 : F_13090 a_13091 = .inl (G.2 0, 60, .inl ((fun _ => nI 0))) := g_13092.2.1
  refine q_putF C0 hnm hw m_13095 f_13094 fw_X6_25 pw_X6_7 rfl rfl rfl rfl (Nat.le_of_ble_eq_true rfl) dX6_init_51 (fun F_13120 H locs hw f_13121 o_13122 => ?_)
  have f_13121 : F_13120 a = .inr (6, [.ref a_12981, .int (nI (0)), .ref a_12995, .ref a_13013, .ref a_13035, .ref a_13061, .int (nI (0)), .ref a_13091, .int (nI (0)), .null, .int (nI (0)), .int (nI (0)), .long (0)]) := f_13121
  refine lv_aload_n hx hb dX6_init_54 rfl (lv_at hl 0 rfl) ?_
  refine lv_bipush (v := nI 52) hx hb dX6_init_55 (by decide) ?_
  refine k_newi C0 hw (by decide) (by decide) (Nat.le_of_ble_eq_true rfl) (Nat.le_of_ble_eq_true rfl) dX6_init_57 (fun L_13123 F_13124 a_13125 H_13127 g_13126 hw1 => ?_)
  have hge_a_13125 : s.heap.size ≤ a_13125 := Nat.le_trans hw.2.2.1 g_13126.2.2.2.2
  have f_13128 : F_13124 a = .inr (6, [.ref a_12981, .int (nI (0)), .ref a_12995, .ref a_13013, .ref a_13035, .ref a_13061, .int (nI (0)), .ref a_13091, .int (nI (0)), .null, .int (nI (0)), .int (nI (0)), .long (0)]) := (g_13126.2.2.1 a m_13095).1.trans f_13121
  have lt_13130 := (g_13126.2.2.1 a m_13095).2
  have m_13129 : a ∈ L_13123 := g_13126.1.1 a m_13095
  have f_13131 : F_13120 a_12981 = .inl (G.2 0, 89, .inl ((fun _ => nI 0))) := (o_13122 a_12981 (by omega)).trans f_13098
  have f_13132 : F_13124 a_12981 = .inl (G.2 0, 89, .inl ((fun _ => nI 0))) := (g_13126.2.2.1 a_12981 m_13099).1.trans f_13131
  have lt_13134 := (g_13126.2.2.1 a_12981 m_13099).2
  have m_13133 : a_12981 ∈ L_13123 := g_13126.1.1 a_12981 m_13099
  have f_13135 : F_13120 a_12995 = .inl (G.2 0, 534, .inl ((fun _ => nI 0))) := (o_13122 a_12995 (by omega)).trans f_13102
  have f_13136 : F_13124 a_12995 = .inl (G.2 0, 534, .inl ((fun _ => nI 0))) := (g_13126.2.2.1 a_12995 m_13103).1.trans f_13135
  have lt_13138 := (g_13126.2.2.1 a_12995 m_13103).2
  have m_13137 : a_12995 ∈ L_13123 := g_13126.1.1 a_12995 m_13103
  have f_13139 : F_13120 a_13013 = .inl (G.2 0, 178, .inl ((fun _ => nI 0))) := (o_13122 a_13013 (by omega)).trans f_13106
  have f_13140 : F_13124 a_13013 = .inl (G.2 0, 178, .inl ((fun _ => nI 0))) := (g_13126.2.2.1 a_13013 m_13107).1.trans f_13139
  have lt_13142 := (g_13126.2.2.1 a_13013 m_13107).2
  have m_13141 : a_13013 ∈ L_13123 := g_13126.1.1 a_13013 m_13107
  have f_13143 : F_13120 a_13035 = .inl (G.2 0, 2, .inl ((fun _ => nI 0))) := (o_13122 a_13035 (by omega)).trans f_13110
  have f_13144 : F_13124 a_13035 = .inl (G.2 0, 2, .inl ((fun _ => nI 0))) := (g_13126.2.2.1 a_13035 m_13111).1.trans f_13143
  have lt_13146 := (g_13126.2.2.1 a_13035 m_13111).2
  have m_13145 : a_13035 ∈ L_13123 := g_13126.1.1 a_13035 m_13111
  have f_13147 : F_13120 a_13061 = .inl (G.2 0, 140, .inl ((fun _ => nI 0))) := (o_13122 a_13061 (by omega)).trans f_13114
  have f_13148 : F_13124 a_13061 = .inl (G.2 0, 140, .inl ((fun _ => nI 0))) := (g_13126.2.2.1 a_13061 m_13115).1.trans f_13147
  have lt_13150 := (g_13126.2.2.1 a_13061 m_13115).2
  have m_13149 : a_13061 ∈ L_13123 := g_13126.1.1 a_13061 m_13115
  have f_13151 : F_13120 a_13091 = .inl (G.2 0, 60, .inl ((fun _ => nI 0))) := (o_13122 a_13091 (by omega)).trans f_13119
  have f_13152 : F_13124 a_13091 = .inl (G.2 0, 60, .inl ((fun _ => nI 0))) := (g_13126.2.2.1 a_13091 m_13118).1.trans f_13151
  have lt_13154 := (g_13126.2.2.1 a_13091 m_13118).2
  have m_13153 : a_13091 ∈ L_13123 := g_13126.1.1 a_13091 m_13118
  have hg_13155 := hg_13117.step g_13126.1 hw.2.2.1
  have C0 := C0.grow g_13126.1 hw.2.2.1
  have hw := hw1
  have m_13156 : a_13125 ∈ L_13123 := g_13126.2.2.2.1
  have f_13157 : F_13124 a_13125 = .inl (G.2 0, 52, .inl ((fun _ => nI 0))) := g_13126.2.1
  refine q_putF C0 hnm hw m_13129 f_13128 fw_X6_28 pw_X6_9 rfl rfl rfl rfl (Nat.le_of_ble_eq_true rfl) dX6_init_59 (fun F_13158 H locs hw f_13159 o_13160 => ?_)
  have f_13159 : F_13158 a = .inr (6, [.ref a_12981, .int (nI (0)), .ref a_12995, .ref a_13013, .ref a_13035, .ref a_13061, .int (nI (0)), .ref a_13091, .int (nI (0)), .ref a_13125, .int (nI (0)), .int (nI (0)), .long (0)]) := f_13159
  refine lv_aload_n hx hb dX6_init_62 rfl (lv_at hl 0 rfl) ?_
  refine q_get C0 hw m_13129 f_13159 fw_X6_7 rfl dX6_init_63 ?_
  refine lv_iconst (v := nI 0) hx hb dX6_init_66 (by decide) ?_
  refine lv_iconst (v := nI 5) hx hb dX6_init_67 (by decide) ?_
  have f_13161 : F_13158 a_12981 = .inl (G.2 0, 89, .inl ((fun _ => nI 0))) := (o_13160 a_12981 (by omega)).trans f_13132
  refine q_iast C0 hw m_13133 f_13161 (0) (by omega) (by decide) dX6_init_68 (fun F_13162 H locs hw f_13163 o_13164 => ?_)
  refine lv_aload_n hx hb dX6_init_69 rfl (lv_at hl 0 rfl) ?_
  have f_13165 : F_13162 a = .inr (6, [.ref a_12981, .int (nI (0)), .ref a_12995, .ref a_13013, .ref a_13035, .ref a_13061, .int (nI (0)), .ref a_13091, .int (nI (0)), .ref a_13125, .int (nI (0)), .int (nI (0)), .long (0)]) := (o_13164 a (by omega)).trans f_13159
  refine q_get C0 hw m_13129 f_13165 fw_X6_7 rfl dX6_init_70 ?_
  refine lv_iconst (v := nI 1) hx hb dX6_init_73 (by decide) ?_
  refine lv_sipush (v := nI 500) hx hb dX6_init_74 (by decide) ?_
  refine q_iast C0 hw m_13133 f_13163 (1) (by omega) (by decide) dX6_init_77 (fun F_13166 H locs hw f_13167 o_13168 => ?_)
  refine lv_iconst (v := nI 0) hx hb dX6_init_78 (by decide) ?_
  refine lv_istore_n (lv' := [(1, .int (nI (0))), (0, .ref a)]) hx hb dX6_init_79 rfl hl (by decide) rfl (fun ls hl => ?_)
  refine lv_iload_n hx hb dX6_init_80 rfl (lv_at hl 0 rfl) ?_
  refine lv_bipush (v := nI 6) hx hb dX6_init_81 (by decide) ?_
  refine n_icmp_ge (tgt := 107) hx hb dX6_init_83 (by decide) (by decide) (by decide) (fun c_83 => ?_) (fun c_83 => ?_)
  · skip
    exact absurd c_83 (by omega)
  · skip
    refine lv_aload_n hx hb dX6_init_86 rfl (lv_at hl 1 rfl) ?_
    have f_13169 : F_13166 a = .inr (6, [.ref a_12981, .int (nI (0)), .ref a_12995, .ref a_13013, .ref a_13035, .ref a_13061, .int (nI (0)), .ref a_13091, .int (nI (0)), .ref a_13125, .int (nI (0)), .int (nI (0)), .long (0)]) := (o_13168 a (by omega)).trans f_13165
    refine q_get C0 hw m_13129 f_13169 fw_X6_7 rfl dX6_init_87 ?_
    refine lv_bipush (v := nI 47) hx hb dX6_init_90 (by decide) ?_
    refine lv_bipush (v := nI 7) hx hb dX6_init_92 (by decide) ?_
    refine lv_iload_n hx hb dX6_init_94 rfl (lv_at hl 0 rfl) ?_
    refine n_imul hx hb dX6_init_95 ?_
    refine n_iadd hx hb dX6_init_96 ?_
    refine lv_iconst (v := nI 1) hx hb dX6_init_97 (by decide) ?_
    refine n_iadd hx hb dX6_init_98 ?_
    refine lv_iconst (v := nI 1) hx hb dX6_init_99 (by decide) ?_
    refine q_iast C0 hw m_13133 f_13167 (47 + (7 * 0) + 1) (by omega) (by decide) dX6_init_100 (fun F_13170 H locs hw f_13171 o_13172 => ?_)
    refine lv_iinc (v := nI 1) (lv' := [(1, .int (nI (1))), (0, .ref a)]) hx hb dX6_init_101 hl (k := 0) rfl (by decide) (by decide) rfl (fun ls hl => ?_)
    refine lv_goto (tgt := 80) hx hb dX6_init_104 (by decide) ?_
    refine lv_iload_n hx hb dX6_init_80 rfl (lv_at hl 0 rfl) ?_
    refine lv_bipush (v := nI 6) hx hb dX6_init_81 (by decide) ?_
    refine n_icmp_ge (tgt := 107) hx hb dX6_init_83 (by decide) (by decide) (by decide) (fun c_83 => ?_) (fun c_83 => ?_)
    · skip
      exact absurd c_83 (by omega)
    · skip
      refine lv_aload_n hx hb dX6_init_86 rfl (lv_at hl 1 rfl) ?_
      have f_13173 : F_13170 a = .inr (6, [.ref a_12981, .int (nI (0)), .ref a_12995, .ref a_13013, .ref a_13035, .ref a_13061, .int (nI (0)), .ref a_13091, .int (nI (0)), .ref a_13125, .int (nI (0)), .int (nI (0)), .long (0)]) := (o_13172 a (by omega)).trans f_13169
      refine q_get C0 hw m_13129 f_13173 fw_X6_7 rfl dX6_init_87 ?_
      refine lv_bipush (v := nI 47) hx hb dX6_init_90 (by decide) ?_
      refine lv_bipush (v := nI 7) hx hb dX6_init_92 (by decide) ?_
      refine lv_iload_n hx hb dX6_init_94 rfl (lv_at hl 0 rfl) ?_
      refine n_imul hx hb dX6_init_95 ?_
      refine n_iadd hx hb dX6_init_96 ?_
      refine lv_iconst (v := nI 1) hx hb dX6_init_97 (by decide) ?_
      refine n_iadd hx hb dX6_init_98 ?_
      refine lv_iconst (v := nI 1) hx hb dX6_init_99 (by decide) ?_
      refine q_iast C0 hw m_13133 f_13171 (47 + (7 * 1) + 1) (by omega) (by decide) dX6_init_100 (fun F_13174 H locs hw f_13175 o_13176 => ?_)
      refine lv_iinc (v := nI 2) (lv' := [(1, .int (nI (2))), (0, .ref a)]) hx hb dX6_init_101 hl (k := 0) rfl (by decide) (by decide) rfl (fun ls hl => ?_)
      refine lv_goto (tgt := 80) hx hb dX6_init_104 (by decide) ?_
      refine lv_iload_n hx hb dX6_init_80 rfl (lv_at hl 0 rfl) ?_
      refine lv_bipush (v := nI 6) hx hb dX6_init_81 (by decide) ?_
      refine n_icmp_ge (tgt := 107) hx hb dX6_init_83 (by decide) (by decide) (by decide) (fun c_83 => ?_) (fun c_83 => ?_)
      · skip
        exact absurd c_83 (by omega)
      · skip
        refine lv_aload_n hx hb dX6_init_86 rfl (lv_at hl 1 rfl) ?_
        have f_13177 : F_13174 a = .inr (6, [.ref a_12981, .int (nI (0)), .ref a_12995, .ref a_13013, .ref a_13035, .ref a_13061, .int (nI (0)), .ref a_13091, .int (nI (0)), .ref a_13125, .int (nI (0)), .int (nI (0)), .long (0)]) := (o_13176 a (by omega)).trans f_13173
        refine q_get C0 hw m_13129 f_13177 fw_X6_7 rfl dX6_init_87 ?_
        refine lv_bipush (v := nI 47) hx hb dX6_init_90 (by decide) ?_
        refine lv_bipush (v := nI 7) hx hb dX6_init_92 (by decide) ?_
        refine lv_iload_n hx hb dX6_init_94 rfl (lv_at hl 0 rfl) ?_
        refine n_imul hx hb dX6_init_95 ?_
        refine n_iadd hx hb dX6_init_96 ?_
        refine lv_iconst (v := nI 1) hx hb dX6_init_97 (by decide) ?_
        refine n_iadd hx hb dX6_init_98 ?_
        refine lv_iconst (v := nI 1) hx hb dX6_init_99 (by decide) ?_
        refine q_iast C0 hw m_13133 f_13175 (47 + (7 * 2) + 1) (by omega) (by decide) dX6_init_100 (fun F_13178 H locs hw f_13179 o_13180 => ?_)
        refine lv_iinc (v := nI 3) (lv' := [(1, .int (nI (3))), (0, .ref a)]) hx hb dX6_init_101 hl (k := 0) rfl (by decide) (by decide) rfl (fun ls hl => ?_)
        refine lv_goto (tgt := 80) hx hb dX6_init_104 (by decide) ?_
        refine lv_iload_n hx hb dX6_init_80 rfl (lv_at hl 0 rfl) ?_
        refine lv_bipush (v := nI 6) hx hb dX6_init_81 (by decide) ?_
        refine n_icmp_ge (tgt := 107) hx hb dX6_init_83 (by decide) (by decide) (by decide) (fun c_83 => ?_) (fun c_83 => ?_)
        · skip
          exact absurd c_83 (by omega)
        · skip
          refine lv_aload_n hx hb dX6_init_86 rfl (lv_at hl 1 rfl) ?_
          have f_13181 : F_13178 a = .inr (6, [.ref a_12981, .int (nI (0)), .ref a_12995, .ref a_13013, .ref a_13035, .ref a_13061, .int (nI (0)), .ref a_13091, .int (nI (0)), .ref a_13125, .int (nI (0)), .int (nI (0)), .long (0)]) := (o_13180 a (by omega)).trans f_13177
          refine q_get C0 hw m_13129 f_13181 fw_X6_7 rfl dX6_init_87 ?_
          refine lv_bipush (v := nI 47) hx hb dX6_init_90 (by decide) ?_
          refine lv_bipush (v := nI 7) hx hb dX6_init_92 (by decide) ?_
          refine lv_iload_n hx hb dX6_init_94 rfl (lv_at hl 0 rfl) ?_
          refine n_imul hx hb dX6_init_95 ?_
          refine n_iadd hx hb dX6_init_96 ?_
          refine lv_iconst (v := nI 1) hx hb dX6_init_97 (by decide) ?_
          refine n_iadd hx hb dX6_init_98 ?_
          refine lv_iconst (v := nI 1) hx hb dX6_init_99 (by decide) ?_
          refine q_iast C0 hw m_13133 f_13179 (47 + (7 * 3) + 1) (by omega) (by decide) dX6_init_100 (fun F_13182 H locs hw f_13183 o_13184 => ?_)
          refine lv_iinc (v := nI 4) (lv' := [(1, .int (nI (4))), (0, .ref a)]) hx hb dX6_init_101 hl (k := 0) rfl (by decide) (by decide) rfl (fun ls hl => ?_)
          refine lv_goto (tgt := 80) hx hb dX6_init_104 (by decide) ?_
          refine lv_iload_n hx hb dX6_init_80 rfl (lv_at hl 0 rfl) ?_
          refine lv_bipush (v := nI 6) hx hb dX6_init_81 (by decide) ?_
          refine n_icmp_ge (tgt := 107) hx hb dX6_init_83 (by decide) (by decide) (by decide) (fun c_83 => ?_) (fun c_83 => ?_)
          · skip
            exact absurd c_83 (by omega)
          · skip
            refine lv_aload_n hx hb dX6_init_86 rfl (lv_at hl 1 rfl) ?_
            have f_13185 : F_13182 a = .inr (6, [.ref a_12981, .int (nI (0)), .ref a_12995, .ref a_13013, .ref a_13035, .ref a_13061, .int (nI (0)), .ref a_13091, .int (nI (0)), .ref a_13125, .int (nI (0)), .int (nI (0)), .long (0)]) := (o_13184 a (by omega)).trans f_13181
            refine q_get C0 hw m_13129 f_13185 fw_X6_7 rfl dX6_init_87 ?_
            refine lv_bipush (v := nI 47) hx hb dX6_init_90 (by decide) ?_
            refine lv_bipush (v := nI 7) hx hb dX6_init_92 (by decide) ?_
            refine lv_iload_n hx hb dX6_init_94 rfl (lv_at hl 0 rfl) ?_
            refine n_imul hx hb dX6_init_95 ?_
            refine n_iadd hx hb dX6_init_96 ?_
            refine lv_iconst (v := nI 1) hx hb dX6_init_97 (by decide) ?_
            refine n_iadd hx hb dX6_init_98 ?_
            refine lv_iconst (v := nI 1) hx hb dX6_init_99 (by decide) ?_
            refine q_iast C0 hw m_13133 f_13183 (47 + (7 * 4) + 1) (by omega) (by decide) dX6_init_100 (fun F_13186 H locs hw f_13187 o_13188 => ?_)
            refine lv_iinc (v := nI 5) (lv' := [(1, .int (nI (5))), (0, .ref a)]) hx hb dX6_init_101 hl (k := 0) rfl (by decide) (by decide) rfl (fun ls hl => ?_)
            refine lv_goto (tgt := 80) hx hb dX6_init_104 (by decide) ?_
            refine lv_iload_n hx hb dX6_init_80 rfl (lv_at hl 0 rfl) ?_
            refine lv_bipush (v := nI 6) hx hb dX6_init_81 (by decide) ?_
            refine n_icmp_ge (tgt := 107) hx hb dX6_init_83 (by decide) (by decide) (by decide) (fun c_83 => ?_) (fun c_83 => ?_)
            · skip
              exact absurd c_83 (by omega)
            · skip
              refine lv_aload_n hx hb dX6_init_86 rfl (lv_at hl 1 rfl) ?_
              have f_13189 : F_13186 a = .inr (6, [.ref a_12981, .int (nI (0)), .ref a_12995, .ref a_13013, .ref a_13035, .ref a_13061, .int (nI (0)), .ref a_13091, .int (nI (0)), .ref a_13125, .int (nI (0)), .int (nI (0)), .long (0)]) := (o_13188 a (by omega)).trans f_13185
              refine q_get C0 hw m_13129 f_13189 fw_X6_7 rfl dX6_init_87 ?_
              refine lv_bipush (v := nI 47) hx hb dX6_init_90 (by decide) ?_
              refine lv_bipush (v := nI 7) hx hb dX6_init_92 (by decide) ?_
              refine lv_iload_n hx hb dX6_init_94 rfl (lv_at hl 0 rfl) ?_
              refine n_imul hx hb dX6_init_95 ?_
              refine n_iadd hx hb dX6_init_96 ?_
              refine lv_iconst (v := nI 1) hx hb dX6_init_97 (by decide) ?_
              refine n_iadd hx hb dX6_init_98 ?_
              refine lv_iconst (v := nI 1) hx hb dX6_init_99 (by decide) ?_
              refine q_iast C0 hw m_13133 f_13187 (47 + (7 * 5) + 1) (by omega) (by decide) dX6_init_100 (fun F_13190 H locs hw f_13191 o_13192 => ?_)
              refine lv_iinc (v := nI 6) (lv' := [(1, .int (nI (6))), (0, .ref a)]) hx hb dX6_init_101 hl (k := 0) rfl (by decide) (by decide) rfl (fun ls hl => ?_)
              refine lv_goto (tgt := 80) hx hb dX6_init_104 (by decide) ?_
              refine lv_iload_n hx hb dX6_init_80 rfl (lv_at hl 0 rfl) ?_
              refine lv_bipush (v := nI 6) hx hb dX6_init_81 (by decide) ?_
              refine n_icmp_ge (tgt := 107) hx hb dX6_init_83 (by decide) (by decide) (by decide) (fun c_83 => ?_) (fun c_83 => ?_)
              · skip
                have hfr_13193 : ∀ q ∈ L, q ≠ a → F_13190 q = F q := by
                  intro q hq hne
                  have hqlt := hwS.lt hq
                  exact ((((((((((((((((((((((o_13192 q (by omega)).trans (o_13188 q (by omega))).trans (o_13184 q (by omega))).trans (o_13180 q (by omega))).trans (o_13176 q (by omega))).trans (o_13172 q (by omega))).trans (o_13168 q (by omega))).trans (o_13164 q (by omega))).trans (o_13160 q (by omega))).trans (g_13126.2.2.1 q (hg_13117.1 q hq)).1).trans (o_13122 q (by omega))).trans (g_13092.2.2.1 q (hg_13083.1 q hq)).1).trans (o_13088 q (by omega))).trans (g_13062.2.2.1 q (hg_13053.1 q hq)).1).trans (o_13058 q (by omega))).trans (g_13036.2.2.1 q (hg_13027.1 q hq)).1).trans (o_13032 q (by omega))).trans (g_13014.2.2.1 q (hg_13005.1 q hq)).1).trans (o_13010 q (by omega))).trans (g_12996.2.2.1 q (hg_12987.1 q hq)).1).trans (o_12992 q (by omega))).trans (g_12982.2.2.1 q (hg0.1 q hq)).1)
                have f_13194 : F_13190 a = .inr (6, [.ref a_12981, .int (nI (0)), .ref a_12995, .ref a_13013, .ref a_13035, .ref a_13061, .int (nI (0)), .ref a_13091, .int (nI (0)), .ref a_13125, .int (nI (0)), .int (nI (0)), .long (0)]) := (o_13192 a (by omega)).trans f_13189
                obtain ⟨ma, en⟩ : ∃ ma : Nat → Nat, ma = (fun i => if i = 0 then a_12981 else if i = 1 then a_12995 else if i = 2 then a_13013 else if i = 3 then a_13035 else if i = 4 then a_13061 else if i = 5 then a_13091 else a_13125) := ⟨_, rfl⟩
                have e0 : ma 0 = a_12981 := by rw [en]; rfl
                have e1 : ma 1 = a_12995 := by rw [en]; rfl
                have e2 : ma 2 = a_13013 := by rw [en]; rfl
                have e3 : ma 3 = a_13035 := by rw [en]; rfl
                have e4 : ma 4 = a_13061 := by rw [en]; rfl
                have e5 : ma 5 = a_13091 := by rw [en]; rfl
                have e6 : ma 6 = a_13125 := by rw [en]; rfl
                have hma : ∀ i, i < 7 → s.heap.size ≤ ma i ∧ ma i ∈ L_13123 := by
                  intro i hk9
                  match i, hk9 with
                  | 0, _ => rw [e0]; exact ⟨by omega, m_13133⟩
                  | 1, _ => rw [e1]; exact ⟨by omega, m_13137⟩
                  | 2, _ => rw [e2]; exact ⟨by omega, m_13141⟩
                  | 3, _ => rw [e3]; exact ⟨by omega, m_13145⟩
                  | 4, _ => rw [e4]; exact ⟨by omega, m_13149⟩
                  | 5, _ => rw [e5]; exact ⟨by omega, m_13153⟩
                  | 6, _ => rw [e6]; exact ⟨by omega, m_13156⟩
                  | i + 7, h9 => exact absurd h9 (by omega)
                have hO9 : F_13190 a = mO ma (fun _ => nI 0) 0 := f_13194.trans (by simp only [mO]; rw [e0, e1, e2, e3, e4, e5, e6])
                have f_13195 : F_13158 a_12995 = .inl (G.2 0, 534, .inl ((fun _ => nI 0))) := (o_13160 a_12995 (by omega)).trans f_13136
                have f_13196 : F_13162 a_12995 = .inl (G.2 0, 534, .inl ((fun _ => nI 0))) := (o_13164 a_12995 (by omega)).trans f_13195
                have f_13197 : F_13166 a_12995 = .inl (G.2 0, 534, .inl ((fun _ => nI 0))) := (o_13168 a_12995 (by omega)).trans f_13196
                have f_13198 : F_13170 a_12995 = .inl (G.2 0, 534, .inl ((fun _ => nI 0))) := (o_13172 a_12995 (by omega)).trans f_13197
                have f_13199 : F_13174 a_12995 = .inl (G.2 0, 534, .inl ((fun _ => nI 0))) := (o_13176 a_12995 (by omega)).trans f_13198
                have f_13200 : F_13178 a_12995 = .inl (G.2 0, 534, .inl ((fun _ => nI 0))) := (o_13180 a_12995 (by omega)).trans f_13199
                have f_13201 : F_13182 a_12995 = .inl (G.2 0, 534, .inl ((fun _ => nI 0))) := (o_13184 a_12995 (by omega)).trans f_13200
                have f_13202 : F_13186 a_12995 = .inl (G.2 0, 534, .inl ((fun _ => nI 0))) := (o_13188 a_12995 (by omega)).trans f_13201
                have f_13203 : F_13190 a_12995 = .inl (G.2 0, 534, .inl ((fun _ => nI 0))) := (o_13192 a_12995 (by omega)).trans f_13202
                have f_13204 : F_13158 a_13013 = .inl (G.2 0, 178, .inl ((fun _ => nI 0))) := (o_13160 a_13013 (by omega)).trans f_13140
                have f_13205 : F_13162 a_13013 = .inl (G.2 0, 178, .inl ((fun _ => nI 0))) := (o_13164 a_13013 (by omega)).trans f_13204
                have f_13206 : F_13166 a_13013 = .inl (G.2 0, 178, .inl ((fun _ => nI 0))) := (o_13168 a_13013 (by omega)).trans f_13205
                have f_13207 : F_13170 a_13013 = .inl (G.2 0, 178, .inl ((fun _ => nI 0))) := (o_13172 a_13013 (by omega)).trans f_13206
                have f_13208 : F_13174 a_13013 = .inl (G.2 0, 178, .inl ((fun _ => nI 0))) := (o_13176 a_13013 (by omega)).trans f_13207
                have f_13209 : F_13178 a_13013 = .inl (G.2 0, 178, .inl ((fun _ => nI 0))) := (o_13180 a_13013 (by omega)).trans f_13208
                have f_13210 : F_13182 a_13013 = .inl (G.2 0, 178, .inl ((fun _ => nI 0))) := (o_13184 a_13013 (by omega)).trans f_13209
                have f_13211 : F_13186 a_13013 = .inl (G.2 0, 178, .inl ((fun _ => nI 0))) := (o_13188 a_13013 (by omega)).trans f_13210
                have f_13212 : F_13190 a_13013 = .inl (G.2 0, 178, .inl ((fun _ => nI 0))) := (o_13192 a_13013 (by omega)).trans f_13211
                have f_13213 : F_13158 a_13035 = .inl (G.2 0, 2, .inl ((fun _ => nI 0))) := (o_13160 a_13035 (by omega)).trans f_13144
                have f_13214 : F_13162 a_13035 = .inl (G.2 0, 2, .inl ((fun _ => nI 0))) := (o_13164 a_13035 (by omega)).trans f_13213
                have f_13215 : F_13166 a_13035 = .inl (G.2 0, 2, .inl ((fun _ => nI 0))) := (o_13168 a_13035 (by omega)).trans f_13214
                have f_13216 : F_13170 a_13035 = .inl (G.2 0, 2, .inl ((fun _ => nI 0))) := (o_13172 a_13035 (by omega)).trans f_13215
                have f_13217 : F_13174 a_13035 = .inl (G.2 0, 2, .inl ((fun _ => nI 0))) := (o_13176 a_13035 (by omega)).trans f_13216
                have f_13218 : F_13178 a_13035 = .inl (G.2 0, 2, .inl ((fun _ => nI 0))) := (o_13180 a_13035 (by omega)).trans f_13217
                have f_13219 : F_13182 a_13035 = .inl (G.2 0, 2, .inl ((fun _ => nI 0))) := (o_13184 a_13035 (by omega)).trans f_13218
                have f_13220 : F_13186 a_13035 = .inl (G.2 0, 2, .inl ((fun _ => nI 0))) := (o_13188 a_13035 (by omega)).trans f_13219
                have f_13221 : F_13190 a_13035 = .inl (G.2 0, 2, .inl ((fun _ => nI 0))) := (o_13192 a_13035 (by omega)).trans f_13220
                have f_13222 : F_13158 a_13061 = .inl (G.2 0, 140, .inl ((fun _ => nI 0))) := (o_13160 a_13061 (by omega)).trans f_13148
                have f_13223 : F_13162 a_13061 = .inl (G.2 0, 140, .inl ((fun _ => nI 0))) := (o_13164 a_13061 (by omega)).trans f_13222
                have f_13224 : F_13166 a_13061 = .inl (G.2 0, 140, .inl ((fun _ => nI 0))) := (o_13168 a_13061 (by omega)).trans f_13223
                have f_13225 : F_13170 a_13061 = .inl (G.2 0, 140, .inl ((fun _ => nI 0))) := (o_13172 a_13061 (by omega)).trans f_13224
                have f_13226 : F_13174 a_13061 = .inl (G.2 0, 140, .inl ((fun _ => nI 0))) := (o_13176 a_13061 (by omega)).trans f_13225
                have f_13227 : F_13178 a_13061 = .inl (G.2 0, 140, .inl ((fun _ => nI 0))) := (o_13180 a_13061 (by omega)).trans f_13226
                have f_13228 : F_13182 a_13061 = .inl (G.2 0, 140, .inl ((fun _ => nI 0))) := (o_13184 a_13061 (by omega)).trans f_13227
                have f_13229 : F_13186 a_13061 = .inl (G.2 0, 140, .inl ((fun _ => nI 0))) := (o_13188 a_13061 (by omega)).trans f_13228
                have f_13230 : F_13190 a_13061 = .inl (G.2 0, 140, .inl ((fun _ => nI 0))) := (o_13192 a_13061 (by omega)).trans f_13229
                have f_13231 : F_13158 a_13091 = .inl (G.2 0, 60, .inl ((fun _ => nI 0))) := (o_13160 a_13091 (by omega)).trans f_13152
                have f_13232 : F_13162 a_13091 = .inl (G.2 0, 60, .inl ((fun _ => nI 0))) := (o_13164 a_13091 (by omega)).trans f_13231
                have f_13233 : F_13166 a_13091 = .inl (G.2 0, 60, .inl ((fun _ => nI 0))) := (o_13168 a_13091 (by omega)).trans f_13232
                have f_13234 : F_13170 a_13091 = .inl (G.2 0, 60, .inl ((fun _ => nI 0))) := (o_13172 a_13091 (by omega)).trans f_13233
                have f_13235 : F_13174 a_13091 = .inl (G.2 0, 60, .inl ((fun _ => nI 0))) := (o_13176 a_13091 (by omega)).trans f_13234
                have f_13236 : F_13178 a_13091 = .inl (G.2 0, 60, .inl ((fun _ => nI 0))) := (o_13180 a_13091 (by omega)).trans f_13235
                have f_13237 : F_13182 a_13091 = .inl (G.2 0, 60, .inl ((fun _ => nI 0))) := (o_13184 a_13091 (by omega)).trans f_13236
                have f_13238 : F_13186 a_13091 = .inl (G.2 0, 60, .inl ((fun _ => nI 0))) := (o_13188 a_13091 (by omega)).trans f_13237
                have f_13239 : F_13190 a_13091 = .inl (G.2 0, 60, .inl ((fun _ => nI 0))) := (o_13192 a_13091 (by omega)).trans f_13238
                have f_13240 : F_13158 a_13125 = .inl (G.2 0, 52, .inl ((fun _ => nI 0))) := (o_13160 a_13125 (by omega)).trans f_13157
                have f_13241 : F_13162 a_13125 = .inl (G.2 0, 52, .inl ((fun _ => nI 0))) := (o_13164 a_13125 (by omega)).trans f_13240
                have f_13242 : F_13166 a_13125 = .inl (G.2 0, 52, .inl ((fun _ => nI 0))) := (o_13168 a_13125 (by omega)).trans f_13241
                have f_13243 : F_13170 a_13125 = .inl (G.2 0, 52, .inl ((fun _ => nI 0))) := (o_13172 a_13125 (by omega)).trans f_13242
                have f_13244 : F_13174 a_13125 = .inl (G.2 0, 52, .inl ((fun _ => nI 0))) := (o_13176 a_13125 (by omega)).trans f_13243
                have f_13245 : F_13178 a_13125 = .inl (G.2 0, 52, .inl ((fun _ => nI 0))) := (o_13180 a_13125 (by omega)).trans f_13244
                have f_13246 : F_13182 a_13125 = .inl (G.2 0, 52, .inl ((fun _ => nI 0))) := (o_13184 a_13125 (by omega)).trans f_13245
                have f_13247 : F_13186 a_13125 = .inl (G.2 0, 52, .inl ((fun _ => nI 0))) := (o_13188 a_13125 (by omega)).trans f_13246
                have f_13248 : F_13190 a_13125 = .inl (G.2 0, 52, .inl ((fun _ => nI 0))) := (o_13192 a_13125 (by omega)).trans f_13247
                have hMW : MW G F_13190 a ma A0 0 := ⟨fun _ => nI 0, 0, _, _, _, _, _, _, fun _ _ => 0, hO9, ⟨rfl, rfl, rfl⟩, ⟨(congrArg F_13190 e0).trans f_13191, zA_0⟩, ⟨(congrArg F_13190 e1).trans f_13203, fun i hi => absurd hi (Nat.not_lt_zero i)⟩, ⟨(congrArg F_13190 e2).trans f_13212, fun j _ h9 => Bool.noConfusion h9⟩, ⟨(congrArg F_13190 e3).trans f_13221, fun j _ => rfl⟩, (congrArg F_13190 e4).trans f_13230, ⟨(congrArg F_13190 e5).trans f_13239, fun i hi => absurd hi (Nat.not_lt_zero i)⟩, (congrArg F_13190 e6).trans f_13248⟩
                exact r_vN C0 hg_13155 hr hlk hw ⟨hg_13155, ma, hma, hMW, hfr_13193⟩ (Nat.le_of_ble_eq_true rfl) (Nat.le_of_ble_eq_true rfl) dX6_init_107 hQ
              · skip
                exact absurd c_83 (by omega)
