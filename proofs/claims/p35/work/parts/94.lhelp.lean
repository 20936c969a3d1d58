theorem zi_1 : zi (nI 1) = zc 1 := by decide +kernel
theorem zi_0 : zi (nI 0) = zc 0 := by decide +kernel
theorem ov_s (M : Nat → ZP) (b : ZP) (k : Nat) : m_upto (m_am (fun _ => 0) M b) M k k * b = m_am (fun _ => 0) M b k := by
  rw [m_upto_at]
  exact (z_0a _).symm
theorem ex_0 (u : Nat → ZP) : m_am u u (zi (nI 0)) = u := by
  rw [zi_0, zc_0]
  exact funext fun k => by show u k + u k * 0 = u k; rw [z_m0, z_a0]
theorem ex_t (u : Nat → ZP) (cu : Nat) {n : Nat} (h : 1 ≤ n) : m_am (fun _ => 0) (m_mulT u (m_der (m_xT u cu (n - 1))) cu) (m_finv (zc n)) = m_xT u cu (n + 1 - 1) := by
  obtain ⟨j, rfl⟩ : ∃ j, n = j + 1 := ⟨n - 1, by omega⟩
  rfl
theorem ex_s (u : Nat → ZP) (cu : Nat) {n : Nat} (h : 1 ≤ n) : m_am (m_xO u cu (n - 1)) (m_am (fun _ => 0) (m_mulT u (m_der (m_xT u cu (n - 1))) cu) (m_finv (zc n))) (zi (nI 1)) = m_xO u cu (n + 1 - 1) := by
  rw [ex_t u cu h, zi_1]
  obtain ⟨j, rfl⟩ : ∃ j, n = j + 1 := ⟨n - 1, by omega⟩
  rfl
theorem lg_s (u : Nat → ZP) (cu : Nat) {k : Nat} (h : 2 ≤ k) : va_up (l_lgn u cu (k - 2)) k (zc ((l_lgn u cu (k - 2) k).val + (u k).val) - zc ((m_xO (l_lgn u cu (k - 2)) cu 6 k).val)) = l_lgn u cu (k + 1 - 2) := by
  obtain ⟨j, rfl⟩ : ∃ j, k = j + 2 := ⟨k - 2, by omega⟩
  rw [zc_add, zc_z, zc_z, zc_z]
  rfl
theorem iv_s (u : Nat → ZP) (cu : Nat) {k : Nat} (h : 2 ≤ k) : va_up (m_ivn u cu (k - 2)) k (zc ((m_ivn u cu (k - 2) k).val) - zc ((m_sub u (m_ivn u cu (k - 2)) cu k).val)) = m_ivn u cu (k + 1 - 2) := by
  obtain ⟨j, rfl⟩ : ∃ j, k = j + 2 := ⟨k - 2, by omega⟩
  rw [zc_z, zc_z]
  show _ = va_up (m_ivn u cu j) (j + 2) (m_ivn u cu j (j + 2) - m_pi u (m_ivn u cu j) cu (j + 2))
  rw [pi_eq]
  rfl
theorem pw_s (one : Nat → ZP) (cu : Nat) {n t : Nat} (h : t + 1 ≤ n) : m_sub (l_pw one cu (n - (t + 1))) one cu = l_pw one cu (n - t) := by
  rw [show n - t = (n - (t + 1)) + 1 by omega]
  rfl
theorem ng_ng (n : Nat) : - (- nI n) = nI n := by grind
theorem ng_to {n : Nat} (h9 : n ≤ 9) : (- nI n).toInt = - (n : Int) := by
  have e : - nI n = nI 0 - nI n := by rw [nI_0]; grind
  rw [e, pk_sub_toInt (by decide) (by omega)]
  omega
theorem ng_neg {n : Nat} (h1 : 1 ≤ n) (h9 : n ≤ 9) : ¬ 0 ≤ - nI n := by
  intro h
  have h2 := Int32.le_iff_toInt_le.mp h
  rw [ng_to h9] at h2
  have h0 : (0 : Int32).toInt = 0 := rfl
  omega
theorem wy_s (P w aw bw baw X : Nat → ZP) (k : Nat) (hX : X k = P k) : zc ((X k).val + (w k * m_finv (zc 2)).val + (aw k * m_finv (zc 12)).val) - zc ((bw k * m_finv (zc 12)).val) - zc ((baw k * m_finv (zc 24)).val) = l_way P w aw bw baw k := by
  rw [hX]
  simp only [zc_add, zc_z]
  rfl
abbrev rm_L_exp : Room := { frames := 2, cells := 20, slots := 140, locals := 45 }
set_option maxHeartbeats 4000000 in
set_option maxRecDepth 100000 in
theorem c_L_exp (l : Launch) (G : Gl) (L : List Nat) (F : Nat → va_E) (cu a : Nat) (u : Nat → ZP) (ma : a ∈ L) (fa : F a = rw7 G u) (hc : cu ≤ 6) : CR l yL_exp cL_exp 6 rm_L_exp G L F [.int (nI (cu)), .ref a] (m_xO u cu 6) := by
  refine CG_of (by decide) (Nat.le_of_ble_eq_true rfl) rfl ?_
  intro p e s m args below meth c Q C0 hr hlk hnm hQ hw ls hl
  have hx := C0.x
  have hb := C0.b
  have hg0 := gr.rfl (L := L) s.heap.size
  have hLs : ∀ q ∈ L, q < s.heap.size := fun q hq => hw.lt hq
  have hfr0 : ∀ q ∈ L, F q = F q := fun _ _ => rfl
  have hlt_a := hLs a ma
  refine lv_bipush (v := nI 7) hx hb dL_exp_0 (by decide) ?_
  refine k_row7 C0 hw (by show 0 + 1 ≤ 20; omega) (by show 0 + 7 ≤ 140; omega) dL_exp_2 (fun L_4531 F_4532 a_4533 H g_4534 hw1 => ?_)
  have hge_a_4533 : s.heap.size ≤ a_4533 := Nat.le_trans hw.2.2.1 g_4534.2.2.2.2
  have f_4535 : F_4532 a = rw7 G u := (g_4534.2.2.1 a ma).1.trans fa
  have lt_4537 := (g_4534.2.2.1 a ma).2
  have m_4536 : a ∈ L_4531 := g_4534.1.1 a ma
  have hfr_4538 : ∀ q ∈ L, F_4532 q = F q := fun q hq => (g_4534.2.2.1 q (hg0.1 q hq)).1.trans (hfr0 q hq)
  have hg_4539 := hg0.step g_4534.1 hw.2.2.1
  have C0 := C0.grow g_4534.1 hw.2.2.1
  have hw := hw1
  have m_4540 : a_4533 ∈ L_4531 := g_4534.2.2.2.1
  have f_4541 : F_4532 a_4533 = rw7 G ((fun _ => 0)) := g_4534.2.1
  refine lv_astore_n (lv' := [(2, .ref a_4533), (0, .int (nI (cu))), (1, .ref a)]) hx hb dL_exp_4 rfl hl (by decide) rfl (fun ls hl => ?_)
  refine lv_aload_n hx hb dL_exp_5 rfl (lv_at hl 0 rfl) ?_
  refine lv_iconst (v := nI 1) hx hb dL_exp_6 (by decide) ?_
  refine lv_iconst (v := nI 1) hx hb dL_exp_7 (by decide) ?_
  refine q_rst C0 hw m_4540 f_4541 (1) (by omega) (z := zc 1) dL_exp_8 (fun F_4542 H locs hw f_4543 o_4544 => ?_)
  have f_4545 : F_4542 a_4533 = rw7 G m_x := f_4543.trans (congrArg (rw7 G) (m_x_eq))
  refine lv_aload_n hx hb dL_exp_9 rfl (lv_at hl 0 rfl) ?_
  refine lv_aload_n hx hb dL_exp_10 rfl (lv_at hl 0 rfl) ?_
  refine lv_iconst (v := nI 0) hx hb dL_exp_11 (by decide) ?_
  refine q_callr hw (q_runS (As := [.ref a_4533, .ref a_4533, .int (nI (0))]) (c_L_plus l G L_4531 F_4542 a_4533 a_4533 m_x m_x (nI 0) m_4540 f_4545 m_4540 f_4545) C0 hw sw_L_22 rfl hl.1 rfl (Nat.le_of_ble_eq_true rfl) dL_exp_12 ⟨by decide, by decide⟩ ⟨(by show 1 + 1 ≤ 20; omega), (by show 7 + 7 ≤ 140; omega)⟩) (fun L_4546 F_4547 a_4548 H locs g_4549 hw1 => ?_)
  have hfr_4550 : ∀ q ∈ L, F_4542 q = F q := fun q hq => (o_4544 q (by have := hLs q hq; omega)).trans (hfr_4538 q hq)
  have hge_a_4548 : s.heap.size ≤ a_4548 := Nat.le_trans hw.2.2.1 g_4549.2.2.2.2
  have f_4551 : F_4542 a = rw7 G u := (o_4544 a (by omega)).trans f_4535
  have f_4552 : F_4547 a = rw7 G u := (g_4549.2.2.1 a m_4536).1.trans f_4551
  have lt_4554 := (g_4549.2.2.1 a m_4536).2
  have m_4553 : a ∈ L_4546 := g_4549.1.1 a m_4536
  have f_4555 : F_4547 a_4533 = rw7 G m_x := (g_4549.2.2.1 a_4533 m_4540).1.trans f_4545
  have lt_4557 := (g_4549.2.2.1 a_4533 m_4540).2
  have m_4556 : a_4533 ∈ L_4546 := g_4549.1.1 a_4533 m_4540
  have hfr_4558 : ∀ q ∈ L, F_4547 q = F q := fun q hq => (g_4549.2.2.1 q (hg_4539.1 q hq)).1.trans (hfr_4550 q hq)
  have hg_4559 := hg_4539.step g_4549.1 hw.2.2.1
  have C0 := C0.grow g_4549.1 hw.2.2.1
  have hw := hw1
  have m_4560 : a_4548 ∈ L_4546 := g_4549.2.2.2.1
  have f_4561 : F_4547 a_4548 = rw7 G ((m_am m_x m_x (zi (nI 0)))) := g_4549.2.1
  refine lv_astore_n (lv' := [(3, .ref a_4548), (2, .ref a_4533), (0, .int (nI (cu))), (1, .ref a)]) hx hb dL_exp_15 rfl hl (by decide) rfl (fun ls hl => ?_)
  refine lv_iconst (v := nI 1) hx hb dL_exp_16 (by decide) ?_
  refine lv_istore (lv' := [(4, .int (nI (1))), (3, .ref a_4548), (2, .ref a_4533), (0, .int (nI (cu))), (1, .ref a)]) hx hb dL_exp_17 hl (by decide) rfl (fun ls hl => ?_)
  have lp19_n_4562 : ∀ (n : Nat) (n9 : Nat) (at9 : Nat) (as9 : Nat), 1 ≤ n9 → n9 ≤ 7 → 7 + 1 - n9 < n → ∀ (L_4563 : List Nat) (F_4564 : Nat → va_E) (H : Heap) (locs : List Loc), Cx p s m args c cL_exp 6 (yL_exp).cls G L_4563 → gr L L_4563 s.heap.size → wD G L_4563 F_4564 s H locs → (∀ q ∈ L, F_4564 q = F q) → (at9 ∈ L_4563 ∧ s.heap.size ≤ at9 ∧ F_4564 at9 = rw7 G ((m_xT u cu (n9 - 1)))) → (as9 ∈ L_4563 ∧ s.heap.size ≤ as9 ∧ F_4564 as9 = rw7 G ((m_xO u cu (n9 - 1)))) → ∀ ls : Array Slot, lv_has ls 6 [(0, .int (nI (cu))), (1, .ref a), (2, .ref at9), (3, .ref as9), (4, .int (nI (n9)))] → W p l e rm_L_exp s m args below meth c H locs (2 + 3 * (n9 - 1)) (14 + 21 * (n9 - 1)) Q (F0 m 19 ls []) := by
    intro n
    induction n with
    | zero => intro n9 at9 as9 hlo hhi hm; exact absurd hm (Nat.not_lt_zero _)
    | succ n ih_19_n_4569 =>
      intro n9 at9 as9 hlo hhi hm L_4563 F_4564 H locs C0 hg_4568 hw hfr_4567 f_4565 f_4566 ls hl
      have f_4570 : F_4564 a = rw7 G u := (hfr_4567 a ma).trans fa
      have m_4571 : a ∈ L_4563 := hg_4568.1 a ma
      obtain ⟨m_4572, hge_4573, f_4574⟩ := f_4565
      obtain ⟨m_4575, hge_4576, f_4577⟩ := f_4566
      refine lv_iload hx hb dL_exp_19 (lv_at hl 4 rfl) ?_
      refine lv_bipush (v := nI 7) hx hb dL_exp_21 (by decide) ?_
      refine n_icmp_ge (tgt := 78) hx hb dL_exp_23 (by decide) (by omega) (by decide) (fun c_23 => ?_) (fun c_23 => ?_)
      · skip
        obtain rfl : n9 = 7 := by omega
        refine lv_aload_n hx hb dL_exp_78 rfl (lv_at hl 3 rfl) ?_
        exact r_r C0 hg_4568 hr hlk hw m_4575 hge_4576 hLs f_4577 hfr_4567 (show 2 + 3 * (7 - 1) ≤ 20 by omega) (show 14 + 21 * (7 - 1) ≤ 140 by omega) dL_exp_79 hQ
      · skip
        refine lv_iload_n hx hb dL_exp_26 rfl (lv_at hl 0 rfl) ?_
        refine lv_aload_n hx hb dL_exp_27 rfl (lv_at hl 1 rfl) ?_
        refine lv_aload_n hx hb dL_exp_28 rfl (lv_at hl 2 rfl) ?_
        refine q_callr hw (q_runS (As := [.ref at9]) (c_L_slope l G L_4563 F_4564 at9 ((m_xT u cu (n9 - 1))) m_4572 f_4574) C0 hw sw_L_14 rfl hl.1 rfl (Nat.le_of_ble_eq_true rfl) dL_exp_29 ⟨by decide, by decide⟩ ⟨(by show 2 + 3 * (n9 - 1) + 1 ≤ 20; omega), (by show 14 + 21 * (n9 - 1) + 7 ≤ 140; omega)⟩) (fun L_4578 F_4579 a_4580 H locs g_4581 hw1 => ?_)
        have hge_a_4580 : s.heap.size ≤ a_4580 := Nat.le_trans hw.2.2.1 g_4581.2.2.2.2
        have f_4582 : F_4579 a = rw7 G u := (g_4581.2.2.1 a m_4571).1.trans f_4570
        have lt_4584 := (g_4581.2.2.1 a m_4571).2
        have m_4583 : a ∈ L_4578 := g_4581.1.1 a m_4571
        have f_4585 : F_4579 at9 = rw7 G ((m_xT u cu (n9 - 1))) := (g_4581.2.2.1 at9 m_4572).1.trans f_4574
        have lt_4587 := (g_4581.2.2.1 at9 m_4572).2
        have m_4586 : at9 ∈ L_4578 := g_4581.1.1 at9 m_4572
        have f_4588 : F_4579 as9 = rw7 G ((m_xO u cu (n9 - 1))) := (g_4581.2.2.1 as9 m_4575).1.trans f_4577
        have lt_4590 := (g_4581.2.2.1 as9 m_4575).2
        have m_4589 : as9 ∈ L_4578 := g_4581.1.1 as9 m_4575
        have hfr_4591 : ∀ q ∈ L, F_4579 q = F q := fun q hq => (g_4581.2.2.1 q (hg_4568.1 q hq)).1.trans (hfr_4567 q hq)
        have hg_4592 := hg_4568.step g_4581.1 hw.2.2.1
        have C0 := C0.grow g_4581.1 hw.2.2.1
        have hw := hw1
        have m_4593 : a_4580 ∈ L_4578 := g_4581.2.2.2.1
        have f_4594 : F_4579 a_4580 = rw7 G ((m_der ((m_xT u cu (n9 - 1))))) := g_4581.2.1
        refine q_callr hw (q_runS (As := [.int (nI (cu)), .ref a, .ref a_4580]) (c_L_times l G L_4578 F_4579 cu a a_4580 u ((m_der ((m_xT u cu (n9 - 1))))) m_4583 f_4582 m_4593 f_4594 (by omega)) C0 hw sw_L_18 rfl hl.1 rfl (Nat.le_of_ble_eq_true rfl) dL_exp_32 ⟨by decide, by decide⟩ ⟨(by show 2 + 3 * (n9 - 1) + 1 + 1 ≤ 20; omega), (by show 14 + 21 * (n9 - 1) + 7 + 7 ≤ 140; omega)⟩) (fun L_4595 F_4596 a_4597 H locs g_4598 hw1 => ?_)
        have hge_a_4597 : s.heap.size ≤ a_4597 := Nat.le_trans hw.2.2.1 g_4598.2.2.2.2
        have f_4599 : F_4596 a = rw7 G u := (g_4598.2.2.1 a m_4583).1.trans f_4582
        have lt_4601 := (g_4598.2.2.1 a m_4583).2
        have m_4600 : a ∈ L_4595 := g_4598.1.1 a m_4583
        have f_4602 : F_4596 at9 = rw7 G ((m_xT u cu (n9 - 1))) := (g_4598.2.2.1 at9 m_4586).1.trans f_4585
        have lt_4604 := (g_4598.2.2.1 at9 m_4586).2
        have m_4603 : at9 ∈ L_4595 := g_4598.1.1 at9 m_4586
        have f_4605 : F_4596 as9 = rw7 G ((m_xO u cu (n9 - 1))) := (g_4598.2.2.1 as9 m_4589).1.trans f_4588
        have lt_4607 := (g_4598.2.2.1 as9 m_4589).2
        have m_4606 : as9 ∈ L_4595 := g_4598.1.1 as9 m_4589
        have hfr_4608 : ∀ q ∈ L, F_4596 q = F q := fun q hq => (g_4598.2.2.1 q (hg_4592.1 q hq)).1.trans (hfr_4591 q hq)
        have hg_4609 := hg_4592.step g_4598.1 hw.2.2.1
        have C0 := C0.grow g_4598.1 hw.2.2.1
        have hw := hw1
        have m_4610 : a_4597 ∈ L_4595 := g_4598.2.2.2.1
        have f_4611 : F_4596 a_4597 = rw7 G ((m_mulT u ((m_der ((m_xT u cu (n9 - 1))))) cu)) := g_4598.2.1
        refine lv_astore_n (lv' := [(2, .ref a_4597), (0, .int (nI (cu))), (1, .ref a), (3, .ref as9), (4, .int (nI (n9)))]) hx hb dL_exp_35 rfl hl (by decide) rfl (fun ls hl => ?_)
        refine lv_iconst (v := nI 0) hx hb dL_exp_36 (by decide) ?_
        refine lv_istore (lv' := [(5, .int (nI (0))), (2, .ref a_4597), (0, .int (nI (cu))), (1, .ref a), (3, .ref as9), (4, .int (nI (n9)))]) hx hb dL_exp_37 hl (by decide) rfl (fun ls hl => ?_)
        have lp39_n_4612 : ∀ (n : Nat) (k : Nat), 0 ≤ k → k ≤ 7 → 7 + 1 - k < n → ∀ (L_4613 : List Nat) (F_4614 : Nat → va_E) (H : Heap) (locs : List Loc), Cx p s m args c cL_exp 6 (yL_exp).cls G L_4613 → gr L L_4613 s.heap.size → wD G L_4613 F_4614 s H locs → (∀ q ∈ L, F_4614 q = F q) → (a_4597 ∈ L_4613 ∧ s.heap.size ≤ a_4597 ∧ F_4614 a_4597 = rw7 G (m_upto (m_am (fun _ => 0) (m_mulT u (m_der (m_xT u cu (n9 - 1))) cu) (m_finv (zc n9))) (m_mulT u (m_der (m_xT u cu (n9 - 1))) cu) k)) → (as9 ∈ L_4613 ∧ s.heap.size ≤ as9 ∧ F_4614 as9 = rw7 G ((m_xO u cu (n9 - 1)))) → ∀ ls : Array Slot, lv_has ls 6 [(0, .int (nI (cu))), (1, .ref a), (2, .ref a_4597), (3, .ref as9), (4, .int (nI (n9))), (5, .int (nI (k)))] → W p l e rm_L_exp s m args below meth c H locs (2 + 3 * (n9 - 1) + 2) (14 + 21 * (n9 - 1) + 14) Q (F0 m 39 ls []) := by
          intro n
          induction n with
          | zero => intro k hlo hhi hm; exact absurd hm (Nat.not_lt_zero _)
          | succ n ih_39_n_4619 =>
            intro k hlo hhi hm L_4613 F_4614 H locs C0 hg_4618 hw hfr_4617 f_4615 f_4616 ls hl
            have f_4620 : F_4614 a = rw7 G u := (hfr_4617 a ma).trans fa
            have m_4621 : a ∈ L_4613 := hg_4618.1 a ma
            obtain ⟨m_4622, hge_4623, f_4624⟩ := f_4615
            obtain ⟨m_4625, hge_4626, f_4627⟩ := f_4616
            refine lv_iload hx hb dL_exp_39 (lv_at hl 5 rfl) ?_
            refine lv_bipush (v := nI 7) hx hb dL_exp_41 (by decide) ?_
            refine n_icmp_ge (tgt := 65) hx hb dL_exp_43 (by decide) (by omega) (by decide) (fun c_43 => ?_) (fun c_43 => ?_)
            · skip
              obtain rfl : k = 7 := by omega
              obtain ⟨F_4628, hw, f_4629, o_4630⟩ := hw.rowE f_4624 (v := (m_am (fun _ => 0) (m_mulT u (m_der (m_xT u cu (n9 - 1))) cu) (m_finv (zc n9)))) (m_upto_7 (m_am (fun _ => 0) (m_mulT u (m_der (m_xT u cu (n9 - 1))) cu) (m_finv (zc n9))) (m_mulT u (m_der (m_xT u cu (n9 - 1))) cu))
              refine lv_aload_n hx hb dL_exp_65 rfl (lv_at hl 3 rfl) ?_
              refine lv_aload_n hx hb dL_exp_66 rfl (lv_at hl 2 rfl) ?_
              refine lv_iconst (v := nI 1) hx hb dL_exp_67 (by decide) ?_
              have f_4631 : F_4628 as9 = rw7 G ((m_xO u cu (n9 - 1))) := (o_4630 as9 (by omega)).trans f_4627
              refine q_callr hw (q_runS (As := [.ref as9, .ref a_4597, .int (nI (1))]) (c_L_plus l G L_4613 F_4628 as9 a_4597 ((m_xO u cu (n9 - 1))) ((m_am (fun _ => 0) (m_mulT u (m_der (m_xT u cu (n9 - 1))) cu) (m_finv (zc n9)))) (nI 1) m_4625 f_4631 m_4622 f_4629) C0 hw sw_L_22 rfl hl.1 rfl (Nat.le_of_ble_eq_true rfl) dL_exp_68 ⟨by decide, by decide⟩ ⟨(by show 2 + 3 * (n9 - 1) + 2 + 1 ≤ 20; omega), (by show 14 + 21 * (n9 - 1) + 14 + 7 ≤ 140; omega)⟩) (fun L_4632 F_4633 a_4634 H locs g_4635 hw1 => ?_)
              have hfr_4636 : ∀ q ∈ L, F_4628 q = F q := fun q hq => (o_4630 q (by have := hLs q hq; omega)).trans (hfr_4617 q hq)
              have hge_a_4634 : s.heap.size ≤ a_4634 := Nat.le_trans hw.2.2.1 g_4635.2.2.2.2
              have f_4637 : F_4628 a = rw7 G u := (o_4630 a (by omega)).trans f_4620
              have f_4638 : F_4633 a = rw7 G u := (g_4635.2.2.1 a m_4621).1.trans f_4637
              have lt_4640 := (g_4635.2.2.1 a m_4621).2
              have m_4639 : a ∈ L_4632 := g_4635.1.1 a m_4621
              have f_4641 : F_4633 a_4597 = rw7 G ((m_am (fun _ => 0) (m_mulT u (m_der (m_xT u cu (n9 - 1))) cu) (m_finv (zc n9)))) := (g_4635.2.2.1 a_4597 m_4622).1.trans f_4629
              have lt_4643 := (g_4635.2.2.1 a_4597 m_4622).2
              have m_4642 : a_4597 ∈ L_4632 := g_4635.1.1 a_4597 m_4622
              have f_4644 : F_4633 as9 = rw7 G ((m_xO u cu (n9 - 1))) := (g_4635.2.2.1 as9 m_4625).1.trans f_4631
              have lt_4646 := (g_4635.2.2.1 as9 m_4625).2
              have m_4645 : as9 ∈ L_4632 := g_4635.1.1 as9 m_4625
              have hfr_4647 : ∀ q ∈ L, F_4633 q = F q := fun q hq => (g_4635.2.2.1 q (hg_4618.1 q hq)).1.trans (hfr_4636 q hq)
              have hg_4648 := hg_4618.step g_4635.1 hw.2.2.1
              have C0 := C0.grow g_4635.1 hw.2.2.1
              have hw := hw1
              have m_4649 : a_4634 ∈ L_4632 := g_4635.2.2.2.1
              have f_4650 : F_4633 a_4634 = rw7 G ((m_am ((m_xO u cu (n9 - 1))) ((m_am (fun _ => 0) (m_mulT u (m_der (m_xT u cu (n9 - 1))) cu) (m_finv (zc n9)))) (zi (nI 1)))) := g_4635.2.1
              refine lv_astore_n (lv' := [(3, .ref a_4634), (0, .int (nI (cu))), (1, .ref a), (2, .ref a_4597), (4, .int (nI (n9))), (5, .int (nI (7)))]) hx hb dL_exp_71 rfl hl (by decide) rfl (fun ls hl => ?_)
              refine lv_iinc (v := nI (n9 + 1)) (lv' := [(4, .int (nI (n9 + 1))), (3, .ref a_4634), (0, .int (nI (cu))), (1, .ref a), (2, .ref a_4597), (5, .int (nI (7)))]) hx hb dL_exp_72 hl (k := 4) rfl (nI_add _ _) (by decide) rfl (fun ls hl => ?_)
              refine lv_goto (tgt := 19) hx hb dL_exp_75 (by decide) ?_
              refine W.widen (k := 2 + 3 * ((n9 + 1) - 1)) (n := 14 + 21 * ((n9 + 1) - 1)) (show 2 + 3 * (n9 - 1) + 3 ≤ 2 + 3 * ((n9 + 1) - 1) by omega) (show 14 + 21 * (n9 - 1) + 21 ≤ 14 + 21 * ((n9 + 1) - 1) by omega) ?_
              exact ih_19_n_4569 (n9 + 1) (a_4597) (a_4634) ((by omega)) ((by omega)) (by omega) _ _ _ _ C0 hg_4648 hw hfr_4647 ⟨m_4642, hge_4623, f_4641.trans (congrArg (rw7 G) (ex_t u cu (by omega)))⟩ ⟨m_4649, hge_a_4634, f_4650.trans (congrArg (rw7 G) (ex_s u cu (by omega)))⟩ ls (lv_sub hl [2, 3, 4, 1, 0] rfl)
            · skip
              refine lv_aload_n hx hb dL_exp_46 rfl (lv_at hl 2 rfl) ?_
              refine lv_iload hx hb dL_exp_47 (lv_at hl 5 rfl) ?_
              refine lv_aload_n hx hb dL_exp_49 rfl (lv_at hl 2 rfl) ?_
              refine lv_iload hx hb dL_exp_50 (lv_at hl 5 rfl) ?_
              refine q_rld C0 hw m_4622 f_4624 (k) (by omega) dL_exp_52 (fun z_4651 => ?_)
              refine lv_iload hx hb dL_exp_53 (lv_at hl 4 rfl) ?_
              refine q_calli hw (q_runS (As := [.int (nI (((m_upto (m_am (fun _ => 0) (m_mulT u (m_der (m_xT u cu (n9 - 1))) cu) (m_finv (zc n9))) (m_mulT u (m_der (m_xT u cu (n9 - 1))) cu) k) (k)).val)), .int (nI (n9))]) (c_L_over l G L_4613 F_4614 ((m_upto (m_am (fun _ => 0) (m_mulT u (m_der (m_xT u cu (n9 - 1))) cu) (m_finv (zc n9))) (m_mulT u (m_der (m_xT u cu (n9 - 1))) cu) k) (k)) n9 (by omega) (by omega)) C0 hw sw_L_26 rfl hl.1 rfl (Nat.le_of_ble_eq_true rfl) dL_exp_55 ⟨by decide, by decide⟩ ⟨(by show 2 + 3 * (n9 - 1) + 2 + 0 ≤ 20; omega), (by show 14 + 21 * (n9 - 1) + 14 + 0 ≤ 140; omega)⟩) rfl rfl (fun r_4654 F_4652 H locs hw hp_4653 => ?_)
              obtain ⟨he_4655, o_4656⟩ := hp_4653
              subst he_4655
              have z_4657 := (((m_upto (m_am (fun _ => 0) (m_mulT u (m_der (m_xT u cu (n9 - 1))) cu) (m_finv (zc n9))) (m_mulT u (m_der (m_xT u cu (n9 - 1))) cu) k) (k)) * m_finv (zc n9)).isLt
              have f_4658 : F_4652 a_4597 = rw7 G (m_upto (m_am (fun _ => 0) (m_mulT u (m_der (m_xT u cu (n9 - 1))) cu) (m_finv (zc n9))) (m_mulT u (m_der (m_xT u cu (n9 - 1))) cu) k) := (o_4656 a_4597 ).trans f_4624
              refine q_rst C0 hw m_4622 f_4658 (k) (by omega) (z := ((m_upto (m_am (fun _ => 0) (m_mulT u (m_der (m_xT u cu (n9 - 1))) cu) (m_finv (zc n9))) (m_mulT u (m_der (m_xT u cu (n9 - 1))) cu) k) (k)) * m_finv (zc n9)) dL_exp_58 (fun F_4659 H locs hw f_4660 o_4661 => ?_)
              refine lv_iinc (v := nI (k + 1)) (lv' := [(5, .int (nI (k + 1))), (0, .int (nI (cu))), (1, .ref a), (2, .ref a_4597), (3, .ref as9), (4, .int (nI (n9)))]) hx hb dL_exp_59 hl (k := 5) rfl (nI_add _ _) (by decide) rfl (fun ls hl => ?_)
              refine lv_goto (tgt := 39) hx hb dL_exp_62 (by decide) ?_
              have hfr_4662 : ∀ q ∈ L, F_4652 q = F q := fun q hq => (o_4656 q ).trans (hfr_4617 q hq)
              have hfr_4663 : ∀ q ∈ L, F_4659 q = F q := fun q hq => (o_4661 q (by have := hLs q hq; omega)).trans (hfr_4662 q hq)
              have f_4664 : F_4652 as9 = rw7 G ((m_xO u cu (n9 - 1))) := (o_4656 as9 ).trans f_4627
              have f_4665 : F_4659 as9 = rw7 G ((m_xO u cu (n9 - 1))) := (o_4661 as9 (by omega)).trans f_4664
              exact ih_39_n_4619 (k + 1) ((by omega)) ((by omega)) (by omega) _ _ _ _ C0 hg_4618 hw hfr_4663 ⟨m_4622, hge_4623, f_4660.trans (congrArg (rw7 G) (m_upto_s _ _ k (ov_s _ _ k)))⟩ ⟨m_4625, hge_4626, f_4665⟩ ls (lv_sub hl [1, 2, 3, 4, 5, 0] rfl)
        exact lp39_n_4612 _ (0) ((by omega)) ((by omega)) (Nat.lt_succ_self _) _ _ _ _ C0 hg_4609 hw hfr_4608 ⟨m_4610, hge_a_4597, f_4611.trans (congrArg (rw7 G) (m_upto_0 _ _).symm)⟩ ⟨m_4606, hge_4576, f_4605⟩ ls (lv_sub hl [2, 3, 1, 4, 5, 0] rfl)
  refine W.widen (k := 2 + 3 * (1 - 1)) (n := 14 + 21 * (1 - 1)) (show 2 ≤ 2 + 3 * (1 - 1) by omega) (show 14 ≤ 14 + 21 * (1 - 1) by omega) ?_
  exact lp19_n_4562 _ (1) (a_4533) (a_4548) ((by omega)) ((by omega)) (Nat.lt_succ_self _) _ _ _ _ C0 hg_4559 hw hfr_4558 ⟨m_4556, hge_a_4533, f_4555⟩ ⟨m_4560, hge_a_4548, f_4561.trans (congrArg (rw7 G) (ex_0 m_x))⟩ ls (lv_sub hl [3, 4, 2, 1, 0] rfl)
abbrev rm_L_log : Room := { frames := 3, cells := 101, slots := 707, locals := 70 }
set_option maxHeartbeats 4000000 in
set_option maxRecDepth 100000 in
theorem c_L_log (l : Launch) (G : Gl) (L : List Nat) (F : Nat → va_E) (cu a : Nat) (u : Nat → ZP) (ma : a ∈ L) (fa : F a = rw7 G u) (hc : cu ≤ 6) (hc2 : 2 ≤ cu) : CR l yL_log cL_log 4 rm_L_log G L F [.int (nI (cu)), .ref a] (l_lgn u cu (cu - 1)) := by
  refine CG_of (by decide) (Nat.le_of_ble_eq_true rfl) rfl ?_
  intro p e s m args below meth c Q C0 hr hlk hnm hQ hw ls hl
  have hx := C0.x
  have hb := C0.b
  have hg0 := gr.rfl (L := L) s.heap.size
  have hLs : ∀ q ∈ L, q < s.heap.size := fun q hq => hw.lt hq
  have hfr0 : ∀ q ∈ L, F q = F q := fun _ _ => rfl
  have hlt_a := hLs a ma
  refine lv_bipush (v := nI 7) hx hb dL_log_0 (by decide) ?_
  refine k_row7 C0 hw (by show 0 + 1 ≤ 101; omega) (by show 0 + 7 ≤ 707; omega) dL_log_2 (fun L_4666 F_4667 a_4668 H g_4669 hw1 => ?_)
  have hge_a_4668 : s.heap.size ≤ a_4668 := Nat.le_trans hw.2.2.1 g_4669.2.2.2.2
  have f_4670 : F_4667 a = rw7 G u := (g_4669.2.2.1 a ma).1.trans fa
  have lt_4672 := (g_4669.2.2.1 a ma).2
  have m_4671 : a ∈ L_4666 := g_4669.1.1 a ma
  have hfr_4673 : ∀ q ∈ L, F_4667 q = F q := fun q hq => (g_4669.2.2.1 q (hg0.1 q hq)).1.trans (hfr0 q hq)
  have hg_4674 := hg0.step g_4669.1 hw.2.2.1
  have C0 := C0.grow g_4669.1 hw.2.2.1
  have hw := hw1
  have m_4675 : a_4668 ∈ L_4666 := g_4669.2.2.2.1
  have f_4676 : F_4667 a_4668 = rw7 G ((fun _ => 0)) := g_4669.2.1
  refine lv_astore_n (lv' := [(2, .ref a_4668), (0, .int (nI (cu))), (1, .ref a)]) hx hb dL_log_4 rfl hl (by decide) rfl (fun ls hl => ?_)
  refine lv_iconst (v := nI 2) hx hb dL_log_5 (by decide) ?_
  refine lv_istore_n (lv' := [(3, .int (nI (2))), (2, .ref a_4668), (0, .int (nI (cu))), (1, .ref a)]) hx hb dL_log_6 rfl hl (by decide) rfl (fun ls hl => ?_)
  have lp7_n_4677 : ∀ (n : Nat) (k : Nat), 2 ≤ k → k ≤ cu + 1 → (cu + 1) + 1 - k < n → ∀ (L_4678 : List Nat) (F_4679 : Nat → va_E) (H : Heap) (locs : List Loc), Cx p s m args c cL_log 4 (yL_log).cls G L_4678 → gr L L_4678 s.heap.size → wD G L_4678 F_4679 s H locs → (∀ q ∈ L, F_4679 q = F q) → (a_4668 ∈ L_4678 ∧ s.heap.size ≤ a_4668 ∧ F_4679 a_4668 = rw7 G ((l_lgn u cu (k - 2)))) → ∀ ls : Array Slot, lv_has ls 4 [(0, .int (nI (cu))), (1, .ref a), (2, .ref a_4668), (3, .int (nI (k)))] → W p l e rm_L_log s m args below meth c H locs (1 + 20 * (k - 2)) (7 + 140 * (k - 2)) Q (F0 m 7 ls []) := by
    intro n
    induction n with
    | zero => intro k hlo hhi hm; exact absurd hm (Nat.not_lt_zero _)
    | succ n ih_7_n_4683 =>
      intro k hlo hhi hm L_4678 F_4679 H locs C0 hg_4682 hw hfr_4681 f_4680 ls hl
      have f_4684 : F_4679 a = rw7 G u := (hfr_4681 a ma).trans fa
      have m_4685 : a ∈ L_4678 := hg_4682.1 a ma
      obtain ⟨m_4686, hge_4687, f_4688⟩ := f_4680
      refine lv_iload_n hx hb dL_log_7 rfl (lv_at hl 3 rfl) ?_
      refine lv_iload_n hx hb dL_log_8 rfl (lv_at hl 0 rfl) ?_
      refine n_icmp_gt (tgt := 39) hx hb dL_log_9 (by decide) (by omega) (by omega) (fun c_9 => ?_) (fun c_9 => ?_)
      · skip
        obtain rfl : k = cu + 1 := by omega
        have f_4689 : F_4679 a_4668 = rw7 G ((l_lgn u cu (cu - 1))) := f_4688.trans (congrArg (rw7 G) (by rw [show cu + 1 - 2 = cu - 1 by omega]))
        refine lv_aload_n hx hb dL_log_39 rfl (lv_at hl 2 rfl) ?_
        exact r_r C0 hg_4682 hr hlk hw m_4686 hge_4687 hLs f_4689 hfr_4681 (show 1 + 20 * ((cu + 1) - 2) ≤ 101 by omega) (show 7 + 140 * ((cu + 1) - 2) ≤ 707 by omega) dL_log_40 hQ
      · skip
        refine lv_aload_n hx hb dL_log_12 rfl (lv_at hl 2 rfl) ?_
        refine lv_iload_n hx hb dL_log_13 rfl (lv_at hl 3 rfl) ?_
        refine lv_aload_n hx hb dL_log_14 rfl (lv_at hl 2 rfl) ?_
        refine lv_iload_n hx hb dL_log_15 rfl (lv_at hl 3 rfl) ?_
        refine q_rld C0 hw m_4686 f_4688 (k) (by omega) dL_log_16 (fun z_4690 => ?_)
        refine lv_aload_n hx hb dL_log_17 rfl (lv_at hl 1 rfl) ?_
        refine lv_iload_n hx hb dL_log_18 rfl (lv_at hl 3 rfl) ?_
        refine q_rld C0 hw m_4685 f_4684 (k) (by omega) dL_log_19 (fun z_4691 => ?_)
        refine n_iadd hx hb dL_log_20 ?_
        refine lv_iload_n hx hb dL_log_21 rfl (lv_at hl 0 rfl) ?_
        refine lv_aload_n hx hb dL_log_22 rfl (lv_at hl 2 rfl) ?_
        refine q_callr hw (q_runS (As := [.int (nI (cu)), .ref a_4668]) (c_L_exp l G L_4678 F_4679 cu a_4668 ((l_lgn u cu (k - 2))) m_4686 f_4688 (by omega)) C0 hw sw_L_30 rfl hl.1 rfl (Nat.le_of_ble_eq_true rfl) dL_log_23 ⟨by decide, by decide⟩ ⟨(by show 1 + 20 * (k - 2) + 20 ≤ 101; omega), (by show 7 + 140 * (k - 2) + 140 ≤ 707; omega)⟩) (fun L_4692 F_4693 a_4694 H locs g_4695 hw1 => ?_)
        have hge_a_4694 : s.heap.size ≤ a_4694 := Nat.le_trans hw.2.2.1 g_4695.2.2.2.2
        have f_4696 : F_4693 a = rw7 G u := (g_4695.2.2.1 a m_4685).1.trans f_4684
        have lt_4698 := (g_4695.2.2.1 a m_4685).2
        have m_4697 : a ∈ L_4692 := g_4695.1.1 a m_4685
        have f_4699 : F_4693 a_4668 = rw7 G ((l_lgn u cu (k - 2))) := (g_4695.2.2.1 a_4668 m_4686).1.trans f_4688
        have lt_4701 := (g_4695.2.2.1 a_4668 m_4686).2
        have m_4700 : a_4668 ∈ L_4692 := g_4695.1.1 a_4668 m_4686
        have hfr_4702 : ∀ q ∈ L, F_4693 q = F q := fun q hq => (g_4695.2.2.1 q (hg_4682.1 q hq)).1.trans (hfr_4681 q hq)
        have hg_4703 := hg_4682.step g_4695.1 hw.2.2.1
        have C0 := C0.grow g_4695.1 hw.2.2.1
        have hw := hw1
        have m_4704 : a_4694 ∈ L_4692 := g_4695.2.2.2.1
        have f_4705 : F_4693 a_4694 = rw7 G ((m_xO ((l_lgn u cu (k - 2))) cu 6)) := g_4695.2.1
        refine lv_iload_n hx hb dL_log_26 rfl (lv_at hl 3 rfl) ?_
        refine q_rld C0 hw m_4704 f_4705 (k) (by omega) dL_log_27 (fun z_4706 => ?_)
        refine lv_isub hx hb dL_log_28 ?_
        refine q_calli hw (q_runS (As := [.int (nI ((((l_lgn u cu (k - 2))) (k)).val + ((u (k)).val)) - nI ((((m_xO ((l_lgn u cu (k - 2))) cu 6)) (k)).val))]) (c_L_mod l G L_4692 F_4693 ((nI ((((l_lgn u cu (k - 2))) (k)).val + ((u (k)).val)) - nI ((((m_xO ((l_lgn u cu (k - 2))) cu 6)) (k)).val)))) C0 hw sw_L_8 rfl hl.1 rfl (Nat.le_of_ble_eq_true rfl) dL_log_29 ⟨by decide, by decide⟩ ⟨(by show 1 + 20 * (k - 2) + 20 + 0 ≤ 101; omega), (by show 7 + 140 * (k - 2) + 140 + 0 ≤ 707; omega)⟩) rfl rfl (fun r_4709 F_4707 H locs hw hp_4708 => ?_)
        obtain ⟨he_4710, o_4711⟩ := hp_4708
        rw [zi_sub (by omega) (by omega)] at he_4710
        subst he_4710
        have f_4712 : F_4707 a_4668 = rw7 G ((l_lgn u cu (k - 2))) := (o_4711 a_4668 ).trans f_4699
        refine q_rst C0 hw m_4700 f_4712 (k) (by omega) (z := zc ((((l_lgn u cu (k - 2))) (k)).val + ((u (k)).val)) - zc ((((m_xO ((l_lgn u cu (k - 2))) cu 6)) (k)).val)) dL_log_32 (fun F_4713 H locs hw f_4714 o_4715 => ?_)
        refine lv_iinc (v := nI (k + 1)) (lv' := [(3, .int (nI (k + 1))), (0, .int (nI (cu))), (1, .ref a), (2, .ref a_4668)]) hx hb dL_log_33 hl (k := 3) rfl (nI_add _ _) (by decide) rfl (fun ls hl => ?_)
        refine lv_goto (tgt := 7) hx hb dL_log_36 (by decide) ?_
        have hfr_4716 : ∀ q ∈ L, F_4707 q = F q := fun q hq => (o_4711 q ).trans (hfr_4702 q hq)
        have hfr_4717 : ∀ q ∈ L, F_4713 q = F q := fun q hq => (o_4715 q (by have := hLs q hq; omega)).trans (hfr_4716 q hq)
        refine W.widen (k := 1 + 20 * ((k + 1) - 2)) (n := 7 + 140 * ((k + 1) - 2)) (show 1 + 20 * (k - 2) + 20 ≤ 1 + 20 * ((k + 1) - 2) by omega) (show 7 + 140 * (k - 2) + 140 ≤ 7 + 140 * ((k + 1) - 2) by omega) ?_
        exact ih_7_n_4683 (k + 1) ((by omega)) ((by omega)) (by omega) _ _ _ _ C0 hg_4703 hw hfr_4717 ⟨m_4700, hge_4687, f_4714.trans (congrArg (rw7 G) (lg_s u cu hlo))⟩ ls (lv_sub hl [1, 2, 3, 0] rfl)
  refine W.widen (k := 1 + 20 * (2 - 2)) (n := 7 + 140 * (2 - 2)) (show 1 ≤ 1 + 20 * (2 - 2) by omega) (show 7 ≤ 7 + 140 * (2 - 2) by omega) ?_
  exact lp7_n_4677 _ (2) ((by omega)) ((by omega)) (Nat.lt_succ_self _) _ _ _ _ C0 hg_4674 hw hfr_4673 ⟨m_4675, hge_a_4668, f_4676⟩ ls (lv_sub hl [2, 3, 1, 0] rfl)
abbrev rm_L_inverse : Room := { frames := 3, cells := 41, slots := 287, locals := 69 }
set_option maxHeartbeats 4000000 in
set_option maxRecDepth 100000 in
theorem c_L_inverse (l : Launch) (G : Gl) (L : List Nat) (F : Nat → va_E) (cu a : Nat) (u : Nat → ZP) (ma : a ∈ L) (fa : F a = rw7 G u) (hc : cu ≤ 6) (hc2 : 2 ≤ cu) : CR l yL_inverse cL_inverse 4 rm_L_inverse G L F [.int (nI (cu)), .ref a] (m_inv u cu) := by
  refine CG_of (by decide) (Nat.le_of_ble_eq_true rfl) rfl ?_
  intro p e s m args below meth c Q C0 hr hlk hnm hQ hw ls hl
  have hx := C0.x
  have hb := C0.b
  have hg0 := gr.rfl (L := L) s.heap.size
  have hLs : ∀ q ∈ L, q < s.heap.size := fun q hq => hw.lt hq
  have hfr0 : ∀ q ∈ L, F q = F q := fun _ _ => rfl
  have hlt_a := hLs a ma
  refine lv_bipush (v := nI 7) hx hb dL_inverse_0 (by decide) ?_
  refine k_row7 C0 hw (by show 0 + 1 ≤ 41; omega) (by show 0 + 7 ≤ 287; omega) dL_inverse_2 (fun L_4718 F_4719 a_4720 H g_4721 hw1 => ?_)
  have hge_a_4720 : s.heap.size ≤ a_4720 := Nat.le_trans hw.2.2.1 g_4721.2.2.2.2
  have f_4722 : F_4719 a = rw7 G u := (g_4721.2.2.1 a ma).1.trans fa
  have lt_4724 := (g_4721.2.2.1 a ma).2
  have m_4723 : a ∈ L_4718 := g_4721.1.1 a ma
  have hfr_4725 : ∀ q ∈ L, F_4719 q = F q := fun q hq => (g_4721.2.2.1 q (hg0.1 q hq)).1.trans (hfr0 q hq)
  have hg_4726 := hg0.step g_4721.1 hw.2.2.1
  have C0 := C0.grow g_4721.1 hw.2.2.1
  have hw := hw1
  have m_4727 : a_4720 ∈ L_4718 := g_4721.2.2.2.1
  have f_4728 : F_4719 a_4720 = rw7 G ((fun _ => 0)) := g_4721.2.1
  refine lv_astore_n (lv' := [(2, .ref a_4720), (0, .int (nI (cu))), (1, .ref a)]) hx hb dL_inverse_4 rfl hl (by decide) rfl (fun ls hl => ?_)
  refine lv_aload_n hx hb dL_inverse_5 rfl (lv_at hl 0 rfl) ?_
  refine lv_iconst (v := nI 1) hx hb dL_inverse_6 (by decide) ?_
  refine lv_iconst (v := nI 1) hx hb dL_inverse_7 (by decide) ?_
  refine q_rst C0 hw m_4727 f_4728 (1) (by omega) (z := zc 1) dL_inverse_8 (fun F_4729 H locs hw f_4730 o_4731 => ?_)
  have f_4732 : F_4729 a_4720 = rw7 G m_x := f_4730.trans (congrArg (rw7 G) (m_x_eq))
  refine lv_iconst (v := nI 2) hx hb dL_inverse_9 (by decide) ?_
  refine lv_istore_n (lv' := [(3, .int (nI (2))), (2, .ref a_4720), (0, .int (nI (cu))), (1, .ref a)]) hx hb dL_inverse_10 rfl hl (by decide) rfl (fun ls hl => ?_)
  have lp11_n_4733 : ∀ (n : Nat) (k : Nat), 2 ≤ k → k ≤ cu + 1 → (cu + 1) + 1 - k < n → ∀ (L_4734 : List Nat) (F_4735 : Nat → va_E) (H : Heap) (locs : List Loc), Cx p s m args c cL_inverse 4 (yL_inverse).cls G L_4734 → gr L L_4734 s.heap.size → wD G L_4734 F_4735 s H locs → (∀ q ∈ L, F_4735 q = F q) → (a_4720 ∈ L_4734 ∧ s.heap.size ≤ a_4720 ∧ F_4735 a_4720 = rw7 G ((m_ivn u cu (k - 2)))) → ∀ ls : Array Slot, lv_has ls 4 [(0, .int (nI (cu))), (1, .ref a), (2, .ref a_4720), (3, .int (nI (k)))] → W p l e rm_L_inverse s m args below meth c H locs (1 + 8 * (k - 2)) (7 + 56 * (k - 2)) Q (F0 m 11 ls []) := by
    intro n
    induction n with
    | zero => intro k hlo hhi hm; exact absurd hm (Nat.not_lt_zero _)
    | succ n ih_11_n_4739 =>
      intro k hlo hhi hm L_4734 F_4735 H locs C0 hg_4738 hw hfr_4737 f_4736 ls hl
      have f_4740 : F_4735 a = rw7 G u := (hfr_4737 a ma).trans fa
      have m_4741 : a ∈ L_4734 := hg_4738.1 a ma
      obtain ⟨m_4742, hge_4743, f_4744⟩ := f_4736
      refine lv_iload_n hx hb dL_inverse_11 rfl (lv_at hl 3 rfl) ?_
      refine lv_iload_n hx hb dL_inverse_12 rfl (lv_at hl 0 rfl) ?_
      refine n_icmp_gt (tgt := 40) hx hb dL_inverse_13 (by decide) (by omega) (by omega) (fun c_13 => ?_) (fun c_13 => ?_)
      · skip
        obtain rfl : k = cu + 1 := by omega
        have f_4745 : F_4735 a_4720 = rw7 G ((m_inv u cu)) := f_4744.trans (congrArg (rw7 G) (by rw [show cu + 1 - 2 = cu - 1 by omega]; exact inv_eq u (by omega)))
        refine lv_aload_n hx hb dL_inverse_40 rfl (lv_at hl 2 rfl) ?_
        exact r_r C0 hg_4738 hr hlk hw m_4742 hge_4743 hLs f_4745 hfr_4737 (show 1 + 8 * ((cu + 1) - 2) ≤ 41 by omega) (show 7 + 56 * ((cu + 1) - 2) ≤ 287 by omega) dL_inverse_41 hQ
      · skip
        refine lv_aload_n hx hb dL_inverse_16 rfl (lv_at hl 2 rfl) ?_
        refine lv_iload_n hx hb dL_inverse_17 rfl (lv_at hl 3 rfl) ?_
        refine lv_aload_n hx hb dL_inverse_18 rfl (lv_at hl 2 rfl) ?_
        refine lv_iload_n hx hb dL_inverse_19 rfl (lv_at hl 3 rfl) ?_
        refine q_rld C0 hw m_4742 f_4744 (k) (by omega) dL_inverse_20 (fun z_4746 => ?_)
        refine lv_iload_n hx hb dL_inverse_21 rfl (lv_at hl 0 rfl) ?_
        refine lv_aload_n hx hb dL_inverse_22 rfl (lv_at hl 1 rfl) ?_
        refine lv_aload_n hx hb dL_inverse_23 rfl (lv_at hl 2 rfl) ?_
        refine q_callr hw (q_runS (As := [.int (nI (cu)), .ref a, .ref a_4720]) (c_L_within l G L_4734 F_4735 cu a a_4720 u ((m_ivn u cu (k - 2))) m_4741 f_4740 m_4742 f_4744 (by omega)) C0 hw sw_L_34 rfl hl.1 rfl (Nat.le_of_ble_eq_true rfl) dL_inverse_24 ⟨by decide, by decide⟩ ⟨(by show 1 + 8 * (k - 2) + 8 ≤ 41; omega), (by show 7 + 56 * (k - 2) + 56 ≤ 287; omega)⟩) (fun L_4747 F_4748 a_4749 H locs g_4750 hw1 => ?_)
        have hge_a_4749 : s.heap.size ≤ a_4749 := Nat.le_trans hw.2.2.1 g_4750.2.2.2.2
        have f_4751 : F_4748 a = rw7 G u := (g_4750.2.2.1 a m_4741).1.trans f_4740
        have lt_4753 := (g_4750.2.2.1 a m_4741).2
        have m_4752 : a ∈ L_4747 := g_4750.1.1 a m_4741
        have f_4754 : F_4748 a_4720 = rw7 G ((m_ivn u cu (k - 2))) := (g_4750.2.2.1 a_4720 m_4742).1.trans f_4744
        have lt_4756 := (g_4750.2.2.1 a_4720 m_4742).2
        have m_4755 : a_4720 ∈ L_4747 := g_4750.1.1 a_4720 m_4742
        have hfr_4757 : ∀ q ∈ L, F_4748 q = F q := fun q hq => (g_4750.2.2.1 q (hg_4738.1 q hq)).1.trans (hfr_4737 q hq)
        have hg_4758 := hg_4738.step g_4750.1 hw.2.2.1
        have C0 := C0.grow g_4750.1 hw.2.2.1
        have hw := hw1
        have m_4759 : a_4749 ∈ L_4747 := g_4750.2.2.2.1
        have f_4760 : F_4748 a_4749 = rw7 G ((m_sub u ((m_ivn u cu (k - 2))) cu)) := g_4750.2.1
        refine lv_iload_n hx hb dL_inverse_27 rfl (lv_at hl 3 rfl) ?_
        refine q_rld C0 hw m_4759 f_4760 (k) (by omega) dL_inverse_28 (fun z_4761 => ?_)
        refine lv_isub hx hb dL_inverse_29 ?_
        refine q_calli hw (q_runS (As := [.int (nI ((((m_ivn u cu (k - 2))) (k)).val) - nI ((((m_sub u ((m_ivn u cu (k - 2))) cu)) (k)).val))]) (c_L_mod l G L_4747 F_4748 ((nI ((((m_ivn u cu (k - 2))) (k)).val) - nI ((((m_sub u ((m_ivn u cu (k - 2))) cu)) (k)).val)))) C0 hw sw_L_8 rfl hl.1 rfl (Nat.le_of_ble_eq_true rfl) dL_inverse_30 ⟨by decide, by decide⟩ ⟨(by show 1 + 8 * (k - 2) + 8 + 0 ≤ 41; omega), (by show 7 + 56 * (k - 2) + 56 + 0 ≤ 287; omega)⟩) rfl rfl (fun r_4764 F_4762 H locs hw hp_4763 => ?_)
        obtain ⟨he_4765, o_4766⟩ := hp_4763
        rw [zi_sub (by omega) (by omega)] at he_4765
        subst he_4765
        have f_4767 : F_4762 a_4720 = rw7 G ((m_ivn u cu (k - 2))) := (o_4766 a_4720 ).trans f_4754
        refine q_rst C0 hw m_4755 f_4767 (k) (by omega) (z := zc ((((m_ivn u cu (k - 2))) (k)).val) - zc ((((m_sub u ((m_ivn u cu (k - 2))) cu)) (k)).val)) dL_inverse_33 (fun F_4768 H locs hw f_4769 o_4770 => ?_)
        refine lv_iinc (v := nI (k + 1)) (lv' := [(3, .int (nI (k + 1))), (0, .int (nI (cu))), (1, .ref a), (2, .ref a_4720)]) hx hb dL_inverse_34 hl (k := 3) rfl (nI_add _ _) (by decide) rfl (fun ls hl => ?_)
        refine lv_goto (tgt := 11) hx hb dL_inverse_37 (by decide) ?_
        have hfr_4771 : ∀ q ∈ L, F_4762 q = F q := fun q hq => (o_4766 q ).trans (hfr_4757 q hq)
        have hfr_4772 : ∀ q ∈ L, F_4768 q = F q := fun q hq => (o_4770 q (by have := hLs q hq; omega)).trans (hfr_4771 q hq)
        refine W.widen (k := 1 + 8 * ((k + 1) - 2)) (n := 7 + 56 * ((k + 1) - 2)) (show 1 + 8 * (k - 2) + 8 ≤ 1 + 8 * ((k + 1) - 2) by omega) (show 7 + 56 * (k - 2) + 56 ≤ 7 + 56 * ((k + 1) - 2) by omega) ?_
        exact ih_11_n_4739 (k + 1) ((by omega)) ((by omega)) (by omega) _ _ _ _ C0 hg_4758 hw hfr_4772 ⟨m_4755, hge_4743, f_4769.trans (congrArg (rw7 G) (iv_s u cu hlo))⟩ ls (lv_sub hl [1, 2, 3, 0] rfl)
  have hfr_4773 : ∀ q ∈ L, F_4729 q = F q := fun q hq => (o_4731 q (by have := hLs q hq; omega)).trans (hfr_4725 q hq)
  refine W.widen (k := 1 + 8 * (2 - 2)) (n := 7 + 56 * (2 - 2)) (show 1 ≤ 1 + 8 * (2 - 2) by omega) (show 7 ≤ 7 + 56 * (2 - 2) by omega) ?_
  exact lp11_n_4733 _ (2) ((by omega)) ((by omega)) (Nat.lt_succ_self _) _ _ _ _ C0 hg_4726 hw hfr_4773 ⟨m_4727, hge_a_4720, f_4732⟩ ls (lv_sub hl [2, 3, 1, 0] rfl)
abbrev rm_L_power : Room := { frames := 4, cells := 114, slots := 798, locals := 92 }
set_option maxHeartbeats 4000000 in
set_option maxRecDepth 100000 in
theorem c_L_power_p (l : Launch) (G : Gl) (L : List Nat) (F : Nat → va_E) (cu a n9 : Nat) (u : Nat → ZP) (ma : a ∈ L) (fa : F a = rw7 G u) (hc : cu ≤ 6) (hc2 : 2 ≤ cu) (hn : n9 ≤ 9) : CR l yL_power cL_power 6 rm_L_power G L F [.int (nI (cu)), .ref a, .int (nI (n9))] (l_pw u cu n9) := by
  refine CG_of (by decide) (Nat.le_of_ble_eq_true rfl) rfl ?_
  intro p e s m args below meth c Q C0 hr hlk hnm hQ hw ls hl
  have hx := C0.x
  have hb := C0.b
  have hg0 := gr.rfl (L := L) s.heap.size
  have hLs : ∀ q ∈ L, q < s.heap.size := fun q hq => hw.lt hq
  have hfr0 : ∀ q ∈ L, F q = F q := fun _ _ => rfl
  have hlt_a := hLs a ma
  refine lv_bipush (v := nI 7) hx hb dL_power_0 (by decide) ?_
  refine k_row7 C0 hw (by show 0 + 1 ≤ 114; omega) (by show 0 + 7 ≤ 798; omega) dL_power_2 (fun L_4774 F_4775 a_4776 H g_4777 hw1 => ?_)
  have hge_a_4776 : s.heap.size ≤ a_4776 := Nat.le_trans hw.2.2.1 g_4777.2.2.2.2
  have f_4778 : F_4775 a = rw7 G u := (g_4777.2.2.1 a ma).1.trans fa
  have lt_4780 := (g_4777.2.2.1 a ma).2
  have m_4779 : a ∈ L_4774 := g_4777.1.1 a ma
  have hfr_4781 : ∀ q ∈ L, F_4775 q = F q := fun q hq => (g_4777.2.2.1 q (hg0.1 q hq)).1.trans (hfr0 q hq)
  have hg_4782 := hg0.step g_4777.1 hw.2.2.1
  have C0 := C0.grow g_4777.1 hw.2.2.1
  have hw := hw1
  have m_4783 : a_4776 ∈ L_4774 := g_4777.2.2.2.1
  have f_4784 : F_4775 a_4776 = rw7 G ((fun _ => 0)) := g_4777.2.1
  refine lv_astore_n (lv' := [(3, .ref a_4776), (0, .int (nI (cu))), (1, .ref a), (2, .int (nI (n9)))]) hx hb dL_power_4 rfl hl (by decide) rfl (fun ls hl => ?_)
  refine lv_aload_n hx hb dL_power_5 rfl (lv_at hl 0 rfl) ?_
  refine lv_iconst (v := nI 1) hx hb dL_power_6 (by decide) ?_
  refine lv_iconst (v := nI 1) hx hb dL_power_7 (by decide) ?_
  refine q_rst C0 hw m_4783 f_4784 (1) (by omega) (z := zc 1) dL_power_8 (fun F_4785 H locs hw f_4786 o_4787 => ?_)
  have f_4788 : F_4785 a_4776 = rw7 G m_x := f_4786.trans (congrArg (rw7 G) (m_x_eq))
  refine lv_iload_n hx hb dL_power_9 rfl (lv_at hl 3 rfl) ?_
  refine n_if_ge (tgt := 21) hx hb dL_power_10 (by decide) (by omega) ?_
  refine lv_aload_n hx hb dL_power_21 rfl (lv_at hl 2 rfl) ?_
  refine lv_astore (lv' := [(4, .ref a), (3, .ref a_4776), (0, .int (nI (cu))), (1, .ref a), (2, .int (nI (n9)))]) hx hb dL_power_22 hl (by decide) rfl (fun ls hl => ?_)
  refine lv_iload_n hx hb dL_power_24 rfl (lv_at hl 4 rfl) ?_
  refine n_if_ge (tgt := 33) hx hb dL_power_25 (by decide) (by omega) ?_
  refine lv_iload_n hx hb dL_power_33 rfl (lv_at hl 4 rfl) ?_
  refine lv_istore (lv' := [(5, .int (nI (n9))), (4, .ref a), (3, .ref a_4776), (0, .int (nI (cu))), (1, .ref a), (2, .int (nI (n9)))]) hx hb dL_power_34 hl (by decide) rfl (fun ls hl => ?_)
  have lp36_n_4789 : ∀ (n : Nat) (t : Nat) (ar : Nat), t ≤ n9 → t < n → ∀ (L_4790 : List Nat) (F_4791 : Nat → va_E) (H : Heap) (locs : List Loc), Cx p s m args c cL_power 6 (yL_power).cls G L_4790 → gr L L_4790 s.heap.size → wD G L_4790 F_4791 s H locs → (∀ q ∈ L, F_4791 q = F q) → (ar ∈ L_4790 ∧ s.heap.size ≤ ar ∧ F_4791 ar = rw7 G (l_pw u cu (n9 - t))) → ∀ ls : Array Slot, lv_has ls 6 [(0, .int (nI (cu))), (1, .ref a), (3, .ref ar), (4, .ref a), (5, .int (nI (t)))] → W p l e rm_L_power s m args below meth c H locs (1 + 8 * (n9 - t)) (7 + 56 * (n9 - t)) Q (F0 m 36 ls []) := by
    intro n
    induction n with
    | zero => intro t ar htn hm; exact absurd hm (Nat.not_lt_zero _)
    | succ n ih_36_n_4795 =>
      intro t ar htn hm L_4790 F_4791 H locs C0 hg_4794 hw hfr_4793 f_4792 ls hl
      have f_4796 : F_4791 a = rw7 G u := (hfr_4793 a ma).trans fa
      have m_4797 : a ∈ L_4790 := hg_4794.1 a ma
      obtain ⟨m_4798, hge_4799, f_4800⟩ := f_4792
      rcases t with _ | t
      · skip
        refine lv_iload hx hb dL_power_36 (lv_at hl 4 rfl) ?_
        refine n_if_le (tgt := 55) hx hb dL_power_38 (by decide) (by decide) (fun c_38 => ?_) (fun c_38 => ?_)
        · skip
          have f_4801 : F_4791 ar = rw7 G ((l_pw u cu n9)) := f_4800.trans (congrArg (rw7 G) (by rw [Nat.sub_zero]))
          refine lv_aload_n hx hb dL_power_55 rfl (lv_at hl 2 rfl) ?_
          exact r_r C0 hg_4794 hr hlk hw m_4798 hge_4799 hLs f_4801 hfr_4793 (show 1 + 8 * (n9 - 0) ≤ 114 by omega) (show 7 + 56 * (n9 - 0) ≤ 798 by omega) dL_power_56 hQ
        · skip
          exact absurd c_38 (by omega)
      · skip
        refine lv_iload hx hb dL_power_36 (lv_at hl 4 rfl) ?_
        refine n_if_le (tgt := 55) hx hb dL_power_38 (by decide) (by omega) (fun c_38 => ?_) (fun c_38 => ?_)
        · skip
          exact absurd c_38 (by omega)
        · skip
          refine lv_iload_n hx hb dL_power_41 rfl (lv_at hl 0 rfl) ?_
          refine lv_aload_n hx hb dL_power_42 rfl (lv_at hl 2 rfl) ?_
          refine lv_aload hx hb dL_power_43 (lv_at hl 3 rfl) ?_
          refine q_callr hw (q_runS (As := [.int (nI (cu)), .ref ar, .ref a]) (c_L_within l G L_4790 F_4791 cu ar a (l_pw u cu (n9 - (t + 1))) u m_4798 f_4800 m_4797 f_4796 (by omega)) C0 hw sw_L_34 rfl hl.1 rfl (Nat.le_of_ble_eq_true rfl) dL_power_45 ⟨by decide, by decide⟩ ⟨(by show 1 + 8 * (n9 - (t + 1)) + 8 ≤ 114; omega), (by show 7 + 56 * (n9 - (t + 1)) + 56 ≤ 798; omega)⟩) (fun L_4802 F_4803 a_4804 H locs g_4805 hw1 => ?_)
          have hge_a_4804 : s.heap.size ≤ a_4804 := Nat.le_trans hw.2.2.1 g_4805.2.2.2.2
          have f_4806 : F_4803 a = rw7 G u := (g_4805.2.2.1 a m_4797).1.trans f_4796
          have lt_4808 := (g_4805.2.2.1 a m_4797).2
          have m_4807 : a ∈ L_4802 := g_4805.1.1 a m_4797
          have f_4809 : F_4803 ar = rw7 G (l_pw u cu (n9 - (t + 1))) := (g_4805.2.2.1 ar m_4798).1.trans f_4800
          have lt_4811 := (g_4805.2.2.1 ar m_4798).2
          have m_4810 : ar ∈ L_4802 := g_4805.1.1 ar m_4798
          have hfr_4812 : ∀ q ∈ L, F_4803 q = F q := fun q hq => (g_4805.2.2.1 q (hg_4794.1 q hq)).1.trans (hfr_4793 q hq)
          have hg_4813 := hg_4794.step g_4805.1 hw.2.2.1
          have C0 := C0.grow g_4805.1 hw.2.2.1
          have hw := hw1
          have m_4814 : a_4804 ∈ L_4802 := g_4805.2.2.2.1
          have f_4815 : F_4803 a_4804 = rw7 G ((m_sub (l_pw u cu (n9 - (t + 1))) u cu)) := g_4805.2.1
          refine lv_astore_n (lv' := [(3, .ref a_4804), (0, .int (nI (cu))), (1, .ref a), (4, .ref a), (5, .int (nI ((t + 1))))]) hx hb dL_power_48 rfl hl (by decide) rfl (fun ls hl => ?_)
          refine lv_iinc (v := nI ((t + 1)) + (-1)) (lv' := [(5, .int (nI ((t + 1)) + (-1))), (3, .ref a_4804), (0, .int (nI (cu))), (1, .ref a), (4, .ref a)]) hx hb dL_power_49 hl (k := 4) rfl rfl (by decide) rfl (fun ls hl => ?_)
          refine lv_goto (tgt := 36) hx hb dL_power_52 (by decide) ?_
          have hl : lv_has ls 6 [(5, .int (nI (t))), (3, .ref a_4804), (0, .int (nI (cu))), (1, .ref a), (4, .ref a)] := (by rw [pk_m1] at hl; exact hl)
          refine W.widen (k := 1 + 8 * (n9 - (t))) (n := 7 + 56 * (n9 - (t))) (show 1 + 8 * (n9 - (t + 1)) + 8 ≤ 1 + 8 * (n9 - (t)) by omega) (show 7 + 56 * (n9 - (t + 1)) + 56 ≤ 7 + 56 * (n9 - (t)) by omega) ?_
          exact ih_36_n_4795 (t) (a_4804) ((by omega)) (by omega) _ _ _ _ C0 hg_4813 hw hfr_4812 ⟨m_4814, hge_a_4804, f_4815.trans (congrArg (rw7 G) (pw_s u cu (by omega)))⟩ ls (lv_sub hl [2, 3, 1, 4, 0] rfl)
  have hfr_4816 : ∀ q ∈ L, F_4785 q = F q := fun q hq => (o_4787 q (by have := hLs q hq; omega)).trans (hfr_4781 q hq)
  refine W.widen (k := 1 + 8 * (n9 - (n9))) (n := 7 + 56 * (n9 - (n9))) (show 1 ≤ 1 + 8 * (n9 - (n9)) by omega) (show 7 ≤ 7 + 56 * (n9 - (n9)) by omega) ?_
  exact lp36_n_4789 _ (n9) (a_4776) ((Nat.le_refl n9)) (Nat.lt_succ_self _) _ _ _ _ C0 hg_4782 hw hfr_4816 ⟨m_4783, hge_a_4776, f_4788.trans (congrArg (rw7 G) (by rw [Nat.sub_self]; rfl))⟩ ls (lv_sub hl [3, 4, 2, 1, 0] rfl)
set_option maxHeartbeats 4000000 in
set_option maxRecDepth 100000 in
theorem c_L_power_n (l : Launch) (G : Gl) (L : List Nat) (F : Nat → va_E) (cu a n9 : Nat) (u : Nat → ZP) (ma : a ∈ L) (fa : F a = rw7 G u) (hc : cu ≤ 6) (hc2 : 2 ≤ cu) (hn : n9 ≤ 9) (hn1 : 1 ≤ n9) : CR l yL_power cL_power 6 rm_L_power G L F [.int (nI (cu)), .ref a, .int (- nI n9)] (l_pw (m_inv u cu) cu n9) := by
  refine CG_of (by decide) (Nat.le_of_ble_eq_true rfl) rfl ?_
  intro p e s m args below meth c Q C0 hr hlk hnm hQ hw ls hl
  have hx := C0.x
  have hb := C0.b
  have hg0 := gr.rfl (L := L) s.heap.size
  have hLs : ∀ q ∈ L, q < s.heap.size := fun q hq => hw.lt hq
  have hfr0 : ∀ q ∈ L, F q = F q := fun _ _ => rfl
  have hlt_a := hLs a ma
  refine lv_bipush (v := nI 7) hx hb dL_power_0 (by decide) ?_
  refine k_row7 C0 hw (by show 0 + 1 ≤ 114; omega) (by show 0 + 7 ≤ 798; omega) dL_power_2 (fun L_4817 F_4818 a_4819 H g_4820 hw1 => ?_)
  have hge_a_4819 : s.heap.size ≤ a_4819 := Nat.le_trans hw.2.2.1 g_4820.2.2.2.2
  have f_4821 : F_4818 a = rw7 G u := (g_4820.2.2.1 a ma).1.trans fa
  have lt_4823 := (g_4820.2.2.1 a ma).2
  have m_4822 : a ∈ L_4817 := g_4820.1.1 a ma
  have hfr_4824 : ∀ q ∈ L, F_4818 q = F q := fun q hq => (g_4820.2.2.1 q (hg0.1 q hq)).1.trans (hfr0 q hq)
  have hg_4825 := hg0.step g_4820.1 hw.2.2.1
  have C0 := C0.grow g_4820.1 hw.2.2.1
  have hw := hw1
  have m_4826 : a_4819 ∈ L_4817 := g_4820.2.2.2.1
  have f_4827 : F_4818 a_4819 = rw7 G ((fun _ => 0)) := g_4820.2.1
  refine lv_astore_n (lv' := [(3, .ref a_4819), (0, .int (nI (cu))), (1, .ref a), (2, .int (- nI n9))]) hx hb dL_power_4 rfl hl (by decide) rfl (fun ls hl => ?_)
  refine lv_aload_n hx hb dL_power_5 rfl (lv_at hl 0 rfl) ?_
  refine lv_iconst (v := nI 1) hx hb dL_power_6 (by decide) ?_
  refine lv_iconst (v := nI 1) hx hb dL_power_7 (by decide) ?_
  refine q_rst C0 hw m_4826 f_4827 (1) (by omega) (z := zc 1) dL_power_8 (fun F_4828 H locs hw f_4829 o_4830 => ?_)
  have f_4831 : F_4828 a_4819 = rw7 G m_x := f_4829.trans (congrArg (rw7 G) (m_x_eq))
  refine lv_iload_n hx hb dL_power_9 rfl (lv_at hl 3 rfl) ?_
  refine lv_if_ge (tgt := 21) hx hb dL_power_10 (by decide) (fun c_10 => ?_) (fun c_10 => ?_)
  · skip
    exact absurd c_10 (ng_neg hn1 hn)
  · skip
    refine lv_iload_n hx hb dL_power_13 rfl (lv_at hl 1 rfl) ?_
    refine lv_aload_n hx hb dL_power_14 rfl (lv_at hl 2 rfl) ?_
    have f_4832 : F_4828 a = rw7 G u := (o_4830 a (by omega)).trans f_4821
    refine q_callr hw (q_runS (As := [.int (nI (cu)), .ref a]) (c_L_inverse l G L_4817 F_4828 cu a u m_4822 f_4832 (by omega) (by omega)) C0 hw sw_L_37 rfl hl.1 rfl (Nat.le_of_ble_eq_true rfl) dL_power_15 ⟨by decide, by decide⟩ ⟨(by show 1 + 41 ≤ 114; omega), (by show 7 + 287 ≤ 798; omega)⟩) (fun L_4833 F_4834 a_4835 H locs g_4836 hw1 => ?_)
    have hfr_4837 : ∀ q ∈ L, F_4828 q = F q := fun q hq => (o_4830 q (by have := hLs q hq; omega)).trans (hfr_4824 q hq)
    have hge_a_4835 : s.heap.size ≤ a_4835 := Nat.le_trans hw.2.2.1 g_4836.2.2.2.2
    have f_4838 : F_4834 a = rw7 G u := (g_4836.2.2.1 a m_4822).1.trans f_4832
    have lt_4840 := (g_4836.2.2.1 a m_4822).2
    have m_4839 : a ∈ L_4833 := g_4836.1.1 a m_4822
    have f_4841 : F_4834 a_4819 = rw7 G m_x := (g_4836.2.2.1 a_4819 m_4826).1.trans f_4831
    have lt_4843 := (g_4836.2.2.1 a_4819 m_4826).2
    have m_4842 : a_4819 ∈ L_4833 := g_4836.1.1 a_4819 m_4826
    have hfr_4844 : ∀ q ∈ L, F_4834 q = F q := fun q hq => (g_4836.2.2.1 q (hg_4825.1 q hq)).1.trans (hfr_4837 q hq)
    have hg_4845 := hg_4825.step g_4836.1 hw.2.2.1
    have C0 := C0.grow g_4836.1 hw.2.2.1
    have hw := hw1
    have m_4846 : a_4835 ∈ L_4833 := g_4836.2.2.2.1
    have f_4847 : F_4834 a_4835 = rw7 G ((m_inv u cu)) := g_4836.2.1
    refine lv_goto (tgt := 22) hx hb dL_power_18 (by decide) ?_
    refine lv_astore (lv' := [(4, .ref a_4835), (3, .ref a_4819), (0, .int (nI (cu))), (1, .ref a), (2, .int (- nI n9))]) hx hb dL_power_22 hl (by decide) rfl (fun ls hl => ?_)
    refine lv_iload_n hx hb dL_power_24 rfl (lv_at hl 4 rfl) ?_
    refine lv_if_ge (tgt := 33) hx hb dL_power_25 (by decide) (fun c_25 => ?_) (fun c_25 => ?_)
    · skip
      exact absurd c_25 (ng_neg hn1 hn)
    · skip
      refine lv_iload_n hx hb dL_power_28 rfl (lv_at hl 4 rfl) ?_
      refine lv_ineg hx hb dL_power_29 ?_
      refine n_top (y := .int (nI n9)) (congrArg Value.int (ng_ng n9)) ?_
      refine lv_goto (tgt := 34) hx hb dL_power_30 (by decide) ?_
      refine lv_istore (lv' := [(5, .int (nI (n9))), (4, .ref a_4835), (3, .ref a_4819), (0, .int (nI (cu))), (1, .ref a), (2, .int (- nI n9))]) hx hb dL_power_34 hl (by decide) rfl (fun ls hl => ?_)
      have lp36_n_4848 : ∀ (n : Nat) (t : Nat) (ar : Nat), t ≤ n9 → t < n → ∀ (L_4849 : List Nat) (F_4850 : Nat → va_E) (H : Heap) (locs : List Loc), Cx p s m args c cL_power 6 (yL_power).cls G L_4849 → gr L L_4849 s.heap.size → wD G L_4849 F_4850 s H locs → (∀ q ∈ L, F_4850 q = F q) → (ar ∈ L_4849 ∧ s.heap.size ≤ ar ∧ F_4850 ar = rw7 G (l_pw (m_inv u cu) cu (n9 - t))) → (a_4835 ∈ L_4849 ∧ s.heap.size ≤ a_4835 ∧ F_4850 a_4835 = rw7 G ((m_inv u cu))) → ∀ ls : Array Slot, lv_has ls 6 [(0, .int (nI (cu))), (1, .ref a), (3, .ref ar), (4, .ref a_4835), (5, .int (nI (t)))] → W p l e rm_L_power s m args below meth c H locs (42 + 8 * (n9 - t)) (294 + 56 * (n9 - t)) Q (F0 m 36 ls []) := by
        intro n
        induction n with
        | zero => intro t ar htn hm; exact absurd hm (Nat.not_lt_zero _)
        | succ n ih_36_n_4855 =>
          intro t ar htn hm L_4849 F_4850 H locs C0 hg_4854 hw hfr_4853 f_4851 f_4852 ls hl
          have f_4856 : F_4850 a = rw7 G u := (hfr_4853 a ma).trans fa
          have m_4857 : a ∈ L_4849 := hg_4854.1 a ma
          obtain ⟨m_4858, hge_4859, f_4860⟩ := f_4851
          obtain ⟨m_4861, hge_4862, f_4863⟩ := f_4852
          rcases t with _ | t
          · skip
            refine lv_iload hx hb dL_power_36 (lv_at hl 4 rfl) ?_
            refine n_if_le (tgt := 55) hx hb dL_power_38 (by decide) (by decide) (fun c_38 => ?_) (fun c_38 => ?_)
            · skip
              have f_4864 : F_4850 ar = rw7 G ((l_pw (m_inv u cu) cu n9)) := f_4860.trans (congrArg (rw7 G) (by rw [Nat.sub_zero]))
              refine lv_aload_n hx hb dL_power_55 rfl (lv_at hl 2 rfl) ?_
              exact r_r C0 hg_4854 hr hlk hw m_4858 hge_4859 hLs f_4864 hfr_4853 (show 42 + 8 * (n9 - 0) ≤ 114 by omega) (show 294 + 56 * (n9 - 0) ≤ 798 by omega) dL_power_56 hQ
            · skip
              exact absurd c_38 (by omega)
          · skip
            refine lv_iload hx hb dL_power_36 (lv_at hl 4 rfl) ?_
            refine n_if_le (tgt := 55) hx hb dL_power_38 (by decide) (by omega) (fun c_38 => ?_) (fun c_38 => ?_)
            · skip
              exact absurd c_38 (by omega)
            · skip
              refine lv_iload_n hx hb dL_power_41 rfl (lv_at hl 0 rfl) ?_
              refine lv_aload_n hx hb dL_power_42 rfl (lv_at hl 2 rfl) ?_
              refine lv_aload hx hb dL_power_43 (lv_at hl 3 rfl) ?_
              refine q_callr hw (q_runS (As := [.int (nI (cu)), .ref ar, .ref a_4835]) (c_L_within l G L_4849 F_4850 cu ar a_4835 (l_pw (m_inv u cu) cu (n9 - (t + 1))) ((m_inv u cu)) m_4858 f_4860 m_4861 f_4863 (by omega)) C0 hw sw_L_34 rfl hl.1 rfl (Nat.le_of_ble_eq_true rfl) dL_power_45 ⟨by decide, by decide⟩ ⟨(by show 42 + 8 * (n9 - (t + 1)) + 8 ≤ 114; omega), (by show 294 + 56 * (n9 - (t + 1)) + 56 ≤ 798; omega)⟩) (fun L_4865 F_4866 a_4867 H locs g_4868 hw1 => ?_)
              have hge_a_4867 : s.heap.size ≤ a_4867 := Nat.le_trans hw.2.2.1 g_4868.2.2.2.2
              have f_4869 : F_4866 a = rw7 G u := (g_4868.2.2.1 a m_4857).1.trans f_4856
              have lt_4871 := (g_4868.2.2.1 a m_4857).2
              have m_4870 : a ∈ L_4865 := g_4868.1.1 a m_4857
              have f_4872 : F_4866 ar = rw7 G (l_pw (m_inv u cu) cu (n9 - (t + 1))) := (g_4868.2.2.1 ar m_4858).1.trans f_4860
              have lt_4874 := (g_4868.2.2.1 ar m_4858).2
              have m_4873 : ar ∈ L_4865 := g_4868.1.1 ar m_4858
              have f_4875 : F_4866 a_4835 = rw7 G ((m_inv u cu)) := (g_4868.2.2.1 a_4835 m_4861).1.trans f_4863
              have lt_4877 := (g_4868.2.2.1 a_4835 m_4861).2
              have m_4876 : a_4835 ∈ L_4865 := g_4868.1.1 a_4835 m_4861
              have hfr_4878 : ∀ q ∈ L, F_4866 q = F q := fun q hq => (g_4868.2.2.1 q (hg_4854.1 q hq)).1.trans (hfr_4853 q hq)
              have hg_4879 := hg_4854.step g_4868.1 hw.2.2.1
              have C0 := C0.grow g_4868.1 hw.2.2.1
              have hw := hw1
              have m_4880 : a_4867 ∈ L_4865 := g_4868.2.2.2.1
              have f_4881 : F_4866 a_4867 = rw7 G ((m_sub (l_pw (m_inv u cu) cu (n9 - (t + 1))) ((m_inv u cu)) cu)) := g_4868.2.1
              refine lv_astore_n (lv' := [(3, .ref a_4867), (0, .int (nI (cu))), (1, .ref a), (4, .ref a_4835), (5, .int (nI ((t + 1))))]) hx hb dL_power_48 rfl hl (by decide) rfl (fun ls hl => ?_)
              refine lv_iinc (v := nI ((t + 1)) + (-1)) (lv' := [(5, .int (nI ((t + 1)) + (-1))), (3, .ref a_4867), (0, .int (nI (cu))), (1, .ref a), (4, .ref a_4835)]) hx hb dL_power_49 hl (k := 4) rfl rfl (by decide) rfl (fun ls hl => ?_)
              refine lv_goto (tgt := 36) hx hb dL_power_52 (by decide) ?_
              have hl : lv_has ls 6 [(5, .int (nI (t))), (3, .ref a_4867), (0, .int (nI (cu))), (1, .ref a), (4, .ref a_4835)] := (by rw [pk_m1] at hl; exact hl)
              refine W.widen (k := 42 + 8 * (n9 - (t))) (n := 294 + 56 * (n9 - (t))) (show 42 + 8 * (n9 - (t + 1)) + 8 ≤ 42 + 8 * (n9 - (t)) by omega) (show 294 + 56 * (n9 - (t + 1)) + 56 ≤ 294 + 56 * (n9 - (t)) by omega) ?_
              exact ih_36_n_4855 (t) (a_4867) ((by omega)) (by omega) _ _ _ _ C0 hg_4879 hw hfr_4878 ⟨m_4880, hge_a_4867, f_4881.trans (congrArg (rw7 G) (pw_s (m_inv u cu) cu (by omega)))⟩ ⟨m_4876, hge_4862, f_4875⟩ ls (lv_sub hl [2, 3, 1, 4, 0] rfl)
      refine W.widen (k := 42 + 8 * (n9 - (n9))) (n := 294 + 56 * (n9 - (n9))) (show 42 ≤ 42 + 8 * (n9 - (n9)) by omega) (show 294 ≤ 294 + 56 * (n9 - (n9)) by omega) ?_
      exact lp36_n_4848 _ (n9) (a_4819) ((Nat.le_refl n9)) (Nat.lt_succ_self _) _ _ _ _ C0 hg_4845 hw hfr_4844 ⟨m_4842, hge_a_4819, f_4841.trans (congrArg (rw7 G) (by rw [Nat.sub_self]; rfl))⟩ ⟨m_4846, hge_a_4835, f_4847⟩ ls (lv_sub hl [3, 4, 2, 1, 0] rfl)
abbrev rm_L_way : Room := { frames := 3, cells := 21, slots := 147, locals := 67 }
set_option maxHeartbeats 4000000 in
set_option maxRecDepth 100000 in
theorem c_L_way (l : Launch) (G : Gl) (L : List Nat) (F : Nat → va_E) (cu a b : Nat) (u v : Nat → ZP) (ma : a ∈ L) (fa : F a = rw7 G u) (mb : b ∈ L) (fb : F b = rw7 G v) (hc : cu ≤ 6) : CR l yL_way cL_way 9 rm_L_way G L F [.int (nI (cu)), .ref a, .ref b] (m_wayM u v 5 cu) := by
  refine CG_of (by decide) (Nat.le_of_ble_eq_true rfl) rfl ?_
  intro p e s m args below meth c Q C0 hr hlk hnm hQ hw ls hl
  have hx := C0.x
  have hb := C0.b
  have hg0 := gr.rfl (L := L) s.heap.size
  have hLs : ∀ q ∈ L, q < s.heap.size := fun q hq => hw.lt hq
  have hfr0 : ∀ q ∈ L, F q = F q := fun _ _ => rfl
  have hlt_a := hLs a ma
  have hlt_b := hLs b mb
  refine lv_iload_n hx hb dL_way_0 rfl (lv_at hl 0 rfl) ?_
  refine lv_aload_n hx hb dL_way_1 rfl (lv_at hl 1 rfl) ?_
  refine lv_aload_n hx hb dL_way_2 rfl (lv_at hl 2 rfl) ?_
  refine q_callr hw (q_runS (As := [.int (nI (cu)), .ref a, .ref b]) (c_L_bracket l G L F cu a b u v ma fa mb fb (by omega)) C0 hw sw_L_40 rfl hl.1 rfl (Nat.le_of_ble_eq_true rfl) dL_way_3 ⟨by decide, by decide⟩ ⟨(by show 0 + 5 ≤ 21; omega), (by show 0 + 35 ≤ 147; omega)⟩) (fun L_4882 F_4883 a_4884 H locs g_4885 hw1 => ?_)
  have hge_a_4884 : s.heap.size ≤ a_4884 := Nat.le_trans hw.2.2.1 g_4885.2.2.2.2
  have f_4886 : F_4883 a = rw7 G u := (g_4885.2.2.1 a ma).1.trans fa
  have lt_4888 := (g_4885.2.2.1 a ma).2
  have m_4887 : a ∈ L_4882 := g_4885.1.1 a ma
  have f_4889 : F_4883 b = rw7 G v := (g_4885.2.2.1 b mb).1.trans fb
  have lt_4891 := (g_4885.2.2.1 b mb).2
  have m_4890 : b ∈ L_4882 := g_4885.1.1 b mb
  have hfr_4892 : ∀ q ∈ L, F_4883 q = F q := fun q hq => (g_4885.2.2.1 q (hg0.1 q hq)).1.trans (hfr0 q hq)
  have hg_4893 := hg0.step g_4885.1 hw.2.2.1
  have C0 := C0.grow g_4885.1 hw.2.2.1
  have hw := hw1
  have m_4894 : a_4884 ∈ L_4882 := g_4885.2.2.2.1
  have f_4895 : F_4883 a_4884 = rw7 G ((m_brM u v cu)) := g_4885.2.1
  refine lv_astore_n (lv' := [(3, .ref a_4884), (0, .int (nI (cu))), (1, .ref a), (2, .ref b)]) hx hb dL_way_6 rfl hl (by decide) rfl (fun ls hl => ?_)
  refine lv_iload_n hx hb dL_way_7 rfl (lv_at hl 1 rfl) ?_
  refine lv_aload_n hx hb dL_way_8 rfl (lv_at hl 2 rfl) ?_
  refine lv_aload_n hx hb dL_way_9 rfl (lv_at hl 0 rfl) ?_
  refine q_callr hw (q_runS (As := [.int (nI (cu)), .ref a, .ref a_4884]) (c_L_bracket l G L_4882 F_4883 cu a a_4884 u ((m_brM u v cu)) m_4887 f_4886 m_4894 f_4895 (by omega)) C0 hw sw_L_40 rfl hl.1 rfl (Nat.le_of_ble_eq_true rfl) dL_way_10 ⟨by decide, by decide⟩ ⟨(by show 5 + 5 ≤ 21; omega), (by show 35 + 35 ≤ 147; omega)⟩) (fun L_4896 F_4897 a_4898 H locs g_4899 hw1 => ?_)
  have hge_a_4898 : s.heap.size ≤ a_4898 := Nat.le_trans hw.2.2.1 g_4899.2.2.2.2
  have f_4900 : F_4897 a = rw7 G u := (g_4899.2.2.1 a m_4887).1.trans f_4886
  have lt_4902 := (g_4899.2.2.1 a m_4887).2
  have m_4901 : a ∈ L_4896 := g_4899.1.1 a m_4887
  have f_4903 : F_4897 b = rw7 G v := (g_4899.2.2.1 b m_4890).1.trans f_4889
  have lt_4905 := (g_4899.2.2.1 b m_4890).2
  have m_4904 : b ∈ L_4896 := g_4899.1.1 b m_4890
  have f_4906 : F_4897 a_4884 = rw7 G ((m_brM u v cu)) := (g_4899.2.2.1 a_4884 m_4894).1.trans f_4895
  have lt_4908 := (g_4899.2.2.1 a_4884 m_4894).2
  have m_4907 : a_4884 ∈ L_4896 := g_4899.1.1 a_4884 m_4894
  have hfr_4909 : ∀ q ∈ L, F_4897 q = F q := fun q hq => (g_4899.2.2.1 q (hg_4893.1 q hq)).1.trans (hfr_4892 q hq)
  have hg_4910 := hg_4893.step g_4899.1 hw.2.2.1
  have C0 := C0.grow g_4899.1 hw.2.2.1
  have hw := hw1
  have m_4911 : a_4898 ∈ L_4896 := g_4899.2.2.2.1
  have f_4912 : F_4897 a_4898 = rw7 G ((m_brM u ((m_brM u v cu)) cu)) := g_4899.2.1
  refine lv_astore (lv' := [(4, .ref a_4898), (3, .ref a_4884), (0, .int (nI (cu))), (1, .ref a), (2, .ref b)]) hx hb dL_way_13 hl (by decide) rfl (fun ls hl => ?_)
  refine lv_iload_n hx hb dL_way_15 rfl (lv_at hl 2 rfl) ?_
  refine lv_aload_n hx hb dL_way_16 rfl (lv_at hl 4 rfl) ?_
  refine lv_aload_n hx hb dL_way_17 rfl (lv_at hl 1 rfl) ?_
  refine q_callr hw (q_runS (As := [.int (nI (cu)), .ref b, .ref a_4884]) (c_L_bracket l G L_4896 F_4897 cu b a_4884 v ((m_brM u v cu)) m_4904 f_4903 m_4907 f_4906 (by omega)) C0 hw sw_L_40 rfl hl.1 rfl (Nat.le_of_ble_eq_true rfl) dL_way_18 ⟨by decide, by decide⟩ ⟨(by show 10 + 5 ≤ 21; omega), (by show 70 + 35 ≤ 147; omega)⟩) (fun L_4913 F_4914 a_4915 H locs g_4916 hw1 => ?_)
  have hge_a_4915 : s.heap.size ≤ a_4915 := Nat.le_trans hw.2.2.1 g_4916.2.2.2.2
  have f_4917 : F_4914 a = rw7 G u := (g_4916.2.2.1 a m_4901).1.trans f_4900
  have lt_4919 := (g_4916.2.2.1 a m_4901).2
  have m_4918 : a ∈ L_4913 := g_4916.1.1 a m_4901
  have f_4920 : F_4914 b = rw7 G v := (g_4916.2.2.1 b m_4904).1.trans f_4903
  have lt_4922 := (g_4916.2.2.1 b m_4904).2
  have m_4921 : b ∈ L_4913 := g_4916.1.1 b m_4904
  have f_4923 : F_4914 a_4884 = rw7 G ((m_brM u v cu)) := (g_4916.2.2.1 a_4884 m_4907).1.trans f_4906
  have lt_4925 := (g_4916.2.2.1 a_4884 m_4907).2
  have m_4924 : a_4884 ∈ L_4913 := g_4916.1.1 a_4884 m_4907
  have f_4926 : F_4914 a_4898 = rw7 G ((m_brM u ((m_brM u v cu)) cu)) := (g_4916.2.2.1 a_4898 m_4911).1.trans f_4912
  have lt_4928 := (g_4916.2.2.1 a_4898 m_4911).2
  have m_4927 : a_4898 ∈ L_4913 := g_4916.1.1 a_4898 m_4911
  have hfr_4929 : ∀ q ∈ L, F_4914 q = F q := fun q hq => (g_4916.2.2.1 q (hg_4910.1 q hq)).1.trans (hfr_4909 q hq)
  have hg_4930 := hg_4910.step g_4916.1 hw.2.2.1
  have C0 := C0.grow g_4916.1 hw.2.2.1
  have hw := hw1
  have m_4931 : a_4915 ∈ L_4913 := g_4916.2.2.2.1
  have f_4932 : F_4914 a_4915 = rw7 G ((m_brM v ((m_brM u v cu)) cu)) := g_4916.2.1
  refine lv_astore (lv' := [(5, .ref a_4915), (4, .ref a_4898), (3, .ref a_4884), (0, .int (nI (cu))), (1, .ref a), (2, .ref b)]) hx hb dL_way_21 hl (by decide) rfl (fun ls hl => ?_)
  refine lv_iload_n hx hb dL_way_23 rfl (lv_at hl 3 rfl) ?_
  refine lv_aload_n hx hb dL_way_24 rfl (lv_at hl 5 rfl) ?_
  refine lv_aload hx hb dL_way_25 (lv_at hl 1 rfl) ?_
  refine q_callr hw (q_runS (As := [.int (nI (cu)), .ref b, .ref a_4898]) (c_L_bracket l G L_4913 F_4914 cu b a_4898 v ((m_brM u ((m_brM u v cu)) cu)) m_4921 f_4920 m_4927 f_4926 (by omega)) C0 hw sw_L_40 rfl hl.1 rfl (Nat.le_of_ble_eq_true rfl) dL_way_27 ⟨by decide, by decide⟩ ⟨(by show 15 + 5 ≤ 21; omega), (by show 105 + 35 ≤ 147; omega)⟩) (fun L_4933 F_4934 a_4935 H locs g_4936 hw1 => ?_)
  have hge_a_4935 : s.heap.size ≤ a_4935 := Nat.le_trans hw.2.2.1 g_4936.2.2.2.2
  have f_4937 : F_4934 a = rw7 G u := (g_4936.2.2.1 a m_4918).1.trans f_4917
  have lt_4939 := (g_4936.2.2.1 a m_4918).2
  have m_4938 : a ∈ L_4933 := g_4936.1.1 a m_4918
  have f_4940 : F_4934 b = rw7 G v := (g_4936.2.2.1 b m_4921).1.trans f_4920
  have lt_4942 := (g_4936.2.2.1 b m_4921).2
  have m_4941 : b ∈ L_4933 := g_4936.1.1 b m_4921
  have f_4943 : F_4934 a_4884 = rw7 G ((m_brM u v cu)) := (g_4936.2.2.1 a_4884 m_4924).1.trans f_4923
  have lt_4945 := (g_4936.2.2.1 a_4884 m_4924).2
  have m_4944 : a_4884 ∈ L_4933 := g_4936.1.1 a_4884 m_4924
  have f_4946 : F_4934 a_4898 = rw7 G ((m_brM u ((m_brM u v cu)) cu)) := (g_4936.2.2.1 a_4898 m_4927).1.trans f_4926
  have lt_4948 := (g_4936.2.2.1 a_4898 m_4927).2
  have m_4947 : a_4898 ∈ L_4933 := g_4936.1.1 a_4898 m_4927
  have f_4949 : F_4934 a_4915 = rw7 G ((m_brM v ((m_brM u v cu)) cu)) := (g_4936.2.2.1 a_4915 m_4931).1.trans f_4932
  have lt_4951 := (g_4936.2.2.1 a_4915 m_4931).2
  have m_4950 : a_4915 ∈ L_4933 := g_4936.1.1 a_4915 m_4931
  have hfr_4952 : ∀ q ∈ L, F_4934 q = F q := fun q hq => (g_4936.2.2.1 q (hg_4930.1 q hq)).1.trans (hfr_4929 q hq)
  have hg_4953 := hg_4930.step g_4936.1 hw.2.2.1
  have C0 := C0.grow g_4936.1 hw.2.2.1
  have hw := hw1
  have m_4954 : a_4935 ∈ L_4933 := g_4936.2.2.2.1
  have f_4955 : F_4934 a_4935 = rw7 G ((m_brM v ((m_brM u ((m_brM u v cu)) cu)) cu)) := g_4936.2.1
  refine lv_astore (lv' := [(6, .ref a_4935), (5, .ref a_4915), (4, .ref a_4898), (3, .ref a_4884), (0, .int (nI (cu))), (1, .ref a), (2, .ref b)]) hx hb dL_way_30 hl (by decide) rfl (fun ls hl => ?_)
  refine lv_aload_n hx hb dL_way_32 rfl (lv_at hl 5 rfl) ?_
  refine lv_aload_n hx hb dL_way_33 rfl (lv_at hl 6 rfl) ?_
  refine lv_iconst (v := nI 1) hx hb dL_way_34 (by decide) ?_
  refine q_callr hw (q_runS (As := [.ref a, .ref b, .int (nI (1))]) (c_L_plus l G L_4933 F_4934 a b u v (nI 1) m_4938 f_4937 m_4941 f_4940) C0 hw sw_L_22 rfl hl.1 rfl (Nat.le_of_ble_eq_true rfl) dL_way_35 ⟨by decide, by decide⟩ ⟨(by show 20 + 1 ≤ 21; omega), (by show 140 + 7 ≤ 147; omega)⟩) (fun L_4956 F_4957 a_4958 H locs g_4959 hw1 => ?_)
  have hge_a_4958 : s.heap.size ≤ a_4958 := Nat.le_trans hw.2.2.1 g_4959.2.2.2.2
  have f_4960 : F_4957 a = rw7 G u := (g_4959.2.2.1 a m_4938).1.trans f_4937
  have lt_4962 := (g_4959.2.2.1 a m_4938).2
  have m_4961 : a ∈ L_4956 := g_4959.1.1 a m_4938
  have f_4963 : F_4957 b = rw7 G v := (g_4959.2.2.1 b m_4941).1.trans f_4940
  have lt_4965 := (g_4959.2.2.1 b m_4941).2
  have m_4964 : b ∈ L_4956 := g_4959.1.1 b m_4941
  have f_4966 : F_4957 a_4884 = rw7 G ((m_brM u v cu)) := (g_4959.2.2.1 a_4884 m_4944).1.trans f_4943
  have lt_4968 := (g_4959.2.2.1 a_4884 m_4944).2
  have m_4967 : a_4884 ∈ L_4956 := g_4959.1.1 a_4884 m_4944
  have f_4969 : F_4957 a_4898 = rw7 G ((m_brM u ((m_brM u v cu)) cu)) := (g_4959.2.2.1 a_4898 m_4947).1.trans f_4946
  have lt_4971 := (g_4959.2.2.1 a_4898 m_4947).2
  have m_4970 : a_4898 ∈ L_4956 := g_4959.1.1 a_4898 m_4947
  have f_4972 : F_4957 a_4915 = rw7 G ((m_brM v ((m_brM u v cu)) cu)) := (g_4959.2.2.1 a_4915 m_4950).1.trans f_4949
  have lt_4974 := (g_4959.2.2.1 a_4915 m_4950).2
  have m_4973 : a_4915 ∈ L_4956 := g_4959.1.1 a_4915 m_4950
  have f_4975 : F_4957 a_4935 = rw7 G ((m_brM v ((m_brM u ((m_brM u v cu)) cu)) cu)) := (g_4959.2.2.1 a_4935 m_4954).1.trans f_4955
  have lt_4977 := (g_4959.2.2.1 a_4935 m_4954).2
  have m_4976 : a_4935 ∈ L_4956 := g_4959.1.1 a_4935 m_4954
  have hfr_4978 : ∀ q ∈ L, F_4957 q = F q := fun q hq => (g_4959.2.2.1 q (hg_4953.1 q hq)).1.trans (hfr_4952 q hq)
  have hg_4979 := hg_4953.step g_4959.1 hw.2.2.1
  have C0 := C0.grow g_4959.1 hw.2.2.1
  have hw := hw1
  have m_4980 : a_4958 ∈ L_4956 := g_4959.2.2.2.1
  have f_4981 : F_4957 a_4958 = rw7 G ((m_am u v (zi (nI 1)))) := g_4959.2.1
  refine lv_astore (lv' := [(7, .ref a_4958), (6, .ref a_4935), (5, .ref a_4915), (4, .ref a_4898), (3, .ref a_4884), (0, .int (nI (cu))), (1, .ref a), (2, .ref b)]) hx hb dL_way_38 hl (by decide) rfl (fun ls hl => ?_)
  refine lv_iconst (v := nI 0) hx hb dL_way_40 (by decide) ?_
  refine lv_istore (lv' := [(8, .int (nI (0))), (7, .ref a_4958), (6, .ref a_4935), (5, .ref a_4915), (4, .ref a_4898), (3, .ref a_4884), (0, .int (nI (cu))), (1, .ref a), (2, .ref b)]) hx hb dL_way_41 hl (by decide) rfl (fun ls hl => ?_)
  have lp43_n_4982 : ∀ (n : Nat) (k : Nat), 0 ≤ k → k ≤ 7 → 7 + 1 - k < n → ∀ (L_4983 : List Nat) (F_4984 : Nat → va_E) (H : Heap) (locs : List Loc), Cx p s m args c cL_way 9 (yL_way).cls G L_4983 → gr L L_4983 s.heap.size → wD G L_4983 F_4984 s H locs → (∀ q ∈ L, F_4984 q = F q) → (a_4958 ∈ L_4983 ∧ s.heap.size ≤ a_4958 ∧ F_4984 a_4958 = rw7 G (m_upto (l_way (m_am u v (zi (nI 1))) (m_brM u v cu) (m_brM u (m_brM u v cu) cu) (m_brM v (m_brM u v cu) cu) (m_brM v (m_brM u (m_brM u v cu) cu) cu)) (m_am u v (zi (nI 1))) k)) → (a_4884 ∈ L_4983 ∧ s.heap.size ≤ a_4884 ∧ F_4984 a_4884 = rw7 G ((m_brM u v cu))) → (a_4898 ∈ L_4983 ∧ s.heap.size ≤ a_4898 ∧ F_4984 a_4898 = rw7 G ((m_brM u (m_brM u v cu) cu))) → (a_4915 ∈ L_4983 ∧ s.heap.size ≤ a_4915 ∧ F_4984 a_4915 = rw7 G ((m_brM v (m_brM u v cu) cu))) → (a_4935 ∈ L_4983 ∧ s.heap.size ≤ a_4935 ∧ F_4984 a_4935 = rw7 G ((m_brM v (m_brM u (m_brM u v cu) cu) cu))) → ∀ ls : Array Slot, lv_has ls 9 [(0, .int (nI (cu))), (1, .ref a), (2, .ref b), (3, .ref a_4884), (4, .ref a_4898), (5, .ref a_4915), (6, .ref a_4935), (7, .ref a_4958), (8, .int (nI (k)))] → W p l e rm_L_way s m args below meth c H locs (21) (147) Q (F0 m 43 ls []) := by
    intro n
    induction n with
    | zero => intro k hlo hhi hm; exact absurd hm (Nat.not_lt_zero _)
    | succ n ih_43_n_4992 =>
      intro k hlo hhi hm L_4983 F_4984 H locs C0 hg_4991 hw hfr_4990 f_4985 f_4986 f_4987 f_4988 f_4989 ls hl
      have f_4993 : F_4984 a = rw7 G u := (hfr_4990 a ma).trans fa
      have m_4994 : a ∈ L_4983 := hg_4991.1 a ma
      have f_4995 : F_4984 b = rw7 G v := (hfr_4990 b mb).trans fb
      have m_4996 : b ∈ L_4983 := hg_4991.1 b mb
      obtain ⟨m_4997, hge_4998, f_4999⟩ := f_4985
      obtain ⟨m_5000, hge_5001, f_5002⟩ := f_4986
      obtain ⟨m_5003, hge_5004, f_5005⟩ := f_4987
      obtain ⟨m_5006, hge_5007, f_5008⟩ := f_4988
      obtain ⟨m_5009, hge_5010, f_5011⟩ := f_4989
      refine lv_iload hx hb dL_way_43 (lv_at hl 8 rfl) ?_
      refine lv_bipush (v := nI 7) hx hb dL_way_45 (by decide) ?_
      refine n_icmp_ge (tgt := 111) hx hb dL_way_47 (by decide) (by omega) (by decide) (fun c_47 => ?_) (fun c_47 => ?_)
      · skip
        obtain rfl : k = 7 := by omega
        obtain ⟨F_5012, hw, f_5013, o_5014⟩ := hw.rowE f_4999 (v := (l_way (m_am u v (zi (nI 1))) (m_brM u v cu) (m_brM u (m_brM u v cu) cu) (m_brM v (m_brM u v cu) cu) (m_brM v (m_brM u (m_brM u v cu) cu) cu))) (m_upto_7 (l_way (m_am u v (zi (nI 1))) (m_brM u v cu) (m_brM u (m_brM u v cu) cu) (m_brM v (m_brM u v cu) cu) (m_brM v (m_brM u (m_brM u v cu) cu) cu)) (m_am u v (zi (nI 1))))
        have f_5015 : F_5012 a_4958 = rw7 G ((m_wayM u v 5 cu)) := f_5013.trans (congrArg (rw7 G) (by rw [zi_1]; exact lway_eq u v cu))
        refine lv_aload hx hb dL_way_111 (lv_at hl 7 rfl) ?_
        have hfr_5016 : ∀ q ∈ L, F_5012 q = F q := fun q hq => (o_5014 q (by have := hLs q hq; omega)).trans (hfr_4990 q hq)
        exact r_r C0 hg_4991 hr hlk hw m_4997 hge_4998 hLs f_5015 hfr_5016 (show 21 ≤ 21 by omega) (show 147 ≤ 147 by omega) dL_way_113 hQ
      · skip
        refine lv_aload hx hb dL_way_50 (lv_at hl 7 rfl) ?_
        refine lv_iload hx hb dL_way_52 (lv_at hl 8 rfl) ?_
        refine lv_aload hx hb dL_way_54 (lv_at hl 7 rfl) ?_
        refine lv_iload hx hb dL_way_56 (lv_at hl 8 rfl) ?_
        refine q_rld C0 hw m_4997 f_4999 (k) (by omega) dL_way_58 (fun z_5017 => ?_)
        refine lv_aload_n hx hb dL_way_59 rfl (lv_at hl 3 rfl) ?_
        refine lv_iload hx hb dL_way_60 (lv_at hl 8 rfl) ?_
        refine q_rld C0 hw m_5000 f_5002 (k) (by omega) dL_way_62 (fun z_5018 => ?_)
        refine lv_iconst (v := nI 2) hx hb dL_way_63 (by decide) ?_
        refine q_calli hw (q_runS (As := [.int (nI ((((m_brM u v cu)) (k)).val)), .int (nI (2))]) (c_L_over l G L_4983 F_4984 (((m_brM u v cu)) (k)) 2 (by omega) (by omega)) C0 hw sw_L_26 rfl hl.1 rfl (Nat.le_of_ble_eq_true rfl) dL_way_64 ⟨by decide, by decide⟩ ⟨(by show 21 + 0 ≤ 21; omega), (by show 147 + 0 ≤ 147; omega)⟩) rfl rfl (fun r_5021 F_5019 H locs hw hp_5020 => ?_)
        obtain ⟨he_5022, o_5023⟩ := hp_5020
        subst he_5022
        have z_5024 := ((((m_brM u v cu)) (k)) * m_finv (zc 2)).isLt
        refine n_iadd hx hb dL_way_67 ?_
        refine lv_aload hx hb dL_way_68 (lv_at hl 4 rfl) ?_
        refine lv_iload hx hb dL_way_70 (lv_at hl 8 rfl) ?_
        have f_5025 : F_5019 a_4898 = rw7 G ((m_brM u (m_brM u v cu) cu)) := (o_5023 a_4898 ).trans f_5005
        refine q_rld C0 hw m_5003 f_5025 (k) (by omega) dL_way_72 (fun z_5026 => ?_)
        refine lv_bipush (v := nI 12) hx hb dL_way_73 (by decide) ?_
        refine q_calli hw (q_runS (As := [.int (nI ((((m_brM u (m_brM u v cu) cu)) (k)).val)), .int (nI (12))]) (c_L_over l G L_4983 F_5019 (((m_brM u (m_brM u v cu) cu)) (k)) 12 (by omega) (by omega)) C0 hw sw_L_26 rfl hl.1 rfl (Nat.le_of_ble_eq_true rfl) dL_way_75 ⟨by decide, by decide⟩ ⟨(by show 21 + 0 ≤ 21; omega), (by show 147 + 0 ≤ 147; omega)⟩) rfl rfl (fun r_5029 F_5027 H locs hw hp_5028 => ?_)
        obtain ⟨he_5030, o_5031⟩ := hp_5028
        subst he_5030
        have z_5032 := ((((m_brM u (m_brM u v cu) cu)) (k)) * m_finv (zc 12)).isLt
        refine n_iadd hx hb dL_way_78 ?_
        refine lv_aload hx hb dL_way_79 (lv_at hl 5 rfl) ?_
        refine lv_iload hx hb dL_way_81 (lv_at hl 8 rfl) ?_
        have f_5033 : F_5019 a_4915 = rw7 G ((m_brM v (m_brM u v cu) cu)) := (o_5023 a_4915 ).trans f_5008
        have f_5034 : F_5027 a_4915 = rw7 G ((m_brM v (m_brM u v cu) cu)) := (o_5031 a_4915 ).trans f_5033
        refine q_rld C0 hw m_5006 f_5034 (k) (by omega) dL_way_83 (fun z_5035 => ?_)
        refine lv_bipush (v := nI 12) hx hb dL_way_84 (by decide) ?_
        refine q_calli hw (q_runS (As := [.int (nI ((((m_brM v (m_brM u v cu) cu)) (k)).val)), .int (nI (12))]) (c_L_over l G L_4983 F_5027 (((m_brM v (m_brM u v cu) cu)) (k)) 12 (by omega) (by omega)) C0 hw sw_L_26 rfl hl.1 rfl (Nat.le_of_ble_eq_true rfl) dL_way_86 ⟨by decide, by decide⟩ ⟨(by show 21 + 0 ≤ 21; omega), (by show 147 + 0 ≤ 147; omega)⟩) rfl rfl (fun r_5038 F_5036 H locs hw hp_5037 => ?_)
        obtain ⟨he_5039, o_5040⟩ := hp_5037
        subst he_5039
        have z_5041 := ((((m_brM v (m_brM u v cu) cu)) (k)) * m_finv (zc 12)).isLt
        refine lv_isub hx hb dL_way_89 ?_
        refine lv_aload hx hb dL_way_90 (lv_at hl 6 rfl) ?_
        refine lv_iload hx hb dL_way_92 (lv_at hl 8 rfl) ?_
        have f_5042 : F_5019 a_4935 = rw7 G ((m_brM v (m_brM u (m_brM u v cu) cu) cu)) := (o_5023 a_4935 ).trans f_5011
        have f_5043 : F_5027 a_4935 = rw7 G ((m_brM v (m_brM u (m_brM u v cu) cu) cu)) := (o_5031 a_4935 ).trans f_5042
        have f_5044 : F_5036 a_4935 = rw7 G ((m_brM v (m_brM u (m_brM u v cu) cu) cu)) := (o_5040 a_4935 ).trans f_5043
        refine q_rld C0 hw m_5009 f_5044 (k) (by omega) dL_way_94 (fun z_5045 => ?_)
        refine lv_bipush (v := nI 24) hx hb dL_way_95 (by decide) ?_
        refine q_calli hw (q_runS (As := [.int (nI ((((m_brM v (m_brM u (m_brM u v cu) cu) cu)) (k)).val)), .int (nI (24))]) (c_L_over l G L_4983 F_5036 (((m_brM v (m_brM u (m_brM u v cu) cu) cu)) (k)) 24 (by omega) (by omega)) C0 hw sw_L_26 rfl hl.1 rfl (Nat.le_of_ble_eq_true rfl) dL_way_97 ⟨by decide, by decide⟩ ⟨(by show 21 + 0 ≤ 21; omega), (by show 147 + 0 ≤ 147; omega)⟩) rfl rfl (fun r_5048 F_5046 H locs hw hp_5047 => ?_)
        obtain ⟨he_5049, o_5050⟩ := hp_5047
        subst he_5049
        have z_5051 := ((((m_brM v (m_brM u (m_brM u v cu) cu) cu)) (k)) * m_finv (zc 24)).isLt
        refine lv_isub hx hb dL_way_100 ?_
        refine q_calli hw (q_runS (As := [.int ((nI (((m_upto (l_way (m_am u v (zi (nI 1))) (m_brM u v cu) (m_brM u (m_brM u v cu) cu) (m_brM v (m_brM u v cu) cu) (m_brM v (m_brM u (m_brM u v cu) cu) cu)) (m_am u v (zi (nI 1))) k) (k)).val + (((((m_brM u v cu)) (k)) * m_finv (zc 2)).val) + (((((m_brM u (m_brM u v cu) cu)) (k)) * m_finv (zc 12)).val)) - nI (((((m_brM v (m_brM u v cu) cu)) (k)) * m_finv (zc 12)).val)) - nI (((((m_brM v (m_brM u (m_brM u v cu) cu) cu)) (k)) * m_finv (zc 24)).val))]) (c_L_mod l G L_4983 F_5046 (((nI (((m_upto (l_way (m_am u v (zi (nI 1))) (m_brM u v cu) (m_brM u (m_brM u v cu) cu) (m_brM v (m_brM u v cu) cu) (m_brM v (m_brM u (m_brM u v cu) cu) cu)) (m_am u v (zi (nI 1))) k) (k)).val + (((((m_brM u v cu)) (k)) * m_finv (zc 2)).val) + (((((m_brM u (m_brM u v cu) cu)) (k)) * m_finv (zc 12)).val)) - nI (((((m_brM v (m_brM u v cu) cu)) (k)) * m_finv (zc 12)).val)) - nI (((((m_brM v (m_brM u (m_brM u v cu) cu) cu)) (k)) * m_finv (zc 24)).val)))) C0 hw sw_L_8 rfl hl.1 rfl (Nat.le_of_ble_eq_true rfl) dL_way_101 ⟨by decide, by decide⟩ ⟨(by show 21 + 0 ≤ 21; omega), (by show 147 + 0 ≤ 147; omega)⟩) rfl rfl (fun r_5054 F_5052 H locs hw hp_5053 => ?_)
        obtain ⟨he_5055, o_5056⟩ := hp_5053
        rw [zi_sub2 (by omega) (by omega) (by omega)] at he_5055
        subst he_5055
        have f_5057 : F_5019 a_4958 = rw7 G (m_upto (l_way (m_am u v (zi (nI 1))) (m_brM u v cu) (m_brM u (m_brM u v cu) cu) (m_brM v (m_brM u v cu) cu) (m_brM v (m_brM u (m_brM u v cu) cu) cu)) (m_am u v (zi (nI 1))) k) := (o_5023 a_4958 ).trans f_4999
        have f_5058 : F_5027 a_4958 = rw7 G (m_upto (l_way (m_am u v (zi (nI 1))) (m_brM u v cu) (m_brM u (m_brM u v cu) cu) (m_brM v (m_brM u v cu) cu) (m_brM v (m_brM u (m_brM u v cu) cu) cu)) (m_am u v (zi (nI 1))) k) := (o_5031 a_4958 ).trans f_5057
        have f_5059 : F_5036 a_4958 = rw7 G (m_upto (l_way (m_am u v (zi (nI 1))) (m_brM u v cu) (m_brM u (m_brM u v cu) cu) (m_brM v (m_brM u v cu) cu) (m_brM v (m_brM u (m_brM u v cu) cu) cu)) (m_am u v (zi (nI 1))) k) := (o_5040 a_4958 ).trans f_5058
        have f_5060 : F_5046 a_4958 = rw7 G (m_upto (l_way (m_am u v (zi (nI 1))) (m_brM u v cu) (m_brM u (m_brM u v cu) cu) (m_brM v (m_brM u v cu) cu) (m_brM v (m_brM u (m_brM u v cu) cu) cu)) (m_am u v (zi (nI 1))) k) := (o_5050 a_4958 ).trans f_5059
        have f_5061 : F_5052 a_4958 = rw7 G (m_upto (l_way (m_am u v (zi (nI 1))) (m_brM u v cu) (m_brM u (m_brM u v cu) cu) (m_brM v (m_brM u v cu) cu) (m_brM v (m_brM u (m_brM u v cu) cu) cu)) (m_am u v (zi (nI 1))) k) := (o_5056 a_4958 ).trans f_5060
        refine q_rst C0 hw m_4997 f_5061 (k) (by omega) (z := zc (((m_upto (l_way (m_am u v (zi (nI 1))) (m_brM u v cu) (m_brM u (m_brM u v cu) cu) (m_brM v (m_brM u v cu) cu) (m_brM v (m_brM u (m_brM u v cu) cu) cu)) (m_am u v (zi (nI 1))) k) (k)).val + (((((m_brM u v cu)) (k)) * m_finv (zc 2)).val) + (((((m_brM u (m_brM u v cu) cu)) (k)) * m_finv (zc 12)).val)) - zc (((((m_brM v (m_brM u v cu) cu)) (k)) * m_finv (zc 12)).val) - zc (((((m_brM v (m_brM u (m_brM u v cu) cu) cu)) (k)) * m_finv (zc 24)).val)) dL_way_104 (fun F_5062 H locs hw f_5063 o_5064 => ?_)
        refine lv_iinc (v := nI (k + 1)) (lv' := [(8, .int (nI (k + 1))), (0, .int (nI (cu))), (1, .ref a), (2, .ref b), (3, .ref a_4884), (4, .ref a_4898), (5, .ref a_4915), (6, .ref a_4935), (7, .ref a_4958)]) hx hb dL_way_105 hl (k := 8) rfl (nI_add _ _) (by decide) rfl (fun ls hl => ?_)
        refine lv_goto (tgt := 43) hx hb dL_way_108 (by decide) ?_
        have hfr_5065 : ∀ q ∈ L, F_5019 q = F q := fun q hq => (o_5023 q ).trans (hfr_4990 q hq)
        have hfr_5066 : ∀ q ∈ L, F_5027 q = F q := fun q hq => (o_5031 q ).trans (hfr_5065 q hq)
        have hfr_5067 : ∀ q ∈ L, F_5036 q = F q := fun q hq => (o_5040 q ).trans (hfr_5066 q hq)
        have hfr_5068 : ∀ q ∈ L, F_5046 q = F q := fun q hq => (o_5050 q ).trans (hfr_5067 q hq)
        have hfr_5069 : ∀ q ∈ L, F_5052 q = F q := fun q hq => (o_5056 q ).trans (hfr_5068 q hq)
        have hfr_5070 : ∀ q ∈ L, F_5062 q = F q := fun q hq => (o_5064 q (by have := hLs q hq; omega)).trans (hfr_5069 q hq)
        have f_5071 : F_5019 a_4884 = rw7 G ((m_brM u v cu)) := (o_5023 a_4884 ).trans f_5002
        have f_5072 : F_5027 a_4884 = rw7 G ((m_brM u v cu)) := (o_5031 a_4884 ).trans f_5071
        have f_5073 : F_5036 a_4884 = rw7 G ((m_brM u v cu)) := (o_5040 a_4884 ).trans f_5072
        have f_5074 : F_5046 a_4884 = rw7 G ((m_brM u v cu)) := (o_5050 a_4884 ).trans f_5073
        have f_5075 : F_5052 a_4884 = rw7 G ((m_brM u v cu)) := (o_5056 a_4884 ).trans f_5074
        have f_5076 : F_5062 a_4884 = rw7 G ((m_brM u v cu)) := (o_5064 a_4884 (by omega)).trans f_5075
        have f_5077 : F_5027 a_4898 = rw7 G ((m_brM u (m_brM u v cu) cu)) := (o_5031 a_4898 ).trans f_5025
        have f_5078 : F_5036 a_4898 = rw7 G ((m_brM u (m_brM u v cu) cu)) := (o_5040 a_4898 ).trans f_5077
        have f_5079 : F_5046 a_4898 = rw7 G ((m_brM u (m_brM u v cu) cu)) := (o_5050 a_4898 ).trans f_5078
        have f_5080 : F_5052 a_4898 = rw7 G ((m_brM u (m_brM u v cu) cu)) := (o_5056 a_4898 ).trans f_5079
        have f_5081 : F_5062 a_4898 = rw7 G ((m_brM u (m_brM u v cu) cu)) := (o_5064 a_4898 (by omega)).trans f_5080
        have f_5082 : F_5036 a_4915 = rw7 G ((m_brM v (m_brM u v cu) cu)) := (o_5040 a_4915 ).trans f_5034
        have f_5083 : F_5046 a_4915 = rw7 G ((m_brM v (m_brM u v cu) cu)) := (o_5050 a_4915 ).trans f_5082
        have f_5084 : F_5052 a_4915 = rw7 G ((m_brM v (m_brM u v cu) cu)) := (o_5056 a_4915 ).trans f_5083
        have f_5085 : F_5062 a_4915 = rw7 G ((m_brM v (m_brM u v cu) cu)) := (o_5064 a_4915 (by omega)).trans f_5084
        have f_5086 : F_5046 a_4935 = rw7 G ((m_brM v (m_brM u (m_brM u v cu) cu) cu)) := (o_5050 a_4935 ).trans f_5044
        have f_5087 : F_5052 a_4935 = rw7 G ((m_brM v (m_brM u (m_brM u v cu) cu) cu)) := (o_5056 a_4935 ).trans f_5086
        have f_5088 : F_5062 a_4935 = rw7 G ((m_brM v (m_brM u (m_brM u v cu) cu) cu)) := (o_5064 a_4935 (by omega)).trans f_5087
        exact ih_43_n_4992 (k + 1) ((by omega)) ((by omega)) (by omega) _ _ _ _ C0 hg_4991 hw hfr_5070 ⟨m_4997, hge_4998, f_5063.trans (congrArg (rw7 G) (m_upto_s _ _ k (wy_s _ _ _ _ _ _ k (m_upto_at _ _ k))))⟩ ⟨m_5000, hge_5001, f_5076⟩ ⟨m_5003, hge_5004, f_5081⟩ ⟨m_5006, hge_5007, f_5085⟩ ⟨m_5009, hge_5010, f_5088⟩ ls (lv_sub hl [1, 2, 3, 4, 5, 6, 7, 8, 0] rfl)
  exact lp43_n_4982 _ (0) ((by omega)) ((by omega)) (Nat.lt_succ_self _) _ _ _ _ C0 hg_4979 hw hfr_4978 ⟨m_4980, hge_a_4958, f_4981.trans (congrArg (rw7 G) (m_upto_0 _ _).symm)⟩ ⟨m_4967, hge_a_4884, f_4966⟩ ⟨m_4970, hge_a_4898, f_4969⟩ ⟨m_4973, hge_a_4915, f_4972⟩ ⟨m_4976, hge_a_4935, f_4975⟩ ls (lv_sub hl [6, 7, 8, 5, 4, 3, 2, 1, 0] rfl)
