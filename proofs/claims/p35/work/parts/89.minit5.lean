theorem lf_lo {a xh xs x3 x4 xt xc xr y0 y1 : Nat} {nr n0 s0 s1 : Nat → Nat} {nn : Nat → Nat → Nat} {B : Nat → Nat} (hB : ∀ k, k < 20 → B k ≤ B (k + 1)) (h : lfB a xh xs x3 x4 xt xc xr y0 y1 nr n0 nn s0 s1 B) : ∀ i, 0 < i → i < 166 → B 1 ≤ lfA a xh xs x3 x4 xt xc xr y0 y1 nr n0 nn s0 s1 i := by
  have mono : ∀ d, 1 + d ≤ 20 → B 1 ≤ B (1 + d) := by
    intro d
    induction d with
    | zero => exact fun _ => Nat.le_refl _
    | succ d ih => exact fun hk => Nat.le_trans (ih (by omega)) (hB (1 + d) (by omega))
  have k1 : ∀ i : Fin 166, 0 < i.val → 1 ≤ lfK i.val ∧ lfK i.val < 20 := by decide +kernel
  intro i hi hi2
  have a1 := k1 ⟨i, hi2⟩ hi
  have a2 := mono (lfK i - 1) (by have := a1.2; simp only at this; omega)
  rw [show 1 + (lfK i - 1) = lfK i by have := a1.1; simp only at this; omega] at a2
  exact Nat.le_trans a2 (h i hi2).1
abbrev rm_X5_init : Room := { frames := 4, cells := 165, slots := 1126, locals := 102 }
set_option maxHeartbeats 4000000 in
set_option maxRecDepth 100000 in
theorem c_X5_init (l : Launch) (G : Gl) (L : List Nat) (F : Nat → va_E) (a : Nat) (ma : a ∈ L) (fa : F a = .inr (5, [.null, .null, .null, .null, .null, .null, .null, .null])) : CN l yX5_init cX5_init 2 rm_X5_init G L F [.ref a] (fun sz L1 F1 => gr L L1 sz ∧ ∃ ad : Nat → Nat, ad 0 = a ∧ XW G F1 ad A0 ∧ (∀ i, i < 166 → ad i ∈ L1) ∧ (∀ i, 0 < i → i < 166 → sz ≤ ad i) ∧ (∀ i j, i < 166 → j < 166 → i ≠ j → ad i ≠ ad j) ∧ (∀ q ∈ L, q ≠ a → F1 q = F q)) := by
  refine CN_of (by decide) (Nat.le_of_ble_eq_true rfl) rfl ?_
  intro p e s m args below meth c Q C0 hOv hr hlk hnm hQ hw ls hl
  have hx := C0.x
  have hb := C0.b
  have hwS := hw
  have hg0 := gr.rfl (L := L) s.heap.size
  have hlt0 := hw.lt ma
  refine lv_aload_n hx hb dX5_init_0 rfl (lv_at hl 0 rfl) ?_
  refine q_obj C0 hl.1 ob_X5 ob_i ob_c (by decide) (by decide) dX5_init_1 ?_
  refine lv_aload_n hx hb dX5_init_4 rfl (lv_at hl 0 rfl) ?_
  refine k_new C0 hw nw_X5_9 (Nat.le_of_ble_eq_true rfl) (Nat.le_of_ble_eq_true rfl) dX5_init_5 (fun L_3506 F_3507 a_3508 H_3510 g_3509 hw1 => ?_)
  have hge_a_3508 : s.heap.size ≤ a_3508 := Nat.le_trans hw.2.2.1 g_3509.2.2.2.2
  have f_3511 : F_3507 a = .inr (5, [.null, .null, .null, .null, .null, .null, .null, .null]) := (g_3509.2.2.1 a ma).1.trans fa
  have lt_3513 := (g_3509.2.2.1 a ma).2
  have m_3512 : a ∈ L_3506 := g_3509.1.1 a ma
  have hg_3514 := hg0.step g_3509.1 hw.2.2.1
  have C0 := C0.grow g_3509.1 hw.2.2.1
  have hw := hw1
  have m_3515 : a_3508 ∈ L_3506 := g_3509.2.2.2.1
  have f_3516 : F_3507 a_3508 = .inr (3, [.null, .int (nI (0)), .int (nI (0)), .int (nI (0)), .int (nI (0))]) := g_3509.2.1
  refine lv_dup hx hb dX5_init_8 rfl ?_
  refine q_calln hw (fun L1 F1 h => h.1) (q_runI (As := []) (c_X3_init l G L_3506 F_3507 a_3508 m_3515 f_3516) C0 hOv hw iw_X5_11 rfl hl.1 rfl (Nat.le_of_ble_eq_true rfl) dX5_init_9 ⟨by decide, by decide⟩ ⟨by decide, by decide⟩) (fun L_3517 F_3518 H_3520 locs hz_3521 hw1 hp_3519 => ?_)
  have hgs_3522 : s.heap.size ≤ H_3510.size := hw.2.2.1
  obtain ⟨g_3523, n_3524, e_3525, fb_3526, hm_3527, hj_3528, hf_3529⟩ := hp_3519
  have lt_3530 := hw.lt m_3512
  have lt_3531 := hw.lt m_3515
  have f_3532 : F_3518 a = .inr (5, [.null, .null, .null, .null, .null, .null, .null, .null]) := (hf_3529 a m_3512 (by omega)).trans f_3511
  have m_3533 : a ∈ L_3517 := g_3523.1 a m_3512
  have m_3534 : a_3508 ∈ L_3517 := g_3523.1 a_3508 m_3515
  have hg_3535 := hg_3514.step g_3523 hw.2.2.1
  have C0 := C0.grow g_3523 hw.2.2.1
  have hw := hw1
  have mb_3536 : ∀ i, i < 16 → n_3524 i ∈ L_3517 := fun i h2 => by
    by_cases ei : i = 0
    · rw [ei, e_3525]; exact m_3534
    · exact (hm_3527 i (by omega) h2).2
  have gb_3537 : ∀ i, i < 16 → a_3508 ≤ n_3524 i := fun i h2 => by
    by_cases ei : i = 0
    · rw [ei, e_3525]; exact Nat.le_refl _
    · have := (hm_3527 i (by omega) h2).1; omega
  refine q_putF C0 hnm hw m_3533 f_3532 fw_X5_12 pw_X5_0 rfl rfl rfl rfl (Nat.le_of_ble_eq_true rfl) dX5_init_12 (fun F_3538 H locs hw f_3539 o_3540 => ?_)
  have f_3539 : F_3538 a = .inr (5, [.ref a_3508, .null, .null, .null, .null, .null, .null, .null]) := f_3539
  refine lv_aload_n hx hb dX5_init_15 rfl (lv_at hl 0 rfl) ?_
  refine k_new C0 hw nw_X5_16 (Nat.le_of_ble_eq_true rfl) (Nat.le_of_ble_eq_true rfl) dX5_init_16 (fun L_3541 F_3542 a_3543 H_3545 g_3544 hw1 => ?_)
  have hge_a_3543 : s.heap.size ≤ a_3543 := Nat.le_trans hw.2.2.1 g_3544.2.2.2.2
  have f_3546 : F_3542 a = .inr (5, [.ref a_3508, .null, .null, .null, .null, .null, .null, .null]) := (g_3544.2.2.1 a m_3533).1.trans f_3539
  have lt_3548 := (g_3544.2.2.1 a m_3533).2
  have m_3547 : a ∈ L_3541 := g_3544.1.1 a m_3533
  have lt_3550 := (g_3544.2.2.1 a_3508 m_3534).2
  have m_3549 : a_3508 ∈ L_3541 := g_3544.1.1 a_3508 m_3534
  have fb_3551 : sta G F_3538 n_3524 0 st0 := fb_3526.keep (fun i hi => o_3540 (n_3524 i) (by (have := gb_3537 i (by omega); omega)))
  have lb_3554 : ∀ i, i < 16 → n_3524 i < a_3543 := fun i h1 => (g_3544.2.2.1 ((n_3524 i)) (mb_3536 i h1)).2
  have fb_3552 : sta G F_3542 n_3524 0 st0 := fb_3551.keep (fun i hi => (g_3544.2.2.1 ((n_3524 i)) (mb_3536 i (by omega))).1)
  have mb_3553 : ∀ i, i < 16 → n_3524 i ∈ L_3541 := fun i h1 => g_3544.1.1 ((n_3524 i)) (mb_3536 i h1)
  have hg_3555 := hg_3535.step g_3544.1 hw.2.2.1
  have C0 := C0.grow g_3544.1 hw.2.2.1
  have hw := hw1
  have m_3556 : a_3543 ∈ L_3541 := g_3544.2.2.2.1
  have f_3557 : F_3542 a_3543 = .inr (0, [.null, .int (nI (0))]) := g_3544.2.1
  refine lv_dup hx hb dX5_init_19 rfl ?_
  refine q_calln hw (fun L1 F1 h => h.1) (q_runI (As := []) (c_X0_init l G L_3541 F_3542 a_3543 m_3556 f_3557) C0 hOv hw iw_X5_18 rfl hl.1 rfl (Nat.le_of_ble_eq_true rfl) dX5_init_20 ⟨by decide, by decide⟩ ⟨by decide, by decide⟩) (fun L_3558 F_3559 H_3561 locs hz_3562 hw1 hp_3560 => ?_)
  have hgs_3563 : s.heap.size ≤ H_3545.size := hw.2.2.1
  obtain ⟨g_3564, x_3565, nn_3566, f_3567, f_3568, hsx_3569, m_3570, fb_3571, hm_3572, ho_3573, hj_3574, hnl_3575, hf_3576⟩ := hp_3560
  have lt_3577 := hw.lt m_3547
  have lt_3578 := hw.lt m_3549
  have lt_3579 := hw.lt m_3556
  have f_3580 : F_3559 a = .inr (5, [.ref a_3508, .null, .null, .null, .null, .null, .null, .null]) := (hf_3576 a m_3547 (by omega)).trans f_3546
  have lb_3583 : ∀ i, i < 16 → n_3524 i < H_3545.size := fun i h1 => hw.lt (mb_3553 i h1)
  have fb_3581 : sta G F_3559 n_3524 0 st0 := fb_3552.keep (fun i hi => hf_3576 (n_3524 i) (mb_3553 i (by omega)) (by (have := gb_3537 i (by omega); have := lb_3554 i (by omega); omega)))
  have mb_3582 : ∀ i, i < 16 → n_3524 i ∈ L_3558 := fun i h1 => g_3564.1 (n_3524 i) (mb_3553 i h1)
  have m_3584 : a ∈ L_3558 := g_3564.1 a m_3547
  have m_3585 : a_3508 ∈ L_3558 := g_3564.1 a_3508 m_3549
  have m_3586 : a_3543 ∈ L_3558 := g_3564.1 a_3543 m_3556
  have hg_3587 := hg_3555.step g_3564 hw.2.2.1
  have C0 := C0.grow g_3564 hw.2.2.1
  have hw := hw1
  obtain ⟨fa_3588, f_3589, hf9_3590⟩ := f_3568
  have mb_3591 : ∀ k i, k < 6 → i < 16 → nn_3566 k i ∈ L_3558 := fun k i h1 h2 => (hm_3572 k i h1 h2).2
  have gb_3592 : ∀ k i, k < 6 → i < 16 → x_3565 < nn_3566 k i := fun k i h1 h2 => (hm_3572 k i h1 h2).1
  refine q_putF C0 hnm hw m_3584 f_3580 fw_X5_19 pw_X5_1 rfl rfl rfl rfl (Nat.le_of_ble_eq_true rfl) dX5_init_23 (fun F_3593 H locs hw f_3594 o_3595 => ?_)
  have f_3594 : F_3593 a = .inr (5, [.ref a_3508, .ref a_3543, .null, .null, .null, .null, .null, .null]) := f_3594
  refine lv_aload_n hx hb dX5_init_26 rfl (lv_at hl 0 rfl) ?_
  refine lv_iconst (v := nI 2) hx hb dX5_init_27 (by decide) ?_
  refine k_newq C0 hw 2 rfl cl_X5_23 hOv.2.1 (by decide) (Nat.le_of_ble_eq_true rfl) (Nat.le_of_ble_eq_true rfl) dX5_init_28 (fun L_3596 F_3597 a_3598 H_3600 g_3599 hw1 => ?_)
  have hge_a_3598 : s.heap.size ≤ a_3598 := Nat.le_trans hw.2.2.1 g_3599.2.2.2.2
  have f_3601 : F_3597 a = .inr (5, [.ref a_3508, .ref a_3543, .null, .null, .null, .null, .null, .null]) := (g_3599.2.2.1 a m_3584).1.trans f_3594
  have lt_3603 := (g_3599.2.2.1 a m_3584).2
  have m_3602 : a ∈ L_3596 := g_3599.1.1 a m_3584
  have f_3604 : F_3593 a_3543 = .inr (0, [.ref x_3565, .int (nI (0))]) := (o_3595 a_3543 (by omega)).trans f_3567
  have f_3605 : F_3597 a_3543 = .inr (0, [.ref x_3565, .int (nI (0))]) := (g_3599.2.2.1 a_3543 m_3586).1.trans f_3604
  have lt_3607 := (g_3599.2.2.1 a_3543 m_3586).2
  have m_3606 : a_3543 ∈ L_3596 := g_3599.1.1 a_3543 m_3586
  have f_3608 : F_3593 x_3565 = .inl (G.2 3, 6, .inr (.inr (.inr (.inr fa_3588)))) := (o_3595 x_3565 (by omega)).trans f_3589
  have f_3609 : F_3597 x_3565 = .inl (G.2 3, 6, .inr (.inr (.inr (.inr fa_3588)))) := (g_3599.2.2.1 x_3565 m_3570).1.trans f_3608
  have lt_3611 := (g_3599.2.2.1 x_3565 m_3570).2
  have m_3610 : x_3565 ∈ L_3596 := g_3599.1.1 x_3565 m_3570
  have lt_3613 := (g_3599.2.2.1 a_3508 m_3585).2
  have m_3612 : a_3508 ∈ L_3596 := g_3599.1.1 a_3508 m_3585
  have fb_3614 : sta G F_3593 n_3524 0 st0 := fb_3581.keep (fun i hi => o_3595 (n_3524 i) (by (have := gb_3537 i (by omega); have := lb_3554 i (by omega); have := lb_3583 i (by omega); omega)))
  have lb_3617 : ∀ i, i < 16 → n_3524 i < a_3598 := fun i h1 => (g_3599.2.2.1 ((n_3524 i)) (mb_3582 i h1)).2
  have fb_3615 : sta G F_3597 n_3524 0 st0 := fb_3614.keep (fun i hi => (g_3599.2.2.1 ((n_3524 i)) (mb_3582 i (by omega))).1)
  have mb_3616 : ∀ i, i < 16 → n_3524 i ∈ L_3596 := fun i h1 => g_3599.1.1 ((n_3524 i)) (mb_3582 i h1)
  have fb_3618 : ∀ k, k < 6 → sta G F_3593 (nn_3566 k) 0 st0 := fun k hk => (fb_3571 k hk).keep (fun i hi => o_3595 (nn_3566 k i) (by (have := gb_3592 k i hk (by omega); omega)))
  have lb_3621 : ∀ k i, k < 6 → i < 16 → nn_3566 k i < a_3598 := fun k i h1 h2 => (g_3599.2.2.1 ((nn_3566 k i)) (mb_3591 k i h1 h2)).2
  have fb_3619 : ∀ k, k < 6 → sta G F_3597 (nn_3566 k) 0 st0 := fun k hk => (fb_3618 k hk).keep (fun i hi => (g_3599.2.2.1 ((nn_3566 k i)) (mb_3591 k i hk (by omega))).1)
  have mb_3620 : ∀ k i, k < 6 → i < 16 → nn_3566 k i ∈ L_3596 := fun k i h1 h2 => g_3599.1.1 ((nn_3566 k i)) (mb_3591 k i h1 h2)
  have hg_3622 := hg_3587.step g_3599.1 hw.2.2.1
  have C0 := C0.grow g_3599.1 hw.2.2.1
  have hw := hw1
  have m_3623 : a_3598 ∈ L_3596 := g_3599.2.2.2.1
  have f_3624 : F_3597 a_3598 = .inl (G.2 2, 2, .inr (.inr (.inr (.inr ((fun _ => none)))))) := g_3599.2.1
  refine q_putF C0 hnm hw m_3602 f_3601 fw_X5_25 pw_X5_2 rfl rfl rfl rfl (Nat.le_of_ble_eq_true rfl) dX5_init_31 (fun F_3625 H locs hw f_3626 o_3627 => ?_)
  have f_3626 : F_3625 a = .inr (5, [.ref a_3508, .ref a_3543, .ref a_3598, .null, .null, .null, .null, .null]) := f_3626
  refine lv_iconst (v := nI 0) hx hb dX5_init_34 (by decide) ?_
  refine lv_istore_n (lv' := [(1, .int (nI (0))), (0, .ref a)]) hx hb dX5_init_35 rfl hl (by decide) rfl (fun ls hl => ?_)
  refine lv_iload_n hx hb dX5_init_36 rfl (lv_at hl 0 rfl) ?_
  refine lv_iconst (v := nI 2) hx hb dX5_init_37 (by decide) ?_
  refine n_icmp_ge (tgt := 60) hx hb dX5_init_38 (by decide) (by decide) (by decide) (fun c_38 => ?_) (fun c_38 => ?_)
  · skip
    exact absurd c_38 (by omega)
  · skip
    refine lv_aload_n hx hb dX5_init_41 rfl (lv_at hl 1 rfl) ?_
    refine q_get C0 hw m_3602 f_3626 fw_X5_25 rfl dX5_init_42 ?_
    refine lv_iload_n hx hb dX5_init_45 rfl (lv_at hl 0 rfl) ?_
    refine k_new C0 hw nw_X5_23 (Nat.le_of_ble_eq_true rfl) (Nat.le_of_ble_eq_true rfl) dX5_init_46 (fun L_3628 F_3629 a_3630 H_3632 g_3631 hw1 => ?_)
    have hge_a_3630 : s.heap.size ≤ a_3630 := Nat.le_trans hw.2.2.1 g_3631.2.2.2.2
    have f_3633 : F_3629 a = .inr (5, [.ref a_3508, .ref a_3543, .ref a_3598, .null, .null, .null, .null, .null]) := (g_3631.2.2.1 a m_3602).1.trans f_3626
    have lt_3635 := (g_3631.2.2.1 a m_3602).2
    have m_3634 : a ∈ L_3628 := g_3631.1.1 a m_3602
    have f_3636 : F_3625 a_3543 = .inr (0, [.ref x_3565, .int (nI (0))]) := (o_3627 a_3543 (by omega)).trans f_3605
    have f_3637 : F_3629 a_3543 = .inr (0, [.ref x_3565, .int (nI (0))]) := (g_3631.2.2.1 a_3543 m_3606).1.trans f_3636
    have lt_3639 := (g_3631.2.2.1 a_3543 m_3606).2
    have m_3638 : a_3543 ∈ L_3628 := g_3631.1.1 a_3543 m_3606
    have f_3640 : F_3625 x_3565 = .inl (G.2 3, 6, .inr (.inr (.inr (.inr fa_3588)))) := (o_3627 x_3565 (by omega)).trans f_3609
    have f_3641 : F_3629 x_3565 = .inl (G.2 3, 6, .inr (.inr (.inr (.inr fa_3588)))) := (g_3631.2.2.1 x_3565 m_3610).1.trans f_3640
    have lt_3643 := (g_3631.2.2.1 x_3565 m_3610).2
    have m_3642 : x_3565 ∈ L_3628 := g_3631.1.1 x_3565 m_3610
    have f_3644 : F_3625 a_3598 = .inl (G.2 2, 2, .inr (.inr (.inr (.inr ((fun _ => none)))))) := (o_3627 a_3598 (by omega)).trans f_3624
    have f_3645 : F_3629 a_3598 = .inl (G.2 2, 2, .inr (.inr (.inr (.inr ((fun _ => none)))))) := (g_3631.2.2.1 a_3598 m_3623).1.trans f_3644
    have lt_3647 := (g_3631.2.2.1 a_3598 m_3623).2
    have m_3646 : a_3598 ∈ L_3628 := g_3631.1.1 a_3598 m_3623
    have lt_3649 := (g_3631.2.2.1 a_3508 m_3612).2
    have m_3648 : a_3508 ∈ L_3628 := g_3631.1.1 a_3508 m_3612
    have fb_3650 : sta G F_3625 n_3524 0 st0 := fb_3615.keep (fun i hi => o_3627 (n_3524 i) (by (have := gb_3537 i (by omega); have := lb_3554 i (by omega); have := lb_3583 i (by omega); have := lb_3617 i (by omega); omega)))
    have lb_3653 : ∀ i, i < 16 → n_3524 i < a_3630 := fun i h1 => (g_3631.2.2.1 ((n_3524 i)) (mb_3616 i h1)).2
    have fb_3651 : sta G F_3629 n_3524 0 st0 := fb_3650.keep (fun i hi => (g_3631.2.2.1 ((n_3524 i)) (mb_3616 i (by omega))).1)
    have mb_3652 : ∀ i, i < 16 → n_3524 i ∈ L_3628 := fun i h1 => g_3631.1.1 ((n_3524 i)) (mb_3616 i h1)
    have fb_3654 : ∀ k, k < 6 → sta G F_3625 (nn_3566 k) 0 st0 := fun k hk => (fb_3619 k hk).keep (fun i hi => o_3627 (nn_3566 k i) (by (have := gb_3592 k i hk (by omega); have := lb_3621 k i hk (by omega); omega)))
    have lb_3657 : ∀ k i, k < 6 → i < 16 → nn_3566 k i < a_3630 := fun k i h1 h2 => (g_3631.2.2.1 ((nn_3566 k i)) (mb_3620 k i h1 h2)).2
    have fb_3655 : ∀ k, k < 6 → sta G F_3629 (nn_3566 k) 0 st0 := fun k hk => (fb_3654 k hk).keep (fun i hi => (g_3631.2.2.1 ((nn_3566 k i)) (mb_3620 k i hk (by omega))).1)
    have mb_3656 : ∀ k i, k < 6 → i < 16 → nn_3566 k i ∈ L_3628 := fun k i h1 h2 => g_3631.1.1 ((nn_3566 k i)) (mb_3620 k i h1 h2)
    have hg_3658 := hg_3622.step g_3631.1 hw.2.2.1
    have C0 := C0.grow g_3631.1 hw.2.2.1
    have hw := hw1
    have m_3659 : a_3630 ∈ L_3628 := g_3631.2.2.2.1
    have f_3660 : F_3629 a_3630 = .inr (2, [.int (nI (0)), .null, .null]) := g_3631.2.1
    refine lv_dup hx hb dX5_init_49 rfl ?_
    refine q_calln hw (fun L1 F1 h => h.1) (q_runI (As := []) (c_X2_init l G L_3628 F_3629 a_3630 m_3659 f_3660) C0 hOv hw iw_X5_29 rfl hl.1 rfl (Nat.le_of_ble_eq_true rfl) dX5_init_50 ⟨by decide, by decide⟩ ⟨by decide, by decide⟩) (fun L_3661 F_3662 H_3664 locs hz_3665 hw1 hp_3663 => ?_)
    have hgs_3666 : s.heap.size ≤ H_3632.size := hw.2.2.1
    obtain ⟨g_3667, n_3668, e_3669, fb_3670, hm_3671, hj_3672, hf_3673⟩ := hp_3663
    have lt_3674 := hw.lt m_3634
    have lt_3675 := hw.lt m_3648
    have lt_3676 := hw.lt m_3638
    have lt_3677 := hw.lt m_3642
    have lt_3678 := hw.lt m_3646
    have lt_3679 := hw.lt m_3659
    have f_3680 : F_3662 a = .inr (5, [.ref a_3508, .ref a_3543, .ref a_3598, .null, .null, .null, .null, .null]) := (hf_3673 a m_3634 (by omega)).trans f_3633
    have f_3681 : F_3662 a_3543 = .inr (0, [.ref x_3565, .int (nI (0))]) := (hf_3673 a_3543 m_3638 (by omega)).trans f_3637
    have f_3682 : F_3662 x_3565 = .inl (G.2 3, 6, .inr (.inr (.inr (.inr fa_3588)))) := (hf_3673 x_3565 m_3642 (by omega)).trans f_3641
    have f_3683 : F_3662 a_3598 = .inl (G.2 2, 2, .inr (.inr (.inr (.inr ((fun _ => none)))))) := (hf_3673 a_3598 m_3646 (by omega)).trans f_3645
    have lb_3686 : ∀ i, i < 16 → n_3524 i < H_3632.size := fun i h1 => hw.lt (mb_3652 i h1)
    have fb_3684 : sta G F_3662 n_3524 0 st0 := fb_3651.keep (fun i hi => hf_3673 (n_3524 i) (mb_3652 i (by omega)) (by (have := gb_3537 i (by omega); have := lb_3554 i (by omega); have := lb_3583 i (by omega); have := lb_3617 i (by omega); have := lb_3653 i (by omega); omega)))
    have mb_3685 : ∀ i, i < 16 → n_3524 i ∈ L_3661 := fun i h1 => g_3667.1 (n_3524 i) (mb_3652 i h1)
    have lb_3689 : ∀ k i, k < 6 → i < 16 → nn_3566 k i < H_3632.size := fun k i h1 h2 => hw.lt (mb_3656 k i h1 h2)
    have fb_3687 : ∀ k, k < 6 → sta G F_3662 (nn_3566 k) 0 st0 := fun k hk => (fb_3655 k hk).keep (fun i hi => hf_3673 (nn_3566 k i) (mb_3656 k i hk (by omega)) (by (have := gb_3592 k i hk (by omega); have := lb_3621 k i hk (by omega); have := lb_3657 k i hk (by omega); omega)))
    have mb_3688 : ∀ k i, k < 6 → i < 16 → nn_3566 k i ∈ L_3661 := fun k i h1 h2 => g_3667.1 (nn_3566 k i) (mb_3656 k i h1 h2)
    have m_3690 : a ∈ L_3661 := g_3667.1 a m_3634
    have m_3691 : a_3508 ∈ L_3661 := g_3667.1 a_3508 m_3648
    have m_3692 : a_3543 ∈ L_3661 := g_3667.1 a_3543 m_3638
    have m_3693 : x_3565 ∈ L_3661 := g_3667.1 x_3565 m_3642
    have m_3694 : a_3598 ∈ L_3661 := g_3667.1 a_3598 m_3646
    have m_3695 : a_3630 ∈ L_3661 := g_3667.1 a_3630 m_3659
    have hg_3696 := hg_3658.step g_3667 hw.2.2.1
    have C0 := C0.grow g_3667 hw.2.2.1
    have hw := hw1
    have mb_3697 : ∀ i, 1 ≤ i → i < 16 → n_3668 i ∈ L_3661 := fun i h1 h2 => by
      by_cases ei : i = 1
      · rw [ei, e_3669]; exact m_3695
      · exact (hm_3671 i (by omega) h2).2
    have gb_3698 : ∀ i, 1 ≤ i → i < 16 → a_3630 ≤ n_3668 i := fun i h1 h2 => by
      by_cases ei : i = 1
      · rw [ei, e_3669]; exact Nat.le_refl _
      · have := (hm_3671 i (by omega) h2).1; omega
    refine q_aast C0 hw m_3694 2 2 rfl rfl f_3683 0 (by decide) (by decide) m_3695 ((congrArg F_3662 e_3669.symm).trans (show F_3662 (n_3668 1) = _ from fb_3670.1)) dX5_init_53 (fun F_3699 H locs hw f_3700 o_3701 => ?_)
    refine lv_iinc (v := nI 1) (lv' := [(1, .int (nI (1))), (0, .ref a)]) hx hb dX5_init_54 hl (k := 0) rfl (by decide) (by decide) rfl (fun ls hl => ?_)
    refine lv_goto (tgt := 36) hx hb dX5_init_57 (by decide) ?_
    refine lv_iload_n hx hb dX5_init_36 rfl (lv_at hl 0 rfl) ?_
    refine lv_iconst (v := nI 2) hx hb dX5_init_37 (by decide) ?_
    refine n_icmp_ge (tgt := 60) hx hb dX5_init_38 (by decide) (by decide) (by decide) (fun c_38 => ?_) (fun c_38 => ?_)
    · skip
      exact absurd c_38 (by omega)
    · skip
      refine lv_aload_n hx hb dX5_init_41 rfl (lv_at hl 1 rfl) ?_
      have f_3702 : F_3699 a = .inr (5, [.ref a_3508, .ref a_3543, .ref a_3598, .null, .null, .null, .null, .null]) := (o_3701 a (by omega)).trans f_3680
      refine q_get C0 hw m_3690 f_3702 fw_X5_25 rfl dX5_init_42 ?_
      refine lv_iload_n hx hb dX5_init_45 rfl (lv_at hl 0 rfl) ?_
      refine k_new C0 hw nw_X5_23 (Nat.le_of_ble_eq_true rfl) (Nat.le_of_ble_eq_true rfl) dX5_init_46 (fun L_3703 F_3704 a_3705 H_3707 g_3706 hw1 => ?_)
      have hge_a_3705 : s.heap.size ≤ a_3705 := Nat.le_trans hw.2.2.1 g_3706.2.2.2.2
      have f_3708 : F_3704 a = .inr (5, [.ref a_3508, .ref a_3543, .ref a_3598, .null, .null, .null, .null, .null]) := (g_3706.2.2.1 a m_3690).1.trans f_3702
      have lt_3710 := (g_3706.2.2.1 a m_3690).2
      have m_3709 : a ∈ L_3703 := g_3706.1.1 a m_3690
      have f_3711 : F_3699 a_3543 = .inr (0, [.ref x_3565, .int (nI (0))]) := (o_3701 a_3543 (by omega)).trans f_3681
      have f_3712 : F_3704 a_3543 = .inr (0, [.ref x_3565, .int (nI (0))]) := (g_3706.2.2.1 a_3543 m_3692).1.trans f_3711
      have lt_3714 := (g_3706.2.2.1 a_3543 m_3692).2
      have m_3713 : a_3543 ∈ L_3703 := g_3706.1.1 a_3543 m_3692
      have f_3715 : F_3699 x_3565 = .inl (G.2 3, 6, .inr (.inr (.inr (.inr fa_3588)))) := (o_3701 x_3565 (by omega)).trans f_3682
      have f_3716 : F_3704 x_3565 = .inl (G.2 3, 6, .inr (.inr (.inr (.inr fa_3588)))) := (g_3706.2.2.1 x_3565 m_3693).1.trans f_3715
      have lt_3718 := (g_3706.2.2.1 x_3565 m_3693).2
      have m_3717 : x_3565 ∈ L_3703 := g_3706.1.1 x_3565 m_3693
      have f_3719 : F_3704 a_3598 = .inl (G.2 2, 2, .inr (.inr (.inr (.inr ((va_up ((fun _ => none)) 0 (some a_3630))))))) := (g_3706.2.2.1 a_3598 m_3694).1.trans f_3700
      have lt_3721 := (g_3706.2.2.1 a_3598 m_3694).2
      have m_3720 : a_3598 ∈ L_3703 := g_3706.1.1 a_3598 m_3694
      have lt_3723 := (g_3706.2.2.1 a_3508 m_3691).2
      have m_3722 : a_3508 ∈ L_3703 := g_3706.1.1 a_3508 m_3691
      have lt_3725 := (g_3706.2.2.1 a_3630 m_3695).2
      have m_3724 : a_3630 ∈ L_3703 := g_3706.1.1 a_3630 m_3695
      have fb_3726 : sta G F_3699 n_3524 0 st0 := fb_3684.keep (fun i hi => o_3701 (n_3524 i) (by (have := gb_3537 i (by omega); have := lb_3554 i (by omega); have := lb_3583 i (by omega); have := lb_3617 i (by omega); have := lb_3653 i (by omega); have := lb_3686 i (by omega); omega)))
      have lb_3729 : ∀ i, i < 16 → n_3524 i < a_3705 := fun i h1 => (g_3706.2.2.1 ((n_3524 i)) (mb_3685 i h1)).2
      have fb_3727 : sta G F_3704 n_3524 0 st0 := fb_3726.keep (fun i hi => (g_3706.2.2.1 ((n_3524 i)) (mb_3685 i (by omega))).1)
      have mb_3728 : ∀ i, i < 16 → n_3524 i ∈ L_3703 := fun i h1 => g_3706.1.1 ((n_3524 i)) (mb_3685 i h1)
      have fb_3730 : ∀ k, k < 6 → sta G F_3699 (nn_3566 k) 0 st0 := fun k hk => (fb_3687 k hk).keep (fun i hi => o_3701 (nn_3566 k i) (by (have := gb_3592 k i hk (by omega); have := lb_3621 k i hk (by omega); have := lb_3657 k i hk (by omega); have := lb_3689 k i hk (by omega); omega)))
      have lb_3733 : ∀ k i, k < 6 → i < 16 → nn_3566 k i < a_3705 := fun k i h1 h2 => (g_3706.2.2.1 ((nn_3566 k i)) (mb_3688 k i h1 h2)).2
      have fb_3731 : ∀ k, k < 6 → sta G F_3704 (nn_3566 k) 0 st0 := fun k hk => (fb_3730 k hk).keep (fun i hi => (g_3706.2.2.1 ((nn_3566 k i)) (mb_3688 k i hk (by omega))).1)
      have mb_3732 : ∀ k i, k < 6 → i < 16 → nn_3566 k i ∈ L_3703 := fun k i h1 h2 => g_3706.1.1 ((nn_3566 k i)) (mb_3688 k i h1 h2)
      have fb_3734 : shp G F_3699 n_3668 0 5 r0 := fb_3670.keep (fun i hi => o_3701 (n_3668 i) (by (have := gb_3698 i (by omega) (by omega); omega)))
      have lb_3737 : ∀ i, 1 ≤ i → i < 16 → n_3668 i < a_3705 := fun i h1 h2 => (g_3706.2.2.1 ((n_3668 i)) (mb_3697 i h1 h2)).2
      have fb_3735 : shp G F_3704 n_3668 0 5 r0 := fb_3734.keep (fun i hi => (g_3706.2.2.1 ((n_3668 i)) (mb_3697 i (by omega) (by omega))).1)
      have mb_3736 : ∀ i, 1 ≤ i → i < 16 → n_3668 i ∈ L_3703 := fun i h1 h2 => g_3706.1.1 ((n_3668 i)) (mb_3697 i h1 h2)
      have hg_3738 := hg_3696.step g_3706.1 hw.2.2.1
      have C0 := C0.grow g_3706.1 hw.2.2.1
      have hw := hw1
      have m_3739 : a_3705 ∈ L_3703 := g_3706.2.2.2.1
      have f_3740 : F_3704 a_3705 = .inr (2, [.int (nI (0)), .null, .null]) := g_3706.2.1
      refine lv_dup hx hb dX5_init_49 rfl ?_
      refine q_calln hw (fun L1 F1 h => h.1) (q_runI (As := []) (c_X2_init l G L_3703 F_3704 a_3705 m_3739 f_3740) C0 hOv hw iw_X5_29 rfl hl.1 rfl (Nat.le_of_ble_eq_true rfl) dX5_init_50 ⟨by decide, by decide⟩ ⟨by decide, by decide⟩) (fun L_3741 F_3742 H_3744 locs hz_3745 hw1 hp_3743 => ?_)
      have hgs_3746 : s.heap.size ≤ H_3707.size := hw.2.2.1
      obtain ⟨g_3747, n_3748, e_3749, fb_3750, hm_3751, hj_3752, hf_3753⟩ := hp_3743
      have lt_3754 := hw.lt m_3709
      have lt_3755 := hw.lt m_3722
      have lt_3756 := hw.lt m_3713
      have lt_3757 := hw.lt m_3717
      have lt_3758 := hw.lt m_3720
      have lt_3759 := hw.lt m_3724
      have lt_3760 := hw.lt m_3739
      have f_3761 : F_3742 a = .inr (5, [.ref a_3508, .ref a_3543, .ref a_3598, .null, .null, .null, .null, .null]) := (hf_3753 a m_3709 (by omega)).trans f_3708
      have f_3762 : F_3742 a_3543 = .inr (0, [.ref x_3565, .int (nI (0))]) := (hf_3753 a_3543 m_3713 (by omega)).trans f_3712
      have f_3763 : F_3742 x_3565 = .inl (G.2 3, 6, .inr (.inr (.inr (.inr fa_3588)))) := (hf_3753 x_3565 m_3717 (by omega)).trans f_3716
      have f_3764 : F_3742 a_3598 = .inl (G.2 2, 2, .inr (.inr (.inr (.inr ((va_up ((fun _ => none)) 0 (some a_3630))))))) := (hf_3753 a_3598 m_3720 (by omega)).trans f_3719
      have lb_3767 : ∀ i, i < 16 → n_3524 i < H_3707.size := fun i h1 => hw.lt (mb_3728 i h1)
      have fb_3765 : sta G F_3742 n_3524 0 st0 := fb_3727.keep (fun i hi => hf_3753 (n_3524 i) (mb_3728 i (by omega)) (by (have := gb_3537 i (by omega); have := lb_3554 i (by omega); have := lb_3583 i (by omega); have := lb_3617 i (by omega); have := lb_3653 i (by omega); have := lb_3686 i (by omega); have := lb_3729 i (by omega); omega)))
      have mb_3766 : ∀ i, i < 16 → n_3524 i ∈ L_3741 := fun i h1 => g_3747.1 (n_3524 i) (mb_3728 i h1)
      have lb_3770 : ∀ k i, k < 6 → i < 16 → nn_3566 k i < H_3707.size := fun k i h1 h2 => hw.lt (mb_3732 k i h1 h2)
      have fb_3768 : ∀ k, k < 6 → sta G F_3742 (nn_3566 k) 0 st0 := fun k hk => (fb_3731 k hk).keep (fun i hi => hf_3753 (nn_3566 k i) (mb_3732 k i hk (by omega)) (by (have := gb_3592 k i hk (by omega); have := lb_3621 k i hk (by omega); have := lb_3657 k i hk (by omega); have := lb_3689 k i hk (by omega); have := lb_3733 k i hk (by omega); omega)))
      have mb_3769 : ∀ k i, k < 6 → i < 16 → nn_3566 k i ∈ L_3741 := fun k i h1 h2 => g_3747.1 (nn_3566 k i) (mb_3732 k i h1 h2)
      have lb_3773 : ∀ i, 1 ≤ i → i < 16 → n_3668 i < H_3707.size := fun i h1 h2 => hw.lt (mb_3736 i h1 h2)
      have fb_3771 : shp G F_3742 n_3668 0 5 r0 := fb_3735.keep (fun i hi => hf_3753 (n_3668 i) (mb_3736 i (by omega) (by omega)) (by (have := gb_3698 i (by omega) (by omega); have := lb_3737 i (by omega) (by omega); omega)))
      have mb_3772 : ∀ i, 1 ≤ i → i < 16 → n_3668 i ∈ L_3741 := fun i h1 h2 => g_3747.1 (n_3668 i) (mb_3736 i h1 h2)
      have m_3774 : a ∈ L_3741 := g_3747.1 a m_3709
      have m_3775 : a_3508 ∈ L_3741 := g_3747.1 a_3508 m_3722
      have m_3776 : a_3543 ∈ L_3741 := g_3747.1 a_3543 m_3713
      have m_3777 : x_3565 ∈ L_3741 := g_3747.1 x_3565 m_3717
      have m_3778 : a_3598 ∈ L_3741 := g_3747.1 a_3598 m_3720
      have m_3779 : a_3630 ∈ L_3741 := g_3747.1 a_3630 m_3724
      have m_3780 : a_3705 ∈ L_3741 := g_3747.1 a_3705 m_3739
      have hg_3781 := hg_3738.step g_3747 hw.2.2.1
      have C0 := C0.grow g_3747 hw.2.2.1
      have hw := hw1
      have mb_3782 : ∀ i, 1 ≤ i → i < 16 → n_3748 i ∈ L_3741 := fun i h1 h2 => by
        by_cases ei : i = 1
        · rw [ei, e_3749]; exact m_3780
        · exact (hm_3751 i (by omega) h2).2
      have gb_3783 : ∀ i, 1 ≤ i → i < 16 → a_3705 ≤ n_3748 i := fun i h1 h2 => by
        by_cases ei : i = 1
        · rw [ei, e_3749]; exact Nat.le_refl _
        · have := (hm_3751 i (by omega) h2).1; omega
      refine q_aast C0 hw m_3778 2 2 rfl rfl f_3764 1 (by decide) (by decide) m_3780 ((congrArg F_3742 e_3749.symm).trans (show F_3742 (n_3748 1) = _ from fb_3750.1)) dX5_init_53 (fun F_3784 H locs hw f_3785 o_3786 => ?_)
      refine lv_iinc (v := nI 2) (lv' := [(1, .int (nI (2))), (0, .ref a)]) hx hb dX5_init_54 hl (k := 0) rfl (by decide) (by decide) rfl (fun ls hl => ?_)
      refine lv_goto (tgt := 36) hx hb dX5_init_57 (by decide) ?_
      refine lv_iload_n hx hb dX5_init_36 rfl (lv_at hl 0 rfl) ?_
      refine lv_iconst (v := nI 2) hx hb dX5_init_37 (by decide) ?_
      refine n_icmp_ge (tgt := 60) hx hb dX5_init_38 (by decide) (by decide) (by decide) (fun c_38 => ?_) (fun c_38 => ?_)
      · skip
        refine lv_aload_n hx hb dX5_init_60 rfl (lv_at hl 1 rfl) ?_
        refine lv_iconst (v := nI 2) hx hb dX5_init_61 (by decide) ?_
        refine k_newz C0 hw (by decide) (by decide) (Nat.le_of_ble_eq_true rfl) (Nat.le_of_ble_eq_true rfl) dX5_init_62 (fun L_3787 F_3788 a_3789 H_3791 g_3790 hw1 => ?_)
        have hge_a_3789 : s.heap.size ≤ a_3789 := Nat.le_trans hw.2.2.1 g_3790.2.2.2.2
        have f_3792 : F_3784 a = .inr (5, [.ref a_3508, .ref a_3543, .ref a_3598, .null, .null, .null, .null, .null]) := (o_3786 a (by omega)).trans f_3761
        have f_3793 : F_3788 a = .inr (5, [.ref a_3508, .ref a_3543, .ref a_3598, .null, .null, .null, .null, .null]) := (g_3790.2.2.1 a m_3774).1.trans f_3792
        have lt_3795 := (g_3790.2.2.1 a m_3774).2
        have m_3794 : a ∈ L_3787 := g_3790.1.1 a m_3774
        have f_3796 : F_3784 a_3543 = .inr (0, [.ref x_3565, .int (nI (0))]) := (o_3786 a_3543 (by omega)).trans f_3762
        have f_3797 : F_3788 a_3543 = .inr (0, [.ref x_3565, .int (nI (0))]) := (g_3790.2.2.1 a_3543 m_3776).1.trans f_3796
        have lt_3799 := (g_3790.2.2.1 a_3543 m_3776).2
        have m_3798 : a_3543 ∈ L_3787 := g_3790.1.1 a_3543 m_3776
        have f_3800 : F_3784 x_3565 = .inl (G.2 3, 6, .inr (.inr (.inr (.inr fa_3588)))) := (o_3786 x_3565 (by omega)).trans f_3763
        have f_3801 : F_3788 x_3565 = .inl (G.2 3, 6, .inr (.inr (.inr (.inr fa_3588)))) := (g_3790.2.2.1 x_3565 m_3777).1.trans f_3800
        have lt_3803 := (g_3790.2.2.1 x_3565 m_3777).2
        have m_3802 : x_3565 ∈ L_3787 := g_3790.1.1 x_3565 m_3777
        have f_3804 : F_3788 a_3598 = .inl (G.2 2, 2, .inr (.inr (.inr (.inr ((va_up ((va_up ((fun _ => none)) 0 (some a_3630))) 1 (some a_3705))))))) := (g_3790.2.2.1 a_3598 m_3778).1.trans f_3785
        have lt_3806 := (g_3790.2.2.1 a_3598 m_3778).2
        have m_3805 : a_3598 ∈ L_3787 := g_3790.1.1 a_3598 m_3778
        have lt_3808 := (g_3790.2.2.1 a_3508 m_3775).2
        have m_3807 : a_3508 ∈ L_3787 := g_3790.1.1 a_3508 m_3775
        have lt_3810 := (g_3790.2.2.1 a_3630 m_3779).2
        have m_3809 : a_3630 ∈ L_3787 := g_3790.1.1 a_3630 m_3779
        have lt_3812 := (g_3790.2.2.1 a_3705 m_3780).2
        have m_3811 : a_3705 ∈ L_3787 := g_3790.1.1 a_3705 m_3780
        have fb_3813 : sta G F_3784 n_3524 0 st0 := fb_3765.keep (fun i hi => o_3786 (n_3524 i) (by (have := gb_3537 i (by omega); have := lb_3554 i (by omega); have := lb_3583 i (by omega); have := lb_3617 i (by omega); have := lb_3653 i (by omega); have := lb_3686 i (by omega); have := lb_3729 i (by omega); have := lb_3767 i (by omega); omega)))
        have lb_3816 : ∀ i, i < 16 → n_3524 i < a_3789 := fun i h1 => (g_3790.2.2.1 ((n_3524 i)) (mb_3766 i h1)).2
        have fb_3814 : sta G F_3788 n_3524 0 st0 := fb_3813.keep (fun i hi => (g_3790.2.2.1 ((n_3524 i)) (mb_3766 i (by omega))).1)
        have mb_3815 : ∀ i, i < 16 → n_3524 i ∈ L_3787 := fun i h1 => g_3790.1.1 ((n_3524 i)) (mb_3766 i h1)
        have fb_3817 : ∀ k, k < 6 → sta G F_3784 (nn_3566 k) 0 st0 := fun k hk => (fb_3768 k hk).keep (fun i hi => o_3786 (nn_3566 k i) (by (have := gb_3592 k i hk (by omega); have := lb_3621 k i hk (by omega); have := lb_3657 k i hk (by omega); have := lb_3689 k i hk (by omega); have := lb_3733 k i hk (by omega); have := lb_3770 k i hk (by omega); omega)))
        have lb_3820 : ∀ k i, k < 6 → i < 16 → nn_3566 k i < a_3789 := fun k i h1 h2 => (g_3790.2.2.1 ((nn_3566 k i)) (mb_3769 k i h1 h2)).2
        have fb_3818 : ∀ k, k < 6 → sta G F_3788 (nn_3566 k) 0 st0 := fun k hk => (fb_3817 k hk).keep (fun i hi => (g_3790.2.2.1 ((nn_3566 k i)) (mb_3769 k i hk (by omega))).1)
        have mb_3819 : ∀ k i, k < 6 → i < 16 → nn_3566 k i ∈ L_3787 := fun k i h1 h2 => g_3790.1.1 ((nn_3566 k i)) (mb_3769 k i h1 h2)
        have fb_3821 : shp G F_3784 n_3668 0 5 r0 := fb_3771.keep (fun i hi => o_3786 (n_3668 i) (by (have := gb_3698 i (by omega) (by omega); have := lb_3737 i (by omega) (by omega); have := lb_3773 i (by omega) (by omega); omega)))
        have lb_3824 : ∀ i, 1 ≤ i → i < 16 → n_3668 i < a_3789 := fun i h1 h2 => (g_3790.2.2.1 ((n_3668 i)) (mb_3772 i h1 h2)).2
        have fb_3822 : shp G F_3788 n_3668 0 5 r0 := fb_3821.keep (fun i hi => (g_3790.2.2.1 ((n_3668 i)) (mb_3772 i (by omega) (by omega))).1)
        have mb_3823 : ∀ i, 1 ≤ i → i < 16 → n_3668 i ∈ L_3787 := fun i h1 h2 => g_3790.1.1 ((n_3668 i)) (mb_3772 i h1 h2)
        have fb_3825 : shp G F_3784 n_3748 0 5 r0 := fb_3750.keep (fun i hi => o_3786 (n_3748 i) (by (have := gb_3783 i (by omega) (by omega); omega)))
        have lb_3828 : ∀ i, 1 ≤ i → i < 16 → n_3748 i < a_3789 := fun i h1 h2 => (g_3790.2.2.1 ((n_3748 i)) (mb_3782 i h1 h2)).2
        have fb_3826 : shp G F_3788 n_3748 0 5 r0 := fb_3825.keep (fun i hi => (g_3790.2.2.1 ((n_3748 i)) (mb_3782 i (by omega) (by omega))).1)
        have mb_3827 : ∀ i, 1 ≤ i → i < 16 → n_3748 i ∈ L_3787 := fun i h1 h2 => g_3790.1.1 ((n_3748 i)) (mb_3782 i h1 h2)
        have hg_3829 := hg_3781.step g_3790.1 hw.2.2.1
        have C0 := C0.grow g_3790.1 hw.2.2.1
        have hw := hw1
        have m_3830 : a_3789 ∈ L_3787 := g_3790.2.2.2.1
        have f_3831 : F_3788 a_3789 = .inl (G.2 1, 2, .inl ((fun _ => nI 0))) := g_3790.2.1
        refine q_putF C0 hnm hw m_3794 f_3793 fw_X5_30 pw_X5_3 rfl rfl rfl rfl (Nat.le_of_ble_eq_true rfl) dX5_init_64 (fun F_3832 H locs hw f_3833 o_3834 => ?_)
        have f_3833 : F_3832 a = .inr (5, [.ref a_3508, .ref a_3543, .ref a_3598, .ref a_3789, .null, .null, .null, .null]) := f_3833
        refine lv_aload_n hx hb dX5_init_67 rfl (lv_at hl 1 rfl) ?_
        refine k_new C0 hw nw_X5_34 (Nat.le_of_ble_eq_true rfl) (Nat.le_of_ble_eq_true rfl) dX5_init_68 (fun L_3835 F_3836 a_3837 H_3839 g_3838 hw1 => ?_)
        have hge_a_3837 : s.heap.size ≤ a_3837 := Nat.le_trans hw.2.2.1 g_3838.2.2.2.2
        have f_3840 : F_3836 a = .inr (5, [.ref a_3508, .ref a_3543, .ref a_3598, .ref a_3789, .null, .null, .null, .null]) := (g_3838.2.2.1 a m_3794).1.trans f_3833
        have lt_3842 := (g_3838.2.2.1 a m_3794).2
        have m_3841 : a ∈ L_3835 := g_3838.1.1 a m_3794
        have f_3843 : F_3832 a_3543 = .inr (0, [.ref x_3565, .int (nI (0))]) := (o_3834 a_3543 (by omega)).trans f_3797
        have f_3844 : F_3836 a_3543 = .inr (0, [.ref x_3565, .int (nI (0))]) := (g_3838.2.2.1 a_3543 m_3798).1.trans f_3843
        have lt_3846 := (g_3838.2.2.1 a_3543 m_3798).2
        have m_3845 : a_3543 ∈ L_3835 := g_3838.1.1 a_3543 m_3798
        have f_3847 : F_3832 x_3565 = .inl (G.2 3, 6, .inr (.inr (.inr (.inr fa_3588)))) := (o_3834 x_3565 (by omega)).trans f_3801
        have f_3848 : F_3836 x_3565 = .inl (G.2 3, 6, .inr (.inr (.inr (.inr fa_3588)))) := (g_3838.2.2.1 x_3565 m_3802).1.trans f_3847
        have lt_3850 := (g_3838.2.2.1 x_3565 m_3802).2
        have m_3849 : x_3565 ∈ L_3835 := g_3838.1.1 x_3565 m_3802
        have f_3851 : F_3832 a_3598 = .inl (G.2 2, 2, .inr (.inr (.inr (.inr ((va_up ((va_up ((fun _ => none)) 0 (some a_3630))) 1 (some a_3705))))))) := (o_3834 a_3598 (by omega)).trans f_3804
        have f_3852 : F_3836 a_3598 = .inl (G.2 2, 2, .inr (.inr (.inr (.inr ((va_up ((va_up ((fun _ => none)) 0 (some a_3630))) 1 (some a_3705))))))) := (g_3838.2.2.1 a_3598 m_3805).1.trans f_3851
        have lt_3854 := (g_3838.2.2.1 a_3598 m_3805).2
        have m_3853 : a_3598 ∈ L_3835 := g_3838.1.1 a_3598 m_3805
        have f_3855 : F_3832 a_3789 = .inl (G.2 1, 2, .inl ((fun _ => nI 0))) := (o_3834 a_3789 (by omega)).trans f_3831
        have f_3856 : F_3836 a_3789 = .inl (G.2 1, 2, .inl ((fun _ => nI 0))) := (g_3838.2.2.1 a_3789 m_3830).1.trans f_3855
        have lt_3858 := (g_3838.2.2.1 a_3789 m_3830).2
        have m_3857 : a_3789 ∈ L_3835 := g_3838.1.1 a_3789 m_3830
        have lt_3860 := (g_3838.2.2.1 a_3508 m_3807).2
        have m_3859 : a_3508 ∈ L_3835 := g_3838.1.1 a_3508 m_3807
        have lt_3862 := (g_3838.2.2.1 a_3630 m_3809).2
        have m_3861 : a_3630 ∈ L_3835 := g_3838.1.1 a_3630 m_3809
        have lt_3864 := (g_3838.2.2.1 a_3705 m_3811).2
        have m_3863 : a_3705 ∈ L_3835 := g_3838.1.1 a_3705 m_3811
        have fb_3865 : sta G F_3832 n_3524 0 st0 := fb_3814.keep (fun i hi => o_3834 (n_3524 i) (by (have := gb_3537 i (by omega); have := lb_3554 i (by omega); have := lb_3583 i (by omega); have := lb_3617 i (by omega); have := lb_3653 i (by omega); have := lb_3686 i (by omega); have := lb_3729 i (by omega); have := lb_3767 i (by omega); have := lb_3816 i (by omega); omega)))
        have lb_3868 : ∀ i, i < 16 → n_3524 i < a_3837 := fun i h1 => (g_3838.2.2.1 ((n_3524 i)) (mb_3815 i h1)).2
        have fb_3866 : sta G F_3836 n_3524 0 st0 := fb_3865.keep (fun i hi => (g_3838.2.2.1 ((n_3524 i)) (mb_3815 i (by omega))).1)
        have mb_3867 : ∀ i, i < 16 → n_3524 i ∈ L_3835 := fun i h1 => g_3838.1.1 ((n_3524 i)) (mb_3815 i h1)
        have fb_3869 : ∀ k, k < 6 → sta G F_3832 (nn_3566 k) 0 st0 := fun k hk => (fb_3818 k hk).keep (fun i hi => o_3834 (nn_3566 k i) (by (have := gb_3592 k i hk (by omega); have := lb_3621 k i hk (by omega); have := lb_3657 k i hk (by omega); have := lb_3689 k i hk (by omega); have := lb_3733 k i hk (by omega); have := lb_3770 k i hk (by omega); have := lb_3820 k i hk (by omega); omega)))
        have lb_3872 : ∀ k i, k < 6 → i < 16 → nn_3566 k i < a_3837 := fun k i h1 h2 => (g_3838.2.2.1 ((nn_3566 k i)) (mb_3819 k i h1 h2)).2
        have fb_3870 : ∀ k, k < 6 → sta G F_3836 (nn_3566 k) 0 st0 := fun k hk => (fb_3869 k hk).keep (fun i hi => (g_3838.2.2.1 ((nn_3566 k i)) (mb_3819 k i hk (by omega))).1)
        have mb_3871 : ∀ k i, k < 6 → i < 16 → nn_3566 k i ∈ L_3835 := fun k i h1 h2 => g_3838.1.1 ((nn_3566 k i)) (mb_3819 k i h1 h2)
        have fb_3873 : shp G F_3832 n_3668 0 5 r0 := fb_3822.keep (fun i hi => o_3834 (n_3668 i) (by (have := gb_3698 i (by omega) (by omega); have := lb_3737 i (by omega) (by omega); have := lb_3773 i (by omega) (by omega); have := lb_3824 i (by omega) (by omega); omega)))
        have lb_3876 : ∀ i, 1 ≤ i → i < 16 → n_3668 i < a_3837 := fun i h1 h2 => (g_3838.2.2.1 ((n_3668 i)) (mb_3823 i h1 h2)).2
        have fb_3874 : shp G F_3836 n_3668 0 5 r0 := fb_3873.keep (fun i hi => (g_3838.2.2.1 ((n_3668 i)) (mb_3823 i (by omega) (by omega))).1)
        have mb_3875 : ∀ i, 1 ≤ i → i < 16 → n_3668 i ∈ L_3835 := fun i h1 h2 => g_3838.1.1 ((n_3668 i)) (mb_3823 i h1 h2)
        have fb_3877 : shp G F_3832 n_3748 0 5 r0 := fb_3826.keep (fun i hi => o_3834 (n_3748 i) (by (have := gb_3783 i (by omega) (by omega); have := lb_3828 i (by omega) (by omega); omega)))
        have lb_3880 : ∀ i, 1 ≤ i → i < 16 → n_3748 i < a_3837 := fun i h1 h2 => (g_3838.2.2.1 ((n_3748 i)) (mb_3827 i h1 h2)).2
        have fb_3878 : shp G F_3836 n_3748 0 5 r0 := fb_3877.keep (fun i hi => (g_3838.2.2.1 ((n_3748 i)) (mb_3827 i (by omega) (by omega))).1)
        have mb_3879 : ∀ i, 1 ≤ i → i < 16 → n_3748 i ∈ L_3835 := fun i h1 h2 => g_3838.1.1 ((n_3748 i)) (mb_3827 i h1 h2)
        have hg_3881 := hg_3829.step g_3838.1 hw.2.2.1
        have C0 := C0.grow g_3838.1 hw.2.2.1
        have hw := hw1
        have m_3882 : a_3837 ∈ L_3835 := g_3838.2.2.2.1
        have f_3883 : F_3836 a_3837 = .inr (4, [.null, .int (nI (0))]) := g_3838.2.1
        refine lv_dup hx hb dX5_init_71 rfl ?_
        refine q_calln hw (fun L1 F1 h => h.1) (q_runI (As := []) (c_X4_init l G L_3835 F_3836 a_3837 m_3882 f_3883) C0 hOv hw iw_X5_36 rfl hl.1 rfl (Nat.le_of_ble_eq_true rfl) dX5_init_72 ⟨by decide, by decide⟩ ⟨by decide, by decide⟩) (fun L_3884 F_3885 H_3887 locs hz_3888 hw1 hp_3886 => ?_)
        have hgs_3889 : s.heap.size ≤ H_3839.size := hw.2.2.1
        obtain ⟨g_3890, x_3891, f_3892, f_3893, hsx_3894, m_3895, hf_3896⟩ := hp_3886
        have lt_3897 := hw.lt m_3841
        have lt_3898 := hw.lt m_3859
        have lt_3899 := hw.lt m_3845
        have lt_3900 := hw.lt m_3849
        have lt_3901 := hw.lt m_3853
        have lt_3902 := hw.lt m_3861
        have lt_3903 := hw.lt m_3863
        have lt_3904 := hw.lt m_3857
        have lt_3905 := hw.lt m_3882
        have f_3906 : F_3885 a = .inr (5, [.ref a_3508, .ref a_3543, .ref a_3598, .ref a_3789, .null, .null, .null, .null]) := (hf_3896 a m_3841 (by omega)).trans f_3840
        have f_3907 : F_3885 a_3543 = .inr (0, [.ref x_3565, .int (nI (0))]) := (hf_3896 a_3543 m_3845 (by omega)).trans f_3844
        have f_3908 : F_3885 x_3565 = .inl (G.2 3, 6, .inr (.inr (.inr (.inr fa_3588)))) := (hf_3896 x_3565 m_3849 (by omega)).trans f_3848
        have f_3909 : F_3885 a_3598 = .inl (G.2 2, 2, .inr (.inr (.inr (.inr ((va_up ((va_up ((fun _ => none)) 0 (some a_3630))) 1 (some a_3705))))))) := (hf_3896 a_3598 m_3853 (by omega)).trans f_3852
        have f_3910 : F_3885 a_3789 = .inl (G.2 1, 2, .inl ((fun _ => nI 0))) := (hf_3896 a_3789 m_3857 (by omega)).trans f_3856
        have lb_3913 : ∀ i, i < 16 → n_3524 i < H_3839.size := fun i h1 => hw.lt (mb_3867 i h1)
        have fb_3911 : sta G F_3885 n_3524 0 st0 := fb_3866.keep (fun i hi => hf_3896 (n_3524 i) (mb_3867 i (by omega)) (by (have := gb_3537 i (by omega); have := lb_3554 i (by omega); have := lb_3583 i (by omega); have := lb_3617 i (by omega); have := lb_3653 i (by omega); have := lb_3686 i (by omega); have := lb_3729 i (by omega); have := lb_3767 i (by omega); have := lb_3816 i (by omega); have := lb_3868 i (by omega); omega)))
        have mb_3912 : ∀ i, i < 16 → n_3524 i ∈ L_3884 := fun i h1 => g_3890.1 (n_3524 i) (mb_3867 i h1)
        have lb_3916 : ∀ k i, k < 6 → i < 16 → nn_3566 k i < H_3839.size := fun k i h1 h2 => hw.lt (mb_3871 k i h1 h2)
        have fb_3914 : ∀ k, k < 6 → sta G F_3885 (nn_3566 k) 0 st0 := fun k hk => (fb_3870 k hk).keep (fun i hi => hf_3896 (nn_3566 k i) (mb_3871 k i hk (by omega)) (by (have := gb_3592 k i hk (by omega); have := lb_3621 k i hk (by omega); have := lb_3657 k i hk (by omega); have := lb_3689 k i hk (by omega); have := lb_3733 k i hk (by omega); have := lb_3770 k i hk (by omega); have := lb_3820 k i hk (by omega); have := lb_3872 k i hk (by omega); omega)))
        have mb_3915 : ∀ k i, k < 6 → i < 16 → nn_3566 k i ∈ L_3884 := fun k i h1 h2 => g_3890.1 (nn_3566 k i) (mb_3871 k i h1 h2)
        have lb_3919 : ∀ i, 1 ≤ i → i < 16 → n_3668 i < H_3839.size := fun i h1 h2 => hw.lt (mb_3875 i h1 h2)
        have fb_3917 : shp G F_3885 n_3668 0 5 r0 := fb_3874.keep (fun i hi => hf_3896 (n_3668 i) (mb_3875 i (by omega) (by omega)) (by (have := gb_3698 i (by omega) (by omega); have := lb_3737 i (by omega) (by omega); have := lb_3773 i (by omega) (by omega); have := lb_3824 i (by omega) (by omega); have := lb_3876 i (by omega) (by omega); omega)))
        have mb_3918 : ∀ i, 1 ≤ i → i < 16 → n_3668 i ∈ L_3884 := fun i h1 h2 => g_3890.1 (n_3668 i) (mb_3875 i h1 h2)
        have lb_3922 : ∀ i, 1 ≤ i → i < 16 → n_3748 i < H_3839.size := fun i h1 h2 => hw.lt (mb_3879 i h1 h2)
        have fb_3920 : shp G F_3885 n_3748 0 5 r0 := fb_3878.keep (fun i hi => hf_3896 (n_3748 i) (mb_3879 i (by omega) (by omega)) (by (have := gb_3783 i (by omega) (by omega); have := lb_3828 i (by omega) (by omega); have := lb_3880 i (by omega) (by omega); omega)))
        have mb_3921 : ∀ i, 1 ≤ i → i < 16 → n_3748 i ∈ L_3884 := fun i h1 h2 => g_3890.1 (n_3748 i) (mb_3879 i h1 h2)
        have m_3923 : a ∈ L_3884 := g_3890.1 a m_3841
        have m_3924 : a_3508 ∈ L_3884 := g_3890.1 a_3508 m_3859
        have m_3925 : a_3543 ∈ L_3884 := g_3890.1 a_3543 m_3845
        have m_3926 : x_3565 ∈ L_3884 := g_3890.1 x_3565 m_3849
        have m_3927 : a_3598 ∈ L_3884 := g_3890.1 a_3598 m_3853
        have m_3928 : a_3630 ∈ L_3884 := g_3890.1 a_3630 m_3861
        have m_3929 : a_3705 ∈ L_3884 := g_3890.1 a_3705 m_3863
        have m_3930 : a_3789 ∈ L_3884 := g_3890.1 a_3789 m_3857
        have m_3931 : a_3837 ∈ L_3884 := g_3890.1 a_3837 m_3882
        have hg_3932 := hg_3881.step g_3890 hw.2.2.1
        have C0 := C0.grow g_3890 hw.2.2.1
        have hw := hw1
        refine q_putF C0 hnm hw m_3923 f_3906 fw_X5_37 pw_X5_4 rfl rfl rfl rfl (Nat.le_of_ble_eq_true rfl) dX5_init_75 (fun F_3933 H locs hw f_3934 o_3935 => ?_)
        have f_3934 : F_3933 a = .inr (5, [.ref a_3508, .ref a_3543, .ref a_3598, .ref a_3789, .ref a_3837, .null, .null, .null]) := f_3934
        refine lv_aload_n hx hb dX5_init_78 rfl (lv_at hl 1 rfl) ?_
        refine k_new C0 hw nw_X5_41 (Nat.le_of_ble_eq_true rfl) (Nat.le_of_ble_eq_true rfl) dX5_init_79 (fun L_3936 F_3937 a_3938 H_3940 g_3939 hw1 => ?_)
        have hge_a_3938 : s.heap.size ≤ a_3938 := Nat.le_trans hw.2.2.1 g_3939.2.2.2.2
        have f_3941 : F_3937 a = .inr (5, [.ref a_3508, .ref a_3543, .ref a_3598, .ref a_3789, .ref a_3837, .null, .null, .null]) := (g_3939.2.2.1 a m_3923).1.trans f_3934
        have lt_3943 := (g_3939.2.2.1 a m_3923).2
        have m_3942 : a ∈ L_3936 := g_3939.1.1 a m_3923
        have f_3944 : F_3933 a_3543 = .inr (0, [.ref x_3565, .int (nI (0))]) := (o_3935 a_3543 (by omega)).trans f_3907
        have f_3945 : F_3937 a_3543 = .inr (0, [.ref x_3565, .int (nI (0))]) := (g_3939.2.2.1 a_3543 m_3925).1.trans f_3944
        have lt_3947 := (g_3939.2.2.1 a_3543 m_3925).2
        have m_3946 : a_3543 ∈ L_3936 := g_3939.1.1 a_3543 m_3925
        have f_3948 : F_3933 x_3565 = .inl (G.2 3, 6, .inr (.inr (.inr (.inr fa_3588)))) := (o_3935 x_3565 (by omega)).trans f_3908
        have f_3949 : F_3937 x_3565 = .inl (G.2 3, 6, .inr (.inr (.inr (.inr fa_3588)))) := (g_3939.2.2.1 x_3565 m_3926).1.trans f_3948
        have lt_3951 := (g_3939.2.2.1 x_3565 m_3926).2
        have m_3950 : x_3565 ∈ L_3936 := g_3939.1.1 x_3565 m_3926
        have f_3952 : F_3933 a_3598 = .inl (G.2 2, 2, .inr (.inr (.inr (.inr ((va_up ((va_up ((fun _ => none)) 0 (some a_3630))) 1 (some a_3705))))))) := (o_3935 a_3598 (by omega)).trans f_3909
        have f_3953 : F_3937 a_3598 = .inl (G.2 2, 2, .inr (.inr (.inr (.inr ((va_up ((va_up ((fun _ => none)) 0 (some a_3630))) 1 (some a_3705))))))) := (g_3939.2.2.1 a_3598 m_3927).1.trans f_3952
        have lt_3955 := (g_3939.2.2.1 a_3598 m_3927).2
        have m_3954 : a_3598 ∈ L_3936 := g_3939.1.1 a_3598 m_3927
        have f_3956 : F_3933 a_3789 = .inl (G.2 1, 2, .inl ((fun _ => nI 0))) := (o_3935 a_3789 (by omega)).trans f_3910
        have f_3957 : F_3937 a_3789 = .inl (G.2 1, 2, .inl ((fun _ => nI 0))) := (g_3939.2.2.1 a_3789 m_3930).1.trans f_3956
        have lt_3959 := (g_3939.2.2.1 a_3789 m_3930).2
        have m_3958 : a_3789 ∈ L_3936 := g_3939.1.1 a_3789 m_3930
        have f_3960 : F_3933 a_3837 = .inr (4, [.ref x_3891, .int (nI (0))]) := (o_3935 a_3837 (by omega)).trans f_3892
        have f_3961 : F_3937 a_3837 = .inr (4, [.ref x_3891, .int (nI (0))]) := (g_3939.2.2.1 a_3837 m_3931).1.trans f_3960
        have lt_3963 := (g_3939.2.2.1 a_3837 m_3931).2
        have m_3962 : a_3837 ∈ L_3936 := g_3939.1.1 a_3837 m_3931
        have f_3964 : F_3933 x_3891 = .inl (G.2 0, 60, .inl ((fun _ => nI 0))) := (o_3935 x_3891 (by omega)).trans f_3893
        have f_3965 : F_3937 x_3891 = .inl (G.2 0, 60, .inl ((fun _ => nI 0))) := (g_3939.2.2.1 x_3891 m_3895).1.trans f_3964
        have lt_3967 := (g_3939.2.2.1 x_3891 m_3895).2
        have m_3966 : x_3891 ∈ L_3936 := g_3939.1.1 x_3891 m_3895
        have lt_3969 := (g_3939.2.2.1 a_3508 m_3924).2
        have m_3968 : a_3508 ∈ L_3936 := g_3939.1.1 a_3508 m_3924
        have lt_3971 := (g_3939.2.2.1 a_3630 m_3928).2
        have m_3970 : a_3630 ∈ L_3936 := g_3939.1.1 a_3630 m_3928
        have lt_3973 := (g_3939.2.2.1 a_3705 m_3929).2
        have m_3972 : a_3705 ∈ L_3936 := g_3939.1.1 a_3705 m_3929
        have fb_3974 : sta G F_3933 n_3524 0 st0 := fb_3911.keep (fun i hi => o_3935 (n_3524 i) (by (have := gb_3537 i (by omega); have := lb_3554 i (by omega); have := lb_3583 i (by omega); have := lb_3617 i (by omega); have := lb_3653 i (by omega); have := lb_3686 i (by omega); have := lb_3729 i (by omega); have := lb_3767 i (by omega); have := lb_3816 i (by omega); have := lb_3868 i (by omega); have := lb_3913 i (by omega); omega)))
        have lb_3977 : ∀ i, i < 16 → n_3524 i < a_3938 := fun i h1 => (g_3939.2.2.1 ((n_3524 i)) (mb_3912 i h1)).2
        have fb_3975 : sta G F_3937 n_3524 0 st0 := fb_3974.keep (fun i hi => (g_3939.2.2.1 ((n_3524 i)) (mb_3912 i (by omega))).1)
        have mb_3976 : ∀ i, i < 16 → n_3524 i ∈ L_3936 := fun i h1 => g_3939.1.1 ((n_3524 i)) (mb_3912 i h1)
        have fb_3978 : ∀ k, k < 6 → sta G F_3933 (nn_3566 k) 0 st0 := fun k hk => (fb_3914 k hk).keep (fun i hi => o_3935 (nn_3566 k i) (by (have := gb_3592 k i hk (by omega); have := lb_3621 k i hk (by omega); have := lb_3657 k i hk (by omega); have := lb_3689 k i hk (by omega); have := lb_3733 k i hk (by omega); have := lb_3770 k i hk (by omega); have := lb_3820 k i hk (by omega); have := lb_3872 k i hk (by omega); have := lb_3916 k i hk (by omega); omega)))
        have lb_3981 : ∀ k i, k < 6 → i < 16 → nn_3566 k i < a_3938 := fun k i h1 h2 => (g_3939.2.2.1 ((nn_3566 k i)) (mb_3915 k i h1 h2)).2
        have fb_3979 : ∀ k, k < 6 → sta G F_3937 (nn_3566 k) 0 st0 := fun k hk => (fb_3978 k hk).keep (fun i hi => (g_3939.2.2.1 ((nn_3566 k i)) (mb_3915 k i hk (by omega))).1)
        have mb_3980 : ∀ k i, k < 6 → i < 16 → nn_3566 k i ∈ L_3936 := fun k i h1 h2 => g_3939.1.1 ((nn_3566 k i)) (mb_3915 k i h1 h2)
        have fb_3982 : shp G F_3933 n_3668 0 5 r0 := fb_3917.keep (fun i hi => o_3935 (n_3668 i) (by (have := gb_3698 i (by omega) (by omega); have := lb_3737 i (by omega) (by omega); have := lb_3773 i (by omega) (by omega); have := lb_3824 i (by omega) (by omega); have := lb_3876 i (by omega) (by omega); have := lb_3919 i (by omega) (by omega); omega)))
        have lb_3985 : ∀ i, 1 ≤ i → i < 16 → n_3668 i < a_3938 := fun i h1 h2 => (g_3939.2.2.1 ((n_3668 i)) (mb_3918 i h1 h2)).2
        have fb_3983 : shp G F_3937 n_3668 0 5 r0 := fb_3982.keep (fun i hi => (g_3939.2.2.1 ((n_3668 i)) (mb_3918 i (by omega) (by omega))).1)
        have mb_3984 : ∀ i, 1 ≤ i → i < 16 → n_3668 i ∈ L_3936 := fun i h1 h2 => g_3939.1.1 ((n_3668 i)) (mb_3918 i h1 h2)
        have fb_3986 : shp G F_3933 n_3748 0 5 r0 := fb_3920.keep (fun i hi => o_3935 (n_3748 i) (by (have := gb_3783 i (by omega) (by omega); have := lb_3828 i (by omega) (by omega); have := lb_3880 i (by omega) (by omega); have := lb_3922 i (by omega) (by omega); omega)))
        have lb_3989 : ∀ i, 1 ≤ i → i < 16 → n_3748 i < a_3938 := fun i h1 h2 => (g_3939.2.2.1 ((n_3748 i)) (mb_3921 i h1 h2)).2
        have fb_3987 : shp G F_3937 n_3748 0 5 r0 := fb_3986.keep (fun i hi => (g_3939.2.2.1 ((n_3748 i)) (mb_3921 i (by omega) (by omega))).1)
        have mb_3988 : ∀ i, 1 ≤ i → i < 16 → n_3748 i ∈ L_3936 := fun i h1 h2 => g_3939.1.1 ((n_3748 i)) (mb_3921 i h1 h2)
        have hg_3990 := hg_3932.step g_3939.1 hw.2.2.1
        have C0 := C0.grow g_3939.1 hw.2.2.1
        have hw := hw1
        have m_3991 : a_3938 ∈ L_3936 := g_3939.2.2.2.1
        have f_3992 : F_3937 a_3938 = .inr (1, [.null, .null, .null, .null, .null, .null, .null, .null, .null, .null, .null, .null, .null, .null]) := g_3939.2.1
        refine lv_dup hx hb dX5_init_82 rfl ?_
        refine q_calln hw (fun L1 F1 h => h.1) (q_runI (As := []) (c_X1_init l G L_3936 F_3937 a_3938 m_3991 f_3992) C0 hOv hw iw_X5_43 rfl hl.1 rfl (Nat.le_of_ble_eq_true rfl) dX5_init_83 ⟨by decide, by decide⟩ ⟨by decide, by decide⟩) (fun L_3993 F_3994 H_3996 locs hz_3997 hw1 hp_3995 => ?_)
        have hgs_3998 : s.heap.size ≤ H_3940.size := hw.2.2.1
        obtain ⟨g_3999, nr_4000, f_4001, fb_4002, hm_4003, hj_4004, hf_4005⟩ := hp_3995
        have lt_4006 := hw.lt m_3942
        have lt_4007 := hw.lt m_3968
        have lt_4008 := hw.lt m_3946
        have lt_4009 := hw.lt m_3950
        have lt_4010 := hw.lt m_3954
        have lt_4011 := hw.lt m_3970
        have lt_4012 := hw.lt m_3972
        have lt_4013 := hw.lt m_3958
        have lt_4014 := hw.lt m_3962
        have lt_4015 := hw.lt m_3966
        have lt_4016 := hw.lt m_3991
        have f_4017 : F_3994 a = .inr (5, [.ref a_3508, .ref a_3543, .ref a_3598, .ref a_3789, .ref a_3837, .null, .null, .null]) := (hf_4005 a m_3942 (by omega)).trans f_3941
        have f_4018 : F_3994 a_3543 = .inr (0, [.ref x_3565, .int (nI (0))]) := (hf_4005 a_3543 m_3946 (by omega)).trans f_3945
        have f_4019 : F_3994 x_3565 = .inl (G.2 3, 6, .inr (.inr (.inr (.inr fa_3588)))) := (hf_4005 x_3565 m_3950 (by omega)).trans f_3949
        have f_4020 : F_3994 a_3598 = .inl (G.2 2, 2, .inr (.inr (.inr (.inr ((va_up ((va_up ((fun _ => none)) 0 (some a_3630))) 1 (some a_3705))))))) := (hf_4005 a_3598 m_3954 (by omega)).trans f_3953
        have f_4021 : F_3994 a_3789 = .inl (G.2 1, 2, .inl ((fun _ => nI 0))) := (hf_4005 a_3789 m_3958 (by omega)).trans f_3957
        have f_4022 : F_3994 a_3837 = .inr (4, [.ref x_3891, .int (nI (0))]) := (hf_4005 a_3837 m_3962 (by omega)).trans f_3961
        have f_4023 : F_3994 x_3891 = .inl (G.2 0, 60, .inl ((fun _ => nI 0))) := (hf_4005 x_3891 m_3966 (by omega)).trans f_3965
        have lb_4026 : ∀ i, i < 16 → n_3524 i < H_3940.size := fun i h1 => hw.lt (mb_3976 i h1)
        have fb_4024 : sta G F_3994 n_3524 0 st0 := fb_3975.keep (fun i hi => hf_4005 (n_3524 i) (mb_3976 i (by omega)) (by (have := gb_3537 i (by omega); have := lb_3554 i (by omega); have := lb_3583 i (by omega); have := lb_3617 i (by omega); have := lb_3653 i (by omega); have := lb_3686 i (by omega); have := lb_3729 i (by omega); have := lb_3767 i (by omega); have := lb_3816 i (by omega); have := lb_3868 i (by omega); have := lb_3913 i (by omega); have := lb_3977 i (by omega); omega)))
        have mb_4025 : ∀ i, i < 16 → n_3524 i ∈ L_3993 := fun i h1 => g_3999.1 (n_3524 i) (mb_3976 i h1)
        have lb_4029 : ∀ k i, k < 6 → i < 16 → nn_3566 k i < H_3940.size := fun k i h1 h2 => hw.lt (mb_3980 k i h1 h2)
        have fb_4027 : ∀ k, k < 6 → sta G F_3994 (nn_3566 k) 0 st0 := fun k hk => (fb_3979 k hk).keep (fun i hi => hf_4005 (nn_3566 k i) (mb_3980 k i hk (by omega)) (by (have := gb_3592 k i hk (by omega); have := lb_3621 k i hk (by omega); have := lb_3657 k i hk (by omega); have := lb_3689 k i hk (by omega); have := lb_3733 k i hk (by omega); have := lb_3770 k i hk (by omega); have := lb_3820 k i hk (by omega); have := lb_3872 k i hk (by omega); have := lb_3916 k i hk (by omega); have := lb_3981 k i hk (by omega); omega)))
        have mb_4028 : ∀ k i, k < 6 → i < 16 → nn_3566 k i ∈ L_3993 := fun k i h1 h2 => g_3999.1 (nn_3566 k i) (mb_3980 k i h1 h2)
        have lb_4032 : ∀ i, 1 ≤ i → i < 16 → n_3668 i < H_3940.size := fun i h1 h2 => hw.lt (mb_3984 i h1 h2)
        have fb_4030 : shp G F_3994 n_3668 0 5 r0 := fb_3983.keep (fun i hi => hf_4005 (n_3668 i) (mb_3984 i (by omega) (by omega)) (by (have := gb_3698 i (by omega) (by omega); have := lb_3737 i (by omega) (by omega); have := lb_3773 i (by omega) (by omega); have := lb_3824 i (by omega) (by omega); have := lb_3876 i (by omega) (by omega); have := lb_3919 i (by omega) (by omega); have := lb_3985 i (by omega) (by omega); omega)))
        have mb_4031 : ∀ i, 1 ≤ i → i < 16 → n_3668 i ∈ L_3993 := fun i h1 h2 => g_3999.1 (n_3668 i) (mb_3984 i h1 h2)
        have lb_4035 : ∀ i, 1 ≤ i → i < 16 → n_3748 i < H_3940.size := fun i h1 h2 => hw.lt (mb_3988 i h1 h2)
        have fb_4033 : shp G F_3994 n_3748 0 5 r0 := fb_3987.keep (fun i hi => hf_4005 (n_3748 i) (mb_3988 i (by omega) (by omega)) (by (have := gb_3783 i (by omega) (by omega); have := lb_3828 i (by omega) (by omega); have := lb_3880 i (by omega) (by omega); have := lb_3922 i (by omega) (by omega); have := lb_3989 i (by omega) (by omega); omega)))
        have mb_4034 : ∀ i, 1 ≤ i → i < 16 → n_3748 i ∈ L_3993 := fun i h1 h2 => g_3999.1 (n_3748 i) (mb_3988 i h1 h2)
        have m_4036 : a ∈ L_3993 := g_3999.1 a m_3942
        have m_4037 : a_3508 ∈ L_3993 := g_3999.1 a_3508 m_3968
        have m_4038 : a_3543 ∈ L_3993 := g_3999.1 a_3543 m_3946
        have m_4039 : x_3565 ∈ L_3993 := g_3999.1 x_3565 m_3950
        have m_4040 : a_3598 ∈ L_3993 := g_3999.1 a_3598 m_3954
        have m_4041 : a_3630 ∈ L_3993 := g_3999.1 a_3630 m_3970
        have m_4042 : a_3705 ∈ L_3993 := g_3999.1 a_3705 m_3972
        have m_4043 : a_3789 ∈ L_3993 := g_3999.1 a_3789 m_3958
        have m_4044 : a_3837 ∈ L_3993 := g_3999.1 a_3837 m_3962
        have m_4045 : x_3891 ∈ L_3993 := g_3999.1 x_3891 m_3966
        have m_4046 : a_3938 ∈ L_3993 := g_3999.1 a_3938 m_3991
        have hg_4047 := hg_3990.step g_3999 hw.2.2.1
        have C0 := C0.grow g_3999 hw.2.2.1
        have hw := hw1
        have mb_4048 : ∀ i, i < 14 → nr_4000 i ∈ L_3993 := fun i h1 => (hm_4003 i h1).2
        have gb_4049 : ∀ i, i < 14 → H_3940.size ≤ nr_4000 i := fun i h1 => (hm_4003 i h1).1
        refine q_putF C0 hnm hw m_4036 f_4017 fw_X5_44 pw_X5_5 rfl rfl rfl rfl (Nat.le_of_ble_eq_true rfl) dX5_init_86 (fun F_4050 H locs hw f_4051 o_4052 => ?_)
        have f_4051 : F_4050 a = .inr (5, [.ref a_3508, .ref a_3543, .ref a_3598, .ref a_3789, .ref a_3837, .ref a_3938, .null, .null]) := f_4051
        refine lv_aload_n hx hb dX5_init_89 rfl (lv_at hl 1 rfl) ?_
        refine lv_bipush (v := nI 7) hx hb dX5_init_90 (by decide) ?_
        refine k_newi C0 hw (by decide) (by decide) (Nat.le_of_ble_eq_true rfl) (Nat.le_of_ble_eq_true rfl) dX5_init_92 (fun L_4053 F_4054 a_4055 H_4057 g_4056 hw1 => ?_)
        have hge_a_4055 : s.heap.size ≤ a_4055 := Nat.le_trans hw.2.2.1 g_4056.2.2.2.2
        have f_4058 : F_4054 a = .inr (5, [.ref a_3508, .ref a_3543, .ref a_3598, .ref a_3789, .ref a_3837, .ref a_3938, .null, .null]) := (g_4056.2.2.1 a m_4036).1.trans f_4051
        have lt_4060 := (g_4056.2.2.1 a m_4036).2
        have m_4059 : a ∈ L_4053 := g_4056.1.1 a m_4036
        have f_4061 : F_4050 a_3543 = .inr (0, [.ref x_3565, .int (nI (0))]) := (o_4052 a_3543 (by omega)).trans f_4018
        have f_4062 : F_4054 a_3543 = .inr (0, [.ref x_3565, .int (nI (0))]) := (g_4056.2.2.1 a_3543 m_4038).1.trans f_4061
        have lt_4064 := (g_4056.2.2.1 a_3543 m_4038).2
        have m_4063 : a_3543 ∈ L_4053 := g_4056.1.1 a_3543 m_4038
        have f_4065 : F_4050 x_3565 = .inl (G.2 3, 6, .inr (.inr (.inr (.inr fa_3588)))) := (o_4052 x_3565 (by omega)).trans f_4019
        have f_4066 : F_4054 x_3565 = .inl (G.2 3, 6, .inr (.inr (.inr (.inr fa_3588)))) := (g_4056.2.2.1 x_3565 m_4039).1.trans f_4065
        have lt_4068 := (g_4056.2.2.1 x_3565 m_4039).2
        have m_4067 : x_3565 ∈ L_4053 := g_4056.1.1 x_3565 m_4039
        have f_4069 : F_4050 a_3598 = .inl (G.2 2, 2, .inr (.inr (.inr (.inr ((va_up ((va_up ((fun _ => none)) 0 (some a_3630))) 1 (some a_3705))))))) := (o_4052 a_3598 (by omega)).trans f_4020
        have f_4070 : F_4054 a_3598 = .inl (G.2 2, 2, .inr (.inr (.inr (.inr ((va_up ((va_up ((fun _ => none)) 0 (some a_3630))) 1 (some a_3705))))))) := (g_4056.2.2.1 a_3598 m_4040).1.trans f_4069
        have lt_4072 := (g_4056.2.2.1 a_3598 m_4040).2
        have m_4071 : a_3598 ∈ L_4053 := g_4056.1.1 a_3598 m_4040
        have f_4073 : F_4050 a_3789 = .inl (G.2 1, 2, .inl ((fun _ => nI 0))) := (o_4052 a_3789 (by omega)).trans f_4021
        have f_4074 : F_4054 a_3789 = .inl (G.2 1, 2, .inl ((fun _ => nI 0))) := (g_4056.2.2.1 a_3789 m_4043).1.trans f_4073
        have lt_4076 := (g_4056.2.2.1 a_3789 m_4043).2
        have m_4075 : a_3789 ∈ L_4053 := g_4056.1.1 a_3789 m_4043
        have f_4077 : F_4050 a_3837 = .inr (4, [.ref x_3891, .int (nI (0))]) := (o_4052 a_3837 (by omega)).trans f_4022
        have f_4078 : F_4054 a_3837 = .inr (4, [.ref x_3891, .int (nI (0))]) := (g_4056.2.2.1 a_3837 m_4044).1.trans f_4077
        have lt_4080 := (g_4056.2.2.1 a_3837 m_4044).2
        have m_4079 : a_3837 ∈ L_4053 := g_4056.1.1 a_3837 m_4044
        have f_4081 : F_4050 x_3891 = .inl (G.2 0, 60, .inl ((fun _ => nI 0))) := (o_4052 x_3891 (by omega)).trans f_4023
        have f_4082 : F_4054 x_3891 = .inl (G.2 0, 60, .inl ((fun _ => nI 0))) := (g_4056.2.2.1 x_3891 m_4045).1.trans f_4081
        have lt_4084 := (g_4056.2.2.1 x_3891 m_4045).2
        have m_4083 : x_3891 ∈ L_4053 := g_4056.1.1 x_3891 m_4045
        have f_4085 : F_4050 a_3938 = rkO nr_4000 := (o_4052 a_3938 (by omega)).trans f_4001
        have f_4086 : F_4054 a_3938 = rkO nr_4000 := (g_4056.2.2.1 a_3938 m_4046).1.trans f_4085
        have lt_4088 := (g_4056.2.2.1 a_3938 m_4046).2
        have m_4087 : a_3938 ∈ L_4053 := g_4056.1.1 a_3938 m_4046
        have lt_4090 := (g_4056.2.2.1 a_3508 m_4037).2
        have m_4089 : a_3508 ∈ L_4053 := g_4056.1.1 a_3508 m_4037
        have lt_4092 := (g_4056.2.2.1 a_3630 m_4041).2
        have m_4091 : a_3630 ∈ L_4053 := g_4056.1.1 a_3630 m_4041
        have lt_4094 := (g_4056.2.2.1 a_3705 m_4042).2
        have m_4093 : a_3705 ∈ L_4053 := g_4056.1.1 a_3705 m_4042
        have fb_4095 : sta G F_4050 n_3524 0 st0 := fb_4024.keep (fun i hi => o_4052 (n_3524 i) (by (have := gb_3537 i (by omega); have := lb_3554 i (by omega); have := lb_3583 i (by omega); have := lb_3617 i (by omega); have := lb_3653 i (by omega); have := lb_3686 i (by omega); have := lb_3729 i (by omega); have := lb_3767 i (by omega); have := lb_3816 i (by omega); have := lb_3868 i (by omega); have := lb_3913 i (by omega); have := lb_3977 i (by omega); have := lb_4026 i (by omega); omega)))
        have lb_4098 : ∀ i, i < 16 → n_3524 i < a_4055 := fun i h1 => (g_4056.2.2.1 ((n_3524 i)) (mb_4025 i h1)).2
        have fb_4096 : sta G F_4054 n_3524 0 st0 := fb_4095.keep (fun i hi => (g_4056.2.2.1 ((n_3524 i)) (mb_4025 i (by omega))).1)
        have mb_4097 : ∀ i, i < 16 → n_3524 i ∈ L_4053 := fun i h1 => g_4056.1.1 ((n_3524 i)) (mb_4025 i h1)
        have fb_4099 : ∀ k, k < 6 → sta G F_4050 (nn_3566 k) 0 st0 := fun k hk => (fb_4027 k hk).keep (fun i hi => o_4052 (nn_3566 k i) (by (have := gb_3592 k i hk (by omega); have := lb_3621 k i hk (by omega); have := lb_3657 k i hk (by omega); have := lb_3689 k i hk (by omega); have := lb_3733 k i hk (by omega); have := lb_3770 k i hk (by omega); have := lb_3820 k i hk (by omega); have := lb_3872 k i hk (by omega); have := lb_3916 k i hk (by omega); have := lb_3981 k i hk (by omega); have := lb_4029 k i hk (by omega); omega)))
        have lb_4102 : ∀ k i, k < 6 → i < 16 → nn_3566 k i < a_4055 := fun k i h1 h2 => (g_4056.2.2.1 ((nn_3566 k i)) (mb_4028 k i h1 h2)).2
        have fb_4100 : ∀ k, k < 6 → sta G F_4054 (nn_3566 k) 0 st0 := fun k hk => (fb_4099 k hk).keep (fun i hi => (g_4056.2.2.1 ((nn_3566 k i)) (mb_4028 k i hk (by omega))).1)
        have mb_4101 : ∀ k i, k < 6 → i < 16 → nn_3566 k i ∈ L_4053 := fun k i h1 h2 => g_4056.1.1 ((nn_3566 k i)) (mb_4028 k i h1 h2)
        have fb_4103 : shp G F_4050 n_3668 0 5 r0 := fb_4030.keep (fun i hi => o_4052 (n_3668 i) (by (have := gb_3698 i (by omega) (by omega); have := lb_3737 i (by omega) (by omega); have := lb_3773 i (by omega) (by omega); have := lb_3824 i (by omega) (by omega); have := lb_3876 i (by omega) (by omega); have := lb_3919 i (by omega) (by omega); have := lb_3985 i (by omega) (by omega); have := lb_4032 i (by omega) (by omega); omega)))
        have lb_4106 : ∀ i, 1 ≤ i → i < 16 → n_3668 i < a_4055 := fun i h1 h2 => (g_4056.2.2.1 ((n_3668 i)) (mb_4031 i h1 h2)).2
        have fb_4104 : shp G F_4054 n_3668 0 5 r0 := fb_4103.keep (fun i hi => (g_4056.2.2.1 ((n_3668 i)) (mb_4031 i (by omega) (by omega))).1)
        have mb_4105 : ∀ i, 1 ≤ i → i < 16 → n_3668 i ∈ L_4053 := fun i h1 h2 => g_4056.1.1 ((n_3668 i)) (mb_4031 i h1 h2)
        have fb_4107 : shp G F_4050 n_3748 0 5 r0 := fb_4033.keep (fun i hi => o_4052 (n_3748 i) (by (have := gb_3783 i (by omega) (by omega); have := lb_3828 i (by omega) (by omega); have := lb_3880 i (by omega) (by omega); have := lb_3922 i (by omega) (by omega); have := lb_3989 i (by omega) (by omega); have := lb_4035 i (by omega) (by omega); omega)))
        have lb_4110 : ∀ i, 1 ≤ i → i < 16 → n_3748 i < a_4055 := fun i h1 h2 => (g_4056.2.2.1 ((n_3748 i)) (mb_4034 i h1 h2)).2
        have fb_4108 : shp G F_4054 n_3748 0 5 r0 := fb_4107.keep (fun i hi => (g_4056.2.2.1 ((n_3748 i)) (mb_4034 i (by omega) (by omega))).1)
        have mb_4109 : ∀ i, 1 ≤ i → i < 16 → n_3748 i ∈ L_4053 := fun i h1 h2 => g_4056.1.1 ((n_3748 i)) (mb_4034 i h1 h2)
        have fb_4111 : ∀ i, i < 14 → F_4050 (nr_4000 i) = rw7 G (fun _ => zc 0) := fun i hi => (o_4052 (nr_4000 i) (by (have := gb_4049 i hi; omega))).trans (fb_4002 i hi)
        have lb_4114 : ∀ i, i < 14 → nr_4000 i < a_4055 := fun i h1 => (g_4056.2.2.1 ((nr_4000 i)) (mb_4048 i h1)).2
        have fb_4112 : ∀ i, i < 14 → F_4054 (nr_4000 i) = rw7 G (fun _ => zc 0) := fun i hi => ((g_4056.2.2.1 ((nr_4000 i)) (mb_4048 i hi)).1).trans (fb_4111 i hi)
        have mb_4113 : ∀ i, i < 14 → nr_4000 i ∈ L_4053 := fun i h1 => g_4056.1.1 ((nr_4000 i)) (mb_4048 i h1)
        have hg_4115 := hg_4047.step g_4056.1 hw.2.2.1
        have C0 := C0.grow g_4056.1 hw.2.2.1
        have hw := hw1
        have m_4116 : a_4055 ∈ L_4053 := g_4056.2.2.2.1
        have f_4117 : F_4054 a_4055 = .inl (G.2 0, 7, .inl ((fun _ => nI 0))) := g_4056.2.1
        refine q_putF C0 hnm hw m_4059 f_4058 fw_X5_48 pw_X5_6 rfl rfl rfl rfl (Nat.le_of_ble_eq_true rfl) dX5_init_94 (fun F_4118 H locs hw f_4119 o_4120 => ?_)
        have f_4119 : F_4118 a = .inr (5, [.ref a_3508, .ref a_3543, .ref a_3598, .ref a_3789, .ref a_3837, .ref a_3938, .ref a_4055, .null]) := f_4119
        refine lv_aload_n hx hb dX5_init_97 rfl (lv_at hl 1 rfl) ?_
        refine lv_bipush (v := nI 7) hx hb dX5_init_98 (by decide) ?_
        refine k_newi C0 hw (by decide) (by decide) (Nat.le_of_ble_eq_true rfl) (Nat.le_of_ble_eq_true rfl) dX5_init_100 (fun L_4121 F_4122 a_4123 H_4125 g_4124 hw1 => ?_)
        have hge_a_4123 : s.heap.size ≤ a_4123 := Nat.le_trans hw.2.2.1 g_4124.2.2.2.2
        have f_4126 : F_4122 a = .inr (5, [.ref a_3508, .ref a_3543, .ref a_3598, .ref a_3789, .ref a_3837, .ref a_3938, .ref a_4055, .null]) := (g_4124.2.2.1 a m_4059).1.trans f_4119
        have lt_4128 := (g_4124.2.2.1 a m_4059).2
        have m_4127 : a ∈ L_4121 := g_4124.1.1 a m_4059
        have f_4129 : F_4118 a_3543 = .inr (0, [.ref x_3565, .int (nI (0))]) := (o_4120 a_3543 (by omega)).trans f_4062
        have f_4130 : F_4122 a_3543 = .inr (0, [.ref x_3565, .int (nI (0))]) := (g_4124.2.2.1 a_3543 m_4063).1.trans f_4129
        have lt_4132 := (g_4124.2.2.1 a_3543 m_4063).2
        have m_4131 : a_3543 ∈ L_4121 := g_4124.1.1 a_3543 m_4063
        have f_4133 : F_4118 x_3565 = .inl (G.2 3, 6, .inr (.inr (.inr (.inr fa_3588)))) := (o_4120 x_3565 (by omega)).trans f_4066
        have f_4134 : F_4122 x_3565 = .inl (G.2 3, 6, .inr (.inr (.inr (.inr fa_3588)))) := (g_4124.2.2.1 x_3565 m_4067).1.trans f_4133
        have lt_4136 := (g_4124.2.2.1 x_3565 m_4067).2
        have m_4135 : x_3565 ∈ L_4121 := g_4124.1.1 x_3565 m_4067
        have f_4137 : F_4118 a_3598 = .inl (G.2 2, 2, .inr (.inr (.inr (.inr ((va_up ((va_up ((fun _ => none)) 0 (some a_3630))) 1 (some a_3705))))))) := (o_4120 a_3598 (by omega)).trans f_4070
        have f_4138 : F_4122 a_3598 = .inl (G.2 2, 2, .inr (.inr (.inr (.inr ((va_up ((va_up ((fun _ => none)) 0 (some a_3630))) 1 (some a_3705))))))) := (g_4124.2.2.1 a_3598 m_4071).1.trans f_4137
        have lt_4140 := (g_4124.2.2.1 a_3598 m_4071).2
        have m_4139 : a_3598 ∈ L_4121 := g_4124.1.1 a_3598 m_4071
        have f_4141 : F_4118 a_3789 = .inl (G.2 1, 2, .inl ((fun _ => nI 0))) := (o_4120 a_3789 (by omega)).trans f_4074
        have f_4142 : F_4122 a_3789 = .inl (G.2 1, 2, .inl ((fun _ => nI 0))) := (g_4124.2.2.1 a_3789 m_4075).1.trans f_4141
        have lt_4144 := (g_4124.2.2.1 a_3789 m_4075).2
        have m_4143 : a_3789 ∈ L_4121 := g_4124.1.1 a_3789 m_4075
        have f_4145 : F_4118 a_3837 = .inr (4, [.ref x_3891, .int (nI (0))]) := (o_4120 a_3837 (by omega)).trans f_4078
        have f_4146 : F_4122 a_3837 = .inr (4, [.ref x_3891, .int (nI (0))]) := (g_4124.2.2.1 a_3837 m_4079).1.trans f_4145
        have lt_4148 := (g_4124.2.2.1 a_3837 m_4079).2
        have m_4147 : a_3837 ∈ L_4121 := g_4124.1.1 a_3837 m_4079
        have f_4149 : F_4118 x_3891 = .inl (G.2 0, 60, .inl ((fun _ => nI 0))) := (o_4120 x_3891 (by omega)).trans f_4082
        have f_4150 : F_4122 x_3891 = .inl (G.2 0, 60, .inl ((fun _ => nI 0))) := (g_4124.2.2.1 x_3891 m_4083).1.trans f_4149
        have lt_4152 := (g_4124.2.2.1 x_3891 m_4083).2
        have m_4151 : x_3891 ∈ L_4121 := g_4124.1.1 x_3891 m_4083
        have f_4153 : F_4118 a_3938 = rkO nr_4000 := (o_4120 a_3938 (by omega)).trans f_4086
        have f_4154 : F_4122 a_3938 = rkO nr_4000 := (g_4124.2.2.1 a_3938 m_4087).1.trans f_4153
        have lt_4156 := (g_4124.2.2.1 a_3938 m_4087).2
        have m_4155 : a_3938 ∈ L_4121 := g_4124.1.1 a_3938 m_4087
        have f_4157 : F_4118 a_4055 = .inl (G.2 0, 7, .inl ((fun _ => nI 0))) := (o_4120 a_4055 (by omega)).trans f_4117
        have f_4158 : F_4122 a_4055 = .inl (G.2 0, 7, .inl ((fun _ => nI 0))) := (g_4124.2.2.1 a_4055 m_4116).1.trans f_4157
        have lt_4160 := (g_4124.2.2.1 a_4055 m_4116).2
        have m_4159 : a_4055 ∈ L_4121 := g_4124.1.1 a_4055 m_4116
        have lt_4162 := (g_4124.2.2.1 a_3508 m_4089).2
        have m_4161 : a_3508 ∈ L_4121 := g_4124.1.1 a_3508 m_4089
        have lt_4164 := (g_4124.2.2.1 a_3630 m_4091).2
        have m_4163 : a_3630 ∈ L_4121 := g_4124.1.1 a_3630 m_4091
        have lt_4166 := (g_4124.2.2.1 a_3705 m_4093).2
        have m_4165 : a_3705 ∈ L_4121 := g_4124.1.1 a_3705 m_4093
        have fb_4167 : sta G F_4118 n_3524 0 st0 := fb_4096.keep (fun i hi => o_4120 (n_3524 i) (by (have := gb_3537 i (by omega); have := lb_3554 i (by omega); have := lb_3583 i (by omega); have := lb_3617 i (by omega); have := lb_3653 i (by omega); have := lb_3686 i (by omega); have := lb_3729 i (by omega); have := lb_3767 i (by omega); have := lb_3816 i (by omega); have := lb_3868 i (by omega); have := lb_3913 i (by omega); have := lb_3977 i (by omega); have := lb_4026 i (by omega); have := lb_4098 i (by omega); omega)))
        have lb_4170 : ∀ i, i < 16 → n_3524 i < a_4123 := fun i h1 => (g_4124.2.2.1 ((n_3524 i)) (mb_4097 i h1)).2
        have fb_4168 : sta G F_4122 n_3524 0 st0 := fb_4167.keep (fun i hi => (g_4124.2.2.1 ((n_3524 i)) (mb_4097 i (by omega))).1)
        have mb_4169 : ∀ i, i < 16 → n_3524 i ∈ L_4121 := fun i h1 => g_4124.1.1 ((n_3524 i)) (mb_4097 i h1)
        have fb_4171 : ∀ k, k < 6 → sta G F_4118 (nn_3566 k) 0 st0 := fun k hk => (fb_4100 k hk).keep (fun i hi => o_4120 (nn_3566 k i) (by (have := gb_3592 k i hk (by omega); have := lb_3621 k i hk (by omega); have := lb_3657 k i hk (by omega); have := lb_3689 k i hk (by omega); have := lb_3733 k i hk (by omega); have := lb_3770 k i hk (by omega); have := lb_3820 k i hk (by omega); have := lb_3872 k i hk (by omega); have := lb_3916 k i hk (by omega); have := lb_3981 k i hk (by omega); have := lb_4029 k i hk (by omega); have := lb_4102 k i hk (by omega); omega)))
        have lb_4174 : ∀ k i, k < 6 → i < 16 → nn_3566 k i < a_4123 := fun k i h1 h2 => (g_4124.2.2.1 ((nn_3566 k i)) (mb_4101 k i h1 h2)).2
        have fb_4172 : ∀ k, k < 6 → sta G F_4122 (nn_3566 k) 0 st0 := fun k hk => (fb_4171 k hk).keep (fun i hi => (g_4124.2.2.1 ((nn_3566 k i)) (mb_4101 k i hk (by omega))).1)
        have mb_4173 : ∀ k i, k < 6 → i < 16 → nn_3566 k i ∈ L_4121 := fun k i h1 h2 => g_4124.1.1 ((nn_3566 k i)) (mb_4101 k i h1 h2)
        have fb_4175 : shp G F_4118 n_3668 0 5 r0 := fb_4104.keep (fun i hi => o_4120 (n_3668 i) (by (have := gb_3698 i (by omega) (by omega); have := lb_3737 i (by omega) (by omega); have := lb_3773 i (by omega) (by omega); have := lb_3824 i (by omega) (by omega); have := lb_3876 i (by omega) (by omega); have := lb_3919 i (by omega) (by omega); have := lb_3985 i (by omega) (by omega); have := lb_4032 i (by omega) (by omega); have := lb_4106 i (by omega) (by omega); omega)))
        have lb_4178 : ∀ i, 1 ≤ i → i < 16 → n_3668 i < a_4123 := fun i h1 h2 => (g_4124.2.2.1 ((n_3668 i)) (mb_4105 i h1 h2)).2
        have fb_4176 : shp G F_4122 n_3668 0 5 r0 := fb_4175.keep (fun i hi => (g_4124.2.2.1 ((n_3668 i)) (mb_4105 i (by omega) (by omega))).1)
        have mb_4177 : ∀ i, 1 ≤ i → i < 16 → n_3668 i ∈ L_4121 := fun i h1 h2 => g_4124.1.1 ((n_3668 i)) (mb_4105 i h1 h2)
        have fb_4179 : shp G F_4118 n_3748 0 5 r0 := fb_4108.keep (fun i hi => o_4120 (n_3748 i) (by (have := gb_3783 i (by omega) (by omega); have := lb_3828 i (by omega) (by omega); have := lb_3880 i (by omega) (by omega); have := lb_3922 i (by omega) (by omega); have := lb_3989 i (by omega) (by omega); have := lb_4035 i (by omega) (by omega); have := lb_4110 i (by omega) (by omega); omega)))
        have lb_4182 : ∀ i, 1 ≤ i → i < 16 → n_3748 i < a_4123 := fun i h1 h2 => (g_4124.2.2.1 ((n_3748 i)) (mb_4109 i h1 h2)).2
        have fb_4180 : shp G F_4122 n_3748 0 5 r0 := fb_4179.keep (fun i hi => (g_4124.2.2.1 ((n_3748 i)) (mb_4109 i (by omega) (by omega))).1)
        have mb_4181 : ∀ i, 1 ≤ i → i < 16 → n_3748 i ∈ L_4121 := fun i h1 h2 => g_4124.1.1 ((n_3748 i)) (mb_4109 i h1 h2)
        have fb_4183 : ∀ i, i < 14 → F_4118 (nr_4000 i) = rw7 G (fun _ => zc 0) := fun i hi => (o_4120 (nr_4000 i) (by (have := gb_4049 i hi; have := lb_4114 i hi; omega))).trans (fb_4112 i hi)
        have lb_4186 : ∀ i, i < 14 → nr_4000 i < a_4123 := fun i h1 => (g_4124.2.2.1 ((nr_4000 i)) (mb_4113 i h1)).2
        have fb_4184 : ∀ i, i < 14 → F_4122 (nr_4000 i) = rw7 G (fun _ => zc 0) := fun i hi => ((g_4124.2.2.1 ((nr_4000 i)) (mb_4113 i hi)).1).trans (fb_4183 i hi)
        have mb_4185 : ∀ i, i < 14 → nr_4000 i ∈ L_4121 := fun i h1 => g_4124.1.1 ((nr_4000 i)) (mb_4113 i h1)
        have hg_4187 := hg_4115.step g_4124.1 hw.2.2.1
        have C0 := C0.grow g_4124.1 hw.2.2.1
        have hw := hw1
        have m_4188 : a_4123 ∈ L_4121 := g_4124.2.2.2.1
        have f_4189 : F_4122 a_4123 = .inl (G.2 0, 7, .inl ((fun _ => nI 0))) := g_4124.2.1
        refine q_putF C0 hnm hw m_4127 f_4126 fw_X5_52 pw_X5_7 rfl rfl rfl rfl (Nat.le_of_ble_eq_true rfl) dX5_init_102 (fun F_4190 H locs hw f_4191 o_4192 => ?_)
        have f_4191 : F_4190 a = .inr (5, [.ref a_3508, .ref a_3543, .ref a_3598, .ref a_3789, .ref a_3837, .ref a_3938, .ref a_4055, .ref a_4123]) := f_4191
        have fb_4193 : sta G F_4190 n_3524 0 st0 := fb_4168.keep (fun i hi => o_4192 (n_3524 i) (by (have := gb_3537 i (by omega); have := lb_3554 i (by omega); have := lb_3583 i (by omega); have := lb_3617 i (by omega); have := lb_3653 i (by omega); have := lb_3686 i (by omega); have := lb_3729 i (by omega); have := lb_3767 i (by omega); have := lb_3816 i (by omega); have := lb_3868 i (by omega); have := lb_3913 i (by omega); have := lb_3977 i (by omega); have := lb_4026 i (by omega); have := lb_4098 i (by omega); have := lb_4170 i (by omega); omega)))
        have fb_4194 : ∀ k, k < 6 → sta G F_4190 (nn_3566 k) 0 st0 := fun k hk => (fb_4172 k hk).keep (fun i hi => o_4192 (nn_3566 k i) (by (have := gb_3592 k i hk (by omega); have := lb_3621 k i hk (by omega); have := lb_3657 k i hk (by omega); have := lb_3689 k i hk (by omega); have := lb_3733 k i hk (by omega); have := lb_3770 k i hk (by omega); have := lb_3820 k i hk (by omega); have := lb_3872 k i hk (by omega); have := lb_3916 k i hk (by omega); have := lb_3981 k i hk (by omega); have := lb_4029 k i hk (by omega); have := lb_4102 k i hk (by omega); have := lb_4174 k i hk (by omega); omega)))
        have fb_4195 : shp G F_4190 n_3668 0 5 r0 := fb_4176.keep (fun i hi => o_4192 (n_3668 i) (by (have := gb_3698 i (by omega) (by omega); have := lb_3737 i (by omega) (by omega); have := lb_3773 i (by omega) (by omega); have := lb_3824 i (by omega) (by omega); have := lb_3876 i (by omega) (by omega); have := lb_3919 i (by omega) (by omega); have := lb_3985 i (by omega) (by omega); have := lb_4032 i (by omega) (by omega); have := lb_4106 i (by omega) (by omega); have := lb_4178 i (by omega) (by omega); omega)))
        have fb_4196 : shp G F_4190 n_3748 0 5 r0 := fb_4180.keep (fun i hi => o_4192 (n_3748 i) (by (have := gb_3783 i (by omega) (by omega); have := lb_3828 i (by omega) (by omega); have := lb_3880 i (by omega) (by omega); have := lb_3922 i (by omega) (by omega); have := lb_3989 i (by omega) (by omega); have := lb_4035 i (by omega) (by omega); have := lb_4110 i (by omega) (by omega); have := lb_4182 i (by omega) (by omega); omega)))
        have fb_4197 : ∀ i, i < 14 → F_4190 (nr_4000 i) = rw7 G (fun _ => zc 0) := fun i hi => (o_4192 (nr_4000 i) (by (have := gb_4049 i hi; have := lb_4114 i hi; have := lb_4186 i hi; omega))).trans (fb_4184 i hi)
        have f_4198 : F_4190 a_3543 = .inr (0, [.ref x_3565, .int (nI (0))]) := (o_4192 a_3543 (by omega)).trans f_4130
        have f_4199 : F_4190 x_3565 = .inl (G.2 3, 6, .inr (.inr (.inr (.inr fa_3588)))) := (o_4192 x_3565 (by omega)).trans f_4134
        have f_4200 : F_4190 a_3598 = .inl (G.2 2, 2, .inr (.inr (.inr (.inr ((va_up ((va_up ((fun _ => none)) 0 (some a_3630))) 1 (some a_3705))))))) := (o_4192 a_3598 (by omega)).trans f_4138
        have f_4201 : F_4190 a_3789 = .inl (G.2 1, 2, .inl ((fun _ => nI 0))) := (o_4192 a_3789 (by omega)).trans f_4142
        have f_4202 : F_4190 a_3837 = .inr (4, [.ref x_3891, .int (nI (0))]) := (o_4192 a_3837 (by omega)).trans f_4146
        have f_4203 : F_4190 x_3891 = .inl (G.2 0, 60, .inl ((fun _ => nI 0))) := (o_4192 x_3891 (by omega)).trans f_4150
        have f_4204 : F_4190 a_3938 = rkO nr_4000 := (o_4192 a_3938 (by omega)).trans f_4154
        have f_4205 : F_4190 a_4055 = .inl (G.2 0, 7, .inl ((fun _ => nI 0))) := (o_4192 a_4055 (by omega)).trans f_4158
        have f_4206 : F_4190 a_4123 = .inl (G.2 0, 7, .inl ((fun _ => nI 0))) := (o_4192 a_4123 (by omega)).trans f_4189
        have hfr_4207 : ∀ q ∈ L, q ≠ a → F_4190 q = F q := by
          intro q hq hne
          have hqlt := hwS.lt hq
          exact ((((((((((((((((((((((((((o_4192 q (by omega)).trans (g_4124.2.2.1 q (hg_4115.1 q hq)).1).trans (o_4120 q (by omega))).trans (g_4056.2.2.1 q (hg_4047.1 q hq)).1).trans (o_4052 q (by omega))).trans (hf_4005 q (hg_3990.1 q hq) (by omega))).trans (g_3939.2.2.1 q (hg_3932.1 q hq)).1).trans (o_3935 q (by omega))).trans (hf_3896 q (hg_3881.1 q hq) (by omega))).trans (g_3838.2.2.1 q (hg_3829.1 q hq)).1).trans (o_3834 q (by omega))).trans (g_3790.2.2.1 q (hg_3781.1 q hq)).1).trans (o_3786 q (by omega))).trans (hf_3753 q (hg_3738.1 q hq) (by omega))).trans (g_3706.2.2.1 q (hg_3696.1 q hq)).1).trans (o_3701 q (by omega))).trans (hf_3673 q (hg_3658.1 q hq) (by omega))).trans (g_3631.2.2.1 q (hg_3622.1 q hq)).1).trans (o_3627 q (by omega))).trans (g_3599.2.2.1 q (hg_3587.1 q hq)).1).trans (o_3595 q (by omega))).trans (hf_3576 q (hg_3555.1 q hq) (by omega))).trans (g_3544.2.2.1 q (hg_3535.1 q hq)).1).trans (o_3540 q (by omega))).trans (hf_3529 q (hg_3514.1 q hq) (by omega))).trans (g_3509.2.2.1 q (hg0.1 q hq)).1)
        obtain ⟨hlfB, hlfm⟩ := lf_B (a := a) (xh := a_3543) (xs := x_3565) (x3 := a_3598) (x4 := a_3789) (xt := a_3837) (xc := x_3891) (xr := a_3938) (y0 := a_4055) (y1 := a_4123) (p0 := a_3508) (q0 := a_3630) (q1 := a_3705) (nr := nr_4000) (n0 := n_3524) (s0 := n_3668) (s1 := n_3748) (nn := nn_3566) (by omega) (fun i hi => ⟨gb_3537 i hi, lb_3554 i hi⟩) (by omega) (fun k i hk hi => ⟨gb_3592 k i hk hi, lb_3621 k i hk hi⟩) hnl_3575 ho_3573 (by omega) (fun i h1 h2 => ⟨gb_3698 i h1 h2, lb_3737 i h1 h2⟩) (fun i h1 h2 => ⟨gb_3783 i h1 h2, lb_3828 i h1 h2⟩) (by omega) (by omega) (by omega) (fun i hi => ⟨by have := gb_4049 i hi; omega, lb_4114 i hi⟩) (by omega)
        have hNj : ∀ k i j, k < 9 → i < 16 → j < 16 → (k < 7 ∨ 1 ≤ i) → (k < 7 ∨ 1 ≤ j) → i ≠ j → lfN n_3524 nn_3566 n_3668 n_3748 k i ≠ lfN n_3524 nn_3566 n_3668 n_3748 k j := by
          intro k i j hk hi hj h1 h2 hne
          unfold lfN
          by_cases k0 : k = 0
          · rw [if_pos k0, if_pos k0]; exact hj_3528 i j hi hj hne
          · rw [if_neg k0, if_neg k0]
            by_cases k7 : k < 7
            · rw [if_pos k7, if_pos k7]; exact hj_3574 (k - 1) i j (by omega) hi hj hne
            · rw [if_neg k7, if_neg k7]
              by_cases k8 : k = 7
              · rw [if_pos k8, if_pos k8]; exact hj_3672 i j (by omega) hi (by omega) hj hne
              · rw [if_neg k8, if_neg k8]; exact hj_3752 i j (by omega) hi (by omega) hj hne
        have hin := lf_inj hlfm hlfB hj_4004 hNj
        have hlo := lf_lo hlfm hlfB
        have hmem : ∀ i, i < 166 → lfA a a_3543 x_3565 a_3598 a_3789 a_3837 x_3891 a_3938 a_4055 a_4123 nr_4000 n_3524 nn_3566 n_3668 n_3748 i ∈ L_4121 := by
          intro i hi
          rcases lf_cat hi with h | ⟨r, hr9, rfl⟩ | ⟨k, r, hk, hr9, hkr, rfl⟩
          · rcases (show i = 0 ∨ i = 1 ∨ i = 2 ∨ i = 3 ∨ i = 4 ∨ i = 5 ∨ i = 6 ∨ i = 7 ∨ i = 134 ∨ i = 150 by omega) with rfl | rfl | rfl | rfl | rfl | rfl | rfl | rfl | rfl | rfl
            · exact m_4127
            · exact m_4131
            · exact m_4135
            · exact m_4139
            · exact m_4143
            · exact m_4147
            · exact m_4151
            · exact m_4155
            · exact m_4159
            · exact m_4188
          · rw [lf_r hr9]; exact mb_4185 r hr9
          · rw [lf_n hk hr9 hkr]
            unfold lfN
            by_cases k0 : k = 0
            · rw [if_pos k0]; exact mb_4169 r hr9
            · rw [if_neg k0]
              by_cases k7 : k < 7
              · rw [if_pos k7]; exact mb_4173 (k - 1) r (by omega) hr9
              · rw [if_neg k7]
                by_cases k8 : k = 7
                · rw [if_pos k8]; exact mb_4177 r (by omega) hr9
                · rw [if_neg k8]; exact mb_4181 r (by omega) hr9
        have eN : ∀ k, 1 ≤ k → k < 7 → lfN n_3524 nn_3566 n_3668 n_3748 k = nn_3566 (k - 1) := fun k h1 h2 => funext fun i => by unfold lfN; rw [if_neg (by omega), if_pos h2]
        have hxo : F_4190 a = xO (lfA a a_3543 x_3565 a_3598 a_3789 a_3837 x_3891 a_3938 a_4055 a_4123 nr_4000 n_3524 nn_3566 n_3668 n_3748) := f_4191.trans (congrArg (fun z9 => (.inr (5, [.ref z9, .ref a_3543, .ref a_3598, .ref a_3789, .ref a_3837, .ref a_3938, .ref a_4055, .ref a_4123]) : va_E)) e_3525.symm)
        have hx2 : ∀ i, i < 6 → fa_3588 i = some (lfN n_3524 nn_3566 n_3668 n_3748 (i + 1) 0) := fun i hi => by rw [hf9_3590 i hi, eN (i + 1) (by omega) (by omega), Nat.add_sub_cancel]
        have hx3 : ∀ j, j < 2 → ((va_up ((va_up ((fun _ => none)) 0 (some a_3630))) 1 (some a_3705))) j = some (lfN n_3524 nn_3566 n_3668 n_3748 (7 + j) 1) := by
          intro j hj
          match j, hj with
          | 0, _ => exact congrArg some e_3669.symm
          | 1, _ => exact congrArg some e_3749.symm
          | j + 2, h9 => exact absurd h9 (by omega)
        have hS9 : ∀ k, k < 7 → F_4190 (lfN n_3524 nn_3566 n_3668 n_3748 k 0) = stO (lfN n_3524 nn_3566 n_3668 n_3748 k 1) 500 0 0 0 := by
          intro k hk
          by_cases k0 : k = 0
          · subst k0; exact fb_4193.1
          · rw [eN k (by omega) hk]; exact (fb_4194 (k - 1) (by omega)).1
        have hN9 : ∀ k, k < 9 → shp G F_4190 (lfN n_3524 nn_3566 n_3668 n_3748 k) 0 5 r0 := by
          intro k hk
          by_cases k0 : k = 0
          · subst k0; exact fb_4193.2
          · by_cases k7 : k < 7
            · rw [eN k (by omega) k7]; exact (fb_4194 (k - 1) (by omega)).2
            · by_cases k8 : k = 7
              · subst k8; exact fb_4195
              · have k9 : k = 8 := by omega
                subst k9; exact fb_4196
        obtain ⟨F9, hw9, hX9, hf9⟩ := lf_XW (N := lfN n_3524 nn_3566 n_3668 n_3748) (ad := lfA a a_3543 x_3565 a_3598 a_3789 a_3837 x_3891 a_3938 a_4055 a_4123 nr_4000 n_3524 nn_3566 n_3668 n_3748) (nr := nr_4000) hw hin (fun k i hk hi h => lf_n hk hi h) (fun i hi => lf_r hi) hxo f_4198 ⟨_, f_4199, hx2⟩ ⟨_, f_4200, hx3⟩ f_4201 f_4202 f_4203 f_4204 fb_4197 f_4205 f_4206 hS9 hN9
        have hsz9 : ∀ i, 0 < i → i < 166 → s.heap.size ≤ lfA a a_3543 x_3565 a_3598 a_3789 a_3837 x_3891 a_3938 a_4055 a_4123 nr_4000 n_3524 nn_3566 n_3668 n_3748 i := fun i h1 h2 => Nat.le_trans (show s.heap.size ≤ a_3508 by omega) (hlo i h1 h2)
        have hw := hw9
        exact r_vN C0 hg_4187 hr hlk hw ⟨hg_4187, lfA a a_3543 x_3565 a_3598 a_3789 a_3837 x_3891 a_3938 a_4055 a_4123 nr_4000 n_3524 nn_3566 n_3668 n_3748, rfl, hX9, hmem, hsz9, hin, fun q hq hne => (hf9 q (fun i h1 h2 h3 => by have a1 := hwS.lt hq; have a2 := hsz9 i h2 h1; omega)).trans (hfr_4207 q hq hne)⟩ (Nat.le_of_ble_eq_true rfl) (Nat.le_of_ble_eq_true rfl) dX5_init_105 hQ
      · skip
        exact absurd c_38 (by omega)
