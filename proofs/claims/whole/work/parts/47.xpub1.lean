def genS (un t : Nat) (u : Nat → ZP) (st : Sta) : Sta := (st.1, st.2.1 - un * st.1, st.2.2.1 + un * st.1, st.2.2.2.1 + 1, st.2.2.2.2.1, va_up st.2.2.2.2.2 t u)
def rowS (t : Nat) (u : Nat → ZP) (st : Sta) : Sta := (st.1, st.2.1, st.2.2.1, st.2.2.2.1, st.2.2.2.2.1, va_up st.2.2.2.2.2 t u)
def cutS (c : Nat) (st : Sta) : Sta := (c, st.2.1, st.2.2.1, st.2.2.2.1, st.2.2.2.2.1, cutR c st.2.2.2.2.2)
def earnS (m : Nat) (st : Sta) : Sta := (st.1, st.2.1 + m, st.2.2.1, st.2.2.2.1, st.2.2.2.2.1, st.2.2.2.2.2)
def shpS (cu : Nat) (r : Rws) (st : Sta) : Sta := (cu, st.2.1, st.2.2.1, st.2.2.2.1, st.2.2.2.2.1, r)
abbrev rm_X5_scale : Room := { frames := 4, cells := 0, slots := 0, locals := 104 }
set_option maxHeartbeats 4000000 in
set_option maxRecDepth 100000 in
theorem c_X5_scale (l : Launch) (G : Gl) (L : List Nat) (F : Nat → va_E) (ad : Nat → Nat) (hL : ∀ i, i < 166 → ad i ∈ L) (hin : ∀ i j, i < 166 → j < 166 → i ≠ j → ad i ≠ ad j) (A : AB) (f9 t9 : Nat) (y9 : Int32) (hf9 : f9 < 6) (ht9 : t9 < 6) (hm : 1 * A.1.1 ≤ A.1.2.1) (hX : XW G F ad A) (hA : okA A) : CI l yX5_scale cX5_scale 4 (some .int) rm_X5_scale G L F [.ref (ad 0), .int (nI (f9)), .int (y9), .int (nI (t9))] (fun r F1 => r = lowR (m_scale (A.1.2.2.2.2.2 f9) (zi y9)) ∧ XW G F1 ad (aSave A (genS 1 t9 (m_scale (A.1.2.2.2.2.2 f9) (zi y9)) A.1)) ∧ ∀ q, (∀ i, (i < 166) → q ≠ ad i) → F1 q = F q) := by
  obtain ⟨fx, hn, hh, hsn, htx, hrk, ⟨u9, h134⟩, ⟨v9, h150⟩⟩ := hX
  obtain ⟨⟨hc2, hc, hpu, hok⟩, ⟨hh6, hho⟩, hso, hl60, hco⟩ := id hA
  refine CG_of (by decide) (Nat.le_of_ble_eq_true rfl) rfl ?_
  intro p e s m args below meth c Q C0 hr hlk hnm hQ hw ls hl
  have hx := C0.x
  have hb := C0.b
  refine lv_iload_n hx hb dX5_scale_0 rfl (lv_at hl 1 rfl) ?_
  refine q_callv hw (q_runS (As := [.int (nI (f9))]) (c_X5_needSlot l G L F f9 (by omega)) C0 hw sw_X5_78 rfl hl.1 rfl (Nat.le_of_ble_eq_true rfl) dX5_scale_1 ⟨by decide, by decide⟩ ⟨by decide, by decide⟩) rfl rfl (fun F_2615 H locs hw hp_2616 => ?_)
  refine lv_iload_n hx hb dX5_scale_4 rfl (lv_at hl 3 rfl) ?_
  refine q_callv hw (q_runS (As := [.int (nI (t9))]) (c_X5_needSlot l G L F_2615 t9 (by omega)) C0 hw sw_X5_78 rfl hl.1 rfl (Nat.le_of_ble_eq_true rfl) dX5_scale_5 ⟨by decide, by decide⟩ ⟨by decide, by decide⟩) rfl rfl (fun F_2617 H locs hw hp_2618 => ?_)
  refine lv_aload_n hx hb dX5_scale_8 rfl (lv_at hl 0 rfl) ?_
  refine lv_iconst (v := nI 1) hx hb dX5_scale_9 (by decide) ?_
  have f_2619 : F_2615 (ad 0) = xO ad := (hp_2616 (ad 0) ).trans fx
  have f_2620 : F_2617 (ad 0) = xO ad := (hp_2618 (ad 0) ).trans f_2619
  refine q_callv hw (q_runV (As := [.int (nI (1))]) (c_X5_needMoney l G L F_2617 ad hL hin 1 A.1 f_2620 (hn.keep (fun i0 hi => ((hp_2618 (ad (i0)) )).trans ((hp_2616 (ad (i0)) )))) (by omega) (by omega)) C0 hw vw_X5_111 ((hL 0 (by omega))) f_2620 rfl rfl rfl hl.1 rfl (Nat.le_of_ble_eq_true rfl) dX5_scale_10 ⟨by decide, by decide⟩ ⟨by decide, by decide⟩) rfl rfl (fun F_2621 H locs hw hp_2622 => ?_)
  refine lv_aload_n hx hb dX5_scale_13 rfl (lv_at hl 0 rfl) ?_
  have f_2623 : F_2621 (ad 0) = xO ad := (hp_2622 (ad 0) ).trans f_2620
  refine q_get C0 hw ((hL 0 (by omega))) f_2623 fw_X5_19 rfl dX5_scale_14 ?_
  refine lv_aload_n hx hb dX5_scale_17 rfl (lv_at hl 0 rfl) ?_
  refine q_get C0 hw ((hL 0 (by omega))) f_2623 fw_X5_12 rfl dX5_scale_18 ?_
  obtain ⟨_, _, hf_2624, _⟩ := id (hh.keep (fun i0 hi => ((hp_2622 (ad (i0)) )).trans (((hp_2618 (ad (i0)) )).trans ((hp_2616 (ad (i0)) )))))
  refine q_callv hw (q_runV (As := [.ref (ad 22)]) (c_X0_save l G L F_2621 ad hL hin A.2.1 A.1 (hh.keep (fun i0 hi => ((hp_2622 (ad (i0)) )).trans (((hp_2618 (ad (i0)) )).trans ((hp_2616 (ad (i0)) ))))) (hn.keep (fun i0 hi => ((hp_2622 (ad (i0)) )).trans (((hp_2618 (ad (i0)) )).trans ((hp_2616 (ad (i0)) )))))) C0 hw vw_X5_62 ((hL 1 (by omega))) hf_2624 rfl rfl rfl hl.1 rfl (Nat.le_of_ble_eq_true rfl) dX5_scale_21 ⟨by decide, by decide⟩ ⟨by decide, by decide⟩) rfl rfl (fun F_2625 H locs hw hp_2626 => ?_)
  refine lv_aload_n hx hb dX5_scale_24 rfl (lv_at hl 0 rfl) ?_
  refine lv_iconst (v := nI 1) hx hb dX5_scale_25 (by decide) ?_
  have f_2627 : F_2625 (ad 0) = xO ad := (hp_2626.2 (ad 0) (fun i hS => hin 0 i (by omega) (by omega) (by omega))).trans f_2623
  refine q_callv hw (q_runV (As := [.int (nI (1))]) (c_X5_pay l G L F_2625 ad hL hin 1 A.1 f_2627 (hn.keep (fun i0 hi => ((hp_2626.2 (ad (i0)) (fun i hS => hin (i0) i (by omega) (by omega) (by omega)))).trans (((hp_2622 (ad (i0)) )).trans (((hp_2618 (ad (i0)) )).trans ((hp_2616 (ad (i0)) )))))) (by omega)) C0 hw vw_X5_114 ((hL 0 (by omega))) f_2627 rfl rfl rfl hl.1 rfl (Nat.le_of_ble_eq_true rfl) dX5_scale_26 ⟨by decide, by decide⟩ ⟨by decide, by decide⟩) rfl rfl (fun F_2628 H locs hw hp_2629 => ?_)
  refine lv_aload_n hx hb dX5_scale_29 rfl (lv_at hl 0 rfl) ?_
  have f_2630 : F_2628 (ad 0) = xO ad := (hp_2629.2 (ad 0) (fun i hS => hin 0 i (by omega) (by omega) (by omega))).trans f_2627
  refine q_get C0 hw ((hL 0 (by omega))) f_2630 fw_X5_12 rfl dX5_scale_30 ?_
  refine q_get C0 hw ((hL 22 (by omega))) hp_2629.1 fw_X5_66 rfl dX5_scale_33 ?_
  have f_2631 : F_2615 (ad 23) = .inr (2, [.int (nI (A.1.1)), .ref (ad 24), .ref (ad 25)]) := (hp_2616 (ad 23) ).trans hn.2.1
  have f_2632 : F_2617 (ad 23) = .inr (2, [.int (nI (A.1.1)), .ref (ad 24), .ref (ad 25)]) := (hp_2618 (ad 23) ).trans f_2631
  have f_2633 : F_2621 (ad 23) = .inr (2, [.int (nI (A.1.1)), .ref (ad 24), .ref (ad 25)]) := (hp_2622 (ad 23) ).trans f_2632
  have f_2634 : F_2625 (ad 23) = .inr (2, [.int (nI (A.1.1)), .ref (ad 24), .ref (ad 25)]) := (hp_2626.2 (ad 23) (fun i hS => hin 23 i (by omega) (by omega) (by omega))).trans f_2633
  have f_2635 : F_2628 (ad 23) = .inr (2, [.int (nI (A.1.1)), .ref (ad 24), .ref (ad 25)]) := (hp_2629.2 (ad 23) (fun i hS => hin 23 i (by omega) (by omega) (by omega))).trans f_2634
  refine q_get C0 hw ((hL 23 (by omega))) f_2635 fw_X5_85 rfl dX5_scale_36 ?_
  refine lv_iload_n hx hb dX5_scale_39 rfl (lv_at hl 1 rfl) ?_
  have f_2636 : F_2615 (ad 24) = oE G (fun i => ad (26 + i)) := (hp_2616 (ad 24) ).trans hn.2.2.1
  have f_2637 : F_2617 (ad 24) = oE G (fun i => ad (26 + i)) := (hp_2618 (ad 24) ).trans f_2636
  have f_2638 : F_2621 (ad 24) = oE G (fun i => ad (26 + i)) := (hp_2622 (ad 24) ).trans f_2637
  have f_2639 : F_2625 (ad 24) = oE G (fun i => ad (26 + i)) := (hp_2626.2 (ad 24) (fun i hS => hin 24 i (by omega) (by omega) (by omega))).trans f_2638
  have f_2640 : F_2628 (ad 24) = oE G (fun i => ad (26 + i)) := (hp_2629.2 (ad 24) (fun i hS => hin 24 i (by omega) (by omega) (by omega))).trans f_2639
  refine q_aaldi C0 hw ((hL 24 (by omega))) f_2640 (f9) (by omega) (by decide) (b := ad (26 + f9)) rfl dX5_scale_40 ?_
  refine lv_iload_n hx hb dX5_scale_41 rfl (lv_at hl 2 rfl) ?_
  refine lv_sipush (v := nI 10007) hx hb dX5_scale_42 (by decide) ?_
  refine q_calli hw (q_runS (As := [.int (y9), .int (nI (10007))]) (c_J9_floorMod_7cf53 l G L F_2628 y9) C0 hw sw_X5_117 rfl hl.1 rfl (Nat.le_of_ble_eq_true rfl) dX5_scale_45 ⟨by decide, by decide⟩ ⟨by decide, by decide⟩) rfl rfl (fun r_2643 F_2641 H locs hw hp_2642 => ?_)
  obtain ⟨he_2644, o_2645⟩ := hp_2642
  subst he_2644
  refine lv_aload_n hx hb dX5_scale_48 rfl (lv_at hl 0 rfl) ?_
  have f_2646 : F_2641 (ad 0) = xO ad := (o_2645 (ad 0) ).trans f_2630
  refine q_get C0 hw ((hL 0 (by omega))) f_2646 fw_X5_48 rfl dX5_scale_49 ?_
  have f_2647 : F_2615 (ad (26 + f9)) = rw7 G ((A.1.2.2.2.2.2 f9)) := (hp_2616 (ad (26 + f9)) ).trans ((hn.2.2.2.2 f9 (by omega)))
  have f_2648 : F_2617 (ad (26 + f9)) = rw7 G ((A.1.2.2.2.2.2 f9)) := (hp_2618 (ad (26 + f9)) ).trans f_2647
  have f_2649 : F_2621 (ad (26 + f9)) = rw7 G ((A.1.2.2.2.2.2 f9)) := (hp_2622 (ad (26 + f9)) ).trans f_2648
  have f_2650 : F_2625 (ad (26 + f9)) = rw7 G ((A.1.2.2.2.2.2 f9)) := (hp_2626.2 (ad (26 + f9)) (fun i hS => hin (26 + f9) i (by omega) (by omega) (by omega))).trans f_2649
  have f_2651 : F_2628 (ad (26 + f9)) = rw7 G ((A.1.2.2.2.2.2 f9)) := (hp_2629.2 (ad (26 + f9)) (fun i hS => hin (26 + f9) i (by omega) (by omega) (by omega))).trans f_2650
  have f_2652 : F_2641 (ad (26 + f9)) = rw7 G ((A.1.2.2.2.2.2 f9)) := (o_2645 (ad (26 + f9)) ).trans f_2651
  have f_2653 : F_2615 (ad 134) = rw7 G u9 := (hp_2616 (ad 134) ).trans h134
  have f_2654 : F_2617 (ad 134) = rw7 G u9 := (hp_2618 (ad 134) ).trans f_2653
  have f_2655 : F_2621 (ad 134) = rw7 G u9 := (hp_2622 (ad 134) ).trans f_2654
  have f_2656 : F_2625 (ad 134) = rw7 G u9 := (hp_2626.2 (ad 134) (fun i hS => hin 134 i (by omega) (by omega) (by omega))).trans f_2655
  have f_2657 : F_2628 (ad 134) = rw7 G u9 := (hp_2629.2 (ad 134) (fun i hS => hin 134 i (by omega) (by omega) (by omega))).trans f_2656
  have f_2658 : F_2641 (ad 134) = rw7 G u9 := (o_2645 (ad 134) ).trans f_2657
  refine q_callv hw (q_runS (As := [.ref (ad (26 + f9)), .int (nI ((zi y9).val)), .ref (ad 134)]) (c_X1_scaleRow l G L F_2641 (ad (26 + f9)) (ad 134) ((A.1.2.2.2.2.2 f9)) u9 (zi y9) ((hL (26 + f9) (by omega))) f_2652 ((hL 134 (by omega))) f_2658 (hin (26 + f9) 134 (by omega) (by omega) (by omega))) C0 hw sw_X5_123 rfl hl.1 rfl (Nat.le_of_ble_eq_true rfl) dX5_scale_52 ⟨by decide, by decide⟩ ⟨by decide, by decide⟩) rfl rfl (fun F_2659 H locs hw hp_2660 => ?_)
  refine lv_aload_n hx hb dX5_scale_55 rfl (lv_at hl 0 rfl) ?_
  refine lv_aload_n hx hb dX5_scale_56 rfl (lv_at hl 0 rfl) ?_
  have f_2661 : F_2659 (ad 0) = xO ad := (hp_2660.2 (ad 0) (hin 0 134 (by omega) (by omega) (by omega))).trans f_2646
  refine q_get C0 hw ((hL 0 (by omega))) f_2661 fw_X5_12 rfl dX5_scale_57 ?_
  have f_2662 : F_2641 (ad 22) = .inr (3, [.ref (ad 23), .int (nI (A.1.2.1 - 1 * A.1.1)), .int (nI (A.1.2.2.1 + 1 * A.1.1)), .int (nI (A.1.2.2.2.1 + 1)), .int (nI (A.1.2.2.2.2.1))]) := (o_2645 (ad 22) ).trans hp_2629.1
  have f_2663 : F_2659 (ad 22) = .inr (3, [.ref (ad 23), .int (nI (A.1.2.1 - 1 * A.1.1)), .int (nI (A.1.2.2.1 + 1 * A.1.1)), .int (nI (A.1.2.2.2.1 + 1)), .int (nI (A.1.2.2.2.2.1))]) := (hp_2660.2 (ad 22) (hin 22 134 (by omega) (by omega) (by omega))).trans f_2662
  refine q_get C0 hw ((hL 22 (by omega))) f_2663 fw_X5_66 rfl dX5_scale_60 ?_
  have f_2664 : F_2641 (ad 23) = .inr (2, [.int (nI (A.1.1)), .ref (ad 24), .ref (ad 25)]) := (o_2645 (ad 23) ).trans f_2635
  have f_2665 : F_2659 (ad 23) = .inr (2, [.int (nI (A.1.1)), .ref (ad 24), .ref (ad 25)]) := (hp_2660.2 (ad 23) (hin 23 134 (by omega) (by omega) (by omega))).trans f_2664
  refine q_get C0 hw ((hL 23 (by omega))) f_2665 fw_X5_85 rfl dX5_scale_63 ?_
  refine lv_iload_n hx hb dX5_scale_66 rfl (lv_at hl 3 rfl) ?_
  have f_2666 : F_2641 (ad 24) = oE G (fun i => ad (26 + i)) := (o_2645 (ad 24) ).trans f_2640
  have f_2667 : F_2659 (ad 24) = oE G (fun i => ad (26 + i)) := (hp_2660.2 (ad 24) (hin 24 134 (by omega) (by omega) (by omega))).trans f_2666
  refine q_aaldi C0 hw ((hL 24 (by omega))) f_2667 (t9) (by omega) (by decide) (b := ad (26 + t9)) rfl dX5_scale_67 ?_
  have f_2668 : F_2615 (ad (26 + t9)) = rw7 G ((A.1.2.2.2.2.2 t9)) := (hp_2616 (ad (26 + t9)) ).trans ((hn.2.2.2.2 t9 (by omega)))
  have f_2669 : F_2617 (ad (26 + t9)) = rw7 G ((A.1.2.2.2.2.2 t9)) := (hp_2618 (ad (26 + t9)) ).trans f_2668
  have f_2670 : F_2621 (ad (26 + t9)) = rw7 G ((A.1.2.2.2.2.2 t9)) := (hp_2622 (ad (26 + t9)) ).trans f_2669
  have f_2671 : F_2625 (ad (26 + t9)) = rw7 G ((A.1.2.2.2.2.2 t9)) := (hp_2626.2 (ad (26 + t9)) (fun i hS => hin (26 + t9) i (by omega) (by omega) (by omega))).trans f_2670
  have f_2672 : F_2628 (ad (26 + t9)) = rw7 G ((A.1.2.2.2.2.2 t9)) := (hp_2629.2 (ad (26 + t9)) (fun i hS => hin (26 + t9) i (by omega) (by omega) (by omega))).trans f_2671
  have f_2673 : F_2641 (ad (26 + t9)) = rw7 G ((A.1.2.2.2.2.2 t9)) := (o_2645 (ad (26 + t9)) ).trans f_2672
  have f_2674 : F_2659 (ad (26 + t9)) = rw7 G ((A.1.2.2.2.2.2 t9)) := (hp_2660.2 (ad (26 + t9)) (hin (26 + t9) 134 (by omega) (by omega) (by omega))).trans f_2673
  refine q_calli hw (q_runV (As := [.ref (ad (26 + t9))]) (c_X5_put l G L F_2659 ad hL hin t9 ((m_scale ((A.1.2.2.2.2.2 f9)) (zi y9))) ((A.1.2.2.2.2.2 t9)) f_2661 hp_2660.1 f_2674 (by omega)) C0 hw vw_X5_127 ((hL 0 (by omega))) f_2661 rfl rfl rfl hl.1 rfl (Nat.le_of_ble_eq_true rfl) dX5_scale_68 ⟨by decide, by decide⟩ ⟨by decide, by decide⟩) rfl rfl (fun r_2677 F_2675 H locs hw hp_2676 => ?_)
  obtain ⟨he_2678, f_2679, o_2680⟩ := hp_2676
  subst he_2678
  have f_2681 : F_2675 (ad 22) = .inr (3, [.ref (ad 23), .int (nI (A.1.2.1 - 1 * A.1.1)), .int (nI (A.1.2.2.1 + 1 * A.1.1)), .int (nI (A.1.2.2.2.1 + 1)), .int (nI (A.1.2.2.2.2.1))]) := (o_2680 (ad 22) (fun i hS => hin 22 i (by omega) (by omega) (by omega))).trans f_2663
  have f_2682 : F_2675 (ad 0) = xO ad := (o_2680 (ad 0) (fun i hS => hin 0 i (by omega) (by omega) (by omega))).trans f_2661
  have f_2683 : F_2675 (ad 134) = rw7 G ((m_scale ((A.1.2.2.2.2.2 f9)) (zi y9))) := (o_2680 (ad 134) (fun i hS => hin 134 i (by omega) (by omega) (by omega))).trans hp_2660.1
  have f_2684 : F_2615 (ad 150) = rw7 G v9 := (hp_2616 (ad 150) ).trans h150
  have f_2685 : F_2617 (ad 150) = rw7 G v9 := (hp_2618 (ad 150) ).trans f_2684
  have f_2686 : F_2621 (ad 150) = rw7 G v9 := (hp_2622 (ad 150) ).trans f_2685
  have f_2687 : F_2625 (ad 150) = rw7 G v9 := (hp_2626.2 (ad 150) (fun i hS => hin 150 i (by omega) (by omega) (by omega))).trans f_2686
  have f_2688 : F_2628 (ad 150) = rw7 G v9 := (hp_2629.2 (ad 150) (fun i hS => hin 150 i (by omega) (by omega) (by omega))).trans f_2687
  have f_2689 : F_2641 (ad 150) = rw7 G v9 := (o_2645 (ad 150) ).trans f_2688
  have f_2690 : F_2659 (ad 150) = rw7 G v9 := (hp_2660.2 (ad 150) (hin 150 134 (by omega) (by omega) (by omega))).trans f_2689
  have f_2691 : F_2675 (ad 150) = rw7 G v9 := (o_2680 (ad 150) (fun i hS => hin 150 i (by omega) (by omega) (by omega))).trans f_2690
  exact r_i C0 hr hlk hw (v := (lowR ((m_scale ((A.1.2.2.2.2.2 f9)) (zi y9))))) rfl ⟨rfl, ⟨f_2682, (sta_row hn (t := t9) (u := m_scale (A.1.2.2.2.2.2 f9) (zi y9)) (st2 := (genS 1 t9 (m_scale (A.1.2.2.2.2.2 f9) (zi y9)) A.1)) (by omega) f_2681 rfl rfl f_2679 (fun i0 hi => ((o_2680 (ad (i0)) (fun i hS => hin (i0) i (by omega) (by omega) (by omega)))).trans (((hp_2660.2 (ad (i0)) (hin (i0) 134 (by omega) (by omega) (by omega)))).trans (((o_2645 (ad (i0)) )).trans (((hp_2629.2 (ad (i0)) (fun i hS => hin (i0) i (by omega) (by omega) (by omega)))).trans (((hp_2626.2 (ad (i0)) (fun i hS => hin (i0) i (by omega) (by omega) (by omega)))).trans (((hp_2622 (ad (i0)) )).trans (((hp_2618 (ad (i0)) )).trans ((hp_2616 (ad (i0)) )))))))))), (hp_2626.1.keep (fun i0 hi => ((o_2680 (ad (i0)) (fun i hS => hin (i0) i (by omega) (by omega) (by omega)))).trans (((hp_2660.2 (ad (i0)) (hin (i0) 134 (by omega) (by omega) (by omega)))).trans (((o_2645 (ad (i0)) )).trans ((hp_2629.2 (ad (i0)) (fun i hS => hin (i0) i (by omega) (by omega) (by omega)))))))), (hsn.keep (fun i0 hi => ((o_2680 (ad (i0)) (fun i hS => hin (i0) i (by omega) (by omega) (by omega)))).trans (((hp_2660.2 (ad (i0)) (hin (i0) 134 (by omega) (by omega) (by omega)))).trans (((o_2645 (ad (i0)) )).trans (((hp_2629.2 (ad (i0)) (fun i hS => hin (i0) i (by omega) (by omega) (by omega)))).trans (((hp_2626.2 (ad (i0)) (fun i hS => hin (i0) i (by omega) (by omega) (by omega)))).trans (((hp_2622 (ad (i0)) )).trans (((hp_2618 (ad (i0)) )).trans ((hp_2616 (ad (i0)) )))))))))), (htx.keep (fun i0 hi => ((o_2680 (ad (i0)) (fun i hS => hin (i0) i (by omega) (by omega) (by omega)))).trans (((hp_2660.2 (ad (i0)) (hin (i0) 134 (by omega) (by omega) (by omega)))).trans (((o_2645 (ad (i0)) )).trans (((hp_2629.2 (ad (i0)) (fun i hS => hin (i0) i (by omega) (by omega) (by omega)))).trans (((hp_2626.2 (ad (i0)) (fun i hS => hin (i0) i (by omega) (by omega) (by omega)))).trans (((hp_2622 (ad (i0)) )).trans (((hp_2618 (ad (i0)) )).trans ((hp_2616 (ad (i0)) )))))))))), (hrk.keep (fun i0 hi => ((o_2680 (ad (i0)) (fun i hS => hin (i0) i (by omega) (by omega) (by omega)))).trans (((hp_2660.2 (ad (i0)) (hin (i0) 134 (by omega) (by omega) (by omega)))).trans (((o_2645 (ad (i0)) )).trans (((hp_2629.2 (ad (i0)) (fun i hS => hin (i0) i (by omega) (by omega) (by omega)))).trans (((hp_2626.2 (ad (i0)) (fun i hS => hin (i0) i (by omega) (by omega) (by omega)))).trans (((hp_2622 (ad (i0)) )).trans (((hp_2618 (ad (i0)) )).trans ((hp_2616 (ad (i0)) )))))))))), ⟨_, f_2683⟩, ⟨_, f_2691⟩⟩, (fun q hq => ((o_2680 q (fun i hS => hq i (by omega))).trans ((hp_2660.2 q (hq 134 (by omega))).trans ((o_2645 q ).trans ((hp_2629.2 q (fun i hS => hq i (by omega))).trans ((hp_2626.2 q (fun i hS => hq i (by omega))).trans ((hp_2622 q ).trans ((hp_2618 q ).trans (hp_2616 q )))))))))⟩ (Nat.le_refl _) (Nat.le_refl _) dX5_scale_71 hQ
abbrev rm_X5_repeat : Room := { frames := 5, cells := 0, slots := 0, locals := 123 }
set_option maxHeartbeats 4000000 in
set_option maxRecDepth 100000 in
theorem c_X5_repeat (l : Launch) (G : Gl) (L : List Nat) (F : Nat → va_E) (ad : Nat → Nat) (hL : ∀ i, i < 166 → ad i ∈ L) (hin : ∀ i j, i < 166 → j < 166 → i ≠ j → ad i ≠ ad j) (A : AB) (f9 t9 : Nat) (z9 : ZP) (hf9 : f9 < 6) (ht9 : t9 < 6) (hm : 8 * A.1.1 ≤ A.1.2.1) (hX : XW G F ad A) (hA : okA A) : CI l yX5_repeat cX5_repeat 4 (some .int) rm_X5_repeat G L F [.ref (ad 0), .int (nI (f9)), .int (nI (z9.val)), .int (nI (t9))] (fun r F1 => r = lowR (m_rep (A.1.2.2.2.2.2 (6 + f9)) z9 A.1.1) ∧ XW G F1 ad (aSave A (genS 8 (6 + t9) (m_rep (A.1.2.2.2.2.2 (6 + f9)) z9 A.1.1) A.1)) ∧ ∀ q, (∀ i, (i < 166) → q ≠ ad i) → F1 q = F q) := by
  obtain ⟨fx, hn, hh, hsn, htx, hrk, ⟨u9, h134⟩, ⟨v9, h150⟩⟩ := hX
  obtain ⟨⟨hc2, hc, hpu, hok⟩, ⟨hh6, hho⟩, hso, hl60, hco⟩ := id hA
  obtain ⟨s_13, hs_13⟩ := hrk.2 13 (by decide)
  obtain ⟨s_12, hs_12⟩ := hrk.2 12 (by decide)
  obtain ⟨s_11, hs_11⟩ := hrk.2 11 (by decide)
  obtain ⟨s_10, hs_10⟩ := hrk.2 10 (by decide)
  obtain ⟨s_9, hs_9⟩ := hrk.2 9 (by decide)
  obtain ⟨s_8, hs_8⟩ := hrk.2 8 (by decide)
  obtain ⟨s_7, hs_7⟩ := hrk.2 7 (by decide)
  obtain ⟨s_6, hs_6⟩ := hrk.2 6 (by decide)
  obtain ⟨s_5, hs_5⟩ := hrk.2 5 (by decide)
  obtain ⟨s_4, hs_4⟩ := hrk.2 4 (by decide)
  obtain ⟨s_3, hs_3⟩ := hrk.2 3 (by decide)
  obtain ⟨s_2, hs_2⟩ := hrk.2 2 (by decide)
  obtain ⟨s_1, hs_1⟩ := hrk.2 1 (by decide)
  obtain ⟨s_0, hs_0⟩ := hrk.2 0 (by decide)
  refine CG_of (by decide) (Nat.le_of_ble_eq_true rfl) rfl ?_
  intro p e s m args below meth c Q C0 hr hlk hnm hQ hw ls hl
  have hx := C0.x
  have hb := C0.b
  refine lv_aload_n hx hb dX5_repeat_0 rfl (lv_at hl 0 rfl) ?_
  refine lv_bipush (v := nI 8) hx hb dX5_repeat_1 (by decide) ?_
  refine q_callv hw (q_runV (As := [.int (nI (8))]) (c_X5_needMoney l G L F ad hL hin 8 A.1 fx hn (by omega) (by omega)) C0 hw vw_X5_111 ((hL 0 (by omega))) fx rfl rfl rfl hl.1 rfl (Nat.le_of_ble_eq_true rfl) dX5_repeat_3 ⟨by decide, by decide⟩ ⟨by decide, by decide⟩) rfl rfl (fun F_2692 H locs hw hp_2693 => ?_)
  refine lv_aload_n hx hb dX5_repeat_6 rfl (lv_at hl 0 rfl) ?_
  have f_2694 : F_2692 (ad 0) = xO ad := (hp_2693 (ad 0) ).trans fx
  refine q_get C0 hw ((hL 0 (by omega))) f_2694 fw_X5_19 rfl dX5_repeat_7 ?_
  refine lv_aload_n hx hb dX5_repeat_10 rfl (lv_at hl 0 rfl) ?_
  refine q_get C0 hw ((hL 0 (by omega))) f_2694 fw_X5_12 rfl dX5_repeat_11 ?_
  obtain ⟨_, _, hf_2695, _⟩ := id (hh.keep (fun i0 hi => (hp_2693 (ad (i0)) )))
  refine q_callv hw (q_runV (As := [.ref (ad 22)]) (c_X0_save l G L F_2692 ad hL hin A.2.1 A.1 (hh.keep (fun i0 hi => (hp_2693 (ad (i0)) ))) (hn.keep (fun i0 hi => (hp_2693 (ad (i0)) )))) C0 hw vw_X5_62 ((hL 1 (by omega))) hf_2695 rfl rfl rfl hl.1 rfl (Nat.le_of_ble_eq_true rfl) dX5_repeat_14 ⟨by decide, by decide⟩ ⟨by decide, by decide⟩) rfl rfl (fun F_2696 H locs hw hp_2697 => ?_)
  refine lv_aload_n hx hb dX5_repeat_17 rfl (lv_at hl 0 rfl) ?_
  refine lv_bipush (v := nI 8) hx hb dX5_repeat_18 (by decide) ?_
  have f_2698 : F_2696 (ad 0) = xO ad := (hp_2697.2 (ad 0) (fun i hS => hin 0 i (by omega) (by omega) (by omega))).trans f_2694
  refine q_callv hw (q_runV (As := [.int (nI (8))]) (c_X5_pay l G L F_2696 ad hL hin 8 A.1 f_2698 (hn.keep (fun i0 hi => ((hp_2697.2 (ad (i0)) (fun i hS => hin (i0) i (by omega) (by omega) (by omega)))).trans ((hp_2693 (ad (i0)) )))) (by omega)) C0 hw vw_X5_114 ((hL 0 (by omega))) f_2698 rfl rfl rfl hl.1 rfl (Nat.le_of_ble_eq_true rfl) dX5_repeat_20 ⟨by decide, by decide⟩ ⟨by decide, by decide⟩) rfl rfl (fun F_2699 H locs hw hp_2700 => ?_)
  refine lv_aload_n hx hb dX5_repeat_23 rfl (lv_at hl 0 rfl) ?_
  have f_2701 : F_2699 (ad 0) = xO ad := (hp_2700.2 (ad 0) (fun i hS => hin 0 i (by omega) (by omega) (by omega))).trans f_2698
  refine q_get C0 hw ((hL 0 (by omega))) f_2701 fw_X5_44 rfl dX5_repeat_24 ?_
  refine lv_aload_n hx hb dX5_repeat_27 rfl (lv_at hl 0 rfl) ?_
  refine q_get C0 hw ((hL 0 (by omega))) f_2701 fw_X5_12 rfl dX5_repeat_28 ?_
  refine q_get C0 hw ((hL 22 (by omega))) hp_2700.1 fw_X5_66 rfl dX5_repeat_31 ?_
  have f_2702 : F_2692 (ad 23) = .inr (2, [.int (nI (A.1.1)), .ref (ad 24), .ref (ad 25)]) := (hp_2693 (ad 23) ).trans hn.2.1
  have f_2703 : F_2696 (ad 23) = .inr (2, [.int (nI (A.1.1)), .ref (ad 24), .ref (ad 25)]) := (hp_2697.2 (ad 23) (fun i hS => hin 23 i (by omega) (by omega) (by omega))).trans f_2702
  have f_2704 : F_2699 (ad 23) = .inr (2, [.int (nI (A.1.1)), .ref (ad 24), .ref (ad 25)]) := (hp_2700.2 (ad 23) (fun i hS => hin 23 i (by omega) (by omega) (by omega))).trans f_2703
  refine q_get C0 hw ((hL 23 (by omega))) f_2704 fw_X5_93 rfl dX5_repeat_34 ?_
  refine lv_iload_n hx hb dX5_repeat_37 rfl (lv_at hl 1 rfl) ?_
  have f_2705 : F_2692 (ad 25) = oE G (fun i => ad (32 + i)) := (hp_2693 (ad 25) ).trans hn.2.2.2.1
  have f_2706 : F_2696 (ad 25) = oE G (fun i => ad (32 + i)) := (hp_2697.2 (ad 25) (fun i hS => hin 25 i (by omega) (by omega) (by omega))).trans f_2705
  have f_2707 : F_2699 (ad 25) = oE G (fun i => ad (32 + i)) := (hp_2700.2 (ad 25) (fun i hS => hin 25 i (by omega) (by omega) (by omega))).trans f_2706
  refine q_aaldi C0 hw ((hL 25 (by omega))) f_2707 (f9) (by omega) (by decide) (b := ad (32 + f9)) rfl dX5_repeat_38 ?_
  refine lv_iload_n hx hb dX5_repeat_39 rfl (lv_at hl 2 rfl) ?_
  refine lv_aload_n hx hb dX5_repeat_40 rfl (lv_at hl 0 rfl) ?_
  refine q_get C0 hw ((hL 0 (by omega))) f_2701 fw_X5_12 rfl dX5_repeat_41 ?_
  refine q_get C0 hw ((hL 22 (by omega))) hp_2700.1 fw_X5_66 rfl dX5_repeat_44 ?_
  refine q_get C0 hw ((hL 23 (by omega))) f_2704 fw_X5_70 rfl dX5_repeat_47 ?_
  refine lv_aload_n hx hb dX5_repeat_50 rfl (lv_at hl 0 rfl) ?_
  refine q_get C0 hw ((hL 0 (by omega))) f_2701 fw_X5_48 rfl dX5_repeat_51 ?_
  have f_2708 : F_2692 (ad (32 + f9)) = rw7 G ((A.1.2.2.2.2.2 (6 + f9))) := (hp_2693 (ad (32 + f9)) ).trans ((show F (ad (32 + f9)) = _ from by have h9 := hn.2.2.2.2 (6 + f9) (by omega); rwa [show 22 + 4 + (6 + f9) = 32 + f9 by omega] at h9))
  have f_2709 : F_2696 (ad (32 + f9)) = rw7 G ((A.1.2.2.2.2.2 (6 + f9))) := (hp_2697.2 (ad (32 + f9)) (fun i hS => hin (32 + f9) i (by omega) (by omega) (by omega))).trans f_2708
  have f_2710 : F_2699 (ad (32 + f9)) = rw7 G ((A.1.2.2.2.2.2 (6 + f9))) := (hp_2700.2 (ad (32 + f9)) (fun i hS => hin (32 + f9) i (by omega) (by omega) (by omega))).trans f_2709
  have f_2711 : F_2692 (ad 134) = rw7 G u9 := (hp_2693 (ad 134) ).trans h134
  have f_2712 : F_2696 (ad 134) = rw7 G u9 := (hp_2697.2 (ad 134) (fun i hS => hin 134 i (by omega) (by omega) (by omega))).trans f_2711
  have f_2713 : F_2699 (ad 134) = rw7 G u9 := (hp_2700.2 (ad 134) (fun i hS => hin 134 i (by omega) (by omega) (by omega))).trans f_2712
  have f_2714 : F_2692 (ad 15) = rw7 G s_7 := (hp_2693 (ad 15) ).trans hs_7
  have f_2715 : F_2696 (ad 15) = rw7 G s_7 := (hp_2697.2 (ad 15) (fun i hS => hin 15 i (by omega) (by omega) (by omega))).trans f_2714
  have f_2716 : F_2699 (ad 15) = rw7 G s_7 := (hp_2700.2 (ad 15) (fun i hS => hin 15 i (by omega) (by omega) (by omega))).trans f_2715
  have f_2717 : F_2692 (ad 12) = rw7 G s_4 := (hp_2693 (ad 12) ).trans hs_4
  have f_2718 : F_2696 (ad 12) = rw7 G s_4 := (hp_2697.2 (ad 12) (fun i hS => hin 12 i (by omega) (by omega) (by omega))).trans f_2717
  have f_2719 : F_2699 (ad 12) = rw7 G s_4 := (hp_2700.2 (ad 12) (fun i hS => hin 12 i (by omega) (by omega) (by omega))).trans f_2718
  have f_2720 : F_2692 (ad 9) = rw7 G s_1 := (hp_2693 (ad 9) ).trans hs_1
  have f_2721 : F_2696 (ad 9) = rw7 G s_1 := (hp_2697.2 (ad 9) (fun i hS => hin 9 i (by omega) (by omega) (by omega))).trans f_2720
  have f_2722 : F_2699 (ad 9) = rw7 G s_1 := (hp_2700.2 (ad 9) (fun i hS => hin 9 i (by omega) (by omega) (by omega))).trans f_2721
  have f_2723 : F_2692 (ad 10) = rw7 G s_2 := (hp_2693 (ad 10) ).trans hs_2
  have f_2724 : F_2696 (ad 10) = rw7 G s_2 := (hp_2697.2 (ad 10) (fun i hS => hin 10 i (by omega) (by omega) (by omega))).trans f_2723
  have f_2725 : F_2699 (ad 10) = rw7 G s_2 := (hp_2700.2 (ad 10) (fun i hS => hin 10 i (by omega) (by omega) (by omega))).trans f_2724
  have f_2726 : F_2692 (ad 7) = rkO (fun i => ad (8 + i)) := (hp_2693 (ad 7) ).trans hrk.1
  have f_2727 : F_2696 (ad 7) = rkO (fun i => ad (8 + i)) := (hp_2697.2 (ad 7) (fun i hS => hin 7 i (by omega) (by omega) (by omega))).trans f_2726
  have f_2728 : F_2699 (ad 7) = rkO (fun i => ad (8 + i)) := (hp_2700.2 (ad 7) (fun i hS => hin 7 i (by omega) (by omega) (by omega))).trans f_2727
  refine q_callv hw (q_runV (As := [.ref (ad (32 + f9)), .int (nI (z9.val)), .int (nI (A.1.1)), .ref (ad 134)]) (c_X1_repeatFlow l G L F_2699 (ad 7) (fun i => ad (8 + i)) (ad (32 + f9)) (ad 134) (A.1.1) ((A.1.2.2.2.2.2 (6 + f9))) u9 s_7 s_4 s_1 s_2 z9 ((hL 7 (by omega))) f_2728 (fun i hi => hL (8 + i) (by omega)) (ra_inj hin) ((hL (32 + f9) (by omega))) f_2710 ((hL 134 (by omega))) f_2713 f_2716 f_2719 f_2722 f_2725 (hin (32 + f9) 134 (by omega) (by omega) (by omega)) (hin (32 + f9) 15 (by omega) (by omega) (by omega)) (hin 134 15 (by omega) (by omega) (by omega)) (hin (32 + f9) 12 (by omega) (by omega) (by omega)) (hin 134 12 (by omega) (by omega) (by omega)) (hin (32 + f9) 9 (by omega) (by omega) (by omega)) (hin 134 9 (by omega) (by omega) (by omega)) (hin (32 + f9) 10 (by omega) (by omega) (by omega)) (hin 134 10 (by omega) (by omega) (by omega)) (by omega) (by omega) ) C0 hw vw_X5_295 ((hL 7 (by omega))) f_2728 rfl rfl rfl hl.1 rfl (Nat.le_of_ble_eq_true rfl) dX5_repeat_54 ⟨by decide, by decide⟩ ⟨by decide, by decide⟩) rfl rfl (fun F_2729 H locs hw hp_2730 => ?_)
  obtain ⟨f_2731, ⟨t_2736, f_2732⟩, ⟨t_2737, f_2733⟩, ⟨t_2738, f_2734⟩, ⟨t_2739, f_2735⟩, o_2740⟩ := hp_2730
  refine lv_aload_n hx hb dX5_repeat_57 rfl (lv_at hl 0 rfl) ?_
  refine lv_aload_n hx hb dX5_repeat_58 rfl (lv_at hl 0 rfl) ?_
  have f_2741 : F_2729 (ad 0) = xO ad := (o_2740 (ad 0) (hin 0 134 (by omega) (by omega) (by omega)) (hin 0 15 (by omega) (by omega) (by omega)) (hin 0 12 (by omega) (by omega) (by omega)) (hin 0 9 (by omega) (by omega) (by omega)) (hin 0 10 (by omega) (by omega) (by omega))).trans f_2701
  refine q_get C0 hw ((hL 0 (by omega))) f_2741 fw_X5_12 rfl dX5_repeat_59 ?_
  have f_2742 : F_2729 (ad 22) = .inr (3, [.ref (ad 23), .int (nI (A.1.2.1 - 8 * A.1.1)), .int (nI (A.1.2.2.1 + 8 * A.1.1)), .int (nI (A.1.2.2.2.1 + 1)), .int (nI (A.1.2.2.2.2.1))]) := (o_2740 (ad 22) (hin 22 134 (by omega) (by omega) (by omega)) (hin 22 15 (by omega) (by omega) (by omega)) (hin 22 12 (by omega) (by omega) (by omega)) (hin 22 9 (by omega) (by omega) (by omega)) (hin 22 10 (by omega) (by omega) (by omega))).trans hp_2700.1
  refine q_get C0 hw ((hL 22 (by omega))) f_2742 fw_X5_66 rfl dX5_repeat_62 ?_
  have f_2743 : F_2729 (ad 23) = .inr (2, [.int (nI (A.1.1)), .ref (ad 24), .ref (ad 25)]) := (o_2740 (ad 23) (hin 23 134 (by omega) (by omega) (by omega)) (hin 23 15 (by omega) (by omega) (by omega)) (hin 23 12 (by omega) (by omega) (by omega)) (hin 23 9 (by omega) (by omega) (by omega)) (hin 23 10 (by omega) (by omega) (by omega))).trans f_2704
  refine q_get C0 hw ((hL 23 (by omega))) f_2743 fw_X5_93 rfl dX5_repeat_65 ?_
  refine lv_iload_n hx hb dX5_repeat_68 rfl (lv_at hl 3 rfl) ?_
  have f_2744 : F_2729 (ad 25) = oE G (fun i => ad (32 + i)) := (o_2740 (ad 25) (hin 25 134 (by omega) (by omega) (by omega)) (hin 25 15 (by omega) (by omega) (by omega)) (hin 25 12 (by omega) (by omega) (by omega)) (hin 25 9 (by omega) (by omega) (by omega)) (hin 25 10 (by omega) (by omega) (by omega))).trans f_2707
  refine q_aaldi C0 hw ((hL 25 (by omega))) f_2744 (t9) (by omega) (by decide) (b := ad (32 + t9)) rfl dX5_repeat_69 ?_
  refine n_top (show Value.ref (ad (32 + t9)) = Value.ref (ad (26 + (6 + t9))) by rw [show 32 + t9 = 26 + (6 + t9) by omega]) ?_
  have f_2745 : F_2692 (ad (26 + (6 + t9))) = rw7 G ((A.1.2.2.2.2.2 (6 + t9))) := (hp_2693 (ad (26 + (6 + t9))) ).trans ((hn.2.2.2.2 (6 + t9) (by omega)))
  have f_2746 : F_2696 (ad (26 + (6 + t9))) = rw7 G ((A.1.2.2.2.2.2 (6 + t9))) := (hp_2697.2 (ad (26 + (6 + t9))) (fun i hS => hin ((26 + (6 + t9))) i (by omega) (by omega) (by omega))).trans f_2745
  have f_2747 : F_2699 (ad (26 + (6 + t9))) = rw7 G ((A.1.2.2.2.2.2 (6 + t9))) := (hp_2700.2 (ad (26 + (6 + t9))) (fun i hS => hin ((26 + (6 + t9))) i (by omega) (by omega) (by omega))).trans f_2746
  have f_2748 : F_2729 (ad (26 + (6 + t9))) = rw7 G ((A.1.2.2.2.2.2 (6 + t9))) := (o_2740 (ad (26 + (6 + t9))) (hin ((26 + (6 + t9))) 134 (by omega) (by omega) (by omega)) (hin ((26 + (6 + t9))) 15 (by omega) (by omega) (by omega)) (hin ((26 + (6 + t9))) 12 (by omega) (by omega) (by omega)) (hin ((26 + (6 + t9))) 9 (by omega) (by omega) (by omega)) (hin ((26 + (6 + t9))) 10 (by omega) (by omega) (by omega))).trans f_2747
  refine q_calli hw (q_runV (As := [.ref (ad (26 + (6 + t9)))]) (c_X5_put l G L F_2729 ad hL hin (6 + t9) ((m_rep ((A.1.2.2.2.2.2 (6 + f9))) z9 (A.1.1))) ((A.1.2.2.2.2.2 (6 + t9))) f_2741 f_2731 f_2748 (by omega)) C0 hw vw_X5_127 ((hL 0 (by omega))) f_2741 rfl rfl rfl hl.1 rfl (Nat.le_of_ble_eq_true rfl) dX5_repeat_70 ⟨by decide, by decide⟩ ⟨by decide, by decide⟩) rfl rfl (fun r_2751 F_2749 H locs hw hp_2750 => ?_)
  obtain ⟨he_2752, f_2753, o_2754⟩ := hp_2750
  subst he_2752
  have f_2755 : F_2749 (ad 22) = .inr (3, [.ref (ad 23), .int (nI (A.1.2.1 - 8 * A.1.1)), .int (nI (A.1.2.2.1 + 8 * A.1.1)), .int (nI (A.1.2.2.2.1 + 1)), .int (nI (A.1.2.2.2.2.1))]) := (o_2754 (ad 22) (fun i hS => hin 22 i (by omega) (by omega) (by omega))).trans f_2742
  have f_2756 : F_2729 (ad 7) = rkO (fun i => ad (8 + i)) := (o_2740 (ad 7) (hin 7 134 (by omega) (by omega) (by omega)) (hin 7 15 (by omega) (by omega) (by omega)) (hin 7 12 (by omega) (by omega) (by omega)) (hin 7 9 (by omega) (by omega) (by omega)) (hin 7 10 (by omega) (by omega) (by omega))).trans f_2728
  have f_2757 : F_2749 (ad 7) = rkO (fun i => ad (8 + i)) := (o_2754 (ad 7) (fun i hS => hin 7 i (by omega) (by omega) (by omega))).trans f_2756
  have f_2758 : F_2692 (ad 8) = rw7 G s_0 := (hp_2693 (ad 8) ).trans hs_0
  have f_2759 : F_2696 (ad 8) = rw7 G s_0 := (hp_2697.2 (ad 8) (fun i hS => hin 8 i (by omega) (by omega) (by omega))).trans f_2758
  have f_2760 : F_2699 (ad 8) = rw7 G s_0 := (hp_2700.2 (ad 8) (fun i hS => hin 8 i (by omega) (by omega) (by omega))).trans f_2759
  have f_2761 : F_2729 (ad 8) = rw7 G s_0 := (o_2740 (ad 8) (hin 8 134 (by omega) (by omega) (by omega)) (hin 8 15 (by omega) (by omega) (by omega)) (hin 8 12 (by omega) (by omega) (by omega)) (hin 8 9 (by omega) (by omega) (by omega)) (hin 8 10 (by omega) (by omega) (by omega))).trans f_2760
  have f_2762 : F_2749 (ad 8) = rw7 G s_0 := (o_2754 (ad 8) (fun i hS => hin 8 i (by omega) (by omega) (by omega))).trans f_2761
  have f_2763 : F_2749 (ad 9) = rw7 G t_2738 := (o_2754 (ad 9) (fun i hS => hin 9 i (by omega) (by omega) (by omega))).trans f_2734
  have f_2764 : F_2749 (ad 10) = rw7 G t_2739 := (o_2754 (ad 10) (fun i hS => hin 10 i (by omega) (by omega) (by omega))).trans f_2735
  have f_2765 : F_2692 (ad 11) = rw7 G s_3 := (hp_2693 (ad 11) ).trans hs_3
  have f_2766 : F_2696 (ad 11) = rw7 G s_3 := (hp_2697.2 (ad 11) (fun i hS => hin 11 i (by omega) (by omega) (by omega))).trans f_2765
  have f_2767 : F_2699 (ad 11) = rw7 G s_3 := (hp_2700.2 (ad 11) (fun i hS => hin 11 i (by omega) (by omega) (by omega))).trans f_2766
  have f_2768 : F_2729 (ad 11) = rw7 G s_3 := (o_2740 (ad 11) (hin 11 134 (by omega) (by omega) (by omega)) (hin 11 15 (by omega) (by omega) (by omega)) (hin 11 12 (by omega) (by omega) (by omega)) (hin 11 9 (by omega) (by omega) (by omega)) (hin 11 10 (by omega) (by omega) (by omega))).trans f_2767
  have f_2769 : F_2749 (ad 11) = rw7 G s_3 := (o_2754 (ad 11) (fun i hS => hin 11 i (by omega) (by omega) (by omega))).trans f_2768
  have f_2770 : F_2749 (ad 12) = rw7 G t_2737 := (o_2754 (ad 12) (fun i hS => hin 12 i (by omega) (by omega) (by omega))).trans f_2733
  have f_2771 : F_2692 (ad 13) = rw7 G s_5 := (hp_2693 (ad 13) ).trans hs_5
  have f_2772 : F_2696 (ad 13) = rw7 G s_5 := (hp_2697.2 (ad 13) (fun i hS => hin 13 i (by omega) (by omega) (by omega))).trans f_2771
  have f_2773 : F_2699 (ad 13) = rw7 G s_5 := (hp_2700.2 (ad 13) (fun i hS => hin 13 i (by omega) (by omega) (by omega))).trans f_2772
  have f_2774 : F_2729 (ad 13) = rw7 G s_5 := (o_2740 (ad 13) (hin 13 134 (by omega) (by omega) (by omega)) (hin 13 15 (by omega) (by omega) (by omega)) (hin 13 12 (by omega) (by omega) (by omega)) (hin 13 9 (by omega) (by omega) (by omega)) (hin 13 10 (by omega) (by omega) (by omega))).trans f_2773
  have f_2775 : F_2749 (ad 13) = rw7 G s_5 := (o_2754 (ad 13) (fun i hS => hin 13 i (by omega) (by omega) (by omega))).trans f_2774
  have f_2776 : F_2692 (ad 14) = rw7 G s_6 := (hp_2693 (ad 14) ).trans hs_6
  have f_2777 : F_2696 (ad 14) = rw7 G s_6 := (hp_2697.2 (ad 14) (fun i hS => hin 14 i (by omega) (by omega) (by omega))).trans f_2776
  have f_2778 : F_2699 (ad 14) = rw7 G s_6 := (hp_2700.2 (ad 14) (fun i hS => hin 14 i (by omega) (by omega) (by omega))).trans f_2777
  have f_2779 : F_2729 (ad 14) = rw7 G s_6 := (o_2740 (ad 14) (hin 14 134 (by omega) (by omega) (by omega)) (hin 14 15 (by omega) (by omega) (by omega)) (hin 14 12 (by omega) (by omega) (by omega)) (hin 14 9 (by omega) (by omega) (by omega)) (hin 14 10 (by omega) (by omega) (by omega))).trans f_2778
  have f_2780 : F_2749 (ad 14) = rw7 G s_6 := (o_2754 (ad 14) (fun i hS => hin 14 i (by omega) (by omega) (by omega))).trans f_2779
  have f_2781 : F_2749 (ad 15) = rw7 G t_2736 := (o_2754 (ad 15) (fun i hS => hin 15 i (by omega) (by omega) (by omega))).trans f_2732
  have f_2782 : F_2692 (ad 16) = rw7 G s_8 := (hp_2693 (ad 16) ).trans hs_8
  have f_2783 : F_2696 (ad 16) = rw7 G s_8 := (hp_2697.2 (ad 16) (fun i hS => hin 16 i (by omega) (by omega) (by omega))).trans f_2782
  have f_2784 : F_2699 (ad 16) = rw7 G s_8 := (hp_2700.2 (ad 16) (fun i hS => hin 16 i (by omega) (by omega) (by omega))).trans f_2783
  have f_2785 : F_2729 (ad 16) = rw7 G s_8 := (o_2740 (ad 16) (hin 16 134 (by omega) (by omega) (by omega)) (hin 16 15 (by omega) (by omega) (by omega)) (hin 16 12 (by omega) (by omega) (by omega)) (hin 16 9 (by omega) (by omega) (by omega)) (hin 16 10 (by omega) (by omega) (by omega))).trans f_2784
  have f_2786 : F_2749 (ad 16) = rw7 G s_8 := (o_2754 (ad 16) (fun i hS => hin 16 i (by omega) (by omega) (by omega))).trans f_2785
  have f_2787 : F_2692 (ad 17) = rw7 G s_9 := (hp_2693 (ad 17) ).trans hs_9
  have f_2788 : F_2696 (ad 17) = rw7 G s_9 := (hp_2697.2 (ad 17) (fun i hS => hin 17 i (by omega) (by omega) (by omega))).trans f_2787
  have f_2789 : F_2699 (ad 17) = rw7 G s_9 := (hp_2700.2 (ad 17) (fun i hS => hin 17 i (by omega) (by omega) (by omega))).trans f_2788
  have f_2790 : F_2729 (ad 17) = rw7 G s_9 := (o_2740 (ad 17) (hin 17 134 (by omega) (by omega) (by omega)) (hin 17 15 (by omega) (by omega) (by omega)) (hin 17 12 (by omega) (by omega) (by omega)) (hin 17 9 (by omega) (by omega) (by omega)) (hin 17 10 (by omega) (by omega) (by omega))).trans f_2789
  have f_2791 : F_2749 (ad 17) = rw7 G s_9 := (o_2754 (ad 17) (fun i hS => hin 17 i (by omega) (by omega) (by omega))).trans f_2790
  have f_2792 : F_2692 (ad 18) = rw7 G s_10 := (hp_2693 (ad 18) ).trans hs_10
  have f_2793 : F_2696 (ad 18) = rw7 G s_10 := (hp_2697.2 (ad 18) (fun i hS => hin 18 i (by omega) (by omega) (by omega))).trans f_2792
  have f_2794 : F_2699 (ad 18) = rw7 G s_10 := (hp_2700.2 (ad 18) (fun i hS => hin 18 i (by omega) (by omega) (by omega))).trans f_2793
  have f_2795 : F_2729 (ad 18) = rw7 G s_10 := (o_2740 (ad 18) (hin 18 134 (by omega) (by omega) (by omega)) (hin 18 15 (by omega) (by omega) (by omega)) (hin 18 12 (by omega) (by omega) (by omega)) (hin 18 9 (by omega) (by omega) (by omega)) (hin 18 10 (by omega) (by omega) (by omega))).trans f_2794
  have f_2796 : F_2749 (ad 18) = rw7 G s_10 := (o_2754 (ad 18) (fun i hS => hin 18 i (by omega) (by omega) (by omega))).trans f_2795
  have f_2797 : F_2692 (ad 19) = rw7 G s_11 := (hp_2693 (ad 19) ).trans hs_11
  have f_2798 : F_2696 (ad 19) = rw7 G s_11 := (hp_2697.2 (ad 19) (fun i hS => hin 19 i (by omega) (by omega) (by omega))).trans f_2797
  have f_2799 : F_2699 (ad 19) = rw7 G s_11 := (hp_2700.2 (ad 19) (fun i hS => hin 19 i (by omega) (by omega) (by omega))).trans f_2798
  have f_2800 : F_2729 (ad 19) = rw7 G s_11 := (o_2740 (ad 19) (hin 19 134 (by omega) (by omega) (by omega)) (hin 19 15 (by omega) (by omega) (by omega)) (hin 19 12 (by omega) (by omega) (by omega)) (hin 19 9 (by omega) (by omega) (by omega)) (hin 19 10 (by omega) (by omega) (by omega))).trans f_2799
  have f_2801 : F_2749 (ad 19) = rw7 G s_11 := (o_2754 (ad 19) (fun i hS => hin 19 i (by omega) (by omega) (by omega))).trans f_2800
  have f_2802 : F_2692 (ad 20) = rw7 G s_12 := (hp_2693 (ad 20) ).trans hs_12
  have f_2803 : F_2696 (ad 20) = rw7 G s_12 := (hp_2697.2 (ad 20) (fun i hS => hin 20 i (by omega) (by omega) (by omega))).trans f_2802
  have f_2804 : F_2699 (ad 20) = rw7 G s_12 := (hp_2700.2 (ad 20) (fun i hS => hin 20 i (by omega) (by omega) (by omega))).trans f_2803
  have f_2805 : F_2729 (ad 20) = rw7 G s_12 := (o_2740 (ad 20) (hin 20 134 (by omega) (by omega) (by omega)) (hin 20 15 (by omega) (by omega) (by omega)) (hin 20 12 (by omega) (by omega) (by omega)) (hin 20 9 (by omega) (by omega) (by omega)) (hin 20 10 (by omega) (by omega) (by omega))).trans f_2804
  have f_2806 : F_2749 (ad 20) = rw7 G s_12 := (o_2754 (ad 20) (fun i hS => hin 20 i (by omega) (by omega) (by omega))).trans f_2805
  have f_2807 : F_2692 (ad 21) = rw7 G s_13 := (hp_2693 (ad 21) ).trans hs_13
  have f_2808 : F_2696 (ad 21) = rw7 G s_13 := (hp_2697.2 (ad 21) (fun i hS => hin 21 i (by omega) (by omega) (by omega))).trans f_2807
  have f_2809 : F_2699 (ad 21) = rw7 G s_13 := (hp_2700.2 (ad 21) (fun i hS => hin 21 i (by omega) (by omega) (by omega))).trans f_2808
  have f_2810 : F_2729 (ad 21) = rw7 G s_13 := (o_2740 (ad 21) (hin 21 134 (by omega) (by omega) (by omega)) (hin 21 15 (by omega) (by omega) (by omega)) (hin 21 12 (by omega) (by omega) (by omega)) (hin 21 9 (by omega) (by omega) (by omega)) (hin 21 10 (by omega) (by omega) (by omega))).trans f_2809
  have f_2811 : F_2749 (ad 21) = rw7 G s_13 := (o_2754 (ad 21) (fun i hS => hin 21 i (by omega) (by omega) (by omega))).trans f_2810
  have f_2812 : F_2749 (ad 0) = xO ad := (o_2754 (ad 0) (fun i hS => hin 0 i (by omega) (by omega) (by omega))).trans f_2741
  have f_2813 : F_2749 (ad 134) = rw7 G ((m_rep ((A.1.2.2.2.2.2 (6 + f9))) z9 (A.1.1))) := (o_2754 (ad 134) (fun i hS => hin 134 i (by omega) (by omega) (by omega))).trans f_2731
  have f_2814 : F_2692 (ad 150) = rw7 G v9 := (hp_2693 (ad 150) ).trans h150
  have f_2815 : F_2696 (ad 150) = rw7 G v9 := (hp_2697.2 (ad 150) (fun i hS => hin 150 i (by omega) (by omega) (by omega))).trans f_2814
  have f_2816 : F_2699 (ad 150) = rw7 G v9 := (hp_2700.2 (ad 150) (fun i hS => hin 150 i (by omega) (by omega) (by omega))).trans f_2815
  have f_2817 : F_2729 (ad 150) = rw7 G v9 := (o_2740 (ad 150) (hin 150 134 (by omega) (by omega) (by omega)) (hin 150 15 (by omega) (by omega) (by omega)) (hin 150 12 (by omega) (by omega) (by omega)) (hin 150 9 (by omega) (by omega) (by omega)) (hin 150 10 (by omega) (by omega) (by omega))).trans f_2816
  have f_2818 : F_2749 (ad 150) = rw7 G v9 := (o_2754 (ad 150) (fun i hS => hin 150 i (by omega) (by omega) (by omega))).trans f_2817
  exact r_i C0 hr hlk hw (v := (lowR ((m_rep ((A.1.2.2.2.2.2 (6 + f9))) z9 (A.1.1))))) rfl ⟨rfl, ⟨f_2812, (sta_row hn (t := 6 + t9) (u := m_rep (A.1.2.2.2.2.2 (6 + f9)) z9 A.1.1) (st2 := (genS 8 (6 + t9) (m_rep (A.1.2.2.2.2.2 (6 + f9)) z9 A.1.1) A.1)) (by omega) f_2755 rfl rfl f_2753 (fun i0 hi => ((o_2754 (ad (i0)) (fun i hS => hin (i0) i (by omega) (by omega) (by omega)))).trans (((o_2740 (ad (i0)) (hin (i0) 134 (by omega) (by omega) (by omega)) (hin (i0) 15 (by omega) (by omega) (by omega)) (hin (i0) 12 (by omega) (by omega) (by omega)) (hin (i0) 9 (by omega) (by omega) (by omega)) (hin (i0) 10 (by omega) (by omega) (by omega)))).trans (((hp_2700.2 (ad (i0)) (fun i hS => hin (i0) i (by omega) (by omega) (by omega)))).trans (((hp_2697.2 (ad (i0)) (fun i hS => hin (i0) i (by omega) (by omega) (by omega)))).trans ((hp_2693 (ad (i0)) ))))))), (hp_2697.1.keep (fun i0 hi => ((o_2754 (ad (i0)) (fun i hS => hin (i0) i (by omega) (by omega) (by omega)))).trans (((o_2740 (ad (i0)) (hin (i0) 134 (by omega) (by omega) (by omega)) (hin (i0) 15 (by omega) (by omega) (by omega)) (hin (i0) 12 (by omega) (by omega) (by omega)) (hin (i0) 9 (by omega) (by omega) (by omega)) (hin (i0) 10 (by omega) (by omega) (by omega)))).trans ((hp_2700.2 (ad (i0)) (fun i hS => hin (i0) i (by omega) (by omega) (by omega))))))), (hsn.keep (fun i0 hi => ((o_2754 (ad (i0)) (fun i hS => hin (i0) i (by omega) (by omega) (by omega)))).trans (((o_2740 (ad (i0)) (hin (i0) 134 (by omega) (by omega) (by omega)) (hin (i0) 15 (by omega) (by omega) (by omega)) (hin (i0) 12 (by omega) (by omega) (by omega)) (hin (i0) 9 (by omega) (by omega) (by omega)) (hin (i0) 10 (by omega) (by omega) (by omega)))).trans (((hp_2700.2 (ad (i0)) (fun i hS => hin (i0) i (by omega) (by omega) (by omega)))).trans (((hp_2697.2 (ad (i0)) (fun i hS => hin (i0) i (by omega) (by omega) (by omega)))).trans ((hp_2693 (ad (i0)) ))))))), (htx.keep (fun i0 hi => ((o_2754 (ad (i0)) (fun i hS => hin (i0) i (by omega) (by omega) (by omega)))).trans (((o_2740 (ad (i0)) (hin (i0) 134 (by omega) (by omega) (by omega)) (hin (i0) 15 (by omega) (by omega) (by omega)) (hin (i0) 12 (by omega) (by omega) (by omega)) (hin (i0) 9 (by omega) (by omega) (by omega)) (hin (i0) 10 (by omega) (by omega) (by omega)))).trans (((hp_2700.2 (ad (i0)) (fun i hS => hin (i0) i (by omega) (by omega) (by omega)))).trans (((hp_2697.2 (ad (i0)) (fun i hS => hin (i0) i (by omega) (by omega) (by omega)))).trans ((hp_2693 (ad (i0)) ))))))), ⟨f_2757, lt14 ⟨_, f_2762⟩ ⟨_, f_2763⟩ ⟨_, f_2764⟩ ⟨_, f_2769⟩ ⟨_, f_2770⟩ ⟨_, f_2775⟩ ⟨_, f_2780⟩ ⟨_, f_2781⟩ ⟨_, f_2786⟩ ⟨_, f_2791⟩ ⟨_, f_2796⟩ ⟨_, f_2801⟩ ⟨_, f_2806⟩ ⟨_, f_2811⟩⟩, ⟨_, f_2813⟩, ⟨_, f_2818⟩⟩, (fun q hq => ((o_2754 q (fun i hS => hq i (by omega))).trans ((o_2740 q (hq 134 (by omega)) (hq 15 (by omega)) (hq 12 (by omega)) (hq 9 (by omega)) (hq 10 (by omega))).trans ((hp_2700.2 q (fun i hS => hq i (by omega))).trans ((hp_2697.2 q (fun i hS => hq i (by omega))).trans (hp_2693 q ))))))⟩ (Nat.le_refl _) (Nat.le_refl _) dX5_repeat_73 hQ
abbrev rm_X5_power : Room := { frames := 6, cells := 0, slots := 0, locals := 146 }
set_option maxHeartbeats 4000000 in
set_option maxRecDepth 100000 in
theorem c_X5_power (l : Launch) (G : Gl) (L : List Nat) (F : Nat → va_E) (ad : Nat → Nat) (hL : ∀ i, i < 166 → ad i ∈ L) (hin : ∀ i j, i < 166 → j < 166 → i ≠ j → ad i ≠ ad j) (A : AB) (f9 t9 : Nat) (y9 : Int32) (hf9 : f9 < 6) (ht9 : t9 < 6) (hy1 : ¬ y9 < -5000) (hy2 : y9 ≤ nI 5000) (hm : 8 * A.1.1 ≤ A.1.2.1) (hX : XW G F ad A) (hA : okA A) : CI l yX5_power cX5_power 4 (some .int) rm_X5_power G L F [.ref (ad 0), .int (nI (f9)), .int (y9), .int (nI (t9))] (fun r F1 => r = lowR (m_rep (A.1.2.2.2.2.2 (6 + f9)) (zi y9) A.1.1) ∧ XW G F1 ad (aSave A (genS 8 (6 + t9) (m_rep (A.1.2.2.2.2.2 (6 + f9)) (zi y9) A.1.1) A.1)) ∧ ∀ q, (∀ i, (i < 166) → q ≠ ad i) → F1 q = F q) := by
  obtain ⟨fx, hn, hh, hsn, htx, hrk, ⟨u9, h134⟩, ⟨v9, h150⟩⟩ := id hX
  obtain ⟨⟨hc2, hc, hpu, hok⟩, ⟨hh6, hho⟩, hso, hl60, hco⟩ := id hA
  refine CG_of (by decide) (Nat.le_of_ble_eq_true rfl) rfl ?_
  intro p e s m args below meth c Q C0 hr hlk hnm hQ hw ls hl
  have hx := C0.x
  have hb := C0.b
  refine lv_iload_n hx hb dX5_power_0 rfl (lv_at hl 1 rfl) ?_
  refine q_callv hw (q_runS (As := [.int (nI (f9))]) (c_X5_needSlot l G L F f9 (by omega)) C0 hw sw_X5_78 rfl hl.1 rfl (Nat.le_of_ble_eq_true rfl) dX5_power_1 ⟨by decide, by decide⟩ ⟨by decide, by decide⟩) rfl rfl (fun F_2819 H locs hw hp_2820 => ?_)
  refine lv_iload_n hx hb dX5_power_4 rfl (lv_at hl 3 rfl) ?_
  refine q_callv hw (q_runS (As := [.int (nI (t9))]) (c_X5_needSlot l G L F_2819 t9 (by omega)) C0 hw sw_X5_78 rfl hl.1 rfl (Nat.le_of_ble_eq_true rfl) dX5_power_5 ⟨by decide, by decide⟩ ⟨by decide, by decide⟩) rfl rfl (fun F_2821 H locs hw hp_2822 => ?_)
  refine lv_iload_n hx hb dX5_power_8 rfl (lv_at hl 2 rfl) ?_
  refine lv_sipush (v := (-5000)) hx hb dX5_power_9 (by decide) ?_
  refine lv_icmp_lt (tgt := 22) hx hb dX5_power_12 (by decide) (fun c_12 => ?_) (fun c_12 => ?_)
  · skip
    exact absurd c_12 hy1
  · skip
    refine lv_iload_n hx hb dX5_power_15 rfl (lv_at hl 2 rfl) ?_
    refine lv_sipush (v := nI 5000) hx hb dX5_power_16 (by decide) ?_
    refine lv_icmp_le (tgt := 32) hx hb dX5_power_19 (by decide) (fun c_19 => ?_) (fun c_19 => ?_)
    · skip
      refine lv_aload_n hx hb dX5_power_32 rfl (lv_at hl 0 rfl) ?_
      refine lv_iload_n hx hb dX5_power_33 rfl (lv_at hl 1 rfl) ?_
      refine lv_iload_n hx hb dX5_power_34 rfl (lv_at hl 2 rfl) ?_
      refine lv_sipush (v := nI 10007) hx hb dX5_power_35 (by decide) ?_
      refine q_calli hw (q_runS (As := [.int (y9), .int (nI (10007))]) (c_J9_floorMod_7cf53 l G L F_2821 y9) C0 hw sw_X5_117 rfl hl.1 rfl (Nat.le_of_ble_eq_true rfl) dX5_power_38 ⟨by decide, by decide⟩ ⟨by decide, by decide⟩) rfl rfl (fun r_2825 F_2823 H locs hw hp_2824 => ?_)
      obtain ⟨he_2826, o_2827⟩ := hp_2824
      subst he_2826
      refine lv_iload_n hx hb dX5_power_41 rfl (lv_at hl 3 rfl) ?_
      have f_2828 : F_2819 (ad 0) = xO ad := (hp_2820 (ad 0) ).trans fx
      have f_2829 : F_2821 (ad 0) = xO ad := (hp_2822 (ad 0) ).trans f_2828
      have f_2830 : F_2823 (ad 0) = xO ad := (o_2827 (ad 0) ).trans f_2829
      refine q_calli hw (q_runV (As := [.int (nI (f9)), .int (nI ((zi y9).val)), .int (nI (t9))]) (c_X5_repeat l G L F_2823 ad hL hin A f9 t9 (zi y9) (by omega) (by omega) (by omega) (hX.keep (fun i0 hi => ((o_2827 (ad (i0)) )).trans (((hp_2822 (ad (i0)) )).trans ((hp_2820 (ad (i0)) ))))) hA) C0 hw vw_X5_133 ((hL 0 (by omega))) f_2830 rfl rfl rfl hl.1 rfl (Nat.le_of_ble_eq_true rfl) dX5_power_42 ⟨by decide, by decide⟩ ⟨by decide, by decide⟩) rfl rfl (fun r_2833 F_2831 H locs hw hp_2832 => ?_)
      obtain ⟨h_2834, h_2835, h_2836⟩ := hp_2832
      subst h_2834
      exact r_i C0 hr hlk hw (v := (lowR (m_rep (A.1.2.2.2.2.2 (6 + f9)) (zi y9) A.1.1))) rfl ⟨rfl, h_2835, (fun q hq => ((h_2836 q (fun i hS => hq i (by omega))).trans ((o_2827 q ).trans ((hp_2822 q ).trans (hp_2820 q )))))⟩ (Nat.le_refl _) (Nat.le_refl _) dX5_power_45 hQ
    · skip
      exact absurd hy2 c_19
abbrev rm_X5_root : Room := { frames := 6, cells := 0, slots := 0, locals := 146 }
set_option maxHeartbeats 4000000 in
set_option maxRecDepth 100000 in
theorem c_X5_root (l : Launch) (G : Gl) (L : List Nat) (F : Nat → va_E) (ad : Nat → Nat) (hL : ∀ i, i < 166 → ad i ∈ L) (hin : ∀ i j, i < 166 → j < 166 → i ≠ j → ad i ≠ ad j) (A : AB) (f9 t9 n9 : Nat) (hf9 : f9 < 6) (ht9 : t9 < 6) (hy1 : 1 ≤ n9) (hy2 : n9 ≤ 5000) (hm : 8 * A.1.1 ≤ A.1.2.1) (hX : XW G F ad A) (hA : okA A) : CI l yX5_root cX5_root 4 (some .int) rm_X5_root G L F [.ref (ad 0), .int (nI (f9)), .int (nI (n9)), .int (nI (t9))] (fun r F1 => r = lowR (m_rep (A.1.2.2.2.2.2 (6 + f9)) (m_finv (zc n9)) A.1.1) ∧ XW G F1 ad (aSave A (genS 8 (6 + t9) (m_rep (A.1.2.2.2.2.2 (6 + f9)) (m_finv (zc n9)) A.1.1) A.1)) ∧ ∀ q, (∀ i, (i < 166) → q ≠ ad i) → F1 q = F q) := by
  obtain ⟨fx, hn, hh, hsn, htx, hrk, ⟨u9, h134⟩, ⟨v9, h150⟩⟩ := id hX
  obtain ⟨⟨hc2, hc, hpu, hok⟩, ⟨hh6, hho⟩, hso, hl60, hco⟩ := id hA
  refine CG_of (by decide) (Nat.le_of_ble_eq_true rfl) rfl ?_
  intro p e s m args below meth c Q C0 hr hlk hnm hQ hw ls hl
  have hx := C0.x
  have hb := C0.b
  refine lv_iload_n hx hb dX5_root_0 rfl (lv_at hl 1 rfl) ?_
  refine q_callv hw (q_runS (As := [.int (nI (f9))]) (c_X5_needSlot l G L F f9 (by omega)) C0 hw sw_X5_78 rfl hl.1 rfl (Nat.le_of_ble_eq_true rfl) dX5_root_1 ⟨by decide, by decide⟩ ⟨by decide, by decide⟩) rfl rfl (fun F_2837 H locs hw hp_2838 => ?_)
  refine lv_iload_n hx hb dX5_root_4 rfl (lv_at hl 3 rfl) ?_
  refine q_callv hw (q_runS (As := [.int (nI (t9))]) (c_X5_needSlot l G L F_2837 t9 (by omega)) C0 hw sw_X5_78 rfl hl.1 rfl (Nat.le_of_ble_eq_true rfl) dX5_root_5 ⟨by decide, by decide⟩ ⟨by decide, by decide⟩) rfl rfl (fun F_2839 H locs hw hp_2840 => ?_)
  refine lv_iload_n hx hb dX5_root_8 rfl (lv_at hl 2 rfl) ?_
  refine lv_iconst (v := nI 1) hx hb dX5_root_9 (by decide) ?_
  refine n_icmp_lt (tgt := 20) hx hb dX5_root_10 (by decide) (by omega) (by decide) (fun c_10 => ?_) (fun c_10 => ?_)
  · skip
    exact absurd c_10 (by omega)
  · skip
    refine lv_iload_n hx hb dX5_root_13 rfl (lv_at hl 2 rfl) ?_
    refine lv_sipush (v := nI 5000) hx hb dX5_root_14 (by decide) ?_
    refine n_icmp_le (tgt := 30) hx hb dX5_root_17 (by decide) (by omega) (by decide) (fun c_17 => ?_) (fun c_17 => ?_)
    · skip
      refine lv_aload_n hx hb dX5_root_30 rfl (lv_at hl 0 rfl) ?_
      refine lv_iload_n hx hb dX5_root_31 rfl (lv_at hl 1 rfl) ?_
      refine lv_iload_n hx hb dX5_root_32 rfl (lv_at hl 2 rfl) ?_
      refine n_top (show Value.int (nI n9) = Value.int (nI (zc n9).val) by rw [zc_val, Nat.mod_eq_of_lt (by omega)]) ?_
      refine q_calli hw (q_runS (As := [.int (nI ((zc n9).val))]) (c_X1_inverseOf l G L F_2839 (zc n9)) C0 hw sw_X5_139 rfl hl.1 rfl (Nat.le_of_ble_eq_true rfl) dX5_root_33 ⟨by decide, by decide⟩ ⟨by decide, by decide⟩) rfl rfl (fun r_2843 F_2841 H locs hw hp_2842 => ?_)
      obtain ⟨he_2844, o_2845⟩ := hp_2842
      subst he_2844
      refine lv_iload_n hx hb dX5_root_36 rfl (lv_at hl 3 rfl) ?_
      have f_2846 : F_2837 (ad 0) = xO ad := (hp_2838 (ad 0) ).trans fx
      have f_2847 : F_2839 (ad 0) = xO ad := (hp_2840 (ad 0) ).trans f_2846
      have f_2848 : F_2841 (ad 0) = xO ad := (o_2845 (ad 0) ).trans f_2847
      refine q_calli hw (q_runV (As := [.int (nI (f9)), .int (nI ((m_finv (zc n9)).val)), .int (nI (t9))]) (c_X5_repeat l G L F_2841 ad hL hin A f9 t9 (m_finv (zc n9)) (by omega) (by omega) (by omega) (hX.keep (fun i0 hi => ((o_2845 (ad (i0)) )).trans (((hp_2840 (ad (i0)) )).trans ((hp_2838 (ad (i0)) ))))) hA) C0 hw vw_X5_133 ((hL 0 (by omega))) f_2848 rfl rfl rfl hl.1 rfl (Nat.le_of_ble_eq_true rfl) dX5_root_37 ⟨by decide, by decide⟩ ⟨by decide, by decide⟩) rfl rfl (fun r_2851 F_2849 H locs hw hp_2850 => ?_)
      obtain ⟨h_2852, h_2853, h_2854⟩ := hp_2850
      subst h_2852
      exact r_i C0 hr hlk hw (v := (lowR (m_rep (A.1.2.2.2.2.2 (6 + f9)) (m_finv (zc n9)) A.1.1))) rfl ⟨rfl, h_2853, (fun q hq => ((h_2854 q (fun i hS => hq i (by omega))).trans ((o_2845 q ).trans ((hp_2840 q ).trans (hp_2838 q )))))⟩ (Nat.le_refl _) (Nat.le_refl _) dX5_root_40 hQ
    · skip
      exact absurd c_17 (by omega)
abbrev rm_X5_cut : Room := { frames := 4, cells := 0, slots := 0, locals := 104 }
set_option maxHeartbeats 4000000 in
set_option maxRecDepth 100000 in
theorem c_X5_cut (l : Launch) (G : Gl) (L : List Nat) (F : Nat → va_E) (ad : Nat → Nat) (hL : ∀ i, i < 166 → ad i ∈ L) (hin : ∀ i j, i < 166 → j < 166 → i ≠ j → ad i ≠ ad j) (A : AB) (c9 : Nat) (h1 : 2 ≤ c9) (h2 : c9 ≤ 6) (hX : XW G F ad A) (hA : okA A) : CI l yX5_cut cX5_cut 3 (some .int) rm_X5_cut G L F [.ref (ad 0), .int (nI (c9))] (fun r F1 => r = nI A.1.1 ∧ XW G F1 ad (aSave A (cutS c9 A.1)) ∧ ∀ q, (∀ i, (i < 166) → q ≠ ad i) → F1 q = F q) := by
  obtain ⟨fx, hn, hh, hsn, htx, hrk, ⟨u9, h134⟩, ⟨v9, h150⟩⟩ := hX
  obtain ⟨⟨hc2, hc, hpu, hok⟩, ⟨hh6, hho⟩, hso, hl60, hco⟩ := id hA
  refine CG_of (by decide) (Nat.le_of_ble_eq_true rfl) rfl ?_
  intro p e s m args below meth c Q C0 hr hlk hnm hQ hw ls hl
  have hx := C0.x
  have hb := C0.b
  refine lv_iload_n hx hb dX5_cut_0 rfl (lv_at hl 1 rfl) ?_
  refine lv_iconst (v := nI 2) hx hb dX5_cut_1 (by decide) ?_
  refine n_icmp_lt (tgt := 11) hx hb dX5_cut_2 (by decide) (by omega) (by decide) (fun c_2 => ?_) (fun c_2 => ?_)
  · skip
    exact absurd c_2 (by omega)
  · skip
    refine lv_iload_n hx hb dX5_cut_5 rfl (lv_at hl 1 rfl) ?_
    refine lv_bipush (v := nI 6) hx hb dX5_cut_6 (by decide) ?_
    refine n_icmp_le (tgt := 21) hx hb dX5_cut_8 (by decide) (by omega) (by decide) (fun c_8 => ?_) (fun c_8 => ?_)
    · skip
      refine lv_aload_n hx hb dX5_cut_21 rfl (lv_at hl 0 rfl) ?_
      refine q_get C0 hw ((hL 0 (by omega))) fx fw_X5_19 rfl dX5_cut_22 ?_
      refine lv_aload_n hx hb dX5_cut_25 rfl (lv_at hl 0 rfl) ?_
      refine q_get C0 hw ((hL 0 (by omega))) fx fw_X5_12 rfl dX5_cut_26 ?_
      obtain ⟨_, _, hf_2855, _⟩ := id hh
      refine q_callv hw (q_runV (As := [.ref (ad 22)]) (c_X0_save l G L F ad hL hin A.2.1 A.1 hh hn) C0 hw vw_X5_62 ((hL 1 (by omega))) hf_2855 rfl rfl rfl hl.1 rfl (Nat.le_of_ble_eq_true rfl) dX5_cut_29 ⟨by decide, by decide⟩ ⟨by decide, by decide⟩) rfl rfl (fun F_2856 H locs hw hp_2857 => ?_)
      refine lv_aload_n hx hb dX5_cut_32 rfl (lv_at hl 0 rfl) ?_
      have f_2858 : F_2856 (ad 0) = xO ad := (hp_2857.2 (ad 0) (fun i hS => hin 0 i (by omega) (by omega) (by omega))).trans fx
      refine q_get C0 hw ((hL 0 (by omega))) f_2858 fw_X5_12 rfl dX5_cut_33 ?_
      have f_2859 : F_2856 (ad 22) = .inr (3, [.ref (ad 23), .int (nI (A.1.2.1)), .int (nI (A.1.2.2.1)), .int (nI (A.1.2.2.2.1)), .int (nI (A.1.2.2.2.2.1))]) := (hp_2857.2 (ad 22) (fun i hS => hin 22 i (by omega) (by omega) (by omega))).trans hn.1
      refine q_get C0 hw ((hL 22 (by omega))) f_2859 fw_X5_66 rfl dX5_cut_36 ?_
      have f_2860 : F_2856 (ad 23) = .inr (2, [.int (nI (A.1.1)), .ref (ad 24), .ref (ad 25)]) := (hp_2857.2 (ad 23) (fun i hS => hin 23 i (by omega) (by omega) (by omega))).trans hn.2.1
      refine q_get C0 hw ((hL 23 (by omega))) f_2860 fw_X5_70 rfl dX5_cut_39 ?_
      refine lv_istore_n (lv' := [(2, .int (nI (A.1.1))), (0, .ref (ad 0)), (1, .int (nI (c9)))]) hx hb dX5_cut_42 rfl hl (by decide) rfl (fun ls hl => ?_)
      refine lv_aload_n hx hb dX5_cut_43 rfl (lv_at hl 1 rfl) ?_
      refine q_get C0 hw ((hL 0 (by omega))) f_2858 fw_X5_12 rfl dX5_cut_44 ?_
      refine q_get C0 hw ((hL 22 (by omega))) f_2859 fw_X5_66 rfl dX5_cut_47 ?_
      refine lv_iload_n hx hb dX5_cut_50 rfl (lv_at hl 2 rfl) ?_
      refine q_callv hw (q_runV (As := [.int (nI (c9))]) (c_X2_cutAt l G L F_2856 ad hL hin 22 A.1.1 c9 A.1.2.2.2.2.2 (hn.keep (fun i0 hi => (hp_2857.2 (ad (i0)) (fun i hS => hin (i0) i (by omega) (by omega) (by omega))))).2 (by decide) (by omega)) C0 hw vw_X5_74 ((hL 23 (by omega))) f_2860 rfl rfl rfl hl.1 rfl (Nat.le_of_ble_eq_true rfl) dX5_cut_51 ⟨by decide, by decide⟩ ⟨by decide, by decide⟩) rfl rfl (fun F_2861 H locs hw hp_2862 => ?_)
      have f_2863 : F_2861 (ad 22) = .inr (3, [.ref (ad 23), .int (nI (A.1.2.1)), .int (nI (A.1.2.2.1)), .int (nI (A.1.2.2.2.1)), .int (nI (A.1.2.2.2.2.1))]) := (hp_2862.2 (ad 22) (fun i hS => hin 22 i (by omega) (by omega) (by omega))).trans f_2859
      refine lv_iload_n hx hb dX5_cut_54 rfl (lv_at hl 0 rfl) ?_
      have f_2864 : F_2861 (ad 0) = xO ad := (hp_2862.2 (ad 0) (fun i hS => hin 0 i (by omega) (by omega) (by omega))).trans f_2858
      have f_2865 : F_2856 (ad 134) = rw7 G u9 := (hp_2857.2 (ad 134) (fun i hS => hin 134 i (by omega) (by omega) (by omega))).trans h134
      have f_2866 : F_2861 (ad 134) = rw7 G u9 := (hp_2862.2 (ad 134) (fun i hS => hin 134 i (by omega) (by omega) (by omega))).trans f_2865
      have f_2867 : F_2856 (ad 150) = rw7 G v9 := (hp_2857.2 (ad 150) (fun i hS => hin 150 i (by omega) (by omega) (by omega))).trans h150
      have f_2868 : F_2861 (ad 150) = rw7 G v9 := (hp_2862.2 (ad 150) (fun i hS => hin 150 i (by omega) (by omega) (by omega))).trans f_2867
      exact r_i C0 hr hlk hw (v := nI (A.1.1)) rfl ⟨rfl, ⟨f_2864, ⟨f_2863, hp_2862.1⟩, (hp_2857.1.keep (fun i0 hi => (hp_2862.2 (ad (i0)) (fun i hS => hin (i0) i (by omega) (by omega) (by omega))))), (hsn.keep (fun i0 hi => ((hp_2862.2 (ad (i0)) (fun i hS => hin (i0) i (by omega) (by omega) (by omega)))).trans ((hp_2857.2 (ad (i0)) (fun i hS => hin (i0) i (by omega) (by omega) (by omega)))))), (htx.keep (fun i0 hi => ((hp_2862.2 (ad (i0)) (fun i hS => hin (i0) i (by omega) (by omega) (by omega)))).trans ((hp_2857.2 (ad (i0)) (fun i hS => hin (i0) i (by omega) (by omega) (by omega)))))), (hrk.keep (fun i0 hi => ((hp_2862.2 (ad (i0)) (fun i hS => hin (i0) i (by omega) (by omega) (by omega)))).trans ((hp_2857.2 (ad (i0)) (fun i hS => hin (i0) i (by omega) (by omega) (by omega)))))), ⟨_, f_2866⟩, ⟨_, f_2868⟩⟩, (fun q hq => ((hp_2862.2 q (fun i hS => hq i (by omega))).trans (hp_2857.2 q (fun i hS => hq i (by omega)))))⟩ (Nat.le_refl _) (Nat.le_refl _) dX5_cut_55 hQ
    · skip
      exact absurd c_8 (by omega)
abbrev rm_X5_needPower : Room := { frames := 0, cells := 0, slots := 0, locals := 0 }
set_option maxHeartbeats 4000000 in
set_option maxRecDepth 100000 in
theorem c_X5_needPower (l : Launch) (G : Gl) (L : List Nat) (F : Nat → va_E) (p9 a9 b9 : Nat) (h1 : a9 ≤ p9) (h2 : p9 ≤ b9) (h3 : b9 ≤ 6) : CV l yX5_needPower cX5_needPower 3 none rm_X5_needPower G L F [.int (nI (p9)), .int (nI (a9)), .int (nI (b9))] (fun F1 => ∀ q, F1 q = F q) := by
  refine CG_of (by decide) (Nat.le_of_ble_eq_true rfl) rfl ?_
  intro p e s m args below meth c Q C0 hr hlk hnm hQ hw ls hl
  have hx := C0.x
  have hb := C0.b
  refine lv_iload_n hx hb dX5_needPower_0 rfl (lv_at hl 0 rfl) ?_
  refine lv_iload_n hx hb dX5_needPower_1 rfl (lv_at hl 1 rfl) ?_
  refine n_icmp_lt (tgt := 10) hx hb dX5_needPower_2 (by decide) (by omega) (by omega) (fun c_2 => ?_) (fun c_2 => ?_)
  · skip
    exact absurd c_2 (by omega)
  · skip
    refine lv_iload_n hx hb dX5_needPower_5 rfl (lv_at hl 0 rfl) ?_
    refine lv_iload_n hx hb dX5_needPower_6 rfl (lv_at hl 2 rfl) ?_
    refine n_icmp_le (tgt := 21) hx hb dX5_needPower_7 (by decide) (by omega) (by omega) (fun c_7 => ?_) (fun c_7 => ?_)
    · skip
      exact r_v C0 hr hlk hw (fun q  => rfl) (Nat.le_refl _) (Nat.le_refl _) dX5_needPower_21 hQ
    · skip
      exact absurd c_7 (by omega)
abbrev rm_X5_replace : Room := { frames := 1, cells := 0, slots := 0, locals := 22 }
set_option maxHeartbeats 4000000 in
set_option maxRecDepth 100000 in
theorem c_X5_replace (l : Launch) (G : Gl) (L : List Nat) (F : Nat → va_E) (a p9 : Nat) (y9 : Int32) (u : Nat → ZP) (ma : a ∈ L) (fa : F a = rw7 G u) (hp9 : p9 < 7) : CI l yX5_replace cX5_replace 4 (some .int) rm_X5_replace G L F [.ref a, .int (nI (p9)), .int (y9)] (fun r F1 => r = nI (u p9).val ∧ F1 a = rw7 G (va_up u p9 (zi y9)) ∧ ∀ q, q ≠ a → F1 q = F q) := by
  refine CG_of (by decide) (Nat.le_of_ble_eq_true rfl) rfl ?_
  intro p e s m args below meth c Q C0 hr hlk hnm hQ hw ls hl
  have hx := C0.x
  have hb := C0.b
  refine lv_aload_n hx hb dX5_replace_0 rfl (lv_at hl 0 rfl) ?_
  refine lv_iload_n hx hb dX5_replace_1 rfl (lv_at hl 1 rfl) ?_
  refine q_rld C0 hw ma fa (p9) (by omega) dX5_replace_2 (fun z_2869 => ?_)
  refine lv_istore_n (lv' := [(3, .int (nI ((u (p9)).val))), (0, .ref a), (1, .int (nI (p9))), (2, .int (y9))]) hx hb dX5_replace_3 rfl hl (by decide) rfl (fun ls hl => ?_)
  refine lv_aload_n hx hb dX5_replace_4 rfl (lv_at hl 1 rfl) ?_
  refine lv_iload_n hx hb dX5_replace_5 rfl (lv_at hl 2 rfl) ?_
  refine lv_iload_n hx hb dX5_replace_6 rfl (lv_at hl 3 rfl) ?_
  refine lv_sipush (v := nI 10007) hx hb dX5_replace_7 (by decide) ?_
  refine q_calli hw (q_runS (As := [.int (y9), .int (nI (10007))]) (c_J9_floorMod_7cf53 l G L F y9) C0 hw sw_X5_117 rfl hl.1 rfl (Nat.le_of_ble_eq_true rfl) dX5_replace_10 ⟨by decide, by decide⟩ ⟨by decide, by decide⟩) rfl rfl (fun r_2872 F_2870 H locs hw hp_2871 => ?_)
  obtain ⟨he_2873, o_2874⟩ := hp_2871
  subst he_2873
  have f_2875 : F_2870 a = rw7 G u := (o_2874 a ).trans fa
  refine q_rst C0 hw ma f_2875 (p9) (by omega) (z := zi y9) dX5_replace_13 (fun F_2876 H locs hw f_2877 o_2878 => ?_)
  refine lv_iload_n hx hb dX5_replace_14 rfl (lv_at hl 0 rfl) ?_
  exact r_i C0 hr hlk hw (v := nI ((u (p9)).val)) rfl ⟨rfl, f_2877, (fun q k0 => ((o_2878 q k0).trans (o_2874 q )))⟩ (Nat.le_refl _) (Nat.le_refl _) dX5_replace_15 hQ
abbrev rm_X5_setField : Room := { frames := 4, cells := 0, slots := 0, locals := 104 }
set_option maxHeartbeats 4000000 in
set_option maxRecDepth 100000 in
theorem c_X5_setField (l : Launch) (G : Gl) (L : List Nat) (F : Nat → va_E) (ad : Nat → Nat) (hL : ∀ i, i < 166 → ad i ∈ L) (hin : ∀ i j, i < 166 → j < 166 → i ≠ j → ad i ≠ ad j) (A : AB) (f9 p9 : Nat) (y9 : Int32) (hf9 : f9 < 6) (hp1 : 2 ≤ p9) (hp2 : p9 ≤ A.1.1) (hX : XW G F ad A) (hA : okA A) : CI l yX5_setField cX5_setField 4 (some .int) rm_X5_setField G L F [.ref (ad 0), .int (nI (f9)), .int (nI (p9)), .int (y9)] (fun r F1 => r = nI (A.1.2.2.2.2.2 (f9) p9).val ∧ XW G F1 ad (aSave A (rowS (f9) (va_up (A.1.2.2.2.2.2 (f9)) p9 (zi y9)) A.1)) ∧ ∀ q, (∀ i, (i < 166) → q ≠ ad i) → F1 q = F q) := by
  obtain ⟨fx, hn, hh, hsn, htx, hrk, ⟨u9, h134⟩, ⟨v9, h150⟩⟩ := hX
  obtain ⟨⟨hc2, hc, hpu, hok⟩, ⟨hh6, hho⟩, hso, hl60, hco⟩ := id hA
  refine CG_of (by decide) (Nat.le_of_ble_eq_true rfl) rfl ?_
  intro p e s m args below meth c Q C0 hr hlk hnm hQ hw ls hl
  have hx := C0.x
  have hb := C0.b
  refine lv_iload_n hx hb dX5_setField_0 rfl (lv_at hl 1 rfl) ?_
  refine q_callv hw (q_runS (As := [.int (nI (f9))]) (c_X5_needSlot l G L F f9 (by omega)) C0 hw sw_X5_78 rfl hl.1 rfl (Nat.le_of_ble_eq_true rfl) dX5_setField_1 ⟨by decide, by decide⟩ ⟨by decide, by decide⟩) rfl rfl (fun F_2879 H locs hw hp_2880 => ?_)
  refine lv_iload_n hx hb dX5_setField_4 rfl (lv_at hl 2 rfl) ?_
  refine lv_iconst (v := nI 2) hx hb dX5_setField_5 (by decide) ?_
  refine lv_aload_n hx hb dX5_setField_6 rfl (lv_at hl 0 rfl) ?_
  have f_2881 : F_2879 (ad 0) = xO ad := (hp_2880 (ad 0) ).trans fx
  refine q_get C0 hw ((hL 0 (by omega))) f_2881 fw_X5_12 rfl dX5_setField_7 ?_
  have f_2882 : F_2879 (ad 22) = .inr (3, [.ref (ad 23), .int (nI (A.1.2.1)), .int (nI (A.1.2.2.1)), .int (nI (A.1.2.2.2.1)), .int (nI (A.1.2.2.2.2.1))]) := (hp_2880 (ad 22) ).trans hn.1
  refine q_get C0 hw ((hL 22 (by omega))) f_2882 fw_X5_66 rfl dX5_setField_10 ?_
  have f_2883 : F_2879 (ad 23) = .inr (2, [.int (nI (A.1.1)), .ref (ad 24), .ref (ad 25)]) := (hp_2880 (ad 23) ).trans hn.2.1
  refine q_get C0 hw ((hL 23 (by omega))) f_2883 fw_X5_70 rfl dX5_setField_13 ?_
  refine q_callv hw (q_runS (As := [.int (nI (p9)), .int (nI (2)), .int (nI (A.1.1))]) (c_X5_needPower l G L F_2879 p9 2 A.1.1 (by omega) (by omega) (by omega)) C0 hw sw_X5_81 rfl hl.1 rfl (Nat.le_of_ble_eq_true rfl) dX5_setField_16 ⟨by decide, by decide⟩ ⟨by decide, by decide⟩) rfl rfl (fun F_2884 H locs hw hp_2885 => ?_)
  refine lv_aload_n hx hb dX5_setField_19 rfl (lv_at hl 0 rfl) ?_
  have f_2886 : F_2884 (ad 0) = xO ad := (hp_2885 (ad 0) ).trans f_2881
  refine q_get C0 hw ((hL 0 (by omega))) f_2886 fw_X5_19 rfl dX5_setField_20 ?_
  refine lv_aload_n hx hb dX5_setField_23 rfl (lv_at hl 0 rfl) ?_
  refine q_get C0 hw ((hL 0 (by omega))) f_2886 fw_X5_12 rfl dX5_setField_24 ?_
  obtain ⟨_, _, hf_2887, _⟩ := id (hh.keep (fun i0 hi => ((hp_2885 (ad (i0)) )).trans ((hp_2880 (ad (i0)) ))))
  refine q_callv hw (q_runV (As := [.ref (ad 22)]) (c_X0_save l G L F_2884 ad hL hin A.2.1 A.1 (hh.keep (fun i0 hi => ((hp_2885 (ad (i0)) )).trans ((hp_2880 (ad (i0)) )))) (hn.keep (fun i0 hi => ((hp_2885 (ad (i0)) )).trans ((hp_2880 (ad (i0)) ))))) C0 hw vw_X5_62 ((hL 1 (by omega))) hf_2887 rfl rfl rfl hl.1 rfl (Nat.le_of_ble_eq_true rfl) dX5_setField_27 ⟨by decide, by decide⟩ ⟨by decide, by decide⟩) rfl rfl (fun F_2888 H locs hw hp_2889 => ?_)
  refine lv_aload_n hx hb dX5_setField_30 rfl (lv_at hl 0 rfl) ?_
  have f_2890 : F_2888 (ad 0) = xO ad := (hp_2889.2 (ad 0) (fun i hS => hin 0 i (by omega) (by omega) (by omega))).trans f_2886
  refine q_get C0 hw ((hL 0 (by omega))) f_2890 fw_X5_12 rfl dX5_setField_31 ?_
  have f_2891 : F_2884 (ad 22) = .inr (3, [.ref (ad 23), .int (nI (A.1.2.1)), .int (nI (A.1.2.2.1)), .int (nI (A.1.2.2.2.1)), .int (nI (A.1.2.2.2.2.1))]) := (hp_2885 (ad 22) ).trans f_2882
  have f_2892 : F_2888 (ad 22) = .inr (3, [.ref (ad 23), .int (nI (A.1.2.1)), .int (nI (A.1.2.2.1)), .int (nI (A.1.2.2.2.1)), .int (nI (A.1.2.2.2.2.1))]) := (hp_2889.2 (ad 22) (fun i hS => hin 22 i (by omega) (by omega) (by omega))).trans f_2891
  refine q_get C0 hw ((hL 22 (by omega))) f_2892 fw_X5_66 rfl dX5_setField_34 ?_
  have f_2893 : F_2884 (ad 23) = .inr (2, [.int (nI (A.1.1)), .ref (ad 24), .ref (ad 25)]) := (hp_2885 (ad 23) ).trans f_2883
  have f_2894 : F_2888 (ad 23) = .inr (2, [.int (nI (A.1.1)), .ref (ad 24), .ref (ad 25)]) := (hp_2889.2 (ad 23) (fun i hS => hin 23 i (by omega) (by omega) (by omega))).trans f_2893
  refine q_get C0 hw ((hL 23 (by omega))) f_2894 fw_X5_85 rfl dX5_setField_37 ?_
  refine lv_iload_n hx hb dX5_setField_40 rfl (lv_at hl 1 rfl) ?_
  have f_2895 : F_2879 (ad 24) = oE G (fun i => ad (26 + i)) := (hp_2880 (ad 24) ).trans hn.2.2.1
  have f_2896 : F_2884 (ad 24) = oE G (fun i => ad (26 + i)) := (hp_2885 (ad 24) ).trans f_2895
  have f_2897 : F_2888 (ad 24) = oE G (fun i => ad (26 + i)) := (hp_2889.2 (ad 24) (fun i hS => hin 24 i (by omega) (by omega) (by omega))).trans f_2896
  refine q_aaldi C0 hw ((hL 24 (by omega))) f_2897 (f9) (by omega) (by decide) (b := ad (26 + f9)) rfl dX5_setField_41 ?_
  refine lv_iload_n hx hb dX5_setField_42 rfl (lv_at hl 2 rfl) ?_
  refine lv_iload_n hx hb dX5_setField_43 rfl (lv_at hl 3 rfl) ?_
  have f_2898 : F_2879 (ad (26 + f9)) = rw7 G ((A.1.2.2.2.2.2 f9)) := (hp_2880 (ad (26 + f9)) ).trans ((hn.2.2.2.2 f9 (by omega)))
  have f_2899 : F_2884 (ad (26 + f9)) = rw7 G ((A.1.2.2.2.2.2 f9)) := (hp_2885 (ad (26 + f9)) ).trans f_2898
  have f_2900 : F_2888 (ad (26 + f9)) = rw7 G ((A.1.2.2.2.2.2 f9)) := (hp_2889.2 (ad (26 + f9)) (fun i hS => hin (26 + f9) i (by omega) (by omega) (by omega))).trans f_2899
  refine q_calli hw (q_runS (As := [.ref (ad (26 + f9)), .int (nI (p9)), .int (y9)]) (c_X5_replace l G L F_2888 (ad (26 + f9)) p9 y9 ((A.1.2.2.2.2.2 f9)) ((hL (26 + f9) (by omega))) f_2900 (by omega)) C0 hw sw_X5_89 rfl hl.1 rfl (Nat.le_of_ble_eq_true rfl) dX5_setField_44 ⟨by decide, by decide⟩ ⟨by decide, by decide⟩) rfl rfl (fun r_2903 F_2901 H locs hw hp_2902 => ?_)
  obtain ⟨h_2904, h_2905, h_2906⟩ := hp_2902
  subst h_2904
  have f_2907 : F_2901 (ad 22) = .inr (3, [.ref (ad 23), .int (nI (A.1.2.1)), .int (nI (A.1.2.2.1)), .int (nI (A.1.2.2.2.1)), .int (nI (A.1.2.2.2.2.1))]) := (h_2906 (ad 22) (hin 22 (26 + f9) (by omega) (by omega) (by omega))).trans f_2892
  have f_2908 : F_2901 (ad 0) = xO ad := (h_2906 (ad 0) (hin 0 (26 + f9) (by omega) (by omega) (by omega))).trans f_2890
  have f_2909 : F_2879 (ad 134) = rw7 G u9 := (hp_2880 (ad 134) ).trans h134
  have f_2910 : F_2884 (ad 134) = rw7 G u9 := (hp_2885 (ad 134) ).trans f_2909
  have f_2911 : F_2888 (ad 134) = rw7 G u9 := (hp_2889.2 (ad 134) (fun i hS => hin 134 i (by omega) (by omega) (by omega))).trans f_2910
  have f_2912 : F_2901 (ad 134) = rw7 G u9 := (h_2906 (ad 134) (hin 134 (26 + f9) (by omega) (by omega) (by omega))).trans f_2911
  have f_2913 : F_2879 (ad 150) = rw7 G v9 := (hp_2880 (ad 150) ).trans h150
  have f_2914 : F_2884 (ad 150) = rw7 G v9 := (hp_2885 (ad 150) ).trans f_2913
  have f_2915 : F_2888 (ad 150) = rw7 G v9 := (hp_2889.2 (ad 150) (fun i hS => hin 150 i (by omega) (by omega) (by omega))).trans f_2914
  have f_2916 : F_2901 (ad 150) = rw7 G v9 := (h_2906 (ad 150) (hin 150 (26 + f9) (by omega) (by omega) (by omega))).trans f_2915
  exact r_i C0 hr hlk hw (v := (nI (((A.1.2.2.2.2.2 f9)) p9).val)) rfl ⟨rfl, ⟨f_2908, (sta_row hn (t := (f9)) (u := va_up (A.1.2.2.2.2.2 (f9)) p9 (zi y9)) (st2 := (rowS (f9) (va_up (A.1.2.2.2.2.2 (f9)) p9 (zi y9)) A.1)) (by omega) f_2907 rfl rfl h_2905 (fun i0 hi => ((h_2906 (ad (i0)) (hin (i0) (26 + f9) (by omega) (by omega) (by omega)))).trans (((hp_2889.2 (ad (i0)) (fun i hS => hin (i0) i (by omega) (by omega) (by omega)))).trans (((hp_2885 (ad (i0)) )).trans ((hp_2880 (ad (i0)) )))))), (hp_2889.1.keep (fun i0 hi => (h_2906 (ad (i0)) (hin (i0) (26 + f9) (by omega) (by omega) (by omega))))), (hsn.keep (fun i0 hi => ((h_2906 (ad (i0)) (hin (i0) (26 + f9) (by omega) (by omega) (by omega)))).trans (((hp_2889.2 (ad (i0)) (fun i hS => hin (i0) i (by omega) (by omega) (by omega)))).trans (((hp_2885 (ad (i0)) )).trans ((hp_2880 (ad (i0)) )))))), (htx.keep (fun i0 hi => ((h_2906 (ad (i0)) (hin (i0) (26 + f9) (by omega) (by omega) (by omega)))).trans (((hp_2889.2 (ad (i0)) (fun i hS => hin (i0) i (by omega) (by omega) (by omega)))).trans (((hp_2885 (ad (i0)) )).trans ((hp_2880 (ad (i0)) )))))), (hrk.keep (fun i0 hi => ((h_2906 (ad (i0)) (hin (i0) (26 + f9) (by omega) (by omega) (by omega)))).trans (((hp_2889.2 (ad (i0)) (fun i hS => hin (i0) i (by omega) (by omega) (by omega)))).trans (((hp_2885 (ad (i0)) )).trans ((hp_2880 (ad (i0)) )))))), ⟨_, f_2912⟩, ⟨_, f_2916⟩⟩, (fun q hq => ((h_2906 q (hq (26 + f9) (by omega))).trans ((hp_2889.2 q (fun i hS => hq i (by omega))).trans ((hp_2885 q ).trans (hp_2880 q )))))⟩ (Nat.le_refl _) (Nat.le_refl _) dX5_setField_47 hQ
abbrev rm_X5_setFlow : Room := { frames := 4, cells := 0, slots := 0, locals := 104 }
set_option maxHeartbeats 4000000 in
set_option maxRecDepth 100000 in
theorem c_X5_setFlow (l : Launch) (G : Gl) (L : List Nat) (F : Nat → va_E) (ad : Nat → Nat) (hL : ∀ i, i < 166 → ad i ∈ L) (hin : ∀ i j, i < 166 → j < 166 → i ≠ j → ad i ≠ ad j) (A : AB) (f9 p9 : Nat) (y9 : Int32) (hf9 : f9 < 6) (hp1 : 2 ≤ p9) (hp2 : p9 ≤ A.1.1) (hX : XW G F ad A) (hA : okA A) : CI l yX5_setFlow cX5_setFlow 4 (some .int) rm_X5_setFlow G L F [.ref (ad 0), .int (nI (f9)), .int (nI (p9)), .int (y9)] (fun r F1 => r = nI (A.1.2.2.2.2.2 (6 + f9) p9).val ∧ XW G F1 ad (aSave A (rowS (6 + f9) (va_up (A.1.2.2.2.2.2 (6 + f9)) p9 (zi y9)) A.1)) ∧ ∀ q, (∀ i, (i < 166) → q ≠ ad i) → F1 q = F q) := by
  obtain ⟨fx, hn, hh, hsn, htx, hrk, ⟨u9, h134⟩, ⟨v9, h150⟩⟩ := hX
  obtain ⟨⟨hc2, hc, hpu, hok⟩, ⟨hh6, hho⟩, hso, hl60, hco⟩ := id hA
  refine CG_of (by decide) (Nat.le_of_ble_eq_true rfl) rfl ?_
  intro p e s m args below meth c Q C0 hr hlk hnm hQ hw ls hl
  have hx := C0.x
  have hb := C0.b
  refine lv_iload_n hx hb dX5_setFlow_0 rfl (lv_at hl 1 rfl) ?_
  refine q_callv hw (q_runS (As := [.int (nI (f9))]) (c_X5_needSlot l G L F f9 (by omega)) C0 hw sw_X5_78 rfl hl.1 rfl (Nat.le_of_ble_eq_true rfl) dX5_setFlow_1 ⟨by decide, by decide⟩ ⟨by decide, by decide⟩) rfl rfl (fun F_2917 H locs hw hp_2918 => ?_)
  refine lv_iload_n hx hb dX5_setFlow_4 rfl (lv_at hl 2 rfl) ?_
  refine lv_iconst (v := nI 2) hx hb dX5_setFlow_5 (by decide) ?_
  refine lv_aload_n hx hb dX5_setFlow_6 rfl (lv_at hl 0 rfl) ?_
  have f_2919 : F_2917 (ad 0) = xO ad := (hp_2918 (ad 0) ).trans fx
  refine q_get C0 hw ((hL 0 (by omega))) f_2919 fw_X5_12 rfl dX5_setFlow_7 ?_
  have f_2920 : F_2917 (ad 22) = .inr (3, [.ref (ad 23), .int (nI (A.1.2.1)), .int (nI (A.1.2.2.1)), .int (nI (A.1.2.2.2.1)), .int (nI (A.1.2.2.2.2.1))]) := (hp_2918 (ad 22) ).trans hn.1
  refine q_get C0 hw ((hL 22 (by omega))) f_2920 fw_X5_66 rfl dX5_setFlow_10 ?_
  have f_2921 : F_2917 (ad 23) = .inr (2, [.int (nI (A.1.1)), .ref (ad 24), .ref (ad 25)]) := (hp_2918 (ad 23) ).trans hn.2.1
  refine q_get C0 hw ((hL 23 (by omega))) f_2921 fw_X5_70 rfl dX5_setFlow_13 ?_
  refine q_callv hw (q_runS (As := [.int (nI (p9)), .int (nI (2)), .int (nI (A.1.1))]) (c_X5_needPower l G L F_2917 p9 2 A.1.1 (by omega) (by omega) (by omega)) C0 hw sw_X5_81 rfl hl.1 rfl (Nat.le_of_ble_eq_true rfl) dX5_setFlow_16 ⟨by decide, by decide⟩ ⟨by decide, by decide⟩) rfl rfl (fun F_2922 H locs hw hp_2923 => ?_)
  refine lv_aload_n hx hb dX5_setFlow_19 rfl (lv_at hl 0 rfl) ?_
  have f_2924 : F_2922 (ad 0) = xO ad := (hp_2923 (ad 0) ).trans f_2919
  refine q_get C0 hw ((hL 0 (by omega))) f_2924 fw_X5_19 rfl dX5_setFlow_20 ?_
  refine lv_aload_n hx hb dX5_setFlow_23 rfl (lv_at hl 0 rfl) ?_
  refine q_get C0 hw ((hL 0 (by omega))) f_2924 fw_X5_12 rfl dX5_setFlow_24 ?_
  obtain ⟨_, _, hf_2925, _⟩ := id (hh.keep (fun i0 hi => ((hp_2923 (ad (i0)) )).trans ((hp_2918 (ad (i0)) ))))
  refine q_callv hw (q_runV (As := [.ref (ad 22)]) (c_X0_save l G L F_2922 ad hL hin A.2.1 A.1 (hh.keep (fun i0 hi => ((hp_2923 (ad (i0)) )).trans ((hp_2918 (ad (i0)) )))) (hn.keep (fun i0 hi => ((hp_2923 (ad (i0)) )).trans ((hp_2918 (ad (i0)) ))))) C0 hw vw_X5_62 ((hL 1 (by omega))) hf_2925 rfl rfl rfl hl.1 rfl (Nat.le_of_ble_eq_true rfl) dX5_setFlow_27 ⟨by decide, by decide⟩ ⟨by decide, by decide⟩) rfl rfl (fun F_2926 H locs hw hp_2927 => ?_)
  refine lv_aload_n hx hb dX5_setFlow_30 rfl (lv_at hl 0 rfl) ?_
  have f_2928 : F_2926 (ad 0) = xO ad := (hp_2927.2 (ad 0) (fun i hS => hin 0 i (by omega) (by omega) (by omega))).trans f_2924
  refine q_get C0 hw ((hL 0 (by omega))) f_2928 fw_X5_12 rfl dX5_setFlow_31 ?_
  have f_2929 : F_2922 (ad 22) = .inr (3, [.ref (ad 23), .int (nI (A.1.2.1)), .int (nI (A.1.2.2.1)), .int (nI (A.1.2.2.2.1)), .int (nI (A.1.2.2.2.2.1))]) := (hp_2923 (ad 22) ).trans f_2920
  have f_2930 : F_2926 (ad 22) = .inr (3, [.ref (ad 23), .int (nI (A.1.2.1)), .int (nI (A.1.2.2.1)), .int (nI (A.1.2.2.2.1)), .int (nI (A.1.2.2.2.2.1))]) := (hp_2927.2 (ad 22) (fun i hS => hin 22 i (by omega) (by omega) (by omega))).trans f_2929
  refine q_get C0 hw ((hL 22 (by omega))) f_2930 fw_X5_66 rfl dX5_setFlow_34 ?_
  have f_2931 : F_2922 (ad 23) = .inr (2, [.int (nI (A.1.1)), .ref (ad 24), .ref (ad 25)]) := (hp_2923 (ad 23) ).trans f_2921
  have f_2932 : F_2926 (ad 23) = .inr (2, [.int (nI (A.1.1)), .ref (ad 24), .ref (ad 25)]) := (hp_2927.2 (ad 23) (fun i hS => hin 23 i (by omega) (by omega) (by omega))).trans f_2931
  refine q_get C0 hw ((hL 23 (by omega))) f_2932 fw_X5_93 rfl dX5_setFlow_37 ?_
  refine lv_iload_n hx hb dX5_setFlow_40 rfl (lv_at hl 1 rfl) ?_
  have f_2933 : F_2917 (ad 25) = oE G (fun i => ad (32 + i)) := (hp_2918 (ad 25) ).trans hn.2.2.2.1
  have f_2934 : F_2922 (ad 25) = oE G (fun i => ad (32 + i)) := (hp_2923 (ad 25) ).trans f_2933
  have f_2935 : F_2926 (ad 25) = oE G (fun i => ad (32 + i)) := (hp_2927.2 (ad 25) (fun i hS => hin 25 i (by omega) (by omega) (by omega))).trans f_2934
  refine q_aaldi C0 hw ((hL 25 (by omega))) f_2935 (f9) (by omega) (by decide) (b := ad (32 + f9)) rfl dX5_setFlow_41 ?_
  refine lv_iload_n hx hb dX5_setFlow_42 rfl (lv_at hl 2 rfl) ?_
  refine lv_iload_n hx hb dX5_setFlow_43 rfl (lv_at hl 3 rfl) ?_
  have f_2936 : F_2917 (ad (32 + f9)) = rw7 G ((A.1.2.2.2.2.2 (6 + f9))) := (hp_2918 (ad (32 + f9)) ).trans ((show F (ad (32 + f9)) = _ from by have h9 := hn.2.2.2.2 (6 + f9) (by omega); rwa [show 22 + 4 + (6 + f9) = 32 + f9 by omega] at h9))
  have f_2937 : F_2922 (ad (32 + f9)) = rw7 G ((A.1.2.2.2.2.2 (6 + f9))) := (hp_2923 (ad (32 + f9)) ).trans f_2936
  have f_2938 : F_2926 (ad (32 + f9)) = rw7 G ((A.1.2.2.2.2.2 (6 + f9))) := (hp_2927.2 (ad (32 + f9)) (fun i hS => hin (32 + f9) i (by omega) (by omega) (by omega))).trans f_2937
  refine q_calli hw (q_runS (As := [.ref (ad (32 + f9)), .int (nI (p9)), .int (y9)]) (c_X5_replace l G L F_2926 (ad (32 + f9)) p9 y9 ((A.1.2.2.2.2.2 (6 + f9))) ((hL (32 + f9) (by omega))) f_2938 (by omega)) C0 hw sw_X5_89 rfl hl.1 rfl (Nat.le_of_ble_eq_true rfl) dX5_setFlow_44 ⟨by decide, by decide⟩ ⟨by decide, by decide⟩) rfl rfl (fun r_2941 F_2939 H locs hw hp_2940 => ?_)
  obtain ⟨h_2942, h_2943, h_2944⟩ := hp_2940
  subst h_2942
  have f_2945 : F_2939 (ad (26 + (6 + f9))) = rw7 G (va_up ((A.1.2.2.2.2.2 (6 + f9))) p9 (zi y9)) := by rw [show 26 + (6 + f9) = 32 + f9 by omega]; exact h_2943
  have f_2946 : F_2939 (ad 22) = .inr (3, [.ref (ad 23), .int (nI (A.1.2.1)), .int (nI (A.1.2.2.1)), .int (nI (A.1.2.2.2.1)), .int (nI (A.1.2.2.2.2.1))]) := (h_2944 (ad 22) (hin 22 (32 + f9) (by omega) (by omega) (by omega))).trans f_2930
  have f_2947 : F_2939 (ad 0) = xO ad := (h_2944 (ad 0) (hin 0 (32 + f9) (by omega) (by omega) (by omega))).trans f_2928
  have f_2948 : F_2917 (ad 134) = rw7 G u9 := (hp_2918 (ad 134) ).trans h134
  have f_2949 : F_2922 (ad 134) = rw7 G u9 := (hp_2923 (ad 134) ).trans f_2948
  have f_2950 : F_2926 (ad 134) = rw7 G u9 := (hp_2927.2 (ad 134) (fun i hS => hin 134 i (by omega) (by omega) (by omega))).trans f_2949
  have f_2951 : F_2939 (ad 134) = rw7 G u9 := (h_2944 (ad 134) (hin 134 (32 + f9) (by omega) (by omega) (by omega))).trans f_2950
  have f_2952 : F_2917 (ad 150) = rw7 G v9 := (hp_2918 (ad 150) ).trans h150
  have f_2953 : F_2922 (ad 150) = rw7 G v9 := (hp_2923 (ad 150) ).trans f_2952
  have f_2954 : F_2926 (ad 150) = rw7 G v9 := (hp_2927.2 (ad 150) (fun i hS => hin 150 i (by omega) (by omega) (by omega))).trans f_2953
  have f_2955 : F_2939 (ad 150) = rw7 G v9 := (h_2944 (ad 150) (hin 150 (32 + f9) (by omega) (by omega) (by omega))).trans f_2954
  exact r_i C0 hr hlk hw (v := (nI (((A.1.2.2.2.2.2 (6 + f9))) p9).val)) rfl ⟨rfl, ⟨f_2947, (sta_row hn (t := (6 + f9)) (u := va_up (A.1.2.2.2.2.2 (6 + f9)) p9 (zi y9)) (st2 := (rowS (6 + f9) (va_up (A.1.2.2.2.2.2 (6 + f9)) p9 (zi y9)) A.1)) (by omega) f_2946 rfl rfl f_2945 (fun i0 hi => ((h_2944 (ad (i0)) (hin (i0) (32 + f9) (by omega) (by omega) (by omega)))).trans (((hp_2927.2 (ad (i0)) (fun i hS => hin (i0) i (by omega) (by omega) (by omega)))).trans (((hp_2923 (ad (i0)) )).trans ((hp_2918 (ad (i0)) )))))), (hp_2927.1.keep (fun i0 hi => (h_2944 (ad (i0)) (hin (i0) (32 + f9) (by omega) (by omega) (by omega))))), (hsn.keep (fun i0 hi => ((h_2944 (ad (i0)) (hin (i0) (32 + f9) (by omega) (by omega) (by omega)))).trans (((hp_2927.2 (ad (i0)) (fun i hS => hin (i0) i (by omega) (by omega) (by omega)))).trans (((hp_2923 (ad (i0)) )).trans ((hp_2918 (ad (i0)) )))))), (htx.keep (fun i0 hi => ((h_2944 (ad (i0)) (hin (i0) (32 + f9) (by omega) (by omega) (by omega)))).trans (((hp_2927.2 (ad (i0)) (fun i hS => hin (i0) i (by omega) (by omega) (by omega)))).trans (((hp_2923 (ad (i0)) )).trans ((hp_2918 (ad (i0)) )))))), (hrk.keep (fun i0 hi => ((h_2944 (ad (i0)) (hin (i0) (32 + f9) (by omega) (by omega) (by omega)))).trans (((hp_2927.2 (ad (i0)) (fun i hS => hin (i0) i (by omega) (by omega) (by omega)))).trans (((hp_2923 (ad (i0)) )).trans ((hp_2918 (ad (i0)) )))))), ⟨_, f_2951⟩, ⟨_, f_2955⟩⟩, (fun q hq => ((h_2944 q (hq (32 + f9) (by omega))).trans ((hp_2927.2 q (fun i hS => hq i (by omega))).trans ((hp_2923 q ).trans (hp_2918 q )))))⟩ (Nat.le_refl _) (Nat.le_refl _) dX5_setFlow_47 hQ
abbrev rm_X5_earn : Room := { frames := 4, cells := 0, slots := 0, locals := 104 }
set_option maxHeartbeats 4000000 in
set_option maxRecDepth 100000 in
theorem c_X5_earn (l : Launch) (G : Gl) (L : List Nat) (F : Nat → va_E) (ad : Nat → Nat) (hL : ∀ i, i < 166 → ad i ∈ L) (hin : ∀ i j, i < 166 → j < 166 → i ≠ j → ad i ≠ ad j) (A : AB) (m9 : Nat) (h1 : 1 ≤ m9) (h2 : m9 ≤ 1000) (h3 : A.1.2.1 + m9 ≤ 100000) (hX : XW G F ad A) (hA : okA A) : CI l yX5_earn cX5_earn 2 (some .int) rm_X5_earn G L F [.ref (ad 0), .int (nI (m9))] (fun r F1 => r = nI (A.1.2.1 + m9) ∧ XW G F1 ad (aSave A (earnS m9 A.1)) ∧ ∀ q, (∀ i, (i < 166) → q ≠ ad i) → F1 q = F q) := by
  obtain ⟨fx, hn, hh, hsn, htx, hrk, ⟨u9, h134⟩, ⟨v9, h150⟩⟩ := hX
  obtain ⟨⟨hc2, hc, hpu, hok⟩, ⟨hh6, hho⟩, hso, hl60, hco⟩ := id hA
  refine CG_of (by decide) (Nat.le_of_ble_eq_true rfl) rfl ?_
  intro p e s m args below meth c Q C0 hr hlk hnm hQ hw ls hl
  have hx := C0.x
  have hb := C0.b
  refine lv_iload_n hx hb dX5_earn_0 rfl (lv_at hl 1 rfl) ?_
  refine lv_iconst (v := nI 1) hx hb dX5_earn_1 (by decide) ?_
  refine n_icmp_lt (tgt := 12) hx hb dX5_earn_2 (by decide) (by omega) (by decide) (fun c_2 => ?_) (fun c_2 => ?_)
  · skip
    exact absurd c_2 (by omega)
  · skip
    refine lv_iload_n hx hb dX5_earn_5 rfl (lv_at hl 1 rfl) ?_
    refine lv_sipush (v := nI 1000) hx hb dX5_earn_6 (by decide) ?_
    refine n_icmp_le (tgt := 22) hx hb dX5_earn_9 (by decide) (by omega) (by decide) (fun c_9 => ?_) (fun c_9 => ?_)
    · skip
      refine lv_aload_n hx hb dX5_earn_22 rfl (lv_at hl 0 rfl) ?_
      refine q_get C0 hw ((hL 0 (by omega))) fx fw_X5_12 rfl dX5_earn_23 ?_
      refine q_get C0 hw ((hL 22 (by omega))) hn.1 fw_X5_98 rfl dX5_earn_26 ?_
      refine lv_ldc (v := nI (100000)) hx hb C0.ow (C0.ts _ kw_X5_101) dX5_earn_29 ?_
      refine lv_iload_n hx hb dX5_earn_31 rfl (lv_at hl 1 rfl) ?_
      refine n_isub hx hb (by omega) dX5_earn_32 ?_
      refine n_icmp_le (tgt := 46) hx hb dX5_earn_33 (by decide) (by omega) (by omega) (fun c_33 => ?_) (fun c_33 => ?_)
      · skip
        refine lv_aload_n hx hb dX5_earn_46 rfl (lv_at hl 0 rfl) ?_
        refine q_get C0 hw ((hL 0 (by omega))) fx fw_X5_19 rfl dX5_earn_47 ?_
        refine lv_aload_n hx hb dX5_earn_50 rfl (lv_at hl 0 rfl) ?_
        refine q_get C0 hw ((hL 0 (by omega))) fx fw_X5_12 rfl dX5_earn_51 ?_
        obtain ⟨_, _, hf_2956, _⟩ := id hh
        refine q_callv hw (q_runV (As := [.ref (ad 22)]) (c_X0_save l G L F ad hL hin A.2.1 A.1 hh hn) C0 hw vw_X5_62 ((hL 1 (by omega))) hf_2956 rfl rfl rfl hl.1 rfl (Nat.le_of_ble_eq_true rfl) dX5_earn_54 ⟨by decide, by decide⟩ ⟨by decide, by decide⟩) rfl rfl (fun F_2957 H locs hw hp_2958 => ?_)
        refine lv_aload_n hx hb dX5_earn_57 rfl (lv_at hl 0 rfl) ?_
        have f_2959 : F_2957 (ad 0) = xO ad := (hp_2958.2 (ad 0) (fun i hS => hin 0 i (by omega) (by omega) (by omega))).trans fx
        refine q_get C0 hw ((hL 0 (by omega))) f_2959 fw_X5_12 rfl dX5_earn_58 ?_
        refine lv_dup hx hb dX5_earn_61 rfl ?_
        have f_2960 : F_2957 (ad 22) = .inr (3, [.ref (ad 23), .int (nI (A.1.2.1)), .int (nI (A.1.2.2.1)), .int (nI (A.1.2.2.2.1)), .int (nI (A.1.2.2.2.2.1))]) := (hp_2958.2 (ad 22) (fun i hS => hin 22 i (by omega) (by omega) (by omega))).trans hn.1
        refine q_get C0 hw ((hL 22 (by omega))) f_2960 fw_X5_98 rfl dX5_earn_62 ?_
        refine lv_iload_n hx hb dX5_earn_65 rfl (lv_at hl 1 rfl) ?_
        refine n_iadd hx hb dX5_earn_66 ?_
        refine q_put C0 hw ((hL 22 (by omega))) f_2960 fw_X5_98 pw_X3_1 rfl rfl rfl (Nat.le_of_ble_eq_true rfl) dX5_earn_67 (fun F_2961 H locs hw f_2962 o_2963 => ?_)
        have f_2962 : F_2961 (ad 22) = .inr (3, [.ref (ad 23), .int (nI (A.1.2.1 + m9)), .int (nI (A.1.2.2.1)), .int (nI (A.1.2.2.2.1)), .int (nI (A.1.2.2.2.2.1))]) := f_2962
        refine lv_aload_n hx hb dX5_earn_70 rfl (lv_at hl 0 rfl) ?_
        have f_2964 : F_2961 (ad 0) = xO ad := (o_2963 (ad 0) (hin 0 22 (by omega) (by omega) (by omega))).trans f_2959
        refine q_get C0 hw ((hL 0 (by omega))) f_2964 fw_X5_12 rfl dX5_earn_71 ?_
        refine q_get C0 hw ((hL 22 (by omega))) f_2962 fw_X5_98 rfl dX5_earn_74 ?_
        have f_2965 : F_2957 (ad 134) = rw7 G u9 := (hp_2958.2 (ad 134) (fun i hS => hin 134 i (by omega) (by omega) (by omega))).trans h134
        have f_2966 : F_2961 (ad 134) = rw7 G u9 := (o_2963 (ad 134) (hin 134 22 (by omega) (by omega) (by omega))).trans f_2965
        have f_2967 : F_2957 (ad 150) = rw7 G v9 := (hp_2958.2 (ad 150) (fun i hS => hin 150 i (by omega) (by omega) (by omega))).trans h150
        have f_2968 : F_2961 (ad 150) = rw7 G v9 := (o_2963 (ad 150) (hin 150 22 (by omega) (by omega) (by omega))).trans f_2967
        exact r_i C0 hr hlk hw (v := nI (A.1.2.1 + m9)) rfl ⟨rfl, ⟨f_2964, ⟨f_2962, hn.2.keep (fun i0 hi => ((o_2963 (ad (i0)) (hin (i0) 22 (by omega) (by omega) (by omega)))).trans ((hp_2958.2 (ad (i0)) (fun i hS => hin (i0) i (by omega) (by omega) (by omega)))))⟩, (hp_2958.1.keep (fun i0 hi => (o_2963 (ad (i0)) (hin (i0) 22 (by omega) (by omega) (by omega))))), (hsn.keep (fun i0 hi => ((o_2963 (ad (i0)) (hin (i0) 22 (by omega) (by omega) (by omega)))).trans ((hp_2958.2 (ad (i0)) (fun i hS => hin (i0) i (by omega) (by omega) (by omega)))))), (htx.keep (fun i0 hi => ((o_2963 (ad (i0)) (hin (i0) 22 (by omega) (by omega) (by omega)))).trans ((hp_2958.2 (ad (i0)) (fun i hS => hin (i0) i (by omega) (by omega) (by omega)))))), (hrk.keep (fun i0 hi => ((o_2963 (ad (i0)) (hin (i0) 22 (by omega) (by omega) (by omega)))).trans ((hp_2958.2 (ad (i0)) (fun i hS => hin (i0) i (by omega) (by omega) (by omega)))))), ⟨_, f_2966⟩, ⟨_, f_2968⟩⟩, (fun q hq => ((o_2963 q (hq 22 (by omega))).trans (hp_2958.2 q (fun i hS => hq i (by omega)))))⟩ (Nat.le_refl _) (Nat.le_refl _) dX5_earn_77 hQ
      · skip
        exact absurd c_33 (by omega)
    · skip
      exact absurd c_9 (by omega)
