def r0 : Rws := fun i k => if 6 ≤ i ∧ k = 1 then 1 else 0
def st0 : Sta := (5, 500, 0, 0, 0, r0)
/-- one address by a rule for others -/
def ixf (l : List Nat) : Nat → Nat := fun i => l.getD i 0
abbrev rm_X2_init : Room := { frames := 1, cells := 14, slots := 96, locals := 40 }
theorem r0_fl (i : Nat) (h : 6 ≤ i) (k : Nat) : va_up (fun _ => zc 0) 1 (zc 1) k = r0 i k := by
  unfold r0
  by_cases e : k = 1
  · subst e
    rw [va_up_self, if_pos ⟨h, rfl⟩, zc_1]
  · rw [va_up_ne _ _ e, if_neg (fun h9 => e h9.2), zc_0]
theorem r0_lo {i : Nat} (h : i < 6) (k : Nat) : (fun _ => zc 0 : Nat → ZP) k = r0 i k := by
  unfold r0
  rw [if_neg (fun h9 => by omega)]
  exact zc_0
theorem wD.canonqE {s : State} {H : Heap} {locs : List Loc} {G : Gl} {L : List Nat} {F : Nat → va_E} {a : Nat} {N : Nat} {d : ClassId} {f : Nat → Option Nat} (hw : wD G L F s H locs) (ha : F a = .inl (d, N, .inr (.inr (.inr (.inr f))))) {g : Nat → Option Nat} (h : ∀ k, k < N → f k = g k) : ∃ F', wD G L F' s H locs ∧ F' a = .inl (d, N, .inr (.inr (.inr (.inr g)))) ∧ ∀ q, q ≠ a → F' q = F q := by
  refine ⟨va_up F a (.inl (d, N, .inr (.inr (.inr (.inr g))))), ⟨fun k q hk => ?_, va_pl_D hw.2.1, hw.2.2⟩, va_up_self _ _ _, fun _ hq => va_up_ne _ _ hq⟩
  have hm := List.mem_of_getElem? hk
  obtain ⟨b, hb, rfl⟩ := List.mem_map.mp hm
  obtain ⟨k9, hk9⟩ := va_pl_get (X := []) (f := F) hb
  have h9 := hw.1 k9 _ hk9
  by_cases hba : b = a
  · subst hba
    rw [va_up_self]
    rw [ha] at h9
    show H[b]? = some (vp_cell d (N, .inr (.inr (.inr (.inr g)))))
    have h8 : H[b]? = some (vp_cell d (N, .inr (.inr (.inr (.inr f))))) := h9
    rw [h8, vp_cell_q, vp_cell_q]
    unfold arrV
    have h7 : (fun j : Fin N => va_rf (f j.val)) = (fun j : Fin N => va_rf (g j.val)) := funext fun j => by rw [h j.val j.isLt]
    rw [h7]
  · rw [va_up_ne _ _ hba]
    exact h9
set_option maxHeartbeats 4000000 in
set_option maxRecDepth 100000 in
theorem c_X2_init (l : Launch) (G : Gl) (L : List Nat) (F : Nat → va_E) (a : Nat) (ma : a ∈ L) (fa : F a = .inr (2, [.int (nI (0)), .null, .null])) : CN l yX2_init cX2_init 2 rm_X2_init G L F [.ref a] (fun sz L1 F1 => gr L L1 sz ∧ ∃ n : Nat → Nat, n 1 = a ∧ shp G F1 n 0 5 r0 ∧ (∀ i, 2 ≤ i → i < 16 → sz ≤ n i ∧ n i ∈ L1) ∧ (∀ i j, 1 ≤ i → i < 16 → 1 ≤ j → j < 16 → i ≠ j → n i ≠ n j) ∧ (∀ q ∈ L, q ≠ a → F1 q = F q)) := by
  refine CN_of (by decide) (Nat.le_of_ble_eq_true rfl) rfl ?_
  intro p e s m args below meth c Q C0 hOv hr hlk hnm hQ hw ls hl
  have hx := C0.x
  have hb := C0.b
  have hwS := hw
  have hg0 := gr.rfl (L := L) s.heap.size
  have hlt0 := hw.lt ma
  refine lv_aload_n hx hb dX2_init_0 rfl (lv_at hl 0 rfl) ?_
  refine q_obj C0 hl.1 ob_X2 ob_i ob_c (by decide) (by decide) dX2_init_1 ?_
  refine lv_aload_n hx hb dX2_init_4 rfl (lv_at hl 0 rfl) ?_
  refine lv_iconst (v := nI 5) hx hb dX2_init_5 (by decide) ?_
  refine q_put C0 hw ma fa fw_X2_9 pw_X2_0 rfl rfl rfl (Nat.le_of_ble_eq_true rfl) dX2_init_6 (fun F_11672 H locs hw f_11673 o_11674 => ?_)
  have f_11673 : F_11672 a = .inr (2, [.int (nI (5)), .null, .null]) := f_11673
  refine lv_aload_n hx hb dX2_init_9 rfl (lv_at hl 0 rfl) ?_
  refine lv_bipush (v := nI 6) hx hb dX2_init_10 (by decide) ?_
  refine lv_bipush (v := nI 7) hx hb dX2_init_12 (by decide) ?_
  refine k_newM C0 hOv.2.2 hw cl_X2_15 (Nat.le_of_ble_eq_true rfl) (Nat.le_of_ble_eq_true rfl) dX2_init_14 (fun L_11675 F_11676 a_11677 H1 g_11678 hr_11679 hm_11680 hw1 => ?_)
  have hge_a_11677 : s.heap.size ≤ a_11677 := Nat.le_trans hw.2.2.1 g_11678.2.2.2.2
  have f_11681 : F_11676 a = .inr (2, [.int (nI (5)), .null, .null]) := (g_11678.2.2.1 a ma).1.trans f_11673
  have lt_11683 := (g_11678.2.2.1 a ma).2
  have m_11682 : a ∈ L_11675 := g_11678.1.1 a ma
  have hg_11684 := hg0.step g_11678.1 hw.2.2.1
  have C0 := C0.grow g_11678.1 hw.2.2.1
  have hw := hw1
  have m_11685 : a_11677 ∈ L_11675 := g_11678.2.2.2.1
  have f_11686 : F_11676 a_11677 = oE G (fun i => a_11677 + 1 + i) := g_11678.2.1
  have f_11687 : F_11676 (a_11677 + 1 + 0) = rw7 G ((fun _ => zc 0)) := hr_11679 0 (by decide)
  have m_11688 : a_11677 + 1 + 0 ∈ L_11675 := hm_11680 0 (by decide)
  have f_11689 : F_11676 (a_11677 + 1 + 1) = rw7 G ((fun _ => zc 0)) := hr_11679 1 (by decide)
  have m_11690 : a_11677 + 1 + 1 ∈ L_11675 := hm_11680 1 (by decide)
  have f_11691 : F_11676 (a_11677 + 1 + 2) = rw7 G ((fun _ => zc 0)) := hr_11679 2 (by decide)
  have m_11692 : a_11677 + 1 + 2 ∈ L_11675 := hm_11680 2 (by decide)
  have f_11693 : F_11676 (a_11677 + 1 + 3) = rw7 G ((fun _ => zc 0)) := hr_11679 3 (by decide)
  have m_11694 : a_11677 + 1 + 3 ∈ L_11675 := hm_11680 3 (by decide)
  have f_11695 : F_11676 (a_11677 + 1 + 4) = rw7 G ((fun _ => zc 0)) := hr_11679 4 (by decide)
  have m_11696 : a_11677 + 1 + 4 ∈ L_11675 := hm_11680 4 (by decide)
  have f_11697 : F_11676 (a_11677 + 1 + 5) = rw7 G ((fun _ => zc 0)) := hr_11679 5 (by decide)
  have m_11698 : a_11677 + 1 + 5 ∈ L_11675 := hm_11680 5 (by decide)
  refine q_putF C0 hnm hw m_11682 f_11681 fw_X2_17 pw_X2_1 rfl rfl rfl rfl (Nat.le_of_ble_eq_true rfl) dX2_init_18 (fun F_11699 H locs hw f_11700 o_11701 => ?_)
  have f_11700 : F_11699 a = .inr (2, [.int (nI (5)), .ref a_11677, .null]) := f_11700
  refine lv_aload_n hx hb dX2_init_21 rfl (lv_at hl 0 rfl) ?_
  refine lv_bipush (v := nI 6) hx hb dX2_init_22 (by decide) ?_
  refine lv_bipush (v := nI 7) hx hb dX2_init_24 (by decide) ?_
  refine k_newM C0 hOv.2.2 hw cl_X2_15 (Nat.le_of_ble_eq_true rfl) (Nat.le_of_ble_eq_true rfl) dX2_init_26 (fun L_11702 F_11703 a_11704 H1 g_11705 hr_11706 hm_11707 hw1 => ?_)
  have hge_a_11704 : s.heap.size ≤ a_11704 := Nat.le_trans hw.2.2.1 g_11705.2.2.2.2
  have f_11708 : F_11703 a = .inr (2, [.int (nI (5)), .ref a_11677, .null]) := (g_11705.2.2.1 a m_11682).1.trans f_11700
  have lt_11710 := (g_11705.2.2.1 a m_11682).2
  have m_11709 : a ∈ L_11702 := g_11705.1.1 a m_11682
  have f_11711 : F_11699 a_11677 = oE G (fun i => a_11677 + 1 + i) := (o_11701 a_11677 (by omega)).trans f_11686
  have f_11712 : F_11703 a_11677 = oE G (fun i => a_11677 + 1 + i) := (g_11705.2.2.1 a_11677 m_11685).1.trans f_11711
  have lt_11714 := (g_11705.2.2.1 a_11677 m_11685).2
  have m_11713 : a_11677 ∈ L_11702 := g_11705.1.1 a_11677 m_11685
  have f_11715 : F_11699 (a_11677 + 1 + 0) = rw7 G ((fun _ => zc 0)) := (o_11701 (a_11677 + 1 + 0) (by omega)).trans f_11687
  have f_11716 : F_11703 (a_11677 + 1 + 0) = rw7 G ((fun _ => zc 0)) := (g_11705.2.2.1 (a_11677 + 1 + 0) m_11688).1.trans f_11715
  have lt_11718 := (g_11705.2.2.1 (a_11677 + 1 + 0) m_11688).2
  have m_11717 : (a_11677 + 1 + 0) ∈ L_11702 := g_11705.1.1 (a_11677 + 1 + 0) m_11688
  have f_11719 : F_11699 (a_11677 + 1 + 1) = rw7 G ((fun _ => zc 0)) := (o_11701 (a_11677 + 1 + 1) (by omega)).trans f_11689
  have f_11720 : F_11703 (a_11677 + 1 + 1) = rw7 G ((fun _ => zc 0)) := (g_11705.2.2.1 (a_11677 + 1 + 1) m_11690).1.trans f_11719
  have lt_11722 := (g_11705.2.2.1 (a_11677 + 1 + 1) m_11690).2
  have m_11721 : (a_11677 + 1 + 1) ∈ L_11702 := g_11705.1.1 (a_11677 + 1 + 1) m_11690
  have f_11723 : F_11699 (a_11677 + 1 + 2) = rw7 G ((fun _ => zc 0)) := (o_11701 (a_11677 + 1 + 2) (by omega)).trans f_11691
  have f_11724 : F_11703 (a_11677 + 1 + 2) = rw7 G ((fun _ => zc 0)) := (g_11705.2.2.1 (a_11677 + 1 + 2) m_11692).1.trans f_11723
  have lt_11726 := (g_11705.2.2.1 (a_11677 + 1 + 2) m_11692).2
  have m_11725 : (a_11677 + 1 + 2) ∈ L_11702 := g_11705.1.1 (a_11677 + 1 + 2) m_11692
  have f_11727 : F_11699 (a_11677 + 1 + 3) = rw7 G ((fun _ => zc 0)) := (o_11701 (a_11677 + 1 + 3) (by omega)).trans f_11693
  have f_11728 : F_11703 (a_11677 + 1 + 3) = rw7 G ((fun _ => zc 0)) := (g_11705.2.2.1 (a_11677 + 1 + 3) m_11694).1.trans f_11727
  have lt_11730 := (g_11705.2.2.1 (a_11677 + 1 + 3) m_11694).2
  have m_11729 : (a_11677 + 1 + 3) ∈ L_11702 := g_11705.1.1 (a_11677 + 1 + 3) m_11694
  have f_11731 : F_11699 (a_11677 + 1 + 4) = rw7 G ((fun _ => zc 0)) := (o_11701 (a_11677 + 1 + 4) (by omega)).trans f_11695
  have f_11732 : F_11703 (a_11677 + 1 + 4) = rw7 G ((fun _ => zc 0)) := (g_11705.2.2.1 (a_11677 + 1 + 4) m_11696).1.trans f_11731
  have lt_11734 := (g_11705.2.2.1 (a_11677 + 1 + 4) m_11696).2
  have m_11733 : (a_11677 + 1 + 4) ∈ L_11702 := g_11705.1.1 (a_11677 + 1 + 4) m_11696
  have f_11735 : F_11699 (a_11677 + 1 + 5) = rw7 G ((fun _ => zc 0)) := (o_11701 (a_11677 + 1 + 5) (by omega)).trans f_11697
  have f_11736 : F_11703 (a_11677 + 1 + 5) = rw7 G ((fun _ => zc 0)) := (g_11705.2.2.1 (a_11677 + 1 + 5) m_11698).1.trans f_11735
  have lt_11738 := (g_11705.2.2.1 (a_11677 + 1 + 5) m_11698).2
  have m_11737 : (a_11677 + 1 + 5) ∈ L_11702 := g_11705.1.1 (a_11677 + 1 + 5) m_11698
  have hg_11739 := hg_11684.step g_11705.1 hw.2.2.1
  have C0 := C0.grow g_11705.1 hw.2.2.1
  have hw := hw1
  have m_11740 : a_11704 ∈ L_11702 := g_11705.2.2.2.1
  have f_11741 : F_11703 a_11704 = oE G (fun i => a_11704 + 1 + i) := g_11705.2.1
  have f_11742 : F_11703 (a_11704 + 1 + 0) = rw7 G ((fun _ => zc 0)) := hr_11706 0 (by decide)
  have m_11743 : a_11704 + 1 + 0 ∈ L_11702 := hm_11707 0 (by decide)
  have f_11744 : F_11703 (a_11704 + 1 + 1) = rw7 G ((fun _ => zc 0)) := hr_11706 1 (by decide)
  have m_11745 : a_11704 + 1 + 1 ∈ L_11702 := hm_11707 1 (by decide)
  have f_11746 : F_11703 (a_11704 + 1 + 2) = rw7 G ((fun _ => zc 0)) := hr_11706 2 (by decide)
  have m_11747 : a_11704 + 1 + 2 ∈ L_11702 := hm_11707 2 (by decide)
  have f_11748 : F_11703 (a_11704 + 1 + 3) = rw7 G ((fun _ => zc 0)) := hr_11706 3 (by decide)
  have m_11749 : a_11704 + 1 + 3 ∈ L_11702 := hm_11707 3 (by decide)
  have f_11750 : F_11703 (a_11704 + 1 + 4) = rw7 G ((fun _ => zc 0)) := hr_11706 4 (by decide)
  have m_11751 : a_11704 + 1 + 4 ∈ L_11702 := hm_11707 4 (by decide)
  have f_11752 : F_11703 (a_11704 + 1 + 5) = rw7 G ((fun _ => zc 0)) := hr_11706 5 (by decide)
  have m_11753 : a_11704 + 1 + 5 ∈ L_11702 := hm_11707 5 (by decide)
  refine q_putF C0 hnm hw m_11709 f_11708 fw_X2_20 pw_X2_2 rfl rfl rfl rfl (Nat.le_of_ble_eq_true rfl) dX2_init_30 (fun F_11754 H locs hw f_11755 o_11756 => ?_)
  have f_11755 : F_11754 a = .inr (2, [.int (nI (5)), .ref a_11677, .ref a_11704]) := f_11755
  refine lv_iconst (v := nI 0) hx hb dX2_init_33 (by decide) ?_
  refine lv_istore_n (lv' := [(1, .int (nI (0))), (0, .ref a)]) hx hb dX2_init_34 rfl hl (by decide) rfl (fun ls hl => ?_)
  refine lv_iload_n hx hb dX2_init_35 rfl (lv_at hl 0 rfl) ?_
  refine lv_bipush (v := nI 6) hx hb dX2_init_36 (by decide) ?_
  refine n_icmp_ge (tgt := 56) hx hb dX2_init_38 (by decide) (by decide) (by decide) (fun c_38 => ?_) (fun c_38 => ?_)
  · skip
    exact absurd c_38 (by omega)
  · skip
    refine lv_aload_n hx hb dX2_init_41 rfl (lv_at hl 1 rfl) ?_
    refine q_get C0 hw m_11709 f_11755 fw_X2_20 rfl dX2_init_42 ?_
    refine lv_iload_n hx hb dX2_init_45 rfl (lv_at hl 0 rfl) ?_
    have f_11757 : F_11754 a_11704 = oE G (fun i => a_11704 + 1 + i) := (o_11756 a_11704 (by omega)).trans f_11741
    refine q_aaldi C0 hw m_11740 f_11757 (0) (by omega) (by decide) (b := a_11704 + 1 + 0) rfl dX2_init_46 ?_
    refine lv_iconst (v := nI 1) hx hb dX2_init_47 (by decide) ?_
    refine lv_iconst (v := nI 1) hx hb dX2_init_48 (by decide) ?_
    have f_11758 : F_11754 (a_11704 + 1 + 0) = rw7 G ((fun _ => zc 0)) := (o_11756 (a_11704 + 1 + 0) (by omega)).trans f_11742
    refine q_rst C0 hw m_11743 f_11758 (1) (by omega) (z := zc 1) dX2_init_49 (fun F_11759 H locs hw f_11760 o_11761 => ?_)
    refine lv_iinc (v := nI 1) (lv' := [(1, .int (nI (1))), (0, .ref a)]) hx hb dX2_init_50 hl (k := 0) rfl (by decide) (by decide) rfl (fun ls hl => ?_)
    refine lv_goto (tgt := 35) hx hb dX2_init_53 (by decide) ?_
    refine lv_iload_n hx hb dX2_init_35 rfl (lv_at hl 0 rfl) ?_
    refine lv_bipush (v := nI 6) hx hb dX2_init_36 (by decide) ?_
    refine n_icmp_ge (tgt := 56) hx hb dX2_init_38 (by decide) (by decide) (by decide) (fun c_38 => ?_) (fun c_38 => ?_)
    · skip
      exact absurd c_38 (by omega)
    · skip
      refine lv_aload_n hx hb dX2_init_41 rfl (lv_at hl 1 rfl) ?_
      have f_11762 : F_11759 a = .inr (2, [.int (nI (5)), .ref a_11677, .ref a_11704]) := (o_11761 a (by omega)).trans f_11755
      refine q_get C0 hw m_11709 f_11762 fw_X2_20 rfl dX2_init_42 ?_
      refine lv_iload_n hx hb dX2_init_45 rfl (lv_at hl 0 rfl) ?_
      have f_11763 : F_11759 a_11704 = oE G (fun i => a_11704 + 1 + i) := (o_11761 a_11704 (by omega)).trans f_11757
      refine q_aaldi C0 hw m_11740 f_11763 (1) (by omega) (by decide) (b := a_11704 + 1 + 1) rfl dX2_init_46 ?_
      refine lv_iconst (v := nI 1) hx hb dX2_init_47 (by decide) ?_
      refine lv_iconst (v := nI 1) hx hb dX2_init_48 (by decide) ?_
      have f_11764 : F_11754 (a_11704 + 1 + 1) = rw7 G ((fun _ => zc 0)) := (o_11756 (a_11704 + 1 + 1) (by omega)).trans f_11744
      have f_11765 : F_11759 (a_11704 + 1 + 1) = rw7 G ((fun _ => zc 0)) := (o_11761 (a_11704 + 1 + 1) (by omega)).trans f_11764
      refine q_rst C0 hw m_11745 f_11765 (1) (by omega) (z := zc 1) dX2_init_49 (fun F_11766 H locs hw f_11767 o_11768 => ?_)
      refine lv_iinc (v := nI 2) (lv' := [(1, .int (nI (2))), (0, .ref a)]) hx hb dX2_init_50 hl (k := 0) rfl (by decide) (by decide) rfl (fun ls hl => ?_)
      refine lv_goto (tgt := 35) hx hb dX2_init_53 (by decide) ?_
      refine lv_iload_n hx hb dX2_init_35 rfl (lv_at hl 0 rfl) ?_
      refine lv_bipush (v := nI 6) hx hb dX2_init_36 (by decide) ?_
      refine n_icmp_ge (tgt := 56) hx hb dX2_init_38 (by decide) (by decide) (by decide) (fun c_38 => ?_) (fun c_38 => ?_)
      · skip
        exact absurd c_38 (by omega)
      · skip
        refine lv_aload_n hx hb dX2_init_41 rfl (lv_at hl 1 rfl) ?_
        have f_11769 : F_11766 a = .inr (2, [.int (nI (5)), .ref a_11677, .ref a_11704]) := (o_11768 a (by omega)).trans f_11762
        refine q_get C0 hw m_11709 f_11769 fw_X2_20 rfl dX2_init_42 ?_
        refine lv_iload_n hx hb dX2_init_45 rfl (lv_at hl 0 rfl) ?_
        have f_11770 : F_11766 a_11704 = oE G (fun i => a_11704 + 1 + i) := (o_11768 a_11704 (by omega)).trans f_11763
        refine q_aaldi C0 hw m_11740 f_11770 (2) (by omega) (by decide) (b := a_11704 + 1 + 2) rfl dX2_init_46 ?_
        refine lv_iconst (v := nI 1) hx hb dX2_init_47 (by decide) ?_
        refine lv_iconst (v := nI 1) hx hb dX2_init_48 (by decide) ?_
        have f_11771 : F_11754 (a_11704 + 1 + 2) = rw7 G ((fun _ => zc 0)) := (o_11756 (a_11704 + 1 + 2) (by omega)).trans f_11746
        have f_11772 : F_11759 (a_11704 + 1 + 2) = rw7 G ((fun _ => zc 0)) := (o_11761 (a_11704 + 1 + 2) (by omega)).trans f_11771
        have f_11773 : F_11766 (a_11704 + 1 + 2) = rw7 G ((fun _ => zc 0)) := (o_11768 (a_11704 + 1 + 2) (by omega)).trans f_11772
        refine q_rst C0 hw m_11747 f_11773 (1) (by omega) (z := zc 1) dX2_init_49 (fun F_11774 H locs hw f_11775 o_11776 => ?_)
        refine lv_iinc (v := nI 3) (lv' := [(1, .int (nI (3))), (0, .ref a)]) hx hb dX2_init_50 hl (k := 0) rfl (by decide) (by decide) rfl (fun ls hl => ?_)
        refine lv_goto (tgt := 35) hx hb dX2_init_53 (by decide) ?_
        refine lv_iload_n hx hb dX2_init_35 rfl (lv_at hl 0 rfl) ?_
        refine lv_bipush (v := nI 6) hx hb dX2_init_36 (by decide) ?_
        refine n_icmp_ge (tgt := 56) hx hb dX2_init_38 (by decide) (by decide) (by decide) (fun c_38 => ?_) (fun c_38 => ?_)
        · skip
          exact absurd c_38 (by omega)
        · skip
          refine lv_aload_n hx hb dX2_init_41 rfl (lv_at hl 1 rfl) ?_
          have f_11777 : F_11774 a = .inr (2, [.int (nI (5)), .ref a_11677, .ref a_11704]) := (o_11776 a (by omega)).trans f_11769
          refine q_get C0 hw m_11709 f_11777 fw_X2_20 rfl dX2_init_42 ?_
          refine lv_iload_n hx hb dX2_init_45 rfl (lv_at hl 0 rfl) ?_
          have f_11778 : F_11774 a_11704 = oE G (fun i => a_11704 + 1 + i) := (o_11776 a_11704 (by omega)).trans f_11770
          refine q_aaldi C0 hw m_11740 f_11778 (3) (by omega) (by decide) (b := a_11704 + 1 + 3) rfl dX2_init_46 ?_
          refine lv_iconst (v := nI 1) hx hb dX2_init_47 (by decide) ?_
          refine lv_iconst (v := nI 1) hx hb dX2_init_48 (by decide) ?_
          have f_11779 : F_11754 (a_11704 + 1 + 3) = rw7 G ((fun _ => zc 0)) := (o_11756 (a_11704 + 1 + 3) (by omega)).trans f_11748
          have f_11780 : F_11759 (a_11704 + 1 + 3) = rw7 G ((fun _ => zc 0)) := (o_11761 (a_11704 + 1 + 3) (by omega)).trans f_11779
          have f_11781 : F_11766 (a_11704 + 1 + 3) = rw7 G ((fun _ => zc 0)) := (o_11768 (a_11704 + 1 + 3) (by omega)).trans f_11780
          have f_11782 : F_11774 (a_11704 + 1 + 3) = rw7 G ((fun _ => zc 0)) := (o_11776 (a_11704 + 1 + 3) (by omega)).trans f_11781
          refine q_rst C0 hw m_11749 f_11782 (1) (by omega) (z := zc 1) dX2_init_49 (fun F_11783 H locs hw f_11784 o_11785 => ?_)
          refine lv_iinc (v := nI 4) (lv' := [(1, .int (nI (4))), (0, .ref a)]) hx hb dX2_init_50 hl (k := 0) rfl (by decide) (by decide) rfl (fun ls hl => ?_)
          refine lv_goto (tgt := 35) hx hb dX2_init_53 (by decide) ?_
          refine lv_iload_n hx hb dX2_init_35 rfl (lv_at hl 0 rfl) ?_
          refine lv_bipush (v := nI 6) hx hb dX2_init_36 (by decide) ?_
          refine n_icmp_ge (tgt := 56) hx hb dX2_init_38 (by decide) (by decide) (by decide) (fun c_38 => ?_) (fun c_38 => ?_)
          · skip
            exact absurd c_38 (by omega)
          · skip
            refine lv_aload_n hx hb dX2_init_41 rfl (lv_at hl 1 rfl) ?_
            have f_11786 : F_11783 a = .inr (2, [.int (nI (5)), .ref a_11677, .ref a_11704]) := (o_11785 a (by omega)).trans f_11777
            refine q_get C0 hw m_11709 f_11786 fw_X2_20 rfl dX2_init_42 ?_
            refine lv_iload_n hx hb dX2_init_45 rfl (lv_at hl 0 rfl) ?_
            have f_11787 : F_11783 a_11704 = oE G (fun i => a_11704 + 1 + i) := (o_11785 a_11704 (by omega)).trans f_11778
            refine q_aaldi C0 hw m_11740 f_11787 (4) (by omega) (by decide) (b := a_11704 + 1 + 4) rfl dX2_init_46 ?_
            refine lv_iconst (v := nI 1) hx hb dX2_init_47 (by decide) ?_
            refine lv_iconst (v := nI 1) hx hb dX2_init_48 (by decide) ?_
            have f_11788 : F_11754 (a_11704 + 1 + 4) = rw7 G ((fun _ => zc 0)) := (o_11756 (a_11704 + 1 + 4) (by omega)).trans f_11750
            have f_11789 : F_11759 (a_11704 + 1 + 4) = rw7 G ((fun _ => zc 0)) := (o_11761 (a_11704 + 1 + 4) (by omega)).trans f_11788
            have f_11790 : F_11766 (a_11704 + 1 + 4) = rw7 G ((fun _ => zc 0)) := (o_11768 (a_11704 + 1 + 4) (by omega)).trans f_11789
            have f_11791 : F_11774 (a_11704 + 1 + 4) = rw7 G ((fun _ => zc 0)) := (o_11776 (a_11704 + 1 + 4) (by omega)).trans f_11790
            have f_11792 : F_11783 (a_11704 + 1 + 4) = rw7 G ((fun _ => zc 0)) := (o_11785 (a_11704 + 1 + 4) (by omega)).trans f_11791
            refine q_rst C0 hw m_11751 f_11792 (1) (by omega) (z := zc 1) dX2_init_49 (fun F_11793 H locs hw f_11794 o_11795 => ?_)
            refine lv_iinc (v := nI 5) (lv' := [(1, .int (nI (5))), (0, .ref a)]) hx hb dX2_init_50 hl (k := 0) rfl (by decide) (by decide) rfl (fun ls hl => ?_)
            refine lv_goto (tgt := 35) hx hb dX2_init_53 (by decide) ?_
            refine lv_iload_n hx hb dX2_init_35 rfl (lv_at hl 0 rfl) ?_
            refine lv_bipush (v := nI 6) hx hb dX2_init_36 (by decide) ?_
            refine n_icmp_ge (tgt := 56) hx hb dX2_init_38 (by decide) (by decide) (by decide) (fun c_38 => ?_) (fun c_38 => ?_)
            · skip
              exact absurd c_38 (by omega)
            · skip
              refine lv_aload_n hx hb dX2_init_41 rfl (lv_at hl 1 rfl) ?_
              have f_11796 : F_11793 a = .inr (2, [.int (nI (5)), .ref a_11677, .ref a_11704]) := (o_11795 a (by omega)).trans f_11786
              refine q_get C0 hw m_11709 f_11796 fw_X2_20 rfl dX2_init_42 ?_
              refine lv_iload_n hx hb dX2_init_45 rfl (lv_at hl 0 rfl) ?_
              have f_11797 : F_11793 a_11704 = oE G (fun i => a_11704 + 1 + i) := (o_11795 a_11704 (by omega)).trans f_11787
              refine q_aaldi C0 hw m_11740 f_11797 (5) (by omega) (by decide) (b := a_11704 + 1 + 5) rfl dX2_init_46 ?_
              refine lv_iconst (v := nI 1) hx hb dX2_init_47 (by decide) ?_
              refine lv_iconst (v := nI 1) hx hb dX2_init_48 (by decide) ?_
              have f_11798 : F_11754 (a_11704 + 1 + 5) = rw7 G ((fun _ => zc 0)) := (o_11756 (a_11704 + 1 + 5) (by omega)).trans f_11752
              have f_11799 : F_11759 (a_11704 + 1 + 5) = rw7 G ((fun _ => zc 0)) := (o_11761 (a_11704 + 1 + 5) (by omega)).trans f_11798
              have f_11800 : F_11766 (a_11704 + 1 + 5) = rw7 G ((fun _ => zc 0)) := (o_11768 (a_11704 + 1 + 5) (by omega)).trans f_11799
              have f_11801 : F_11774 (a_11704 + 1 + 5) = rw7 G ((fun _ => zc 0)) := (o_11776 (a_11704 + 1 + 5) (by omega)).trans f_11800
              have f_11802 : F_11783 (a_11704 + 1 + 5) = rw7 G ((fun _ => zc 0)) := (o_11785 (a_11704 + 1 + 5) (by omega)).trans f_11801
              have f_11803 : F_11793 (a_11704 + 1 + 5) = rw7 G ((fun _ => zc 0)) := (o_11795 (a_11704 + 1 + 5) (by omega)).trans f_11802
              refine q_rst C0 hw m_11753 f_11803 (1) (by omega) (z := zc 1) dX2_init_49 (fun F_11804 H locs hw f_11805 o_11806 => ?_)
              refine lv_iinc (v := nI 6) (lv' := [(1, .int (nI (6))), (0, .ref a)]) hx hb dX2_init_50 hl (k := 0) rfl (by decide) (by decide) rfl (fun ls hl => ?_)
              refine lv_goto (tgt := 35) hx hb dX2_init_53 (by decide) ?_
              refine lv_iload_n hx hb dX2_init_35 rfl (lv_at hl 0 rfl) ?_
              refine lv_bipush (v := nI 6) hx hb dX2_init_36 (by decide) ?_
              refine n_icmp_ge (tgt := 56) hx hb dX2_init_38 (by decide) (by decide) (by decide) (fun c_38 => ?_) (fun c_38 => ?_)
              · skip
                obtain ⟨n, en⟩ : ∃ n : Nat → Nat, n = (fun i => if i = 1 then a else if i = 2 then a_11677 else if i = 3 then a_11704 else if i < 10 then a_11677 + 1 + (i - 4) else a_11704 + 1 + (i - 10)) := ⟨_, rfl⟩
                have e1 : n 1 = a := by rw [en]; rfl
                have e2 : n 2 = a_11677 := by rw [en]; rfl
                have e3 : n 3 = a_11704 := by rw [en]; rfl
                have e4 : n 4 = a_11677 + 1 + 0 := by rw [en]; rfl
                have e5 : n 5 = a_11677 + 1 + 1 := by rw [en]; rfl
                have e6 : n 6 = a_11677 + 1 + 2 := by rw [en]; rfl
                have e7 : n 7 = a_11677 + 1 + 3 := by rw [en]; rfl
                have e8 : n 8 = a_11677 + 1 + 4 := by rw [en]; rfl
                have e9 : n 9 = a_11677 + 1 + 5 := by rw [en]; rfl
                have e10 : n 10 = a_11704 + 1 + 0 := by rw [en]; rfl
                have e11 : n 11 = a_11704 + 1 + 1 := by rw [en]; rfl
                have e12 : n 12 = a_11704 + 1 + 2 := by rw [en]; rfl
                have e13 : n 13 = a_11704 + 1 + 3 := by rw [en]; rfl
                have e14 : n 14 = a_11704 + 1 + 4 := by rw [en]; rfl
                have e15 : n 15 = a_11704 + 1 + 5 := by rw [en]; rfl
                have f_11807 : F_11754 a_11677 = oE G (fun i => a_11677 + 1 + i) := (o_11756 a_11677 (by omega)).trans f_11712
                have f_11808 : F_11759 a_11677 = oE G (fun i => a_11677 + 1 + i) := (o_11761 a_11677 (by omega)).trans f_11807
                have f_11809 : F_11766 a_11677 = oE G (fun i => a_11677 + 1 + i) := (o_11768 a_11677 (by omega)).trans f_11808
                have f_11810 : F_11774 a_11677 = oE G (fun i => a_11677 + 1 + i) := (o_11776 a_11677 (by omega)).trans f_11809
                have f_11811 : F_11783 a_11677 = oE G (fun i => a_11677 + 1 + i) := (o_11785 a_11677 (by omega)).trans f_11810
                have f_11812 : F_11793 a_11677 = oE G (fun i => a_11677 + 1 + i) := (o_11795 a_11677 (by omega)).trans f_11811
                have f_11813 : F_11804 a_11677 = oE G (fun i => a_11677 + 1 + i) := (o_11806 a_11677 (by omega)).trans f_11812
                obtain ⟨F_11814, hw, f_11815, o_11816⟩ := hw.canonqE f_11813 (g := (fun i => some (n (0 + 4 + i)))) (fun i hi => by match i, hi with | 0, _ => exact congrArg some e4.symm | 1, _ => exact congrArg some e5.symm | 2, _ => exact congrArg some e6.symm | 3, _ => exact congrArg some e7.symm | 4, _ => exact congrArg some e8.symm | 5, _ => exact congrArg some e9.symm | i + 6, h9 => exact absurd h9 (by omega))
                have f_11817 : F_11804 a_11704 = oE G (fun i => a_11704 + 1 + i) := (o_11806 a_11704 (by omega)).trans f_11797
                have f_11818 : F_11814 a_11704 = oE G (fun i => a_11704 + 1 + i) := (o_11816 a_11704 (by omega)).trans f_11817
                obtain ⟨F_11819, hw, f_11820, o_11821⟩ := hw.canonqE f_11818 (g := (fun i => some (n (0 + 10 + i)))) (fun i hi => by match i, hi with | 0, _ => exact congrArg some e10.symm | 1, _ => exact congrArg some e11.symm | 2, _ => exact congrArg some e12.symm | 3, _ => exact congrArg some e13.symm | 4, _ => exact congrArg some e14.symm | 5, _ => exact congrArg some e15.symm | i + 6, h9 => exact absurd h9 (by omega))
                have hfr_11822 : ∀ q ∈ L, q ≠ a → F_11819 q = F q := by
                  intro q hq hne
                  have hqlt := hwS.lt hq
                  exact (((((((((((((o_11821 q (by omega)).trans (o_11816 q (by omega))).trans (o_11806 q (by omega))).trans (o_11795 q (by omega))).trans (o_11785 q (by omega))).trans (o_11776 q (by omega))).trans (o_11768 q (by omega))).trans (o_11761 q (by omega))).trans (o_11756 q (by omega))).trans (g_11705.2.2.1 q (hg_11684.1 q hq)).1).trans (o_11701 q (by omega))).trans (g_11678.2.2.1 q (hg0.1 q hq)).1).trans (o_11674 q (by omega)))
                have f_11823 : F_11804 a = .inr (2, [.int (nI (5)), .ref a_11677, .ref a_11704]) := (o_11806 a (by omega)).trans f_11796
                have f_11824 : F_11814 a = .inr (2, [.int (nI (5)), .ref a_11677, .ref a_11704]) := (o_11816 a (by omega)).trans f_11823
                have f_11825 : F_11819 a = .inr (2, [.int (nI (5)), .ref a_11677, .ref a_11704]) := (o_11821 a (by omega)).trans f_11824
                have f_11826 : F_11819 a_11677 = oE G (fun i => n (0 + 4 + i)) := (o_11821 a_11677 (by omega)).trans f_11815
                have f_11827 : F_11754 (a_11677 + 1 + 0) = rw7 G ((fun _ => zc 0)) := (o_11756 (a_11677 + 1 + 0) (by omega)).trans f_11716
                have f_11828 : F_11759 (a_11677 + 1 + 0) = rw7 G ((fun _ => zc 0)) := (o_11761 (a_11677 + 1 + 0) (by omega)).trans f_11827
                have f_11829 : F_11766 (a_11677 + 1 + 0) = rw7 G ((fun _ => zc 0)) := (o_11768 (a_11677 + 1 + 0) (by omega)).trans f_11828
                have f_11830 : F_11774 (a_11677 + 1 + 0) = rw7 G ((fun _ => zc 0)) := (o_11776 (a_11677 + 1 + 0) (by omega)).trans f_11829
                have f_11831 : F_11783 (a_11677 + 1 + 0) = rw7 G ((fun _ => zc 0)) := (o_11785 (a_11677 + 1 + 0) (by omega)).trans f_11830
                have f_11832 : F_11793 (a_11677 + 1 + 0) = rw7 G ((fun _ => zc 0)) := (o_11795 (a_11677 + 1 + 0) (by omega)).trans f_11831
                have f_11833 : F_11804 (a_11677 + 1 + 0) = rw7 G ((fun _ => zc 0)) := (o_11806 (a_11677 + 1 + 0) (by omega)).trans f_11832
                have f_11834 : F_11814 (a_11677 + 1 + 0) = rw7 G ((fun _ => zc 0)) := (o_11816 (a_11677 + 1 + 0) (by omega)).trans f_11833
                have f_11835 : F_11819 (a_11677 + 1 + 0) = rw7 G ((fun _ => zc 0)) := (o_11821 (a_11677 + 1 + 0) (by omega)).trans f_11834
                have f_11836 : F_11754 (a_11677 + 1 + 1) = rw7 G ((fun _ => zc 0)) := (o_11756 (a_11677 + 1 + 1) (by omega)).trans f_11720
                have f_11837 : F_11759 (a_11677 + 1 + 1) = rw7 G ((fun _ => zc 0)) := (o_11761 (a_11677 + 1 + 1) (by omega)).trans f_11836
                have f_11838 : F_11766 (a_11677 + 1 + 1) = rw7 G ((fun _ => zc 0)) := (o_11768 (a_11677 + 1 + 1) (by omega)).trans f_11837
                have f_11839 : F_11774 (a_11677 + 1 + 1) = rw7 G ((fun _ => zc 0)) := (o_11776 (a_11677 + 1 + 1) (by omega)).trans f_11838
                have f_11840 : F_11783 (a_11677 + 1 + 1) = rw7 G ((fun _ => zc 0)) := (o_11785 (a_11677 + 1 + 1) (by omega)).trans f_11839
                have f_11841 : F_11793 (a_11677 + 1 + 1) = rw7 G ((fun _ => zc 0)) := (o_11795 (a_11677 + 1 + 1) (by omega)).trans f_11840
                have f_11842 : F_11804 (a_11677 + 1 + 1) = rw7 G ((fun _ => zc 0)) := (o_11806 (a_11677 + 1 + 1) (by omega)).trans f_11841
                have f_11843 : F_11814 (a_11677 + 1 + 1) = rw7 G ((fun _ => zc 0)) := (o_11816 (a_11677 + 1 + 1) (by omega)).trans f_11842
                have f_11844 : F_11819 (a_11677 + 1 + 1) = rw7 G ((fun _ => zc 0)) := (o_11821 (a_11677 + 1 + 1) (by omega)).trans f_11843
                have f_11845 : F_11754 (a_11677 + 1 + 2) = rw7 G ((fun _ => zc 0)) := (o_11756 (a_11677 + 1 + 2) (by omega)).trans f_11724
                have f_11846 : F_11759 (a_11677 + 1 + 2) = rw7 G ((fun _ => zc 0)) := (o_11761 (a_11677 + 1 + 2) (by omega)).trans f_11845
                have f_11847 : F_11766 (a_11677 + 1 + 2) = rw7 G ((fun _ => zc 0)) := (o_11768 (a_11677 + 1 + 2) (by omega)).trans f_11846
                have f_11848 : F_11774 (a_11677 + 1 + 2) = rw7 G ((fun _ => zc 0)) := (o_11776 (a_11677 + 1 + 2) (by omega)).trans f_11847
                have f_11849 : F_11783 (a_11677 + 1 + 2) = rw7 G ((fun _ => zc 0)) := (o_11785 (a_11677 + 1 + 2) (by omega)).trans f_11848
                have f_11850 : F_11793 (a_11677 + 1 + 2) = rw7 G ((fun _ => zc 0)) := (o_11795 (a_11677 + 1 + 2) (by omega)).trans f_11849
                have f_11851 : F_11804 (a_11677 + 1 + 2) = rw7 G ((fun _ => zc 0)) := (o_11806 (a_11677 + 1 + 2) (by omega)).trans f_11850
                have f_11852 : F_11814 (a_11677 + 1 + 2) = rw7 G ((fun _ => zc 0)) := (o_11816 (a_11677 + 1 + 2) (by omega)).trans f_11851
                have f_11853 : F_11819 (a_11677 + 1 + 2) = rw7 G ((fun _ => zc 0)) := (o_11821 (a_11677 + 1 + 2) (by omega)).trans f_11852
                have f_11854 : F_11754 (a_11677 + 1 + 3) = rw7 G ((fun _ => zc 0)) := (o_11756 (a_11677 + 1 + 3) (by omega)).trans f_11728
                have f_11855 : F_11759 (a_11677 + 1 + 3) = rw7 G ((fun _ => zc 0)) := (o_11761 (a_11677 + 1 + 3) (by omega)).trans f_11854
                have f_11856 : F_11766 (a_11677 + 1 + 3) = rw7 G ((fun _ => zc 0)) := (o_11768 (a_11677 + 1 + 3) (by omega)).trans f_11855
                have f_11857 : F_11774 (a_11677 + 1 + 3) = rw7 G ((fun _ => zc 0)) := (o_11776 (a_11677 + 1 + 3) (by omega)).trans f_11856
                have f_11858 : F_11783 (a_11677 + 1 + 3) = rw7 G ((fun _ => zc 0)) := (o_11785 (a_11677 + 1 + 3) (by omega)).trans f_11857
                have f_11859 : F_11793 (a_11677 + 1 + 3) = rw7 G ((fun _ => zc 0)) := (o_11795 (a_11677 + 1 + 3) (by omega)).trans f_11858
                have f_11860 : F_11804 (a_11677 + 1 + 3) = rw7 G ((fun _ => zc 0)) := (o_11806 (a_11677 + 1 + 3) (by omega)).trans f_11859
                have f_11861 : F_11814 (a_11677 + 1 + 3) = rw7 G ((fun _ => zc 0)) := (o_11816 (a_11677 + 1 + 3) (by omega)).trans f_11860
                have f_11862 : F_11819 (a_11677 + 1 + 3) = rw7 G ((fun _ => zc 0)) := (o_11821 (a_11677 + 1 + 3) (by omega)).trans f_11861
                have f_11863 : F_11754 (a_11677 + 1 + 4) = rw7 G ((fun _ => zc 0)) := (o_11756 (a_11677 + 1 + 4) (by omega)).trans f_11732
                have f_11864 : F_11759 (a_11677 + 1 + 4) = rw7 G ((fun _ => zc 0)) := (o_11761 (a_11677 + 1 + 4) (by omega)).trans f_11863
                have f_11865 : F_11766 (a_11677 + 1 + 4) = rw7 G ((fun _ => zc 0)) := (o_11768 (a_11677 + 1 + 4) (by omega)).trans f_11864
                have f_11866 : F_11774 (a_11677 + 1 + 4) = rw7 G ((fun _ => zc 0)) := (o_11776 (a_11677 + 1 + 4) (by omega)).trans f_11865
                have f_11867 : F_11783 (a_11677 + 1 + 4) = rw7 G ((fun _ => zc 0)) := (o_11785 (a_11677 + 1 + 4) (by omega)).trans f_11866
                have f_11868 : F_11793 (a_11677 + 1 + 4) = rw7 G ((fun _ => zc 0)) := (o_11795 (a_11677 + 1 + 4) (by omega)).trans f_11867
                have f_11869 : F_11804 (a_11677 + 1 + 4) = rw7 G ((fun _ => zc 0)) := (o_11806 (a_11677 + 1 + 4) (by omega)).trans f_11868
                have f_11870 : F_11814 (a_11677 + 1 + 4) = rw7 G ((fun _ => zc 0)) := (o_11816 (a_11677 + 1 + 4) (by omega)).trans f_11869
                have f_11871 : F_11819 (a_11677 + 1 + 4) = rw7 G ((fun _ => zc 0)) := (o_11821 (a_11677 + 1 + 4) (by omega)).trans f_11870
                have f_11872 : F_11754 (a_11677 + 1 + 5) = rw7 G ((fun _ => zc 0)) := (o_11756 (a_11677 + 1 + 5) (by omega)).trans f_11736
                have f_11873 : F_11759 (a_11677 + 1 + 5) = rw7 G ((fun _ => zc 0)) := (o_11761 (a_11677 + 1 + 5) (by omega)).trans f_11872
                have f_11874 : F_11766 (a_11677 + 1 + 5) = rw7 G ((fun _ => zc 0)) := (o_11768 (a_11677 + 1 + 5) (by omega)).trans f_11873
                have f_11875 : F_11774 (a_11677 + 1 + 5) = rw7 G ((fun _ => zc 0)) := (o_11776 (a_11677 + 1 + 5) (by omega)).trans f_11874
                have f_11876 : F_11783 (a_11677 + 1 + 5) = rw7 G ((fun _ => zc 0)) := (o_11785 (a_11677 + 1 + 5) (by omega)).trans f_11875
                have f_11877 : F_11793 (a_11677 + 1 + 5) = rw7 G ((fun _ => zc 0)) := (o_11795 (a_11677 + 1 + 5) (by omega)).trans f_11876
                have f_11878 : F_11804 (a_11677 + 1 + 5) = rw7 G ((fun _ => zc 0)) := (o_11806 (a_11677 + 1 + 5) (by omega)).trans f_11877
                have f_11879 : F_11814 (a_11677 + 1 + 5) = rw7 G ((fun _ => zc 0)) := (o_11816 (a_11677 + 1 + 5) (by omega)).trans f_11878
                have f_11880 : F_11819 (a_11677 + 1 + 5) = rw7 G ((fun _ => zc 0)) := (o_11821 (a_11677 + 1 + 5) (by omega)).trans f_11879
                have f_11881 : F_11766 (a_11704 + 1 + 0) = rw7 G (va_up ((fun _ => zc 0)) (1) (zc 1)) := (o_11768 (a_11704 + 1 + 0) (by omega)).trans f_11760
                have f_11882 : F_11774 (a_11704 + 1 + 0) = rw7 G (va_up ((fun _ => zc 0)) (1) (zc 1)) := (o_11776 (a_11704 + 1 + 0) (by omega)).trans f_11881
                have f_11883 : F_11783 (a_11704 + 1 + 0) = rw7 G (va_up ((fun _ => zc 0)) (1) (zc 1)) := (o_11785 (a_11704 + 1 + 0) (by omega)).trans f_11882
                have f_11884 : F_11793 (a_11704 + 1 + 0) = rw7 G (va_up ((fun _ => zc 0)) (1) (zc 1)) := (o_11795 (a_11704 + 1 + 0) (by omega)).trans f_11883
                have f_11885 : F_11804 (a_11704 + 1 + 0) = rw7 G (va_up ((fun _ => zc 0)) (1) (zc 1)) := (o_11806 (a_11704 + 1 + 0) (by omega)).trans f_11884
                have f_11886 : F_11814 (a_11704 + 1 + 0) = rw7 G (va_up ((fun _ => zc 0)) (1) (zc 1)) := (o_11816 (a_11704 + 1 + 0) (by omega)).trans f_11885
                have f_11887 : F_11819 (a_11704 + 1 + 0) = rw7 G (va_up ((fun _ => zc 0)) (1) (zc 1)) := (o_11821 (a_11704 + 1 + 0) (by omega)).trans f_11886
                have f_11888 : F_11774 (a_11704 + 1 + 1) = rw7 G (va_up ((fun _ => zc 0)) (1) (zc 1)) := (o_11776 (a_11704 + 1 + 1) (by omega)).trans f_11767
                have f_11889 : F_11783 (a_11704 + 1 + 1) = rw7 G (va_up ((fun _ => zc 0)) (1) (zc 1)) := (o_11785 (a_11704 + 1 + 1) (by omega)).trans f_11888
                have f_11890 : F_11793 (a_11704 + 1 + 1) = rw7 G (va_up ((fun _ => zc 0)) (1) (zc 1)) := (o_11795 (a_11704 + 1 + 1) (by omega)).trans f_11889
                have f_11891 : F_11804 (a_11704 + 1 + 1) = rw7 G (va_up ((fun _ => zc 0)) (1) (zc 1)) := (o_11806 (a_11704 + 1 + 1) (by omega)).trans f_11890
                have f_11892 : F_11814 (a_11704 + 1 + 1) = rw7 G (va_up ((fun _ => zc 0)) (1) (zc 1)) := (o_11816 (a_11704 + 1 + 1) (by omega)).trans f_11891
                have f_11893 : F_11819 (a_11704 + 1 + 1) = rw7 G (va_up ((fun _ => zc 0)) (1) (zc 1)) := (o_11821 (a_11704 + 1 + 1) (by omega)).trans f_11892
                have f_11894 : F_11783 (a_11704 + 1 + 2) = rw7 G (va_up ((fun _ => zc 0)) (1) (zc 1)) := (o_11785 (a_11704 + 1 + 2) (by omega)).trans f_11775
                have f_11895 : F_11793 (a_11704 + 1 + 2) = rw7 G (va_up ((fun _ => zc 0)) (1) (zc 1)) := (o_11795 (a_11704 + 1 + 2) (by omega)).trans f_11894
                have f_11896 : F_11804 (a_11704 + 1 + 2) = rw7 G (va_up ((fun _ => zc 0)) (1) (zc 1)) := (o_11806 (a_11704 + 1 + 2) (by omega)).trans f_11895
                have f_11897 : F_11814 (a_11704 + 1 + 2) = rw7 G (va_up ((fun _ => zc 0)) (1) (zc 1)) := (o_11816 (a_11704 + 1 + 2) (by omega)).trans f_11896
                have f_11898 : F_11819 (a_11704 + 1 + 2) = rw7 G (va_up ((fun _ => zc 0)) (1) (zc 1)) := (o_11821 (a_11704 + 1 + 2) (by omega)).trans f_11897
                have f_11899 : F_11793 (a_11704 + 1 + 3) = rw7 G (va_up ((fun _ => zc 0)) (1) (zc 1)) := (o_11795 (a_11704 + 1 + 3) (by omega)).trans f_11784
                have f_11900 : F_11804 (a_11704 + 1 + 3) = rw7 G (va_up ((fun _ => zc 0)) (1) (zc 1)) := (o_11806 (a_11704 + 1 + 3) (by omega)).trans f_11899
                have f_11901 : F_11814 (a_11704 + 1 + 3) = rw7 G (va_up ((fun _ => zc 0)) (1) (zc 1)) := (o_11816 (a_11704 + 1 + 3) (by omega)).trans f_11900
                have f_11902 : F_11819 (a_11704 + 1 + 3) = rw7 G (va_up ((fun _ => zc 0)) (1) (zc 1)) := (o_11821 (a_11704 + 1 + 3) (by omega)).trans f_11901
                have f_11903 : F_11804 (a_11704 + 1 + 4) = rw7 G (va_up ((fun _ => zc 0)) (1) (zc 1)) := (o_11806 (a_11704 + 1 + 4) (by omega)).trans f_11794
                have f_11904 : F_11814 (a_11704 + 1 + 4) = rw7 G (va_up ((fun _ => zc 0)) (1) (zc 1)) := (o_11816 (a_11704 + 1 + 4) (by omega)).trans f_11903
                have f_11905 : F_11819 (a_11704 + 1 + 4) = rw7 G (va_up ((fun _ => zc 0)) (1) (zc 1)) := (o_11821 (a_11704 + 1 + 4) (by omega)).trans f_11904
                have f_11906 : F_11814 (a_11704 + 1 + 5) = rw7 G (va_up ((fun _ => zc 0)) (1) (zc 1)) := (o_11816 (a_11704 + 1 + 5) (by omega)).trans f_11805
                have f_11907 : F_11819 (a_11704 + 1 + 5) = rw7 G (va_up ((fun _ => zc 0)) (1) (zc 1)) := (o_11821 (a_11704 + 1 + 5) (by omega)).trans f_11906
                have hrr : ∀ i, i < 12 → F_11819 (n (0 + 4 + i)) = rw7 G (r0 i) := by
                  intro i hi
                  match i, hi with
                  | 0, _ => exact (congrArg F_11819 e4).trans (f_11835.trans (congrArg (rw7 G) (by funext k; exact r0_lo (by decide) k)))
                  | 1, _ => exact (congrArg F_11819 e5).trans (f_11844.trans (congrArg (rw7 G) (by funext k; exact r0_lo (by decide) k)))
                  | 2, _ => exact (congrArg F_11819 e6).trans (f_11853.trans (congrArg (rw7 G) (by funext k; exact r0_lo (by decide) k)))
                  | 3, _ => exact (congrArg F_11819 e7).trans (f_11862.trans (congrArg (rw7 G) (by funext k; exact r0_lo (by decide) k)))
                  | 4, _ => exact (congrArg F_11819 e8).trans (f_11871.trans (congrArg (rw7 G) (by funext k; exact r0_lo (by decide) k)))
                  | 5, _ => exact (congrArg F_11819 e9).trans (f_11880.trans (congrArg (rw7 G) (by funext k; exact r0_lo (by decide) k)))
                  | 6, _ => exact (congrArg F_11819 e10).trans (f_11887.trans (congrArg (rw7 G) (by funext k; exact r0_fl 6 (by decide) k)))
                  | 7, _ => exact (congrArg F_11819 e11).trans (f_11893.trans (congrArg (rw7 G) (by funext k; exact r0_fl 7 (by decide) k)))
                  | 8, _ => exact (congrArg F_11819 e12).trans (f_11898.trans (congrArg (rw7 G) (by funext k; exact r0_fl 8 (by decide) k)))
                  | 9, _ => exact (congrArg F_11819 e13).trans (f_11902.trans (congrArg (rw7 G) (by funext k; exact r0_fl 9 (by decide) k)))
                  | 10, _ => exact (congrArg F_11819 e14).trans (f_11905.trans (congrArg (rw7 G) (by funext k; exact r0_fl 10 (by decide) k)))
                  | 11, _ => exact (congrArg F_11819 e15).trans (f_11907.trans (congrArg (rw7 G) (by funext k; exact r0_fl 11 (by decide) k)))
                  | i + 12, h9 => exact absurd h9 (by omega)
                have hshp : shp G F_11819 n 0 5 r0 := ⟨(congrArg F_11819 e1).trans (f_11825.trans (by rw [← e2, ← e3])), (congrArg F_11819 e2).trans f_11826, (congrArg F_11819 e3).trans f_11820, hrr⟩
                have hnm9 : ∀ i, 2 ≤ i → i < 16 → s.heap.size ≤ n i ∧ n i ∈ L_11702 := by
                  intro i h2 hi
                  match i, h2, hi with
                  | 2, _, _ => exact ⟨by rw [e2]; omega, by rw [e2]; exact m_11713⟩
                  | 3, _, _ => exact ⟨by rw [e3]; omega, by rw [e3]; exact m_11740⟩
                  | 4, _, _ => exact ⟨by rw [e4]; omega, by rw [e4]; exact m_11717⟩
                  | 5, _, _ => exact ⟨by rw [e5]; omega, by rw [e5]; exact m_11721⟩
                  | 6, _, _ => exact ⟨by rw [e6]; omega, by rw [e6]; exact m_11725⟩
                  | 7, _, _ => exact ⟨by rw [e7]; omega, by rw [e7]; exact m_11729⟩
                  | 8, _, _ => exact ⟨by rw [e8]; omega, by rw [e8]; exact m_11733⟩
                  | 9, _, _ => exact ⟨by rw [e9]; omega, by rw [e9]; exact m_11737⟩
                  | 10, _, _ => exact ⟨by rw [e10]; omega, by rw [e10]; exact m_11743⟩
                  | 11, _, _ => exact ⟨by rw [e11]; omega, by rw [e11]; exact m_11745⟩
                  | 12, _, _ => exact ⟨by rw [e12]; omega, by rw [e12]; exact m_11747⟩
                  | 13, _, _ => exact ⟨by rw [e13]; omega, by rw [e13]; exact m_11749⟩
                  | 14, _, _ => exact ⟨by rw [e14]; omega, by rw [e14]; exact m_11751⟩
                  | 15, _, _ => exact ⟨by rw [e15]; omega, by rw [e15]; exact m_11753⟩
                  | i + 16, _, h9 => exact absurd h9 (by omega)
                have hinj : ∀ i j, 1 ≤ i → i < 16 → 1 ≤ j → j < 16 → i ≠ j → n i ≠ n j := by
                  intro i j h1 h2 h3 h4 hne
                  rw [en]
                  show (if i = 1 then a else if i = 2 then a_11677 else if i = 3 then a_11704 else if i < 10 then a_11677 + 1 + (i - 4) else a_11704 + 1 + (i - 10)) ≠ (if j = 1 then a else if j = 2 then a_11677 else if j = 3 then a_11704 else if j < 10 then a_11677 + 1 + (j - 4) else a_11704 + 1 + (j - 10))
                  repeat' split
                  all_goals omega
                exact r_vN C0 hg_11739 hr hlk hw ⟨hg_11739, n, e1, hshp, hnm9, hinj, hfr_11822⟩ (Nat.le_of_ble_eq_true rfl) (Nat.le_of_ble_eq_true rfl) dX2_init_56 hQ
              · skip
                exact absurd c_38 (by omega)
