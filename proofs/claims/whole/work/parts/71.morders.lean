abbrev rm_X6_bracket : Room := { frames := 5, cells := 0, slots := 0, locals := 115 }
set_option maxHeartbeats 4000000 in
set_option maxRecDepth 100000 in
theorem k_X6_bracket_x1 (l : Launch) (G : Gl) (L : List Nat) (F : Nat → va_E) (b : Nat) (ma : Nat → Nat) (A : AB) (th : Nat) (x9 y9 z9 : Int32) (mb : b ∈ L) (hma : ∀ i, i < 7 → ma i ∈ L) (hM : MW G F b ma A th) (hA : okA A) (h9 : ¬ (inR x9 0 5 ∧ inR y9 0 5)) : CI l yX6_bracket cX6_bracket 4 (some .int) rm_X6_bracket G L F [.ref b, .int (x9), .int (y9), .int (z9)] (fun r F1 => MW G F1 b ma A 1 ∧ mFr F F1 b ma) := by
  obtain ⟨mi, hh, zf, hf, sf, kf, tf, pf, pl, fb, ⟨hm0, hm1, hm2⟩, ⟨fz, hz⟩, ⟨fh, hhf⟩, ⟨fs, hsf⟩, ⟨fk, hkf⟩, fp, ⟨ft, htf⟩, fq⟩ := hM
  obtain ⟨hz0, hz1, hz2, hz3, hz4⟩ := ne_z zf hz
  have hc : A.1.1 ≤ 6 := hA.1.2.1
  have hc2 : 2 ≤ A.1.1 := hA.1.1
  have hpu : A.1.2.1 ≤ 100000 := hA.1.2.2.1
  have hrw : ∀ i k, i < 12 → k < 7 → zf (5 + 7 * i + k) = nI (A.1.2.2.2.2.2 i k).val := hz.row
  refine CG_of (by decide) (Nat.le_of_ble_eq_true rfl) rfl ?_
  intro p e s m args below meth c Q C0 hr hlk hnm hQ hw ls hl
  have hx := C0.x
  have hb := C0.b
  refine lv_aload_n hx hb dX6_bracket_0 rfl (lv_at hl 0 rfl) ?_
  refine lv_aload_n hx hb dX6_bracket_1 rfl (lv_at hl 0 rfl) ?_
  refine lv_iload_n hx hb dX6_bracket_2 rfl (lv_at hl 1 rfl) ?_
  refine lv_iload_n hx hb dX6_bracket_3 rfl (lv_at hl 2 rfl) ?_
  refine q_calli hw (q_runS (As := [.int (x9), .int (y9)]) (c_X6_areSlots l G L F (x9) (y9)) C0 hw sw_X6_115 rfl hl.1 rfl (Nat.le_of_ble_eq_true rfl) dX6_bracket_4 ⟨by decide, by decide⟩ ⟨by decide, by decide⟩) rfl rfl (fun r_5703 F_5701 H locs hw hp_5702 => ?_)
  obtain ⟨he_5704, o_5705⟩ := hp_5702
  rw [if_neg h9] at he_5704
  subst he_5704
  refine n_if_eq (tgt := 21) hx hb dX6_bracket_7 (by decide) (by decide) (fun c_7 => ?_) (fun c_7 => ?_)
  · skip
    refine lv_iconst (v := nI 0) hx hb dX6_bracket_21 (by decide) ?_
    refine lv_iconst (v := nI 2) hx hb dX6_bracket_22 (by decide) ?_
    have f_5706 : F_5701 (ma 0) = .inl (G.2 0, 89, .inl zf) := (o_5705 (ma 0) ).trans fz
    have f_5707 : F_5701 b = mO ma mi hh := (o_5705 b ).trans fb
    refine q_calli hw (q_runV (As := [.int (nI (0)), .int (nI (2))]) (c_X6_refused_1 l G L F_5701 b ma mi hh zf mb f_5707 hma f_5706 (nI 2)) C0 hw vw_X6_119 mb f_5707 rfl rfl rfl hl.1 rfl (Nat.le_of_ble_eq_true rfl) dX6_bracket_23 ⟨by decide, by decide⟩ ⟨by decide, by decide⟩) rfl rfl (fun r_5710 F_5708 H locs hw hp_5709 => ?_)
    obtain ⟨he_5711, o_5712⟩ := hp_5709
    subst he_5711
    have f_5713 : F_5708 b = mO ma mi hh := (o_5712 b ).trans f_5707
    refine q_put C0 hw mb f_5713 fw_X6_31 pw_X6_8 rfl rfl rfl (Nat.le_of_ble_eq_true rfl) dX6_bracket_26 (fun F_5714 H locs hw f_5715 o_5716 => ?_)
    have f_5715 : F_5714 b = .inr (6, [.ref (ma 0), .int (mi 0), .ref (ma 1), .ref (ma 2), .ref (ma 3), .ref (ma 4), .int (mi 1), .ref (ma 5), .int (nI (1)), .ref (ma 6), .int (mi 3), .int (mi 4), .long (hh)]) := f_5715
    refine lv_aload_n hx hb dX6_bracket_29 rfl (lv_at hl 0 rfl) ?_
    refine q_get C0 hw mb f_5715 fw_X6_31 rfl dX6_bracket_30 ?_
    refine n_if_le (tgt := 38) hx hb dX6_bracket_33 (by decide) (by decide) (fun c_33 => ?_) (fun c_33 => ?_)
    · skip
      exact absurd c_33 (by omega)
    · skip
      refine lv_iconst (v := nI 0) hx hb dX6_bracket_36 (by decide) ?_
      have hb_5717 : F_5714 b = mO ma (va_up mi 2 (nI 1)) (hh) := f_5715
      have f_5718 : F_5708 (ma 0) = .inl (G.2 0, 89, .inl zf) := (o_5712 (ma 0) ).trans f_5706
      have f_5719 : F_5714 (ma 0) = .inl (G.2 0, 89, .inl zf) := (o_5716 (ma 0) (ne_ao f_5718 f_5713)).trans f_5718
      have f_5720 : F_5701 (ma 1) = .inl (G.2 0, 534, .inl hf) := (o_5705 (ma 1) ).trans fh
      have f_5721 : F_5708 (ma 1) = .inl (G.2 0, 534, .inl hf) := (o_5712 (ma 1) ).trans f_5720
      have f_5722 : F_5714 (ma 1) = .inl (G.2 0, 534, .inl hf) := (o_5716 (ma 1) (ne_ao f_5721 f_5713)).trans f_5721
      have f_5723 : F_5701 (ma 2) = .inl (G.2 0, 178, .inl sf) := (o_5705 (ma 2) ).trans fs
      have f_5724 : F_5708 (ma 2) = .inl (G.2 0, 178, .inl sf) := (o_5712 (ma 2) ).trans f_5723
      have f_5725 : F_5714 (ma 2) = .inl (G.2 0, 178, .inl sf) := (o_5716 (ma 2) (ne_ao f_5724 f_5713)).trans f_5724
      have f_5726 : F_5701 (ma 3) = .inl (G.2 0, 2, .inl kf) := (o_5705 (ma 3) ).trans fk
      have f_5727 : F_5708 (ma 3) = .inl (G.2 0, 2, .inl kf) := (o_5712 (ma 3) ).trans f_5726
      have f_5728 : F_5714 (ma 3) = .inl (G.2 0, 2, .inl kf) := (o_5716 (ma 3) (ne_ao f_5727 f_5713)).trans f_5727
      have f_5729 : F_5701 (ma 4) = pcE G pl := (o_5705 (ma 4) ).trans fp
      have f_5730 : F_5708 (ma 4) = pcE G pl := (o_5712 (ma 4) ).trans f_5729
      have f_5731 : F_5714 (ma 4) = pcE G pl := (o_5716 (ma 4) (ne_ao f_5730 f_5713)).trans f_5730
      have f_5732 : F_5701 (ma 5) = .inl (G.2 0, 60, .inl tf) := (o_5705 (ma 5) ).trans ft
      have f_5733 : F_5708 (ma 5) = .inl (G.2 0, 60, .inl tf) := (o_5712 (ma 5) ).trans f_5732
      have f_5734 : F_5714 (ma 5) = .inl (G.2 0, 60, .inl tf) := (o_5716 (ma 5) (ne_ao f_5733 f_5713)).trans f_5733
      have f_5735 : F_5701 (ma 6) = .inl (G.2 0, 52, .inl pf) := (o_5705 (ma 6) ).trans fq
      have f_5736 : F_5708 (ma 6) = .inl (G.2 0, 52, .inl pf) := (o_5712 (ma 6) ).trans f_5735
      have f_5737 : F_5714 (ma 6) = .inl (G.2 0, 52, .inl pf) := (o_5716 (ma 6) (ne_ao f_5736 f_5713)).trans f_5736
      exact r_i C0 hr hlk hw (v := nI 0) rfl ⟨⟨_, _, _, _, _, _, _, _, _, hb_5717, ⟨hm0, hm1, rfl⟩, ⟨f_5719, hz⟩, ⟨f_5722, hhf⟩, ⟨f_5725, hsf⟩, ⟨f_5728, hkf⟩, f_5731, ⟨f_5734, htf⟩, f_5737⟩, (fun q k0 k1 => ((o_5716 q k0).trans ((o_5712 q ).trans (o_5705 q ))))⟩ (Nat.le_refl _) (Nat.le_refl _) dX6_bracket_37 hQ
  · skip
    exact absurd c_7 (by omega)
set_option maxHeartbeats 4000000 in
set_option maxRecDepth 100000 in
theorem k_X6_bracket_x1b (l : Launch) (G : Gl) (L : List Nat) (F : Nat → va_E) (b : Nat) (ma : Nat → Nat) (A : AB) (th : Nat) (x9 y9 z9 : Int32) (mb : b ∈ L) (hma : ∀ i, i < 7 → ma i ∈ L) (hM : MW G F b ma A th) (hA : okA A) (h8 : inR x9 0 5 ∧ inR y9 0 5) (h9 : ¬ inR z9 0 5) : CI l yX6_bracket cX6_bracket 4 (some .int) rm_X6_bracket G L F [.ref b, .int (x9), .int (y9), .int (z9)] (fun r F1 => MW G F1 b ma A 1 ∧ mFr F F1 b ma) := by
  obtain ⟨mi, hh, zf, hf, sf, kf, tf, pf, pl, fb, ⟨hm0, hm1, hm2⟩, ⟨fz, hz⟩, ⟨fh, hhf⟩, ⟨fs, hsf⟩, ⟨fk, hkf⟩, fp, ⟨ft, htf⟩, fq⟩ := hM
  obtain ⟨hz0, hz1, hz2, hz3, hz4⟩ := ne_z zf hz
  have hc : A.1.1 ≤ 6 := hA.1.2.1
  have hc2 : 2 ≤ A.1.1 := hA.1.1
  have hpu : A.1.2.1 ≤ 100000 := hA.1.2.2.1
  have hrw : ∀ i k, i < 12 → k < 7 → zf (5 + 7 * i + k) = nI (A.1.2.2.2.2.2 i k).val := hz.row
  refine CG_of (by decide) (Nat.le_of_ble_eq_true rfl) rfl ?_
  intro p e s m args below meth c Q C0 hr hlk hnm hQ hw ls hl
  have hx := C0.x
  have hb := C0.b
  refine lv_aload_n hx hb dX6_bracket_0 rfl (lv_at hl 0 rfl) ?_
  refine lv_aload_n hx hb dX6_bracket_1 rfl (lv_at hl 0 rfl) ?_
  refine lv_iload_n hx hb dX6_bracket_2 rfl (lv_at hl 1 rfl) ?_
  refine lv_iload_n hx hb dX6_bracket_3 rfl (lv_at hl 2 rfl) ?_
  refine q_calli hw (q_runS (As := [.int (x9), .int (y9)]) (c_X6_areSlots l G L F (x9) (y9)) C0 hw sw_X6_115 rfl hl.1 rfl (Nat.le_of_ble_eq_true rfl) dX6_bracket_4 ⟨by decide, by decide⟩ ⟨by decide, by decide⟩) rfl rfl (fun r_5740 F_5738 H locs hw hp_5739 => ?_)
  obtain ⟨he_5741, o_5742⟩ := hp_5739
  rw [if_pos h8] at he_5741
  subst he_5741
  refine n_if_eq (tgt := 21) hx hb dX6_bracket_7 (by decide) (by decide) (fun c_7 => ?_) (fun c_7 => ?_)
  · skip
    exact absurd c_7 (by omega)
  · skip
    refine lv_iload_n hx hb dX6_bracket_10 rfl (lv_at hl 3 rfl) ?_
    refine q_calli hw (q_runS (As := [.int (z9)]) (c_X6_isSlot l G L F_5738 (z9)) C0 hw sw_X6_42 rfl hl.1 rfl (Nat.le_of_ble_eq_true rfl) dX6_bracket_11 ⟨by decide, by decide⟩ ⟨by decide, by decide⟩) rfl rfl (fun r_5745 F_5743 H locs hw hp_5744 => ?_)
    obtain ⟨he_5746, o_5747⟩ := hp_5744
    rw [if_neg h9] at he_5746
    subst he_5746
    refine n_if_eq (tgt := 21) hx hb dX6_bracket_14 (by decide) (by decide) (fun c_14 => ?_) (fun c_14 => ?_)
    · skip
      refine lv_iconst (v := nI 0) hx hb dX6_bracket_21 (by decide) ?_
      refine lv_iconst (v := nI 2) hx hb dX6_bracket_22 (by decide) ?_
      have f_5748 : F_5738 (ma 0) = .inl (G.2 0, 89, .inl zf) := (o_5742 (ma 0) ).trans fz
      have f_5749 : F_5743 (ma 0) = .inl (G.2 0, 89, .inl zf) := (o_5747 (ma 0) ).trans f_5748
      have f_5750 : F_5738 b = mO ma mi hh := (o_5742 b ).trans fb
      have f_5751 : F_5743 b = mO ma mi hh := (o_5747 b ).trans f_5750
      refine q_calli hw (q_runV (As := [.int (nI (0)), .int (nI (2))]) (c_X6_refused_1 l G L F_5743 b ma mi hh zf mb f_5751 hma f_5749 (nI 2)) C0 hw vw_X6_119 mb f_5751 rfl rfl rfl hl.1 rfl (Nat.le_of_ble_eq_true rfl) dX6_bracket_23 ⟨by decide, by decide⟩ ⟨by decide, by decide⟩) rfl rfl (fun r_5754 F_5752 H locs hw hp_5753 => ?_)
      obtain ⟨he_5755, o_5756⟩ := hp_5753
      subst he_5755
      have f_5757 : F_5752 b = mO ma mi hh := (o_5756 b ).trans f_5751
      refine q_put C0 hw mb f_5757 fw_X6_31 pw_X6_8 rfl rfl rfl (Nat.le_of_ble_eq_true rfl) dX6_bracket_26 (fun F_5758 H locs hw f_5759 o_5760 => ?_)
      have f_5759 : F_5758 b = .inr (6, [.ref (ma 0), .int (mi 0), .ref (ma 1), .ref (ma 2), .ref (ma 3), .ref (ma 4), .int (mi 1), .ref (ma 5), .int (nI (1)), .ref (ma 6), .int (mi 3), .int (mi 4), .long (hh)]) := f_5759
      refine lv_aload_n hx hb dX6_bracket_29 rfl (lv_at hl 0 rfl) ?_
      refine q_get C0 hw mb f_5759 fw_X6_31 rfl dX6_bracket_30 ?_
      refine n_if_le (tgt := 38) hx hb dX6_bracket_33 (by decide) (by decide) (fun c_33 => ?_) (fun c_33 => ?_)
      · skip
        exact absurd c_33 (by omega)
      · skip
        refine lv_iconst (v := nI 0) hx hb dX6_bracket_36 (by decide) ?_
        have hb_5761 : F_5758 b = mO ma (va_up mi 2 (nI 1)) (hh) := f_5759
        have f_5762 : F_5752 (ma 0) = .inl (G.2 0, 89, .inl zf) := (o_5756 (ma 0) ).trans f_5749
        have f_5763 : F_5758 (ma 0) = .inl (G.2 0, 89, .inl zf) := (o_5760 (ma 0) (ne_ao f_5762 f_5757)).trans f_5762
        have f_5764 : F_5738 (ma 1) = .inl (G.2 0, 534, .inl hf) := (o_5742 (ma 1) ).trans fh
        have f_5765 : F_5743 (ma 1) = .inl (G.2 0, 534, .inl hf) := (o_5747 (ma 1) ).trans f_5764
        have f_5766 : F_5752 (ma 1) = .inl (G.2 0, 534, .inl hf) := (o_5756 (ma 1) ).trans f_5765
        have f_5767 : F_5758 (ma 1) = .inl (G.2 0, 534, .inl hf) := (o_5760 (ma 1) (ne_ao f_5766 f_5757)).trans f_5766
        have f_5768 : F_5738 (ma 2) = .inl (G.2 0, 178, .inl sf) := (o_5742 (ma 2) ).trans fs
        have f_5769 : F_5743 (ma 2) = .inl (G.2 0, 178, .inl sf) := (o_5747 (ma 2) ).trans f_5768
        have f_5770 : F_5752 (ma 2) = .inl (G.2 0, 178, .inl sf) := (o_5756 (ma 2) ).trans f_5769
        have f_5771 : F_5758 (ma 2) = .inl (G.2 0, 178, .inl sf) := (o_5760 (ma 2) (ne_ao f_5770 f_5757)).trans f_5770
        have f_5772 : F_5738 (ma 3) = .inl (G.2 0, 2, .inl kf) := (o_5742 (ma 3) ).trans fk
        have f_5773 : F_5743 (ma 3) = .inl (G.2 0, 2, .inl kf) := (o_5747 (ma 3) ).trans f_5772
        have f_5774 : F_5752 (ma 3) = .inl (G.2 0, 2, .inl kf) := (o_5756 (ma 3) ).trans f_5773
        have f_5775 : F_5758 (ma 3) = .inl (G.2 0, 2, .inl kf) := (o_5760 (ma 3) (ne_ao f_5774 f_5757)).trans f_5774
        have f_5776 : F_5738 (ma 4) = pcE G pl := (o_5742 (ma 4) ).trans fp
        have f_5777 : F_5743 (ma 4) = pcE G pl := (o_5747 (ma 4) ).trans f_5776
        have f_5778 : F_5752 (ma 4) = pcE G pl := (o_5756 (ma 4) ).trans f_5777
        have f_5779 : F_5758 (ma 4) = pcE G pl := (o_5760 (ma 4) (ne_ao f_5778 f_5757)).trans f_5778
        have f_5780 : F_5738 (ma 5) = .inl (G.2 0, 60, .inl tf) := (o_5742 (ma 5) ).trans ft
        have f_5781 : F_5743 (ma 5) = .inl (G.2 0, 60, .inl tf) := (o_5747 (ma 5) ).trans f_5780
        have f_5782 : F_5752 (ma 5) = .inl (G.2 0, 60, .inl tf) := (o_5756 (ma 5) ).trans f_5781
        have f_5783 : F_5758 (ma 5) = .inl (G.2 0, 60, .inl tf) := (o_5760 (ma 5) (ne_ao f_5782 f_5757)).trans f_5782
        have f_5784 : F_5738 (ma 6) = .inl (G.2 0, 52, .inl pf) := (o_5742 (ma 6) ).trans fq
        have f_5785 : F_5743 (ma 6) = .inl (G.2 0, 52, .inl pf) := (o_5747 (ma 6) ).trans f_5784
        have f_5786 : F_5752 (ma 6) = .inl (G.2 0, 52, .inl pf) := (o_5756 (ma 6) ).trans f_5785
        have f_5787 : F_5758 (ma 6) = .inl (G.2 0, 52, .inl pf) := (o_5760 (ma 6) (ne_ao f_5786 f_5757)).trans f_5786
        exact r_i C0 hr hlk hw (v := nI 0) rfl ⟨⟨_, _, _, _, _, _, _, _, _, hb_5761, ⟨hm0, hm1, rfl⟩, ⟨f_5763, hz⟩, ⟨f_5767, hhf⟩, ⟨f_5771, hsf⟩, ⟨f_5775, hkf⟩, f_5779, ⟨f_5783, htf⟩, f_5787⟩, (fun q k0 k1 => ((o_5760 q k0).trans ((o_5756 q ).trans ((o_5747 q ).trans (o_5742 q )))))⟩ (Nat.le_refl _) (Nat.le_refl _) dX6_bracket_37 hQ
    · skip
      exact absurd c_14 (by omega)
set_option maxHeartbeats 4000000 in
set_option maxRecDepth 100000 in
theorem k_X6_bracket_x2 (l : Launch) (G : Gl) (L : List Nat) (F : Nat → va_E) (b : Nat) (ma : Nat → Nat) (A : AB) (th : Nat) (x9 y9 z9 : Int32) (mb : b ∈ L) (hma : ∀ i, i < 7 → ma i ∈ L) (hM : MW G F b ma A th) (hA : okA A) (h8 : inR x9 0 5 ∧ inR y9 0 5) (h9 : inR z9 0 5) (hm : A.1.2.1 < A.1.1 * 2) : CI l yX6_bracket cX6_bracket 4 (some .int) rm_X6_bracket G L F [.ref b, .int (x9), .int (y9), .int (z9)] (fun r F1 => MW G F1 b ma A 2 ∧ mFr F F1 b ma) := by
  obtain ⟨mi, hh, zf, hf, sf, kf, tf, pf, pl, fb, ⟨hm0, hm1, hm2⟩, ⟨fz, hz⟩, ⟨fh, hhf⟩, ⟨fs, hsf⟩, ⟨fk, hkf⟩, fp, ⟨ft, htf⟩, fq⟩ := hM
  obtain ⟨hz0, hz1, hz2, hz3, hz4⟩ := ne_z zf hz
  have hc : A.1.1 ≤ 6 := hA.1.2.1
  have hc2 : 2 ≤ A.1.1 := hA.1.1
  have hpu : A.1.2.1 ≤ 100000 := hA.1.2.2.1
  have hrw : ∀ i k, i < 12 → k < 7 → zf (5 + 7 * i + k) = nI (A.1.2.2.2.2.2 i k).val := hz.row
  refine CG_of (by decide) (Nat.le_of_ble_eq_true rfl) rfl ?_
  intro p e s m args below meth c Q C0 hr hlk hnm hQ hw ls hl
  have hx := C0.x
  have hb := C0.b
  refine lv_aload_n hx hb dX6_bracket_0 rfl (lv_at hl 0 rfl) ?_
  refine lv_aload_n hx hb dX6_bracket_1 rfl (lv_at hl 0 rfl) ?_
  refine lv_iload_n hx hb dX6_bracket_2 rfl (lv_at hl 1 rfl) ?_
  refine lv_iload_n hx hb dX6_bracket_3 rfl (lv_at hl 2 rfl) ?_
  refine q_calli hw (q_runS (As := [.int (x9), .int (y9)]) (c_X6_areSlots l G L F (x9) (y9)) C0 hw sw_X6_115 rfl hl.1 rfl (Nat.le_of_ble_eq_true rfl) dX6_bracket_4 ⟨by decide, by decide⟩ ⟨by decide, by decide⟩) rfl rfl (fun r_5790 F_5788 H locs hw hp_5789 => ?_)
  obtain ⟨he_5791, o_5792⟩ := hp_5789
  rw [if_pos h8] at he_5791
  subst he_5791
  refine n_if_eq (tgt := 21) hx hb dX6_bracket_7 (by decide) (by decide) (fun c_7 => ?_) (fun c_7 => ?_)
  · skip
    exact absurd c_7 (by omega)
  · skip
    refine lv_iload_n hx hb dX6_bracket_10 rfl (lv_at hl 3 rfl) ?_
    refine q_calli hw (q_runS (As := [.int (z9)]) (c_X6_isSlot l G L F_5788 (z9)) C0 hw sw_X6_42 rfl hl.1 rfl (Nat.le_of_ble_eq_true rfl) dX6_bracket_11 ⟨by decide, by decide⟩ ⟨by decide, by decide⟩) rfl rfl (fun r_5795 F_5793 H locs hw hp_5794 => ?_)
    obtain ⟨he_5796, o_5797⟩ := hp_5794
    rw [if_pos h9] at he_5796
    subst he_5796
    refine n_if_eq (tgt := 21) hx hb dX6_bracket_14 (by decide) (by decide) (fun c_14 => ?_) (fun c_14 => ?_)
    · skip
      exact absurd c_14 (by omega)
    · skip
      refine lv_iconst (v := nI 1) hx hb dX6_bracket_17 (by decide) ?_
      refine lv_goto (tgt := 22) hx hb dX6_bracket_18 (by decide) ?_
      refine lv_iconst (v := nI 2) hx hb dX6_bracket_22 (by decide) ?_
      have f_5798 : F_5788 (ma 0) = .inl (G.2 0, 89, .inl zf) := (o_5792 (ma 0) ).trans fz
      have f_5799 : F_5793 (ma 0) = .inl (G.2 0, 89, .inl zf) := (o_5797 (ma 0) ).trans f_5798
      have f_5800 : F_5788 b = mO ma mi hh := (o_5792 b ).trans fb
      have f_5801 : F_5793 b = mO ma mi hh := (o_5797 b ).trans f_5800
      refine q_calli hw (q_runV (As := [.int (nI (1)), .int (nI (2))]) (c_X6_refused_2 l G L F_5793 b ma mi hh zf 2 A.1.1 A.1.2.1 mb f_5801 hma f_5799 hz0 hz1 hc (by omega) hpu (by omega)) C0 hw vw_X6_119 mb f_5801 rfl rfl rfl hl.1 rfl (Nat.le_of_ble_eq_true rfl) dX6_bracket_23 ⟨by decide, by decide⟩ ⟨by decide, by decide⟩) rfl rfl (fun r_5804 F_5802 H locs hw hp_5803 => ?_)
      obtain ⟨he_5805, o_5806⟩ := hp_5803
      subst he_5805
      have f_5807 : F_5802 b = mO ma mi hh := (o_5806 b ).trans f_5801
      refine q_put C0 hw mb f_5807 fw_X6_31 pw_X6_8 rfl rfl rfl (Nat.le_of_ble_eq_true rfl) dX6_bracket_26 (fun F_5808 H locs hw f_5809 o_5810 => ?_)
      have f_5809 : F_5808 b = .inr (6, [.ref (ma 0), .int (mi 0), .ref (ma 1), .ref (ma 2), .ref (ma 3), .ref (ma 4), .int (mi 1), .ref (ma 5), .int (nI (2)), .ref (ma 6), .int (mi 3), .int (mi 4), .long (hh)]) := f_5809
      refine lv_aload_n hx hb dX6_bracket_29 rfl (lv_at hl 0 rfl) ?_
      refine q_get C0 hw mb f_5809 fw_X6_31 rfl dX6_bracket_30 ?_
      refine n_if_le (tgt := 38) hx hb dX6_bracket_33 (by decide) (by decide) (fun c_33 => ?_) (fun c_33 => ?_)
      · skip
        exact absurd c_33 (by omega)
      · skip
        refine lv_iconst (v := nI 0) hx hb dX6_bracket_36 (by decide) ?_
        have hb_5811 : F_5808 b = mO ma (va_up mi 2 (nI 2)) (hh) := f_5809
        have f_5812 : F_5802 (ma 0) = .inl (G.2 0, 89, .inl zf) := (o_5806 (ma 0) ).trans f_5799
        have f_5813 : F_5808 (ma 0) = .inl (G.2 0, 89, .inl zf) := (o_5810 (ma 0) (ne_ao f_5812 f_5807)).trans f_5812
        have f_5814 : F_5788 (ma 1) = .inl (G.2 0, 534, .inl hf) := (o_5792 (ma 1) ).trans fh
        have f_5815 : F_5793 (ma 1) = .inl (G.2 0, 534, .inl hf) := (o_5797 (ma 1) ).trans f_5814
        have f_5816 : F_5802 (ma 1) = .inl (G.2 0, 534, .inl hf) := (o_5806 (ma 1) ).trans f_5815
        have f_5817 : F_5808 (ma 1) = .inl (G.2 0, 534, .inl hf) := (o_5810 (ma 1) (ne_ao f_5816 f_5807)).trans f_5816
        have f_5818 : F_5788 (ma 2) = .inl (G.2 0, 178, .inl sf) := (o_5792 (ma 2) ).trans fs
        have f_5819 : F_5793 (ma 2) = .inl (G.2 0, 178, .inl sf) := (o_5797 (ma 2) ).trans f_5818
        have f_5820 : F_5802 (ma 2) = .inl (G.2 0, 178, .inl sf) := (o_5806 (ma 2) ).trans f_5819
        have f_5821 : F_5808 (ma 2) = .inl (G.2 0, 178, .inl sf) := (o_5810 (ma 2) (ne_ao f_5820 f_5807)).trans f_5820
        have f_5822 : F_5788 (ma 3) = .inl (G.2 0, 2, .inl kf) := (o_5792 (ma 3) ).trans fk
        have f_5823 : F_5793 (ma 3) = .inl (G.2 0, 2, .inl kf) := (o_5797 (ma 3) ).trans f_5822
        have f_5824 : F_5802 (ma 3) = .inl (G.2 0, 2, .inl kf) := (o_5806 (ma 3) ).trans f_5823
        have f_5825 : F_5808 (ma 3) = .inl (G.2 0, 2, .inl kf) := (o_5810 (ma 3) (ne_ao f_5824 f_5807)).trans f_5824
        have f_5826 : F_5788 (ma 4) = pcE G pl := (o_5792 (ma 4) ).trans fp
        have f_5827 : F_5793 (ma 4) = pcE G pl := (o_5797 (ma 4) ).trans f_5826
        have f_5828 : F_5802 (ma 4) = pcE G pl := (o_5806 (ma 4) ).trans f_5827
        have f_5829 : F_5808 (ma 4) = pcE G pl := (o_5810 (ma 4) (ne_ao f_5828 f_5807)).trans f_5828
        have f_5830 : F_5788 (ma 5) = .inl (G.2 0, 60, .inl tf) := (o_5792 (ma 5) ).trans ft
        have f_5831 : F_5793 (ma 5) = .inl (G.2 0, 60, .inl tf) := (o_5797 (ma 5) ).trans f_5830
        have f_5832 : F_5802 (ma 5) = .inl (G.2 0, 60, .inl tf) := (o_5806 (ma 5) ).trans f_5831
        have f_5833 : F_5808 (ma 5) = .inl (G.2 0, 60, .inl tf) := (o_5810 (ma 5) (ne_ao f_5832 f_5807)).trans f_5832
        have f_5834 : F_5788 (ma 6) = .inl (G.2 0, 52, .inl pf) := (o_5792 (ma 6) ).trans fq
        have f_5835 : F_5793 (ma 6) = .inl (G.2 0, 52, .inl pf) := (o_5797 (ma 6) ).trans f_5834
        have f_5836 : F_5802 (ma 6) = .inl (G.2 0, 52, .inl pf) := (o_5806 (ma 6) ).trans f_5835
        have f_5837 : F_5808 (ma 6) = .inl (G.2 0, 52, .inl pf) := (o_5810 (ma 6) (ne_ao f_5836 f_5807)).trans f_5836
        exact r_i C0 hr hlk hw (v := nI 0) rfl ⟨⟨_, _, _, _, _, _, _, _, _, hb_5811, ⟨hm0, hm1, rfl⟩, ⟨f_5813, hz⟩, ⟨f_5817, hhf⟩, ⟨f_5821, hsf⟩, ⟨f_5825, hkf⟩, f_5829, ⟨f_5833, htf⟩, f_5837⟩, (fun q k0 k1 => ((o_5810 q k0).trans ((o_5806 q ).trans ((o_5797 q ).trans (o_5792 q )))))⟩ (Nat.le_refl _) (Nat.le_refl _) dX6_bracket_37 hQ
set_option maxHeartbeats 4000000 in
set_option maxRecDepth 100000 in
theorem k_X6_bracket (l : Launch) (G : Gl) (L : List Nat) (F : Nat → va_E) (b : Nat) (ma : Nat → Nat) (A : AB) (th : Nat) (f9 g9 t9 : Nat) (mb : b ∈ L) (hma : ∀ i, i < 7 → ma i ∈ L) (hM : MW G F b ma A th) (hA : okA A) (hf9 : f9 < 6) (hg9 : g9 < 6) (ht9 : t9 < 6) (h8 : inR (nI f9) 0 5 ∧ inR (nI g9) 0 5) (h9 : inR (nI t9) 0 5) (hm : 2 * A.1.1 ≤ A.1.2.1) : CI l yX6_bracket cX6_bracket 4 (some .int) rm_X6_bracket G L F [.ref b, .int (nI (f9)), .int (nI (g9)), .int (nI (t9))] (fun r F1 => r = lowR (ordR 98 f9 g9 A.1.1 A.1.2.2.2.2.2) ∧ MW G F1 b ma (aSave A (ordS 98 f9 g9 t9 A.1)) 0 ∧ mFr F F1 b ma) := by
  obtain ⟨mi, hh, zf, hf, sf, kf, tf, pf, pl, fb, ⟨hm0, hm1, hm2⟩, ⟨fz, hz⟩, ⟨fh, hhf⟩, ⟨fs, hsf⟩, ⟨fk, hkf⟩, fp, ⟨ft, htf⟩, fq⟩ := hM
  obtain ⟨hz0, hz1, hz2, hz3, hz4⟩ := ne_z zf hz
  have hc : A.1.1 ≤ 6 := hA.1.2.1
  have hc2 : 2 ≤ A.1.1 := hA.1.1
  have hpu : A.1.2.1 ≤ 100000 := hA.1.2.2.1
  have hrw : ∀ i k, i < 12 → k < 7 → zf (5 + 7 * i + k) = nI (A.1.2.2.2.2.2 i k).val := hz.row
  refine CG_of (by decide) (Nat.le_of_ble_eq_true rfl) rfl ?_
  intro p e s m args below meth c Q C0 hr hlk hnm hQ hw ls hl
  have hx := C0.x
  have hb := C0.b
  refine lv_aload_n hx hb dX6_bracket_0 rfl (lv_at hl 0 rfl) ?_
  refine lv_aload_n hx hb dX6_bracket_1 rfl (lv_at hl 0 rfl) ?_
  refine lv_iload_n hx hb dX6_bracket_2 rfl (lv_at hl 1 rfl) ?_
  refine lv_iload_n hx hb dX6_bracket_3 rfl (lv_at hl 2 rfl) ?_
  refine q_calli hw (q_runS (As := [.int (nI (f9)), .int (nI (g9))]) (c_X6_areSlots l G L F (nI (f9)) (nI (g9))) C0 hw sw_X6_115 rfl hl.1 rfl (Nat.le_of_ble_eq_true rfl) dX6_bracket_4 ⟨by decide, by decide⟩ ⟨by decide, by decide⟩) rfl rfl (fun r_5840 F_5838 H locs hw hp_5839 => ?_)
  obtain ⟨he_5841, o_5842⟩ := hp_5839
  rw [if_pos h8] at he_5841
  subst he_5841
  refine n_if_eq (tgt := 21) hx hb dX6_bracket_7 (by decide) (by decide) (fun c_7 => ?_) (fun c_7 => ?_)
  · skip
    exact absurd c_7 (by omega)
  · skip
    refine lv_iload_n hx hb dX6_bracket_10 rfl (lv_at hl 3 rfl) ?_
    refine q_calli hw (q_runS (As := [.int (nI (t9))]) (c_X6_isSlot l G L F_5838 (nI (t9))) C0 hw sw_X6_42 rfl hl.1 rfl (Nat.le_of_ble_eq_true rfl) dX6_bracket_11 ⟨by decide, by decide⟩ ⟨by decide, by decide⟩) rfl rfl (fun r_5845 F_5843 H locs hw hp_5844 => ?_)
    obtain ⟨he_5846, o_5847⟩ := hp_5844
    rw [if_pos h9] at he_5846
    subst he_5846
    refine n_if_eq (tgt := 21) hx hb dX6_bracket_14 (by decide) (by decide) (fun c_14 => ?_) (fun c_14 => ?_)
    · skip
      exact absurd c_14 (by omega)
    · skip
      refine lv_iconst (v := nI 1) hx hb dX6_bracket_17 (by decide) ?_
      refine lv_goto (tgt := 22) hx hb dX6_bracket_18 (by decide) ?_
      refine lv_iconst (v := nI 2) hx hb dX6_bracket_22 (by decide) ?_
      have f_5848 : F_5838 (ma 0) = .inl (G.2 0, 89, .inl zf) := (o_5842 (ma 0) ).trans fz
      have f_5849 : F_5843 (ma 0) = .inl (G.2 0, 89, .inl zf) := (o_5847 (ma 0) ).trans f_5848
      have f_5850 : F_5838 b = mO ma mi hh := (o_5842 b ).trans fb
      have f_5851 : F_5843 b = mO ma mi hh := (o_5847 b ).trans f_5850
      refine q_calli hw (q_runV (As := [.int (nI (1)), .int (nI (2))]) (c_X6_refused l G L F_5843 b ma mi hh zf 2 A.1.1 A.1.2.1 mb f_5851 hma f_5849 hz0 hz1 hc (by omega) hpu (by omega)) C0 hw vw_X6_119 mb f_5851 rfl rfl rfl hl.1 rfl (Nat.le_of_ble_eq_true rfl) dX6_bracket_23 ⟨by decide, by decide⟩ ⟨by decide, by decide⟩) rfl rfl (fun r_5854 F_5852 H locs hw hp_5853 => ?_)
      obtain ⟨he_5855, o_5856⟩ := hp_5853
      subst he_5855
      have f_5857 : F_5852 b = mO ma mi hh := (o_5856 b ).trans f_5851
      refine q_put C0 hw mb f_5857 fw_X6_31 pw_X6_8 rfl rfl rfl (Nat.le_of_ble_eq_true rfl) dX6_bracket_26 (fun F_5858 H locs hw f_5859 o_5860 => ?_)
      have f_5859 : F_5858 b = .inr (6, [.ref (ma 0), .int (mi 0), .ref (ma 1), .ref (ma 2), .ref (ma 3), .ref (ma 4), .int (mi 1), .ref (ma 5), .int (nI (0)), .ref (ma 6), .int (mi 3), .int (mi 4), .long (hh)]) := f_5859
      refine lv_aload_n hx hb dX6_bracket_29 rfl (lv_at hl 0 rfl) ?_
      refine q_get C0 hw mb f_5859 fw_X6_31 rfl dX6_bracket_30 ?_
      refine n_if_le (tgt := 38) hx hb dX6_bracket_33 (by decide) (by decide) (fun c_33 => ?_) (fun c_33 => ?_)
      · skip
        have hb_5861 : F_5858 b = mO ma (va_up mi 2 (nI 0)) hh := f_5859
        refine lv_aload_n hx hb dX6_bracket_38 rfl (lv_at hl 0 rfl) ?_
        refine lv_iload_n hx hb dX6_bracket_39 rfl (lv_at hl 1 rfl) ?_
        refine lv_iload_n hx hb dX6_bracket_40 rfl (lv_at hl 2 rfl) ?_
        have f_5862 : F_5838 (ma 4) = pcE G pl := (o_5842 (ma 4) ).trans fp
        have f_5863 : F_5843 (ma 4) = pcE G pl := (o_5847 (ma 4) ).trans f_5862
        have f_5864 : F_5852 (ma 4) = pcE G pl := (o_5856 (ma 4) ).trans f_5863
        have f_5865 : F_5858 (ma 4) = pcE G pl := (o_5860 (ma 4) (ne_ao f_5864 f_5857)).trans f_5864
        have f_5866 : F_5852 (ma 0) = .inl (G.2 0, 89, .inl zf) := (o_5856 (ma 0) ).trans f_5849
        have f_5867 : F_5858 (ma 0) = .inl (G.2 0, 89, .inl zf) := (o_5860 (ma 0) (ne_ao f_5866 f_5857)).trans f_5866
        refine q_callv hw (q_runV (As := [.int (nI (f9)), .int (nI (g9))]) (c_X6_layBracket l G L F_5858 b ma (va_up mi 2 (nI 0)) hh pl zf A.1.1 A.1.2.2.2.2.2 f9 g9 mb hb_5861 hma f_5865 f_5867 hz0 (by omega) (by omega) (by omega) (by omega) hrw) C0 hw vw_X6_123 mb hb_5861 rfl rfl rfl hl.1 rfl (Nat.le_of_ble_eq_true rfl) dX6_bracket_41 ⟨by decide, by decide⟩ ⟨by decide, by decide⟩) rfl rfl (fun F_5868 H locs hw hp_5869 => ?_)
        obtain ⟨⟨P_5870, f_5873, r_5871, ro_5872⟩, o_5874⟩ := hp_5869
        refine lv_aload_n hx hb dX6_bracket_44 rfl (lv_at hl 0 rfl) ?_
        have f_5875 : F_5868 b = mO ma ((va_up mi 2 (nI 0))) hh := (o_5874 b (ne_oa hb_5861 f_5865)).trans hb_5861
        have f_5876 : F_5868 (ma 0) = .inl (G.2 0, 89, .inl zf) := (o_5874 (ma 0) (ne_aa (by decide) f_5867 f_5865)).trans f_5867
        have f_5877 : F_5838 (ma 1) = .inl (G.2 0, 534, .inl hf) := (o_5842 (ma 1) ).trans fh
        have f_5878 : F_5843 (ma 1) = .inl (G.2 0, 534, .inl hf) := (o_5847 (ma 1) ).trans f_5877
        have f_5879 : F_5852 (ma 1) = .inl (G.2 0, 534, .inl hf) := (o_5856 (ma 1) ).trans f_5878
        have f_5880 : F_5858 (ma 1) = .inl (G.2 0, 534, .inl hf) := (o_5860 (ma 1) (ne_ao f_5879 f_5857)).trans f_5879
        have f_5881 : F_5868 (ma 1) = .inl (G.2 0, 534, .inl hf) := (o_5874 (ma 1) (ne_aa (by decide) f_5880 f_5865)).trans f_5880
        refine q_callv hw (q_runV (As := []) (c_X6_save l G L F_5868 b ma ((va_up mi 2 (nI 0))) hh zf hf A.2.1.1 mb f_5875 hm0 hA.2.1.1 hma f_5876 f_5881) C0 hw vw_X6_87 mb f_5875 rfl rfl rfl hl.1 rfl (Nat.le_of_ble_eq_true rfl) dX6_bracket_45 ⟨by decide, by decide⟩ ⟨by decide, by decide⟩) rfl rfl (fun F_5882 H locs hw hp_5883 => ?_)
        obtain ⟨f_5884, f_5885, o_5886⟩ := hp_5883
        refine lv_aload_n hx hb dX6_bracket_48 rfl (lv_at hl 0 rfl) ?_
        refine q_get C0 hw mb f_5884 fw_X6_7 rfl dX6_bracket_49 ?_
        refine lv_iconst (v := nI 4) hx hb dX6_bracket_52 (by decide) ?_
        refine lv_dup2_11 hx hb dX6_bracket_53 rfl rfl ?_
        have f_5887 : F_5882 (ma 0) = .inl (G.2 0, 89, .inl zf) := (o_5886 (ma 0) (ne_ao f_5876 f_5875) (ne_aa (by decide) f_5876 f_5881)).trans f_5876
        refine q_iald C0 hw ((hma 0 (by decide))) f_5887 (4) (by omega) (by decide) (v := nI (A.1.2.2.2.2.1)) hz4 dX6_bracket_54 ?_
        refine lv_iconst (v := nI 1) hx hb dX6_bracket_55 (by decide) ?_
        refine n_iadd hx hb dX6_bracket_56 ?_
        refine q_iast C0 hw ((hma 0 (by decide))) f_5887 (4) (by omega) (by decide) dX6_bracket_57 (fun F_5888 H locs hw f_5889 o_5890 => ?_)
        refine lv_aload_n hx hb dX6_bracket_58 rfl (lv_at hl 0 rfl) ?_
        refine lv_iconst (v := nI 2) hx hb dX6_bracket_59 (by decide) ?_
        refine lv_iload_n hx hb dX6_bracket_60 rfl (lv_at hl 3 rfl) ?_
        refine q_calli hw (q_runS (As := [.int (nI (t9))]) (c_X6_fieldAt l G L F_5888 t9 (by omega)) C0 hw sw_X6_109 rfl hl.1 rfl (Nat.le_of_ble_eq_true rfl) dX6_bracket_61 ⟨by decide, by decide⟩ ⟨by decide, by decide⟩) rfl rfl (fun r_5893 F_5891 H locs hw hp_5892 => ?_)
        obtain ⟨he_5894, o_5895⟩ := hp_5892
        subst he_5894
        have f_5896 : F_5891 (ma 0) = .inl (G.2 0, 89, .inl (upd zf (4) (nI (A.1.2.2.2.2.1 + 1)))) := (o_5895 (ma 0) ).trans f_5889
        have f_5897 : F_5888 b = mO ma ((va_up ((va_up mi 2 (nI 0))) 0 (nI (svM A.2.1.1 hf zf).1))) hh := (o_5890 b (ne_oa f_5884 f_5887)).trans f_5884
        have f_5898 : F_5891 b = mO ma ((va_up ((va_up mi 2 (nI 0))) 0 (nI (svM A.2.1.1 hf zf).1))) hh := (o_5895 b ).trans f_5897
        have f_5899 : F_5882 (ma 4) = pcE G P_5870 := (o_5886 (ma 4) (ne_ao f_5873 f_5875) (ne_aa (by decide) f_5873 f_5881)).trans f_5873
        have f_5900 : F_5888 (ma 4) = pcE G P_5870 := (o_5890 (ma 4) (ne_aa (by decide) f_5899 f_5887)).trans f_5899
        have f_5901 : F_5891 (ma 4) = pcE G P_5870 := (o_5895 (ma 4) ).trans f_5900
        refine q_calli hw (q_runV (As := [.int (nI (2)), .int (nI (5 + 7 * t9))]) (c_X6_pays l G L F_5891 b ma (va_up ((va_up mi 2 (nI 0))) 0 (nI (svM A.2.1.1 hf zf).1)) hh P_5870 (upd zf (4) (nI (A.1.2.2.2.2.1 + 1))) A.1.1 2 (5 + 7 * t9) A.1.2.1 A.1.2.2.1 A.1.2.2.2.1 mb f_5898 hma f_5901 f_5896 hz0 (by omega) (by omega) hz1 hz2 hz3 (by omega) (by omega) (by omega)) C0 hw vw_X6_103 mb f_5898 rfl rfl rfl hl.1 rfl (Nat.le_of_ble_eq_true rfl) dX6_bracket_64 ⟨by decide, by decide⟩ ⟨by decide, by decide⟩) rfl rfl (fun r_5904 F_5902 H locs hw hp_5903 => ?_)
        obtain ⟨he_5905, f_5906, o_5907⟩ := hp_5903
        subst he_5905
        have hu_5908 : P_5870 2 = ordR 98 f9 g9 A.1.1 A.1.2.2.2.2.2 := r_5871.trans (br_eq (hA.1.2.2.2 f9 (by omega)).1 (hA.1.2.2.2 f9 (by omega)).2 (hA.1.2.2.2 g9 (by omega)).1 (hA.1.2.2.2 g9 (by omega)).2 hc)
        have hz_5909 := f_5906
        rw [hu_5908] at hz_5909
        have f_5910 : F_5902 b = mO ma ((va_up ((va_up mi 2 (nI 0))) 0 (nI (svM A.2.1.1 hf zf).1))) hh := (o_5907 b (ne_oa f_5898 f_5896)).trans f_5898
        have f_5911 : F_5888 (ma 1) = .inl (G.2 0, 534, .inl ((svM A.2.1.1 hf zf).2)) := (o_5890 (ma 1) (ne_aa (by decide) f_5885 f_5887)).trans f_5885
        have f_5912 : F_5891 (ma 1) = .inl (G.2 0, 534, .inl ((svM A.2.1.1 hf zf).2)) := (o_5895 (ma 1) ).trans f_5911
        have f_5913 : F_5902 (ma 1) = .inl (G.2 0, 534, .inl ((svM A.2.1.1 hf zf).2)) := (o_5907 (ma 1) (ne_aa (by decide) f_5912 f_5896)).trans f_5912
        have f_5914 : F_5838 (ma 2) = .inl (G.2 0, 178, .inl sf) := (o_5842 (ma 2) ).trans fs
        have f_5915 : F_5843 (ma 2) = .inl (G.2 0, 178, .inl sf) := (o_5847 (ma 2) ).trans f_5914
        have f_5916 : F_5852 (ma 2) = .inl (G.2 0, 178, .inl sf) := (o_5856 (ma 2) ).trans f_5915
        have f_5917 : F_5858 (ma 2) = .inl (G.2 0, 178, .inl sf) := (o_5860 (ma 2) (ne_ao f_5916 f_5857)).trans f_5916
        have f_5918 : F_5868 (ma 2) = .inl (G.2 0, 178, .inl sf) := (o_5874 (ma 2) (ne_aa (by decide) f_5917 f_5865)).trans f_5917
        have f_5919 : F_5882 (ma 2) = .inl (G.2 0, 178, .inl sf) := (o_5886 (ma 2) (ne_ao f_5918 f_5875) (ne_aa (by decide) f_5918 f_5881)).trans f_5918
        have f_5920 : F_5888 (ma 2) = .inl (G.2 0, 178, .inl sf) := (o_5890 (ma 2) (ne_aa (by decide) f_5919 f_5887)).trans f_5919
        have f_5921 : F_5891 (ma 2) = .inl (G.2 0, 178, .inl sf) := (o_5895 (ma 2) ).trans f_5920
        have f_5922 : F_5902 (ma 2) = .inl (G.2 0, 178, .inl sf) := (o_5907 (ma 2) (ne_aa (by decide) f_5921 f_5896)).trans f_5921
        have f_5923 : F_5838 (ma 3) = .inl (G.2 0, 2, .inl kf) := (o_5842 (ma 3) ).trans fk
        have f_5924 : F_5843 (ma 3) = .inl (G.2 0, 2, .inl kf) := (o_5847 (ma 3) ).trans f_5923
        have f_5925 : F_5852 (ma 3) = .inl (G.2 0, 2, .inl kf) := (o_5856 (ma 3) ).trans f_5924
        have f_5926 : F_5858 (ma 3) = .inl (G.2 0, 2, .inl kf) := (o_5860 (ma 3) (ne_ao f_5925 f_5857)).trans f_5925
        have f_5927 : F_5868 (ma 3) = .inl (G.2 0, 2, .inl kf) := (o_5874 (ma 3) (ne_aa (by decide) f_5926 f_5865)).trans f_5926
        have f_5928 : F_5882 (ma 3) = .inl (G.2 0, 2, .inl kf) := (o_5886 (ma 3) (ne_ao f_5927 f_5875) (ne_aa (by decide) f_5927 f_5881)).trans f_5927
        have f_5929 : F_5888 (ma 3) = .inl (G.2 0, 2, .inl kf) := (o_5890 (ma 3) (ne_aa (by decide) f_5928 f_5887)).trans f_5928
        have f_5930 : F_5891 (ma 3) = .inl (G.2 0, 2, .inl kf) := (o_5895 (ma 3) ).trans f_5929
        have f_5931 : F_5902 (ma 3) = .inl (G.2 0, 2, .inl kf) := (o_5907 (ma 3) (ne_aa (by decide) f_5930 f_5896)).trans f_5930
        have f_5932 : F_5902 (ma 4) = pcE G P_5870 := (o_5907 (ma 4) (ne_aa (by decide) f_5901 f_5896)).trans f_5901
        have f_5933 : F_5838 (ma 5) = .inl (G.2 0, 60, .inl tf) := (o_5842 (ma 5) ).trans ft
        have f_5934 : F_5843 (ma 5) = .inl (G.2 0, 60, .inl tf) := (o_5847 (ma 5) ).trans f_5933
        have f_5935 : F_5852 (ma 5) = .inl (G.2 0, 60, .inl tf) := (o_5856 (ma 5) ).trans f_5934
        have f_5936 : F_5858 (ma 5) = .inl (G.2 0, 60, .inl tf) := (o_5860 (ma 5) (ne_ao f_5935 f_5857)).trans f_5935
        have f_5937 : F_5868 (ma 5) = .inl (G.2 0, 60, .inl tf) := (o_5874 (ma 5) (ne_aa (by decide) f_5936 f_5865)).trans f_5936
        have f_5938 : F_5882 (ma 5) = .inl (G.2 0, 60, .inl tf) := (o_5886 (ma 5) (ne_ao f_5937 f_5875) (ne_aa (by decide) f_5937 f_5881)).trans f_5937
        have f_5939 : F_5888 (ma 5) = .inl (G.2 0, 60, .inl tf) := (o_5890 (ma 5) (ne_aa (by decide) f_5938 f_5887)).trans f_5938
        have f_5940 : F_5891 (ma 5) = .inl (G.2 0, 60, .inl tf) := (o_5895 (ma 5) ).trans f_5939
        have f_5941 : F_5902 (ma 5) = .inl (G.2 0, 60, .inl tf) := (o_5907 (ma 5) (ne_aa (by decide) f_5940 f_5896)).trans f_5940
        have f_5942 : F_5838 (ma 6) = .inl (G.2 0, 52, .inl pf) := (o_5842 (ma 6) ).trans fq
        have f_5943 : F_5843 (ma 6) = .inl (G.2 0, 52, .inl pf) := (o_5847 (ma 6) ).trans f_5942
        have f_5944 : F_5852 (ma 6) = .inl (G.2 0, 52, .inl pf) := (o_5856 (ma 6) ).trans f_5943
        have f_5945 : F_5858 (ma 6) = .inl (G.2 0, 52, .inl pf) := (o_5860 (ma 6) (ne_ao f_5944 f_5857)).trans f_5944
        have f_5946 : F_5868 (ma 6) = .inl (G.2 0, 52, .inl pf) := (o_5874 (ma 6) (ne_aa (by decide) f_5945 f_5865)).trans f_5945
        have f_5947 : F_5882 (ma 6) = .inl (G.2 0, 52, .inl pf) := (o_5886 (ma 6) (ne_ao f_5946 f_5875) (ne_aa (by decide) f_5946 f_5881)).trans f_5946
        have f_5948 : F_5888 (ma 6) = .inl (G.2 0, 52, .inl pf) := (o_5890 (ma 6) (ne_aa (by decide) f_5947 f_5887)).trans f_5947
        have f_5949 : F_5891 (ma 6) = .inl (G.2 0, 52, .inl pf) := (o_5895 (ma 6) ).trans f_5948
        have f_5950 : F_5902 (ma 6) = .inl (G.2 0, 52, .inl pf) := (o_5907 (ma 6) (ne_aa (by decide) f_5949 f_5896)).trans f_5949
        exact r_i C0 hr hlk hw (v := (lowR (P_5870 2))) rfl ⟨(by rw [hu_5908]), ⟨_, _, _, _, _, _, _, _, _, f_5910, ⟨(congrArg nI (sv_n (st := A.1) hA.2.1.1)), hm1, rfl⟩, ⟨hz_5909, (pyM_ok (st := (A.1.1, A.1.2.1, A.1.2.2.1, A.1.2.2.2.1, A.1.2.2.2.2.1, A.1.2.2.2.2.2)) (bk := A.1.2.2.2.2.1 + 1) (un := 2) (t := t9) (u := ordR 98 f9 g9 A.1.1 A.1.2.2.2.2.2) (bk_ok hz) (by omega))⟩, ⟨f_5913, (sv_h hA.2.1.1 hz hhf)⟩, ⟨f_5922, hsf⟩, ⟨f_5931, hkf⟩, f_5932, ⟨f_5941, htf⟩, f_5950⟩, (fun q k0 k1 => ((o_5907 q (k1 0 (by decide))).trans ((o_5895 q ).trans ((o_5890 q (k1 0 (by decide))).trans ((o_5886 q k0 (k1 1 (by decide))).trans ((o_5874 q (k1 4 (by decide))).trans ((o_5860 q k0).trans ((o_5856 q ).trans ((o_5847 q ).trans (o_5842 q ))))))))))⟩ (Nat.le_refl _) (Nat.le_refl _) dX6_bracket_67 hQ
      · skip
        exact absurd c_33 (by omega)
abbrev rm_X6_sum : Room := { frames := 4, cells := 0, slots := 0, locals := 89 }
set_option maxHeartbeats 4000000 in
set_option maxRecDepth 100000 in
theorem k_X6_sum_x1 (l : Launch) (G : Gl) (L : List Nat) (F : Nat → va_E) (b : Nat) (ma : Nat → Nat) (A : AB) (th : Nat) (x9 y9 z9 : Int32) (mb : b ∈ L) (hma : ∀ i, i < 7 → ma i ∈ L) (hM : MW G F b ma A th) (hA : okA A) (h9 : ¬ (inR x9 0 5 ∧ inR y9 0 5)) : CI l yX6_sum cX6_sum 4 (some .int) rm_X6_sum G L F [.ref b, .int (x9), .int (y9), .int (z9)] (fun r F1 => MW G F1 b ma A 1 ∧ mFr F F1 b ma) := by
  obtain ⟨mi, hh, zf, hf, sf, kf, tf, pf, pl, fb, ⟨hm0, hm1, hm2⟩, ⟨fz, hz⟩, ⟨fh, hhf⟩, ⟨fs, hsf⟩, ⟨fk, hkf⟩, fp, ⟨ft, htf⟩, fq⟩ := hM
  obtain ⟨hz0, hz1, hz2, hz3, hz4⟩ := ne_z zf hz
  have hc : A.1.1 ≤ 6 := hA.1.2.1
  have hc2 : 2 ≤ A.1.1 := hA.1.1
  have hpu : A.1.2.1 ≤ 100000 := hA.1.2.2.1
  have hrw : ∀ i k, i < 12 → k < 7 → zf (5 + 7 * i + k) = nI (A.1.2.2.2.2.2 i k).val := hz.row
  refine CG_of (by decide) (Nat.le_of_ble_eq_true rfl) rfl ?_
  intro p e s m args below meth c Q C0 hr hlk hnm hQ hw ls hl
  have hx := C0.x
  have hb := C0.b
  refine lv_aload_n hx hb dX6_sum_0 rfl (lv_at hl 0 rfl) ?_
  refine lv_aload_n hx hb dX6_sum_1 rfl (lv_at hl 0 rfl) ?_
  refine lv_iload_n hx hb dX6_sum_2 rfl (lv_at hl 1 rfl) ?_
  refine lv_iload_n hx hb dX6_sum_3 rfl (lv_at hl 2 rfl) ?_
  refine q_calli hw (q_runS (As := [.int (x9), .int (y9)]) (c_X6_areSlots l G L F (x9) (y9)) C0 hw sw_X6_115 rfl hl.1 rfl (Nat.le_of_ble_eq_true rfl) dX6_sum_4 ⟨by decide, by decide⟩ ⟨by decide, by decide⟩) rfl rfl (fun r_5953 F_5951 H locs hw hp_5952 => ?_)
  obtain ⟨he_5954, o_5955⟩ := hp_5952
  rw [if_neg h9] at he_5954
  subst he_5954
  refine n_if_eq (tgt := 21) hx hb dX6_sum_7 (by decide) (by decide) (fun c_7 => ?_) (fun c_7 => ?_)
  · skip
    refine lv_iconst (v := nI 0) hx hb dX6_sum_21 (by decide) ?_
    refine lv_iconst (v := nI 1) hx hb dX6_sum_22 (by decide) ?_
    have f_5956 : F_5951 (ma 0) = .inl (G.2 0, 89, .inl zf) := (o_5955 (ma 0) ).trans fz
    have f_5957 : F_5951 b = mO ma mi hh := (o_5955 b ).trans fb
    refine q_calli hw (q_runV (As := [.int (nI (0)), .int (nI (1))]) (c_X6_refused_1 l G L F_5951 b ma mi hh zf mb f_5957 hma f_5956 (nI 1)) C0 hw vw_X6_119 mb f_5957 rfl rfl rfl hl.1 rfl (Nat.le_of_ble_eq_true rfl) dX6_sum_23 ⟨by decide, by decide⟩ ⟨by decide, by decide⟩) rfl rfl (fun r_5960 F_5958 H locs hw hp_5959 => ?_)
    obtain ⟨he_5961, o_5962⟩ := hp_5959
    subst he_5961
    have f_5963 : F_5958 b = mO ma mi hh := (o_5962 b ).trans f_5957
    refine q_put C0 hw mb f_5963 fw_X6_31 pw_X6_8 rfl rfl rfl (Nat.le_of_ble_eq_true rfl) dX6_sum_26 (fun F_5964 H locs hw f_5965 o_5966 => ?_)
    have f_5965 : F_5964 b = .inr (6, [.ref (ma 0), .int (mi 0), .ref (ma 1), .ref (ma 2), .ref (ma 3), .ref (ma 4), .int (mi 1), .ref (ma 5), .int (nI (1)), .ref (ma 6), .int (mi 3), .int (mi 4), .long (hh)]) := f_5965
    refine lv_aload_n hx hb dX6_sum_29 rfl (lv_at hl 0 rfl) ?_
    refine q_get C0 hw mb f_5965 fw_X6_31 rfl dX6_sum_30 ?_
    refine n_if_le (tgt := 38) hx hb dX6_sum_33 (by decide) (by decide) (fun c_33 => ?_) (fun c_33 => ?_)
    · skip
      exact absurd c_33 (by omega)
    · skip
      refine lv_iconst (v := nI 0) hx hb dX6_sum_36 (by decide) ?_
      have hb_5967 : F_5964 b = mO ma (va_up mi 2 (nI 1)) (hh) := f_5965
      have f_5968 : F_5958 (ma 0) = .inl (G.2 0, 89, .inl zf) := (o_5962 (ma 0) ).trans f_5956
      have f_5969 : F_5964 (ma 0) = .inl (G.2 0, 89, .inl zf) := (o_5966 (ma 0) (ne_ao f_5968 f_5963)).trans f_5968
      have f_5970 : F_5951 (ma 1) = .inl (G.2 0, 534, .inl hf) := (o_5955 (ma 1) ).trans fh
      have f_5971 : F_5958 (ma 1) = .inl (G.2 0, 534, .inl hf) := (o_5962 (ma 1) ).trans f_5970
      have f_5972 : F_5964 (ma 1) = .inl (G.2 0, 534, .inl hf) := (o_5966 (ma 1) (ne_ao f_5971 f_5963)).trans f_5971
      have f_5973 : F_5951 (ma 2) = .inl (G.2 0, 178, .inl sf) := (o_5955 (ma 2) ).trans fs
      have f_5974 : F_5958 (ma 2) = .inl (G.2 0, 178, .inl sf) := (o_5962 (ma 2) ).trans f_5973
      have f_5975 : F_5964 (ma 2) = .inl (G.2 0, 178, .inl sf) := (o_5966 (ma 2) (ne_ao f_5974 f_5963)).trans f_5974
      have f_5976 : F_5951 (ma 3) = .inl (G.2 0, 2, .inl kf) := (o_5955 (ma 3) ).trans fk
      have f_5977 : F_5958 (ma 3) = .inl (G.2 0, 2, .inl kf) := (o_5962 (ma 3) ).trans f_5976
      have f_5978 : F_5964 (ma 3) = .inl (G.2 0, 2, .inl kf) := (o_5966 (ma 3) (ne_ao f_5977 f_5963)).trans f_5977
      have f_5979 : F_5951 (ma 4) = pcE G pl := (o_5955 (ma 4) ).trans fp
      have f_5980 : F_5958 (ma 4) = pcE G pl := (o_5962 (ma 4) ).trans f_5979
      have f_5981 : F_5964 (ma 4) = pcE G pl := (o_5966 (ma 4) (ne_ao f_5980 f_5963)).trans f_5980
      have f_5982 : F_5951 (ma 5) = .inl (G.2 0, 60, .inl tf) := (o_5955 (ma 5) ).trans ft
      have f_5983 : F_5958 (ma 5) = .inl (G.2 0, 60, .inl tf) := (o_5962 (ma 5) ).trans f_5982
      have f_5984 : F_5964 (ma 5) = .inl (G.2 0, 60, .inl tf) := (o_5966 (ma 5) (ne_ao f_5983 f_5963)).trans f_5983
      have f_5985 : F_5951 (ma 6) = .inl (G.2 0, 52, .inl pf) := (o_5955 (ma 6) ).trans fq
      have f_5986 : F_5958 (ma 6) = .inl (G.2 0, 52, .inl pf) := (o_5962 (ma 6) ).trans f_5985
      have f_5987 : F_5964 (ma 6) = .inl (G.2 0, 52, .inl pf) := (o_5966 (ma 6) (ne_ao f_5986 f_5963)).trans f_5986
      exact r_i C0 hr hlk hw (v := nI 0) rfl ⟨⟨_, _, _, _, _, _, _, _, _, hb_5967, ⟨hm0, hm1, rfl⟩, ⟨f_5969, hz⟩, ⟨f_5972, hhf⟩, ⟨f_5975, hsf⟩, ⟨f_5978, hkf⟩, f_5981, ⟨f_5984, htf⟩, f_5987⟩, (fun q k0 k1 => ((o_5966 q k0).trans ((o_5962 q ).trans (o_5955 q ))))⟩ (Nat.le_refl _) (Nat.le_refl _) dX6_sum_37 hQ
  · skip
    exact absurd c_7 (by omega)
set_option maxHeartbeats 4000000 in
set_option maxRecDepth 100000 in
theorem k_X6_sum_x1b (l : Launch) (G : Gl) (L : List Nat) (F : Nat → va_E) (b : Nat) (ma : Nat → Nat) (A : AB) (th : Nat) (x9 y9 z9 : Int32) (mb : b ∈ L) (hma : ∀ i, i < 7 → ma i ∈ L) (hM : MW G F b ma A th) (hA : okA A) (h8 : inR x9 0 5 ∧ inR y9 0 5) (h9 : ¬ inR z9 0 5) : CI l yX6_sum cX6_sum 4 (some .int) rm_X6_sum G L F [.ref b, .int (x9), .int (y9), .int (z9)] (fun r F1 => MW G F1 b ma A 1 ∧ mFr F F1 b ma) := by
  obtain ⟨mi, hh, zf, hf, sf, kf, tf, pf, pl, fb, ⟨hm0, hm1, hm2⟩, ⟨fz, hz⟩, ⟨fh, hhf⟩, ⟨fs, hsf⟩, ⟨fk, hkf⟩, fp, ⟨ft, htf⟩, fq⟩ := hM
  obtain ⟨hz0, hz1, hz2, hz3, hz4⟩ := ne_z zf hz
  have hc : A.1.1 ≤ 6 := hA.1.2.1
  have hc2 : 2 ≤ A.1.1 := hA.1.1
  have hpu : A.1.2.1 ≤ 100000 := hA.1.2.2.1
  have hrw : ∀ i k, i < 12 → k < 7 → zf (5 + 7 * i + k) = nI (A.1.2.2.2.2.2 i k).val := hz.row
  refine CG_of (by decide) (Nat.le_of_ble_eq_true rfl) rfl ?_
  intro p e s m args below meth c Q C0 hr hlk hnm hQ hw ls hl
  have hx := C0.x
  have hb := C0.b
  refine lv_aload_n hx hb dX6_sum_0 rfl (lv_at hl 0 rfl) ?_
  refine lv_aload_n hx hb dX6_sum_1 rfl (lv_at hl 0 rfl) ?_
  refine lv_iload_n hx hb dX6_sum_2 rfl (lv_at hl 1 rfl) ?_
  refine lv_iload_n hx hb dX6_sum_3 rfl (lv_at hl 2 rfl) ?_
  refine q_calli hw (q_runS (As := [.int (x9), .int (y9)]) (c_X6_areSlots l G L F (x9) (y9)) C0 hw sw_X6_115 rfl hl.1 rfl (Nat.le_of_ble_eq_true rfl) dX6_sum_4 ⟨by decide, by decide⟩ ⟨by decide, by decide⟩) rfl rfl (fun r_5990 F_5988 H locs hw hp_5989 => ?_)
  obtain ⟨he_5991, o_5992⟩ := hp_5989
  rw [if_pos h8] at he_5991
  subst he_5991
  refine n_if_eq (tgt := 21) hx hb dX6_sum_7 (by decide) (by decide) (fun c_7 => ?_) (fun c_7 => ?_)
  · skip
    exact absurd c_7 (by omega)
  · skip
    refine lv_iload_n hx hb dX6_sum_10 rfl (lv_at hl 3 rfl) ?_
    refine q_calli hw (q_runS (As := [.int (z9)]) (c_X6_isSlot l G L F_5988 (z9)) C0 hw sw_X6_42 rfl hl.1 rfl (Nat.le_of_ble_eq_true rfl) dX6_sum_11 ⟨by decide, by decide⟩ ⟨by decide, by decide⟩) rfl rfl (fun r_5995 F_5993 H locs hw hp_5994 => ?_)
    obtain ⟨he_5996, o_5997⟩ := hp_5994
    rw [if_neg h9] at he_5996
    subst he_5996
    refine n_if_eq (tgt := 21) hx hb dX6_sum_14 (by decide) (by decide) (fun c_14 => ?_) (fun c_14 => ?_)
    · skip
      refine lv_iconst (v := nI 0) hx hb dX6_sum_21 (by decide) ?_
      refine lv_iconst (v := nI 1) hx hb dX6_sum_22 (by decide) ?_
      have f_5998 : F_5988 (ma 0) = .inl (G.2 0, 89, .inl zf) := (o_5992 (ma 0) ).trans fz
      have f_5999 : F_5993 (ma 0) = .inl (G.2 0, 89, .inl zf) := (o_5997 (ma 0) ).trans f_5998
      have f_6000 : F_5988 b = mO ma mi hh := (o_5992 b ).trans fb
      have f_6001 : F_5993 b = mO ma mi hh := (o_5997 b ).trans f_6000
      refine q_calli hw (q_runV (As := [.int (nI (0)), .int (nI (1))]) (c_X6_refused_1 l G L F_5993 b ma mi hh zf mb f_6001 hma f_5999 (nI 1)) C0 hw vw_X6_119 mb f_6001 rfl rfl rfl hl.1 rfl (Nat.le_of_ble_eq_true rfl) dX6_sum_23 ⟨by decide, by decide⟩ ⟨by decide, by decide⟩) rfl rfl (fun r_6004 F_6002 H locs hw hp_6003 => ?_)
      obtain ⟨he_6005, o_6006⟩ := hp_6003
      subst he_6005
      have f_6007 : F_6002 b = mO ma mi hh := (o_6006 b ).trans f_6001
      refine q_put C0 hw mb f_6007 fw_X6_31 pw_X6_8 rfl rfl rfl (Nat.le_of_ble_eq_true rfl) dX6_sum_26 (fun F_6008 H locs hw f_6009 o_6010 => ?_)
      have f_6009 : F_6008 b = .inr (6, [.ref (ma 0), .int (mi 0), .ref (ma 1), .ref (ma 2), .ref (ma 3), .ref (ma 4), .int (mi 1), .ref (ma 5), .int (nI (1)), .ref (ma 6), .int (mi 3), .int (mi 4), .long (hh)]) := f_6009
      refine lv_aload_n hx hb dX6_sum_29 rfl (lv_at hl 0 rfl) ?_
      refine q_get C0 hw mb f_6009 fw_X6_31 rfl dX6_sum_30 ?_
      refine n_if_le (tgt := 38) hx hb dX6_sum_33 (by decide) (by decide) (fun c_33 => ?_) (fun c_33 => ?_)
      · skip
        exact absurd c_33 (by omega)
      · skip
        refine lv_iconst (v := nI 0) hx hb dX6_sum_36 (by decide) ?_
        have hb_6011 : F_6008 b = mO ma (va_up mi 2 (nI 1)) (hh) := f_6009
        have f_6012 : F_6002 (ma 0) = .inl (G.2 0, 89, .inl zf) := (o_6006 (ma 0) ).trans f_5999
        have f_6013 : F_6008 (ma 0) = .inl (G.2 0, 89, .inl zf) := (o_6010 (ma 0) (ne_ao f_6012 f_6007)).trans f_6012
        have f_6014 : F_5988 (ma 1) = .inl (G.2 0, 534, .inl hf) := (o_5992 (ma 1) ).trans fh
        have f_6015 : F_5993 (ma 1) = .inl (G.2 0, 534, .inl hf) := (o_5997 (ma 1) ).trans f_6014
        have f_6016 : F_6002 (ma 1) = .inl (G.2 0, 534, .inl hf) := (o_6006 (ma 1) ).trans f_6015
        have f_6017 : F_6008 (ma 1) = .inl (G.2 0, 534, .inl hf) := (o_6010 (ma 1) (ne_ao f_6016 f_6007)).trans f_6016
        have f_6018 : F_5988 (ma 2) = .inl (G.2 0, 178, .inl sf) := (o_5992 (ma 2) ).trans fs
        have f_6019 : F_5993 (ma 2) = .inl (G.2 0, 178, .inl sf) := (o_5997 (ma 2) ).trans f_6018
        have f_6020 : F_6002 (ma 2) = .inl (G.2 0, 178, .inl sf) := (o_6006 (ma 2) ).trans f_6019
        have f_6021 : F_6008 (ma 2) = .inl (G.2 0, 178, .inl sf) := (o_6010 (ma 2) (ne_ao f_6020 f_6007)).trans f_6020
        have f_6022 : F_5988 (ma 3) = .inl (G.2 0, 2, .inl kf) := (o_5992 (ma 3) ).trans fk
        have f_6023 : F_5993 (ma 3) = .inl (G.2 0, 2, .inl kf) := (o_5997 (ma 3) ).trans f_6022
        have f_6024 : F_6002 (ma 3) = .inl (G.2 0, 2, .inl kf) := (o_6006 (ma 3) ).trans f_6023
        have f_6025 : F_6008 (ma 3) = .inl (G.2 0, 2, .inl kf) := (o_6010 (ma 3) (ne_ao f_6024 f_6007)).trans f_6024
        have f_6026 : F_5988 (ma 4) = pcE G pl := (o_5992 (ma 4) ).trans fp
        have f_6027 : F_5993 (ma 4) = pcE G pl := (o_5997 (ma 4) ).trans f_6026
        have f_6028 : F_6002 (ma 4) = pcE G pl := (o_6006 (ma 4) ).trans f_6027
        have f_6029 : F_6008 (ma 4) = pcE G pl := (o_6010 (ma 4) (ne_ao f_6028 f_6007)).trans f_6028
        have f_6030 : F_5988 (ma 5) = .inl (G.2 0, 60, .inl tf) := (o_5992 (ma 5) ).trans ft
        have f_6031 : F_5993 (ma 5) = .inl (G.2 0, 60, .inl tf) := (o_5997 (ma 5) ).trans f_6030
        have f_6032 : F_6002 (ma 5) = .inl (G.2 0, 60, .inl tf) := (o_6006 (ma 5) ).trans f_6031
        have f_6033 : F_6008 (ma 5) = .inl (G.2 0, 60, .inl tf) := (o_6010 (ma 5) (ne_ao f_6032 f_6007)).trans f_6032
        have f_6034 : F_5988 (ma 6) = .inl (G.2 0, 52, .inl pf) := (o_5992 (ma 6) ).trans fq
        have f_6035 : F_5993 (ma 6) = .inl (G.2 0, 52, .inl pf) := (o_5997 (ma 6) ).trans f_6034
        have f_6036 : F_6002 (ma 6) = .inl (G.2 0, 52, .inl pf) := (o_6006 (ma 6) ).trans f_6035
        have f_6037 : F_6008 (ma 6) = .inl (G.2 0, 52, .inl pf) := (o_6010 (ma 6) (ne_ao f_6036 f_6007)).trans f_6036
        exact r_i C0 hr hlk hw (v := nI 0) rfl ⟨⟨_, _, _, _, _, _, _, _, _, hb_6011, ⟨hm0, hm1, rfl⟩, ⟨f_6013, hz⟩, ⟨f_6017, hhf⟩, ⟨f_6021, hsf⟩, ⟨f_6025, hkf⟩, f_6029, ⟨f_6033, htf⟩, f_6037⟩, (fun q k0 k1 => ((o_6010 q k0).trans ((o_6006 q ).trans ((o_5997 q ).trans (o_5992 q )))))⟩ (Nat.le_refl _) (Nat.le_refl _) dX6_sum_37 hQ
    · skip
      exact absurd c_14 (by omega)
set_option maxHeartbeats 4000000 in
set_option maxRecDepth 100000 in
theorem k_X6_sum_x2 (l : Launch) (G : Gl) (L : List Nat) (F : Nat → va_E) (b : Nat) (ma : Nat → Nat) (A : AB) (th : Nat) (x9 y9 z9 : Int32) (mb : b ∈ L) (hma : ∀ i, i < 7 → ma i ∈ L) (hM : MW G F b ma A th) (hA : okA A) (h8 : inR x9 0 5 ∧ inR y9 0 5) (h9 : inR z9 0 5) (hm : A.1.2.1 < A.1.1 * 1) : CI l yX6_sum cX6_sum 4 (some .int) rm_X6_sum G L F [.ref b, .int (x9), .int (y9), .int (z9)] (fun r F1 => MW G F1 b ma A 2 ∧ mFr F F1 b ma) := by
  obtain ⟨mi, hh, zf, hf, sf, kf, tf, pf, pl, fb, ⟨hm0, hm1, hm2⟩, ⟨fz, hz⟩, ⟨fh, hhf⟩, ⟨fs, hsf⟩, ⟨fk, hkf⟩, fp, ⟨ft, htf⟩, fq⟩ := hM
  obtain ⟨hz0, hz1, hz2, hz3, hz4⟩ := ne_z zf hz
  have hc : A.1.1 ≤ 6 := hA.1.2.1
  have hc2 : 2 ≤ A.1.1 := hA.1.1
  have hpu : A.1.2.1 ≤ 100000 := hA.1.2.2.1
  have hrw : ∀ i k, i < 12 → k < 7 → zf (5 + 7 * i + k) = nI (A.1.2.2.2.2.2 i k).val := hz.row
  refine CG_of (by decide) (Nat.le_of_ble_eq_true rfl) rfl ?_
  intro p e s m args below meth c Q C0 hr hlk hnm hQ hw ls hl
  have hx := C0.x
  have hb := C0.b
  refine lv_aload_n hx hb dX6_sum_0 rfl (lv_at hl 0 rfl) ?_
  refine lv_aload_n hx hb dX6_sum_1 rfl (lv_at hl 0 rfl) ?_
  refine lv_iload_n hx hb dX6_sum_2 rfl (lv_at hl 1 rfl) ?_
  refine lv_iload_n hx hb dX6_sum_3 rfl (lv_at hl 2 rfl) ?_
  refine q_calli hw (q_runS (As := [.int (x9), .int (y9)]) (c_X6_areSlots l G L F (x9) (y9)) C0 hw sw_X6_115 rfl hl.1 rfl (Nat.le_of_ble_eq_true rfl) dX6_sum_4 ⟨by decide, by decide⟩ ⟨by decide, by decide⟩) rfl rfl (fun r_6040 F_6038 H locs hw hp_6039 => ?_)
  obtain ⟨he_6041, o_6042⟩ := hp_6039
  rw [if_pos h8] at he_6041
  subst he_6041
  refine n_if_eq (tgt := 21) hx hb dX6_sum_7 (by decide) (by decide) (fun c_7 => ?_) (fun c_7 => ?_)
  · skip
    exact absurd c_7 (by omega)
  · skip
    refine lv_iload_n hx hb dX6_sum_10 rfl (lv_at hl 3 rfl) ?_
    refine q_calli hw (q_runS (As := [.int (z9)]) (c_X6_isSlot l G L F_6038 (z9)) C0 hw sw_X6_42 rfl hl.1 rfl (Nat.le_of_ble_eq_true rfl) dX6_sum_11 ⟨by decide, by decide⟩ ⟨by decide, by decide⟩) rfl rfl (fun r_6045 F_6043 H locs hw hp_6044 => ?_)
    obtain ⟨he_6046, o_6047⟩ := hp_6044
    rw [if_pos h9] at he_6046
    subst he_6046
    refine n_if_eq (tgt := 21) hx hb dX6_sum_14 (by decide) (by decide) (fun c_14 => ?_) (fun c_14 => ?_)
    · skip
      exact absurd c_14 (by omega)
    · skip
      refine lv_iconst (v := nI 1) hx hb dX6_sum_17 (by decide) ?_
      refine lv_goto (tgt := 22) hx hb dX6_sum_18 (by decide) ?_
      refine lv_iconst (v := nI 1) hx hb dX6_sum_22 (by decide) ?_
      have f_6048 : F_6038 (ma 0) = .inl (G.2 0, 89, .inl zf) := (o_6042 (ma 0) ).trans fz
      have f_6049 : F_6043 (ma 0) = .inl (G.2 0, 89, .inl zf) := (o_6047 (ma 0) ).trans f_6048
      have f_6050 : F_6038 b = mO ma mi hh := (o_6042 b ).trans fb
      have f_6051 : F_6043 b = mO ma mi hh := (o_6047 b ).trans f_6050
      refine q_calli hw (q_runV (As := [.int (nI (1)), .int (nI (1))]) (c_X6_refused_2 l G L F_6043 b ma mi hh zf 1 A.1.1 A.1.2.1 mb f_6051 hma f_6049 hz0 hz1 hc (by omega) hpu (by omega)) C0 hw vw_X6_119 mb f_6051 rfl rfl rfl hl.1 rfl (Nat.le_of_ble_eq_true rfl) dX6_sum_23 ⟨by decide, by decide⟩ ⟨by decide, by decide⟩) rfl rfl (fun r_6054 F_6052 H locs hw hp_6053 => ?_)
      obtain ⟨he_6055, o_6056⟩ := hp_6053
      subst he_6055
      have f_6057 : F_6052 b = mO ma mi hh := (o_6056 b ).trans f_6051
      refine q_put C0 hw mb f_6057 fw_X6_31 pw_X6_8 rfl rfl rfl (Nat.le_of_ble_eq_true rfl) dX6_sum_26 (fun F_6058 H locs hw f_6059 o_6060 => ?_)
      have f_6059 : F_6058 b = .inr (6, [.ref (ma 0), .int (mi 0), .ref (ma 1), .ref (ma 2), .ref (ma 3), .ref (ma 4), .int (mi 1), .ref (ma 5), .int (nI (2)), .ref (ma 6), .int (mi 3), .int (mi 4), .long (hh)]) := f_6059
      refine lv_aload_n hx hb dX6_sum_29 rfl (lv_at hl 0 rfl) ?_
      refine q_get C0 hw mb f_6059 fw_X6_31 rfl dX6_sum_30 ?_
      refine n_if_le (tgt := 38) hx hb dX6_sum_33 (by decide) (by decide) (fun c_33 => ?_) (fun c_33 => ?_)
      · skip
        exact absurd c_33 (by omega)
      · skip
        refine lv_iconst (v := nI 0) hx hb dX6_sum_36 (by decide) ?_
        have hb_6061 : F_6058 b = mO ma (va_up mi 2 (nI 2)) (hh) := f_6059
        have f_6062 : F_6052 (ma 0) = .inl (G.2 0, 89, .inl zf) := (o_6056 (ma 0) ).trans f_6049
        have f_6063 : F_6058 (ma 0) = .inl (G.2 0, 89, .inl zf) := (o_6060 (ma 0) (ne_ao f_6062 f_6057)).trans f_6062
        have f_6064 : F_6038 (ma 1) = .inl (G.2 0, 534, .inl hf) := (o_6042 (ma 1) ).trans fh
        have f_6065 : F_6043 (ma 1) = .inl (G.2 0, 534, .inl hf) := (o_6047 (ma 1) ).trans f_6064
        have f_6066 : F_6052 (ma 1) = .inl (G.2 0, 534, .inl hf) := (o_6056 (ma 1) ).trans f_6065
        have f_6067 : F_6058 (ma 1) = .inl (G.2 0, 534, .inl hf) := (o_6060 (ma 1) (ne_ao f_6066 f_6057)).trans f_6066
        have f_6068 : F_6038 (ma 2) = .inl (G.2 0, 178, .inl sf) := (o_6042 (ma 2) ).trans fs
        have f_6069 : F_6043 (ma 2) = .inl (G.2 0, 178, .inl sf) := (o_6047 (ma 2) ).trans f_6068
        have f_6070 : F_6052 (ma 2) = .inl (G.2 0, 178, .inl sf) := (o_6056 (ma 2) ).trans f_6069
        have f_6071 : F_6058 (ma 2) = .inl (G.2 0, 178, .inl sf) := (o_6060 (ma 2) (ne_ao f_6070 f_6057)).trans f_6070
        have f_6072 : F_6038 (ma 3) = .inl (G.2 0, 2, .inl kf) := (o_6042 (ma 3) ).trans fk
        have f_6073 : F_6043 (ma 3) = .inl (G.2 0, 2, .inl kf) := (o_6047 (ma 3) ).trans f_6072
        have f_6074 : F_6052 (ma 3) = .inl (G.2 0, 2, .inl kf) := (o_6056 (ma 3) ).trans f_6073
        have f_6075 : F_6058 (ma 3) = .inl (G.2 0, 2, .inl kf) := (o_6060 (ma 3) (ne_ao f_6074 f_6057)).trans f_6074
        have f_6076 : F_6038 (ma 4) = pcE G pl := (o_6042 (ma 4) ).trans fp
        have f_6077 : F_6043 (ma 4) = pcE G pl := (o_6047 (ma 4) ).trans f_6076
        have f_6078 : F_6052 (ma 4) = pcE G pl := (o_6056 (ma 4) ).trans f_6077
        have f_6079 : F_6058 (ma 4) = pcE G pl := (o_6060 (ma 4) (ne_ao f_6078 f_6057)).trans f_6078
        have f_6080 : F_6038 (ma 5) = .inl (G.2 0, 60, .inl tf) := (o_6042 (ma 5) ).trans ft
        have f_6081 : F_6043 (ma 5) = .inl (G.2 0, 60, .inl tf) := (o_6047 (ma 5) ).trans f_6080
        have f_6082 : F_6052 (ma 5) = .inl (G.2 0, 60, .inl tf) := (o_6056 (ma 5) ).trans f_6081
        have f_6083 : F_6058 (ma 5) = .inl (G.2 0, 60, .inl tf) := (o_6060 (ma 5) (ne_ao f_6082 f_6057)).trans f_6082
        have f_6084 : F_6038 (ma 6) = .inl (G.2 0, 52, .inl pf) := (o_6042 (ma 6) ).trans fq
        have f_6085 : F_6043 (ma 6) = .inl (G.2 0, 52, .inl pf) := (o_6047 (ma 6) ).trans f_6084
        have f_6086 : F_6052 (ma 6) = .inl (G.2 0, 52, .inl pf) := (o_6056 (ma 6) ).trans f_6085
        have f_6087 : F_6058 (ma 6) = .inl (G.2 0, 52, .inl pf) := (o_6060 (ma 6) (ne_ao f_6086 f_6057)).trans f_6086
        exact r_i C0 hr hlk hw (v := nI 0) rfl ⟨⟨_, _, _, _, _, _, _, _, _, hb_6061, ⟨hm0, hm1, rfl⟩, ⟨f_6063, hz⟩, ⟨f_6067, hhf⟩, ⟨f_6071, hsf⟩, ⟨f_6075, hkf⟩, f_6079, ⟨f_6083, htf⟩, f_6087⟩, (fun q k0 k1 => ((o_6060 q k0).trans ((o_6056 q ).trans ((o_6047 q ).trans (o_6042 q )))))⟩ (Nat.le_refl _) (Nat.le_refl _) dX6_sum_37 hQ
set_option maxHeartbeats 4000000 in
set_option maxRecDepth 100000 in
theorem k_X6_sum (l : Launch) (G : Gl) (L : List Nat) (F : Nat → va_E) (b : Nat) (ma : Nat → Nat) (A : AB) (th : Nat) (f9 g9 t9 : Nat) (mb : b ∈ L) (hma : ∀ i, i < 7 → ma i ∈ L) (hM : MW G F b ma A th) (hA : okA A) (hf9 : f9 < 6) (hg9 : g9 < 6) (ht9 : t9 < 6) (h8 : inR (nI f9) 0 5 ∧ inR (nI g9) 0 5) (h9 : inR (nI t9) 0 5) (hm : 1 * A.1.1 ≤ A.1.2.1) : CI l yX6_sum cX6_sum 4 (some .int) rm_X6_sum G L F [.ref b, .int (nI (f9)), .int (nI (g9)), .int (nI (t9))] (fun r F1 => r = lowR (ordR 115 f9 g9 A.1.1 A.1.2.2.2.2.2) ∧ MW G F1 b ma (aSave A (ordS 115 f9 g9 t9 A.1)) 0 ∧ mFr F F1 b ma) := by
  obtain ⟨mi, hh, zf, hf, sf, kf, tf, pf, pl, fb, ⟨hm0, hm1, hm2⟩, ⟨fz, hz⟩, ⟨fh, hhf⟩, ⟨fs, hsf⟩, ⟨fk, hkf⟩, fp, ⟨ft, htf⟩, fq⟩ := hM
  obtain ⟨hz0, hz1, hz2, hz3, hz4⟩ := ne_z zf hz
  have hc : A.1.1 ≤ 6 := hA.1.2.1
  have hc2 : 2 ≤ A.1.1 := hA.1.1
  have hpu : A.1.2.1 ≤ 100000 := hA.1.2.2.1
  have hrw : ∀ i k, i < 12 → k < 7 → zf (5 + 7 * i + k) = nI (A.1.2.2.2.2.2 i k).val := hz.row
  refine CG_of (by decide) (Nat.le_of_ble_eq_true rfl) rfl ?_
  intro p e s m args below meth c Q C0 hr hlk hnm hQ hw ls hl
  have hx := C0.x
  have hb := C0.b
  refine lv_aload_n hx hb dX6_sum_0 rfl (lv_at hl 0 rfl) ?_
  refine lv_aload_n hx hb dX6_sum_1 rfl (lv_at hl 0 rfl) ?_
  refine lv_iload_n hx hb dX6_sum_2 rfl (lv_at hl 1 rfl) ?_
  refine lv_iload_n hx hb dX6_sum_3 rfl (lv_at hl 2 rfl) ?_
  refine q_calli hw (q_runS (As := [.int (nI (f9)), .int (nI (g9))]) (c_X6_areSlots l G L F (nI (f9)) (nI (g9))) C0 hw sw_X6_115 rfl hl.1 rfl (Nat.le_of_ble_eq_true rfl) dX6_sum_4 ⟨by decide, by decide⟩ ⟨by decide, by decide⟩) rfl rfl (fun r_6090 F_6088 H locs hw hp_6089 => ?_)
  obtain ⟨he_6091, o_6092⟩ := hp_6089
  rw [if_pos h8] at he_6091
  subst he_6091
  refine n_if_eq (tgt := 21) hx hb dX6_sum_7 (by decide) (by decide) (fun c_7 => ?_) (fun c_7 => ?_)
  · skip
    exact absurd c_7 (by omega)
  · skip
    refine lv_iload_n hx hb dX6_sum_10 rfl (lv_at hl 3 rfl) ?_
    refine q_calli hw (q_runS (As := [.int (nI (t9))]) (c_X6_isSlot l G L F_6088 (nI (t9))) C0 hw sw_X6_42 rfl hl.1 rfl (Nat.le_of_ble_eq_true rfl) dX6_sum_11 ⟨by decide, by decide⟩ ⟨by decide, by decide⟩) rfl rfl (fun r_6095 F_6093 H locs hw hp_6094 => ?_)
    obtain ⟨he_6096, o_6097⟩ := hp_6094
    rw [if_pos h9] at he_6096
    subst he_6096
    refine n_if_eq (tgt := 21) hx hb dX6_sum_14 (by decide) (by decide) (fun c_14 => ?_) (fun c_14 => ?_)
    · skip
      exact absurd c_14 (by omega)
    · skip
      refine lv_iconst (v := nI 1) hx hb dX6_sum_17 (by decide) ?_
      refine lv_goto (tgt := 22) hx hb dX6_sum_18 (by decide) ?_
      refine lv_iconst (v := nI 1) hx hb dX6_sum_22 (by decide) ?_
      have f_6098 : F_6088 (ma 0) = .inl (G.2 0, 89, .inl zf) := (o_6092 (ma 0) ).trans fz
      have f_6099 : F_6093 (ma 0) = .inl (G.2 0, 89, .inl zf) := (o_6097 (ma 0) ).trans f_6098
      have f_6100 : F_6088 b = mO ma mi hh := (o_6092 b ).trans fb
      have f_6101 : F_6093 b = mO ma mi hh := (o_6097 b ).trans f_6100
      refine q_calli hw (q_runV (As := [.int (nI (1)), .int (nI (1))]) (c_X6_refused l G L F_6093 b ma mi hh zf 1 A.1.1 A.1.2.1 mb f_6101 hma f_6099 hz0 hz1 hc (by omega) hpu (by omega)) C0 hw vw_X6_119 mb f_6101 rfl rfl rfl hl.1 rfl (Nat.le_of_ble_eq_true rfl) dX6_sum_23 ⟨by decide, by decide⟩ ⟨by decide, by decide⟩) rfl rfl (fun r_6104 F_6102 H locs hw hp_6103 => ?_)
      obtain ⟨he_6105, o_6106⟩ := hp_6103
      subst he_6105
      have f_6107 : F_6102 b = mO ma mi hh := (o_6106 b ).trans f_6101
      refine q_put C0 hw mb f_6107 fw_X6_31 pw_X6_8 rfl rfl rfl (Nat.le_of_ble_eq_true rfl) dX6_sum_26 (fun F_6108 H locs hw f_6109 o_6110 => ?_)
      have f_6109 : F_6108 b = .inr (6, [.ref (ma 0), .int (mi 0), .ref (ma 1), .ref (ma 2), .ref (ma 3), .ref (ma 4), .int (mi 1), .ref (ma 5), .int (nI (0)), .ref (ma 6), .int (mi 3), .int (mi 4), .long (hh)]) := f_6109
      refine lv_aload_n hx hb dX6_sum_29 rfl (lv_at hl 0 rfl) ?_
      refine q_get C0 hw mb f_6109 fw_X6_31 rfl dX6_sum_30 ?_
      refine n_if_le (tgt := 38) hx hb dX6_sum_33 (by decide) (by decide) (fun c_33 => ?_) (fun c_33 => ?_)
      · skip
        have hb_6111 : F_6108 b = mO ma (va_up mi 2 (nI 0)) hh := f_6109
        refine lv_aload_n hx hb dX6_sum_38 rfl (lv_at hl 0 rfl) ?_
        refine lv_iload_n hx hb dX6_sum_39 rfl (lv_at hl 1 rfl) ?_
        refine lv_iload_n hx hb dX6_sum_40 rfl (lv_at hl 2 rfl) ?_
        have f_6112 : F_6088 (ma 4) = pcE G pl := (o_6092 (ma 4) ).trans fp
        have f_6113 : F_6093 (ma 4) = pcE G pl := (o_6097 (ma 4) ).trans f_6112
        have f_6114 : F_6102 (ma 4) = pcE G pl := (o_6106 (ma 4) ).trans f_6113
        have f_6115 : F_6108 (ma 4) = pcE G pl := (o_6110 (ma 4) (ne_ao f_6114 f_6107)).trans f_6114
        have f_6116 : F_6102 (ma 0) = .inl (G.2 0, 89, .inl zf) := (o_6106 (ma 0) ).trans f_6099
        have f_6117 : F_6108 (ma 0) = .inl (G.2 0, 89, .inl zf) := (o_6110 (ma 0) (ne_ao f_6116 f_6107)).trans f_6116
        refine q_callv hw (q_runV (As := [.int (nI (f9)), .int (nI (g9))]) (c_X6_laySum l G L F_6108 b ma (va_up mi 2 (nI 0)) hh pl zf A.1.1 A.1.2.2.2.2.2 f9 g9 mb hb_6111 hma f_6115 f_6117 hz0 (by omega) (by omega) (by omega) (by omega) hrw) C0 hw vw_X6_126 mb hb_6111 rfl rfl rfl hl.1 rfl (Nat.le_of_ble_eq_true rfl) dX6_sum_41 ⟨by decide, by decide⟩ ⟨by decide, by decide⟩) rfl rfl (fun F_6118 H locs hw hp_6119 => ?_)
        obtain ⟨⟨P_6120, f_6123, r_6121, ro_6122⟩, o_6124⟩ := hp_6119
        refine lv_aload_n hx hb dX6_sum_44 rfl (lv_at hl 0 rfl) ?_
        refine lv_iconst (v := nI 1) hx hb dX6_sum_45 (by decide) ?_
        refine lv_iload_n hx hb dX6_sum_46 rfl (lv_at hl 3 rfl) ?_
        refine q_calli hw (q_runS (As := [.int (nI (t9))]) (c_X6_fieldAt l G L F_6118 t9 (by omega)) C0 hw sw_X6_109 rfl hl.1 rfl (Nat.le_of_ble_eq_true rfl) dX6_sum_47 ⟨by decide, by decide⟩ ⟨by decide, by decide⟩) rfl rfl (fun r_6127 F_6125 H locs hw hp_6126 => ?_)
        obtain ⟨he_6128, o_6129⟩ := hp_6126
        subst he_6128
        have f_6130 : F_6118 b = mO ma ((va_up mi 2 (nI 0))) hh := (o_6124 b (ne_oa hb_6111 f_6115)).trans hb_6111
        have f_6131 : F_6125 b = mO ma ((va_up mi 2 (nI 0))) hh := (o_6129 b ).trans f_6130
        have f_6132 : F_6118 (ma 0) = .inl (G.2 0, 89, .inl zf) := (o_6124 (ma 0) (ne_aa (by decide) f_6117 f_6115)).trans f_6117
        have f_6133 : F_6125 (ma 0) = .inl (G.2 0, 89, .inl zf) := (o_6129 (ma 0) ).trans f_6132
        have f_6134 : F_6088 (ma 1) = .inl (G.2 0, 534, .inl hf) := (o_6092 (ma 1) ).trans fh
        have f_6135 : F_6093 (ma 1) = .inl (G.2 0, 534, .inl hf) := (o_6097 (ma 1) ).trans f_6134
        have f_6136 : F_6102 (ma 1) = .inl (G.2 0, 534, .inl hf) := (o_6106 (ma 1) ).trans f_6135
        have f_6137 : F_6108 (ma 1) = .inl (G.2 0, 534, .inl hf) := (o_6110 (ma 1) (ne_ao f_6136 f_6107)).trans f_6136
        have f_6138 : F_6118 (ma 1) = .inl (G.2 0, 534, .inl hf) := (o_6124 (ma 1) (ne_aa (by decide) f_6137 f_6115)).trans f_6137
        have f_6139 : F_6125 (ma 1) = .inl (G.2 0, 534, .inl hf) := (o_6129 (ma 1) ).trans f_6138
        have f_6140 : F_6125 (ma 4) = pcE G P_6120 := (o_6129 (ma 4) ).trans f_6123
        refine q_calli hw (q_runV (As := [.int (nI (1)), .int (nI (5 + 7 * t9))]) (c_X6_ended l G L F_6125 b ma ((va_up mi 2 (nI 0))) hh zf hf P_6120 A.2.1.1 1 (5 + 7 * t9) A.1.1 A.1.2.1 A.1.2.2.1 A.1.2.2.2.1 mb f_6131 hm0 hA.2.1.1 hma f_6133 f_6139 f_6140 hz0 hc hc2 hz1 hz2 hz3 (by omega) (by omega) (by omega)) C0 hw vw_X6_129 mb f_6131 rfl rfl rfl hl.1 rfl (Nat.le_of_ble_eq_true rfl) dX6_sum_50 ⟨by decide, by decide⟩ ⟨by decide, by decide⟩) rfl rfl (fun r_6143 F_6141 H locs hw hp_6142 => ?_)
        obtain ⟨f_6144, f_6145, f_6146, f_6147, f_6148⟩ := hp_6142
        subst f_6144
        have hu_6149 : P_6120 2 = ordR 115 f9 g9 A.1.1 A.1.2.2.2.2.2 := r_6121.trans (am_1 _ _)
        have hz_6150 := f_6147
        rw [hu_6149] at hz_6150
        have f_6151 : F_6088 (ma 2) = .inl (G.2 0, 178, .inl sf) := (o_6092 (ma 2) ).trans fs
        have f_6152 : F_6093 (ma 2) = .inl (G.2 0, 178, .inl sf) := (o_6097 (ma 2) ).trans f_6151
        have f_6153 : F_6102 (ma 2) = .inl (G.2 0, 178, .inl sf) := (o_6106 (ma 2) ).trans f_6152
        have f_6154 : F_6108 (ma 2) = .inl (G.2 0, 178, .inl sf) := (o_6110 (ma 2) (ne_ao f_6153 f_6107)).trans f_6153
        have f_6155 : F_6118 (ma 2) = .inl (G.2 0, 178, .inl sf) := (o_6124 (ma 2) (ne_aa (by decide) f_6154 f_6115)).trans f_6154
        have f_6156 : F_6125 (ma 2) = .inl (G.2 0, 178, .inl sf) := (o_6129 (ma 2) ).trans f_6155
        have f_6157 : F_6141 (ma 2) = .inl (G.2 0, 178, .inl sf) := (f_6148 (ma 2) (ne_ao f_6156 f_6131) (ne_aa (by decide) f_6156 f_6139) (ne_aa (by decide) f_6156 f_6133)).trans f_6156
        have f_6158 : F_6088 (ma 3) = .inl (G.2 0, 2, .inl kf) := (o_6092 (ma 3) ).trans fk
        have f_6159 : F_6093 (ma 3) = .inl (G.2 0, 2, .inl kf) := (o_6097 (ma 3) ).trans f_6158
        have f_6160 : F_6102 (ma 3) = .inl (G.2 0, 2, .inl kf) := (o_6106 (ma 3) ).trans f_6159
        have f_6161 : F_6108 (ma 3) = .inl (G.2 0, 2, .inl kf) := (o_6110 (ma 3) (ne_ao f_6160 f_6107)).trans f_6160
        have f_6162 : F_6118 (ma 3) = .inl (G.2 0, 2, .inl kf) := (o_6124 (ma 3) (ne_aa (by decide) f_6161 f_6115)).trans f_6161
        have f_6163 : F_6125 (ma 3) = .inl (G.2 0, 2, .inl kf) := (o_6129 (ma 3) ).trans f_6162
        have f_6164 : F_6141 (ma 3) = .inl (G.2 0, 2, .inl kf) := (f_6148 (ma 3) (ne_ao f_6163 f_6131) (ne_aa (by decide) f_6163 f_6139) (ne_aa (by decide) f_6163 f_6133)).trans f_6163
        have f_6165 : F_6141 (ma 4) = pcE G P_6120 := (f_6148 (ma 4) (ne_ao f_6140 f_6131) (ne_aa (by decide) f_6140 f_6139) (ne_aa (by decide) f_6140 f_6133)).trans f_6140
        have f_6166 : F_6088 (ma 5) = .inl (G.2 0, 60, .inl tf) := (o_6092 (ma 5) ).trans ft
        have f_6167 : F_6093 (ma 5) = .inl (G.2 0, 60, .inl tf) := (o_6097 (ma 5) ).trans f_6166
        have f_6168 : F_6102 (ma 5) = .inl (G.2 0, 60, .inl tf) := (o_6106 (ma 5) ).trans f_6167
        have f_6169 : F_6108 (ma 5) = .inl (G.2 0, 60, .inl tf) := (o_6110 (ma 5) (ne_ao f_6168 f_6107)).trans f_6168
        have f_6170 : F_6118 (ma 5) = .inl (G.2 0, 60, .inl tf) := (o_6124 (ma 5) (ne_aa (by decide) f_6169 f_6115)).trans f_6169
        have f_6171 : F_6125 (ma 5) = .inl (G.2 0, 60, .inl tf) := (o_6129 (ma 5) ).trans f_6170
        have f_6172 : F_6141 (ma 5) = .inl (G.2 0, 60, .inl tf) := (f_6148 (ma 5) (ne_ao f_6171 f_6131) (ne_aa (by decide) f_6171 f_6139) (ne_aa (by decide) f_6171 f_6133)).trans f_6171
        have f_6173 : F_6088 (ma 6) = .inl (G.2 0, 52, .inl pf) := (o_6092 (ma 6) ).trans fq
        have f_6174 : F_6093 (ma 6) = .inl (G.2 0, 52, .inl pf) := (o_6097 (ma 6) ).trans f_6173
        have f_6175 : F_6102 (ma 6) = .inl (G.2 0, 52, .inl pf) := (o_6106 (ma 6) ).trans f_6174
        have f_6176 : F_6108 (ma 6) = .inl (G.2 0, 52, .inl pf) := (o_6110 (ma 6) (ne_ao f_6175 f_6107)).trans f_6175
        have f_6177 : F_6118 (ma 6) = .inl (G.2 0, 52, .inl pf) := (o_6124 (ma 6) (ne_aa (by decide) f_6176 f_6115)).trans f_6176
        have f_6178 : F_6125 (ma 6) = .inl (G.2 0, 52, .inl pf) := (o_6129 (ma 6) ).trans f_6177
        have f_6179 : F_6141 (ma 6) = .inl (G.2 0, 52, .inl pf) := (f_6148 (ma 6) (ne_ao f_6178 f_6131) (ne_aa (by decide) f_6178 f_6139) (ne_aa (by decide) f_6178 f_6133)).trans f_6178
        exact r_i C0 hr hlk hw (v := (lowR (P_6120 2))) rfl ⟨(by rw [hu_6149]), ⟨_, _, _, _, _, _, _, _, _, f_6145, ⟨(congrArg nI (sv_n (st := A.1) hA.2.1.1)), hm1, rfl⟩, ⟨hz_6150, (pyM_ok (un := 1) (t := t9) (u := ordR 115 f9 g9 A.1.1 A.1.2.2.2.2.2) hz (by omega))⟩, ⟨f_6146, (sv_h hA.2.1.1 hz hhf)⟩, ⟨f_6157, hsf⟩, ⟨f_6164, hkf⟩, f_6165, ⟨f_6172, htf⟩, f_6179⟩, (fun q k0 k1 => ((f_6148 q k0 (k1 1 (by decide)) (k1 0 (by decide))).trans ((o_6129 q ).trans ((o_6124 q (k1 4 (by decide))).trans ((o_6110 q k0).trans ((o_6106 q ).trans ((o_6097 q ).trans (o_6092 q ))))))))⟩ (Nat.le_refl _) (Nat.le_refl _) dX6_sum_53 hQ
      · skip
        exact absurd c_33 (by omega)
abbrev rm_X6_byBrackets : Room := { frames := 6, cells := 0, slots := 0, locals := 138 }
set_option maxHeartbeats 4000000 in
set_option maxRecDepth 100000 in
theorem k_X6_byBrackets_x1 (l : Launch) (G : Gl) (L : List Nat) (F : Nat → va_E) (b : Nat) (ma : Nat → Nat) (A : AB) (th : Nat) (x9 y9 z9 : Int32) (mb : b ∈ L) (hma : ∀ i, i < 7 → ma i ∈ L) (hM : MW G F b ma A th) (hA : okA A) (h9 : ¬ (inR x9 0 5 ∧ inR y9 0 5)) : CI l yX6_byBrackets cX6_byBrackets 4 (some .int) rm_X6_byBrackets G L F [.ref b, .int (x9), .int (y9), .int (z9)] (fun r F1 => MW G F1 b ma A 1 ∧ mFr F F1 b ma) := by
  obtain ⟨mi, hh, zf, hf, sf, kf, tf, pf, pl, fb, ⟨hm0, hm1, hm2⟩, ⟨fz, hz⟩, ⟨fh, hhf⟩, ⟨fs, hsf⟩, ⟨fk, hkf⟩, fp, ⟨ft, htf⟩, fq⟩ := hM
  obtain ⟨hz0, hz1, hz2, hz3, hz4⟩ := ne_z zf hz
  have hc : A.1.1 ≤ 6 := hA.1.2.1
  have hc2 : 2 ≤ A.1.1 := hA.1.1
  have hpu : A.1.2.1 ≤ 100000 := hA.1.2.2.1
  have hrw : ∀ i k, i < 12 → k < 7 → zf (5 + 7 * i + k) = nI (A.1.2.2.2.2.2 i k).val := hz.row
  refine CG_of (by decide) (Nat.le_of_ble_eq_true rfl) rfl ?_
  intro p e s m args below meth c Q C0 hr hlk hnm hQ hw ls hl
  have hx := C0.x
  have hb := C0.b
  refine lv_aload_n hx hb dX6_byBrackets_0 rfl (lv_at hl 0 rfl) ?_
  refine lv_aload_n hx hb dX6_byBrackets_1 rfl (lv_at hl 0 rfl) ?_
  refine lv_iload_n hx hb dX6_byBrackets_2 rfl (lv_at hl 1 rfl) ?_
  refine lv_iload_n hx hb dX6_byBrackets_3 rfl (lv_at hl 2 rfl) ?_
  refine q_calli hw (q_runS (As := [.int (x9), .int (y9)]) (c_X6_areSlots l G L F (x9) (y9)) C0 hw sw_X6_115 rfl hl.1 rfl (Nat.le_of_ble_eq_true rfl) dX6_byBrackets_4 ⟨by decide, by decide⟩ ⟨by decide, by decide⟩) rfl rfl (fun r_6182 F_6180 H locs hw hp_6181 => ?_)
  obtain ⟨he_6183, o_6184⟩ := hp_6181
  rw [if_neg h9] at he_6183
  subst he_6183
  refine n_if_eq (tgt := 21) hx hb dX6_byBrackets_7 (by decide) (by decide) (fun c_7 => ?_) (fun c_7 => ?_)
  · skip
    refine lv_iconst (v := nI 0) hx hb dX6_byBrackets_21 (by decide) ?_
    refine lv_bipush (v := nI 20) hx hb dX6_byBrackets_22 (by decide) ?_
    have f_6185 : F_6180 (ma 0) = .inl (G.2 0, 89, .inl zf) := (o_6184 (ma 0) ).trans fz
    have f_6186 : F_6180 b = mO ma mi hh := (o_6184 b ).trans fb
    refine q_calli hw (q_runV (As := [.int (nI (0)), .int (nI (20))]) (c_X6_refused_1 l G L F_6180 b ma mi hh zf mb f_6186 hma f_6185 (nI 20)) C0 hw vw_X6_119 mb f_6186 rfl rfl rfl hl.1 rfl (Nat.le_of_ble_eq_true rfl) dX6_byBrackets_24 ⟨by decide, by decide⟩ ⟨by decide, by decide⟩) rfl rfl (fun r_6189 F_6187 H locs hw hp_6188 => ?_)
    obtain ⟨he_6190, o_6191⟩ := hp_6188
    subst he_6190
    have f_6192 : F_6187 b = mO ma mi hh := (o_6191 b ).trans f_6186
    refine q_put C0 hw mb f_6192 fw_X6_31 pw_X6_8 rfl rfl rfl (Nat.le_of_ble_eq_true rfl) dX6_byBrackets_27 (fun F_6193 H locs hw f_6194 o_6195 => ?_)
    have f_6194 : F_6193 b = .inr (6, [.ref (ma 0), .int (mi 0), .ref (ma 1), .ref (ma 2), .ref (ma 3), .ref (ma 4), .int (mi 1), .ref (ma 5), .int (nI (1)), .ref (ma 6), .int (mi 3), .int (mi 4), .long (hh)]) := f_6194
    refine lv_aload_n hx hb dX6_byBrackets_30 rfl (lv_at hl 0 rfl) ?_
    refine q_get C0 hw mb f_6194 fw_X6_31 rfl dX6_byBrackets_31 ?_
    refine n_if_le (tgt := 39) hx hb dX6_byBrackets_34 (by decide) (by decide) (fun c_34 => ?_) (fun c_34 => ?_)
    · skip
      exact absurd c_34 (by omega)
    · skip
      refine lv_iconst (v := nI 0) hx hb dX6_byBrackets_37 (by decide) ?_
      have hb_6196 : F_6193 b = mO ma (va_up mi 2 (nI 1)) (hh) := f_6194
      have f_6197 : F_6187 (ma 0) = .inl (G.2 0, 89, .inl zf) := (o_6191 (ma 0) ).trans f_6185
      have f_6198 : F_6193 (ma 0) = .inl (G.2 0, 89, .inl zf) := (o_6195 (ma 0) (ne_ao f_6197 f_6192)).trans f_6197
      have f_6199 : F_6180 (ma 1) = .inl (G.2 0, 534, .inl hf) := (o_6184 (ma 1) ).trans fh
      have f_6200 : F_6187 (ma 1) = .inl (G.2 0, 534, .inl hf) := (o_6191 (ma 1) ).trans f_6199
      have f_6201 : F_6193 (ma 1) = .inl (G.2 0, 534, .inl hf) := (o_6195 (ma 1) (ne_ao f_6200 f_6192)).trans f_6200
      have f_6202 : F_6180 (ma 2) = .inl (G.2 0, 178, .inl sf) := (o_6184 (ma 2) ).trans fs
      have f_6203 : F_6187 (ma 2) = .inl (G.2 0, 178, .inl sf) := (o_6191 (ma 2) ).trans f_6202
      have f_6204 : F_6193 (ma 2) = .inl (G.2 0, 178, .inl sf) := (o_6195 (ma 2) (ne_ao f_6203 f_6192)).trans f_6203
      have f_6205 : F_6180 (ma 3) = .inl (G.2 0, 2, .inl kf) := (o_6184 (ma 3) ).trans fk
      have f_6206 : F_6187 (ma 3) = .inl (G.2 0, 2, .inl kf) := (o_6191 (ma 3) ).trans f_6205
      have f_6207 : F_6193 (ma 3) = .inl (G.2 0, 2, .inl kf) := (o_6195 (ma 3) (ne_ao f_6206 f_6192)).trans f_6206
      have f_6208 : F_6180 (ma 4) = pcE G pl := (o_6184 (ma 4) ).trans fp
      have f_6209 : F_6187 (ma 4) = pcE G pl := (o_6191 (ma 4) ).trans f_6208
      have f_6210 : F_6193 (ma 4) = pcE G pl := (o_6195 (ma 4) (ne_ao f_6209 f_6192)).trans f_6209
      have f_6211 : F_6180 (ma 5) = .inl (G.2 0, 60, .inl tf) := (o_6184 (ma 5) ).trans ft
      have f_6212 : F_6187 (ma 5) = .inl (G.2 0, 60, .inl tf) := (o_6191 (ma 5) ).trans f_6211
      have f_6213 : F_6193 (ma 5) = .inl (G.2 0, 60, .inl tf) := (o_6195 (ma 5) (ne_ao f_6212 f_6192)).trans f_6212
      have f_6214 : F_6180 (ma 6) = .inl (G.2 0, 52, .inl pf) := (o_6184 (ma 6) ).trans fq
      have f_6215 : F_6187 (ma 6) = .inl (G.2 0, 52, .inl pf) := (o_6191 (ma 6) ).trans f_6214
      have f_6216 : F_6193 (ma 6) = .inl (G.2 0, 52, .inl pf) := (o_6195 (ma 6) (ne_ao f_6215 f_6192)).trans f_6215
      exact r_i C0 hr hlk hw (v := nI 0) rfl ⟨⟨_, _, _, _, _, _, _, _, _, hb_6196, ⟨hm0, hm1, rfl⟩, ⟨f_6198, hz⟩, ⟨f_6201, hhf⟩, ⟨f_6204, hsf⟩, ⟨f_6207, hkf⟩, f_6210, ⟨f_6213, htf⟩, f_6216⟩, (fun q k0 k1 => ((o_6195 q k0).trans ((o_6191 q ).trans (o_6184 q ))))⟩ (Nat.le_refl _) (Nat.le_refl _) dX6_byBrackets_38 hQ
  · skip
    exact absurd c_7 (by omega)
set_option maxHeartbeats 4000000 in
set_option maxRecDepth 100000 in
theorem k_X6_byBrackets_x1b (l : Launch) (G : Gl) (L : List Nat) (F : Nat → va_E) (b : Nat) (ma : Nat → Nat) (A : AB) (th : Nat) (x9 y9 z9 : Int32) (mb : b ∈ L) (hma : ∀ i, i < 7 → ma i ∈ L) (hM : MW G F b ma A th) (hA : okA A) (h8 : inR x9 0 5 ∧ inR y9 0 5) (h9 : ¬ inR z9 0 5) : CI l yX6_byBrackets cX6_byBrackets 4 (some .int) rm_X6_byBrackets G L F [.ref b, .int (x9), .int (y9), .int (z9)] (fun r F1 => MW G F1 b ma A 1 ∧ mFr F F1 b ma) := by
  obtain ⟨mi, hh, zf, hf, sf, kf, tf, pf, pl, fb, ⟨hm0, hm1, hm2⟩, ⟨fz, hz⟩, ⟨fh, hhf⟩, ⟨fs, hsf⟩, ⟨fk, hkf⟩, fp, ⟨ft, htf⟩, fq⟩ := hM
  obtain ⟨hz0, hz1, hz2, hz3, hz4⟩ := ne_z zf hz
  have hc : A.1.1 ≤ 6 := hA.1.2.1
  have hc2 : 2 ≤ A.1.1 := hA.1.1
  have hpu : A.1.2.1 ≤ 100000 := hA.1.2.2.1
  have hrw : ∀ i k, i < 12 → k < 7 → zf (5 + 7 * i + k) = nI (A.1.2.2.2.2.2 i k).val := hz.row
  refine CG_of (by decide) (Nat.le_of_ble_eq_true rfl) rfl ?_
  intro p e s m args below meth c Q C0 hr hlk hnm hQ hw ls hl
  have hx := C0.x
  have hb := C0.b
  refine lv_aload_n hx hb dX6_byBrackets_0 rfl (lv_at hl 0 rfl) ?_
  refine lv_aload_n hx hb dX6_byBrackets_1 rfl (lv_at hl 0 rfl) ?_
  refine lv_iload_n hx hb dX6_byBrackets_2 rfl (lv_at hl 1 rfl) ?_
  refine lv_iload_n hx hb dX6_byBrackets_3 rfl (lv_at hl 2 rfl) ?_
  refine q_calli hw (q_runS (As := [.int (x9), .int (y9)]) (c_X6_areSlots l G L F (x9) (y9)) C0 hw sw_X6_115 rfl hl.1 rfl (Nat.le_of_ble_eq_true rfl) dX6_byBrackets_4 ⟨by decide, by decide⟩ ⟨by decide, by decide⟩) rfl rfl (fun r_6219 F_6217 H locs hw hp_6218 => ?_)
  obtain ⟨he_6220, o_6221⟩ := hp_6218
  rw [if_pos h8] at he_6220
  subst he_6220
  refine n_if_eq (tgt := 21) hx hb dX6_byBrackets_7 (by decide) (by decide) (fun c_7 => ?_) (fun c_7 => ?_)
  · skip
    exact absurd c_7 (by omega)
  · skip
    refine lv_iload_n hx hb dX6_byBrackets_10 rfl (lv_at hl 3 rfl) ?_
    refine q_calli hw (q_runS (As := [.int (z9)]) (c_X6_isSlot l G L F_6217 (z9)) C0 hw sw_X6_42 rfl hl.1 rfl (Nat.le_of_ble_eq_true rfl) dX6_byBrackets_11 ⟨by decide, by decide⟩ ⟨by decide, by decide⟩) rfl rfl (fun r_6224 F_6222 H locs hw hp_6223 => ?_)
    obtain ⟨he_6225, o_6226⟩ := hp_6223
    rw [if_neg h9] at he_6225
    subst he_6225
    refine n_if_eq (tgt := 21) hx hb dX6_byBrackets_14 (by decide) (by decide) (fun c_14 => ?_) (fun c_14 => ?_)
    · skip
      refine lv_iconst (v := nI 0) hx hb dX6_byBrackets_21 (by decide) ?_
      refine lv_bipush (v := nI 20) hx hb dX6_byBrackets_22 (by decide) ?_
      have f_6227 : F_6217 (ma 0) = .inl (G.2 0, 89, .inl zf) := (o_6221 (ma 0) ).trans fz
      have f_6228 : F_6222 (ma 0) = .inl (G.2 0, 89, .inl zf) := (o_6226 (ma 0) ).trans f_6227
      have f_6229 : F_6217 b = mO ma mi hh := (o_6221 b ).trans fb
      have f_6230 : F_6222 b = mO ma mi hh := (o_6226 b ).trans f_6229
      refine q_calli hw (q_runV (As := [.int (nI (0)), .int (nI (20))]) (c_X6_refused_1 l G L F_6222 b ma mi hh zf mb f_6230 hma f_6228 (nI 20)) C0 hw vw_X6_119 mb f_6230 rfl rfl rfl hl.1 rfl (Nat.le_of_ble_eq_true rfl) dX6_byBrackets_24 ⟨by decide, by decide⟩ ⟨by decide, by decide⟩) rfl rfl (fun r_6233 F_6231 H locs hw hp_6232 => ?_)
      obtain ⟨he_6234, o_6235⟩ := hp_6232
      subst he_6234
      have f_6236 : F_6231 b = mO ma mi hh := (o_6235 b ).trans f_6230
      refine q_put C0 hw mb f_6236 fw_X6_31 pw_X6_8 rfl rfl rfl (Nat.le_of_ble_eq_true rfl) dX6_byBrackets_27 (fun F_6237 H locs hw f_6238 o_6239 => ?_)
      have f_6238 : F_6237 b = .inr (6, [.ref (ma 0), .int (mi 0), .ref (ma 1), .ref (ma 2), .ref (ma 3), .ref (ma 4), .int (mi 1), .ref (ma 5), .int (nI (1)), .ref (ma 6), .int (mi 3), .int (mi 4), .long (hh)]) := f_6238
      refine lv_aload_n hx hb dX6_byBrackets_30 rfl (lv_at hl 0 rfl) ?_
      refine q_get C0 hw mb f_6238 fw_X6_31 rfl dX6_byBrackets_31 ?_
      refine n_if_le (tgt := 39) hx hb dX6_byBrackets_34 (by decide) (by decide) (fun c_34 => ?_) (fun c_34 => ?_)
      · skip
        exact absurd c_34 (by omega)
      · skip
        refine lv_iconst (v := nI 0) hx hb dX6_byBrackets_37 (by decide) ?_
        have hb_6240 : F_6237 b = mO ma (va_up mi 2 (nI 1)) (hh) := f_6238
        have f_6241 : F_6231 (ma 0) = .inl (G.2 0, 89, .inl zf) := (o_6235 (ma 0) ).trans f_6228
        have f_6242 : F_6237 (ma 0) = .inl (G.2 0, 89, .inl zf) := (o_6239 (ma 0) (ne_ao f_6241 f_6236)).trans f_6241
        have f_6243 : F_6217 (ma 1) = .inl (G.2 0, 534, .inl hf) := (o_6221 (ma 1) ).trans fh
        have f_6244 : F_6222 (ma 1) = .inl (G.2 0, 534, .inl hf) := (o_6226 (ma 1) ).trans f_6243
        have f_6245 : F_6231 (ma 1) = .inl (G.2 0, 534, .inl hf) := (o_6235 (ma 1) ).trans f_6244
        have f_6246 : F_6237 (ma 1) = .inl (G.2 0, 534, .inl hf) := (o_6239 (ma 1) (ne_ao f_6245 f_6236)).trans f_6245
        have f_6247 : F_6217 (ma 2) = .inl (G.2 0, 178, .inl sf) := (o_6221 (ma 2) ).trans fs
        have f_6248 : F_6222 (ma 2) = .inl (G.2 0, 178, .inl sf) := (o_6226 (ma 2) ).trans f_6247
        have f_6249 : F_6231 (ma 2) = .inl (G.2 0, 178, .inl sf) := (o_6235 (ma 2) ).trans f_6248
        have f_6250 : F_6237 (ma 2) = .inl (G.2 0, 178, .inl sf) := (o_6239 (ma 2) (ne_ao f_6249 f_6236)).trans f_6249
        have f_6251 : F_6217 (ma 3) = .inl (G.2 0, 2, .inl kf) := (o_6221 (ma 3) ).trans fk
        have f_6252 : F_6222 (ma 3) = .inl (G.2 0, 2, .inl kf) := (o_6226 (ma 3) ).trans f_6251
        have f_6253 : F_6231 (ma 3) = .inl (G.2 0, 2, .inl kf) := (o_6235 (ma 3) ).trans f_6252
        have f_6254 : F_6237 (ma 3) = .inl (G.2 0, 2, .inl kf) := (o_6239 (ma 3) (ne_ao f_6253 f_6236)).trans f_6253
        have f_6255 : F_6217 (ma 4) = pcE G pl := (o_6221 (ma 4) ).trans fp
        have f_6256 : F_6222 (ma 4) = pcE G pl := (o_6226 (ma 4) ).trans f_6255
        have f_6257 : F_6231 (ma 4) = pcE G pl := (o_6235 (ma 4) ).trans f_6256
        have f_6258 : F_6237 (ma 4) = pcE G pl := (o_6239 (ma 4) (ne_ao f_6257 f_6236)).trans f_6257
        have f_6259 : F_6217 (ma 5) = .inl (G.2 0, 60, .inl tf) := (o_6221 (ma 5) ).trans ft
        have f_6260 : F_6222 (ma 5) = .inl (G.2 0, 60, .inl tf) := (o_6226 (ma 5) ).trans f_6259
        have f_6261 : F_6231 (ma 5) = .inl (G.2 0, 60, .inl tf) := (o_6235 (ma 5) ).trans f_6260
        have f_6262 : F_6237 (ma 5) = .inl (G.2 0, 60, .inl tf) := (o_6239 (ma 5) (ne_ao f_6261 f_6236)).trans f_6261
        have f_6263 : F_6217 (ma 6) = .inl (G.2 0, 52, .inl pf) := (o_6221 (ma 6) ).trans fq
        have f_6264 : F_6222 (ma 6) = .inl (G.2 0, 52, .inl pf) := (o_6226 (ma 6) ).trans f_6263
        have f_6265 : F_6231 (ma 6) = .inl (G.2 0, 52, .inl pf) := (o_6235 (ma 6) ).trans f_6264
        have f_6266 : F_6237 (ma 6) = .inl (G.2 0, 52, .inl pf) := (o_6239 (ma 6) (ne_ao f_6265 f_6236)).trans f_6265
        exact r_i C0 hr hlk hw (v := nI 0) rfl ⟨⟨_, _, _, _, _, _, _, _, _, hb_6240, ⟨hm0, hm1, rfl⟩, ⟨f_6242, hz⟩, ⟨f_6246, hhf⟩, ⟨f_6250, hsf⟩, ⟨f_6254, hkf⟩, f_6258, ⟨f_6262, htf⟩, f_6266⟩, (fun q k0 k1 => ((o_6239 q k0).trans ((o_6235 q ).trans ((o_6226 q ).trans (o_6221 q )))))⟩ (Nat.le_refl _) (Nat.le_refl _) dX6_byBrackets_38 hQ
    · skip
      exact absurd c_14 (by omega)
set_option maxHeartbeats 4000000 in
set_option maxRecDepth 100000 in
theorem k_X6_byBrackets_x2 (l : Launch) (G : Gl) (L : List Nat) (F : Nat → va_E) (b : Nat) (ma : Nat → Nat) (A : AB) (th : Nat) (x9 y9 z9 : Int32) (mb : b ∈ L) (hma : ∀ i, i < 7 → ma i ∈ L) (hM : MW G F b ma A th) (hA : okA A) (h8 : inR x9 0 5 ∧ inR y9 0 5) (h9 : inR z9 0 5) (hm : A.1.2.1 < A.1.1 * 20) : CI l yX6_byBrackets cX6_byBrackets 4 (some .int) rm_X6_byBrackets G L F [.ref b, .int (x9), .int (y9), .int (z9)] (fun r F1 => MW G F1 b ma A 2 ∧ mFr F F1 b ma) := by
  obtain ⟨mi, hh, zf, hf, sf, kf, tf, pf, pl, fb, ⟨hm0, hm1, hm2⟩, ⟨fz, hz⟩, ⟨fh, hhf⟩, ⟨fs, hsf⟩, ⟨fk, hkf⟩, fp, ⟨ft, htf⟩, fq⟩ := hM
  obtain ⟨hz0, hz1, hz2, hz3, hz4⟩ := ne_z zf hz
  have hc : A.1.1 ≤ 6 := hA.1.2.1
  have hc2 : 2 ≤ A.1.1 := hA.1.1
  have hpu : A.1.2.1 ≤ 100000 := hA.1.2.2.1
  have hrw : ∀ i k, i < 12 → k < 7 → zf (5 + 7 * i + k) = nI (A.1.2.2.2.2.2 i k).val := hz.row
  refine CG_of (by decide) (Nat.le_of_ble_eq_true rfl) rfl ?_
  intro p e s m args below meth c Q C0 hr hlk hnm hQ hw ls hl
  have hx := C0.x
  have hb := C0.b
  refine lv_aload_n hx hb dX6_byBrackets_0 rfl (lv_at hl 0 rfl) ?_
  refine lv_aload_n hx hb dX6_byBrackets_1 rfl (lv_at hl 0 rfl) ?_
  refine lv_iload_n hx hb dX6_byBrackets_2 rfl (lv_at hl 1 rfl) ?_
  refine lv_iload_n hx hb dX6_byBrackets_3 rfl (lv_at hl 2 rfl) ?_
  refine q_calli hw (q_runS (As := [.int (x9), .int (y9)]) (c_X6_areSlots l G L F (x9) (y9)) C0 hw sw_X6_115 rfl hl.1 rfl (Nat.le_of_ble_eq_true rfl) dX6_byBrackets_4 ⟨by decide, by decide⟩ ⟨by decide, by decide⟩) rfl rfl (fun r_6269 F_6267 H locs hw hp_6268 => ?_)
  obtain ⟨he_6270, o_6271⟩ := hp_6268
  rw [if_pos h8] at he_6270
  subst he_6270
  refine n_if_eq (tgt := 21) hx hb dX6_byBrackets_7 (by decide) (by decide) (fun c_7 => ?_) (fun c_7 => ?_)
  · skip
    exact absurd c_7 (by omega)
  · skip
    refine lv_iload_n hx hb dX6_byBrackets_10 rfl (lv_at hl 3 rfl) ?_
    refine q_calli hw (q_runS (As := [.int (z9)]) (c_X6_isSlot l G L F_6267 (z9)) C0 hw sw_X6_42 rfl hl.1 rfl (Nat.le_of_ble_eq_true rfl) dX6_byBrackets_11 ⟨by decide, by decide⟩ ⟨by decide, by decide⟩) rfl rfl (fun r_6274 F_6272 H locs hw hp_6273 => ?_)
    obtain ⟨he_6275, o_6276⟩ := hp_6273
    rw [if_pos h9] at he_6275
    subst he_6275
    refine n_if_eq (tgt := 21) hx hb dX6_byBrackets_14 (by decide) (by decide) (fun c_14 => ?_) (fun c_14 => ?_)
    · skip
      exact absurd c_14 (by omega)
    · skip
      refine lv_iconst (v := nI 1) hx hb dX6_byBrackets_17 (by decide) ?_
      refine lv_goto (tgt := 22) hx hb dX6_byBrackets_18 (by decide) ?_
      refine lv_bipush (v := nI 20) hx hb dX6_byBrackets_22 (by decide) ?_
      have f_6277 : F_6267 (ma 0) = .inl (G.2 0, 89, .inl zf) := (o_6271 (ma 0) ).trans fz
      have f_6278 : F_6272 (ma 0) = .inl (G.2 0, 89, .inl zf) := (o_6276 (ma 0) ).trans f_6277
      have f_6279 : F_6267 b = mO ma mi hh := (o_6271 b ).trans fb
      have f_6280 : F_6272 b = mO ma mi hh := (o_6276 b ).trans f_6279
      refine q_calli hw (q_runV (As := [.int (nI (1)), .int (nI (20))]) (c_X6_refused_2 l G L F_6272 b ma mi hh zf 20 A.1.1 A.1.2.1 mb f_6280 hma f_6278 hz0 hz1 hc (by omega) hpu (by omega)) C0 hw vw_X6_119 mb f_6280 rfl rfl rfl hl.1 rfl (Nat.le_of_ble_eq_true rfl) dX6_byBrackets_24 ⟨by decide, by decide⟩ ⟨by decide, by decide⟩) rfl rfl (fun r_6283 F_6281 H locs hw hp_6282 => ?_)
      obtain ⟨he_6284, o_6285⟩ := hp_6282
      subst he_6284
      have f_6286 : F_6281 b = mO ma mi hh := (o_6285 b ).trans f_6280
      refine q_put C0 hw mb f_6286 fw_X6_31 pw_X6_8 rfl rfl rfl (Nat.le_of_ble_eq_true rfl) dX6_byBrackets_27 (fun F_6287 H locs hw f_6288 o_6289 => ?_)
      have f_6288 : F_6287 b = .inr (6, [.ref (ma 0), .int (mi 0), .ref (ma 1), .ref (ma 2), .ref (ma 3), .ref (ma 4), .int (mi 1), .ref (ma 5), .int (nI (2)), .ref (ma 6), .int (mi 3), .int (mi 4), .long (hh)]) := f_6288
      refine lv_aload_n hx hb dX6_byBrackets_30 rfl (lv_at hl 0 rfl) ?_
      refine q_get C0 hw mb f_6288 fw_X6_31 rfl dX6_byBrackets_31 ?_
      refine n_if_le (tgt := 39) hx hb dX6_byBrackets_34 (by decide) (by decide) (fun c_34 => ?_) (fun c_34 => ?_)
      · skip
        exact absurd c_34 (by omega)
      · skip
        refine lv_iconst (v := nI 0) hx hb dX6_byBrackets_37 (by decide) ?_
        have hb_6290 : F_6287 b = mO ma (va_up mi 2 (nI 2)) (hh) := f_6288
        have f_6291 : F_6281 (ma 0) = .inl (G.2 0, 89, .inl zf) := (o_6285 (ma 0) ).trans f_6278
        have f_6292 : F_6287 (ma 0) = .inl (G.2 0, 89, .inl zf) := (o_6289 (ma 0) (ne_ao f_6291 f_6286)).trans f_6291
        have f_6293 : F_6267 (ma 1) = .inl (G.2 0, 534, .inl hf) := (o_6271 (ma 1) ).trans fh
        have f_6294 : F_6272 (ma 1) = .inl (G.2 0, 534, .inl hf) := (o_6276 (ma 1) ).trans f_6293
        have f_6295 : F_6281 (ma 1) = .inl (G.2 0, 534, .inl hf) := (o_6285 (ma 1) ).trans f_6294
        have f_6296 : F_6287 (ma 1) = .inl (G.2 0, 534, .inl hf) := (o_6289 (ma 1) (ne_ao f_6295 f_6286)).trans f_6295
        have f_6297 : F_6267 (ma 2) = .inl (G.2 0, 178, .inl sf) := (o_6271 (ma 2) ).trans fs
        have f_6298 : F_6272 (ma 2) = .inl (G.2 0, 178, .inl sf) := (o_6276 (ma 2) ).trans f_6297
        have f_6299 : F_6281 (ma 2) = .inl (G.2 0, 178, .inl sf) := (o_6285 (ma 2) ).trans f_6298
        have f_6300 : F_6287 (ma 2) = .inl (G.2 0, 178, .inl sf) := (o_6289 (ma 2) (ne_ao f_6299 f_6286)).trans f_6299
        have f_6301 : F_6267 (ma 3) = .inl (G.2 0, 2, .inl kf) := (o_6271 (ma 3) ).trans fk
        have f_6302 : F_6272 (ma 3) = .inl (G.2 0, 2, .inl kf) := (o_6276 (ma 3) ).trans f_6301
        have f_6303 : F_6281 (ma 3) = .inl (G.2 0, 2, .inl kf) := (o_6285 (ma 3) ).trans f_6302
        have f_6304 : F_6287 (ma 3) = .inl (G.2 0, 2, .inl kf) := (o_6289 (ma 3) (ne_ao f_6303 f_6286)).trans f_6303
        have f_6305 : F_6267 (ma 4) = pcE G pl := (o_6271 (ma 4) ).trans fp
        have f_6306 : F_6272 (ma 4) = pcE G pl := (o_6276 (ma 4) ).trans f_6305
        have f_6307 : F_6281 (ma 4) = pcE G pl := (o_6285 (ma 4) ).trans f_6306
        have f_6308 : F_6287 (ma 4) = pcE G pl := (o_6289 (ma 4) (ne_ao f_6307 f_6286)).trans f_6307
        have f_6309 : F_6267 (ma 5) = .inl (G.2 0, 60, .inl tf) := (o_6271 (ma 5) ).trans ft
        have f_6310 : F_6272 (ma 5) = .inl (G.2 0, 60, .inl tf) := (o_6276 (ma 5) ).trans f_6309
        have f_6311 : F_6281 (ma 5) = .inl (G.2 0, 60, .inl tf) := (o_6285 (ma 5) ).trans f_6310
        have f_6312 : F_6287 (ma 5) = .inl (G.2 0, 60, .inl tf) := (o_6289 (ma 5) (ne_ao f_6311 f_6286)).trans f_6311
        have f_6313 : F_6267 (ma 6) = .inl (G.2 0, 52, .inl pf) := (o_6271 (ma 6) ).trans fq
        have f_6314 : F_6272 (ma 6) = .inl (G.2 0, 52, .inl pf) := (o_6276 (ma 6) ).trans f_6313
        have f_6315 : F_6281 (ma 6) = .inl (G.2 0, 52, .inl pf) := (o_6285 (ma 6) ).trans f_6314
        have f_6316 : F_6287 (ma 6) = .inl (G.2 0, 52, .inl pf) := (o_6289 (ma 6) (ne_ao f_6315 f_6286)).trans f_6315
        exact r_i C0 hr hlk hw (v := nI 0) rfl ⟨⟨_, _, _, _, _, _, _, _, _, hb_6290, ⟨hm0, hm1, rfl⟩, ⟨f_6292, hz⟩, ⟨f_6296, hhf⟩, ⟨f_6300, hsf⟩, ⟨f_6304, hkf⟩, f_6308, ⟨f_6312, htf⟩, f_6316⟩, (fun q k0 k1 => ((o_6289 q k0).trans ((o_6285 q ).trans ((o_6276 q ).trans (o_6271 q )))))⟩ (Nat.le_refl _) (Nat.le_refl _) dX6_byBrackets_38 hQ
set_option maxHeartbeats 4000000 in
set_option maxRecDepth 100000 in
theorem k_X6_byBrackets (l : Launch) (G : Gl) (L : List Nat) (F : Nat → va_E) (b : Nat) (ma : Nat → Nat) (A : AB) (th : Nat) (f9 g9 t9 : Nat) (mb : b ∈ L) (hma : ∀ i, i < 7 → ma i ∈ L) (hM : MW G F b ma A th) (hA : okA A) (hf9 : f9 < 6) (hg9 : g9 < 6) (ht9 : t9 < 6) (h8 : inR (nI f9) 0 5 ∧ inR (nI g9) 0 5) (h9 : inR (nI t9) 0 5) (hm : 20 * A.1.1 ≤ A.1.2.1) : CI l yX6_byBrackets cX6_byBrackets 4 (some .int) rm_X6_byBrackets G L F [.ref b, .int (nI (f9)), .int (nI (g9)), .int (nI (t9))] (fun r F1 => r = lowR (ordR 119 f9 g9 A.1.1 A.1.2.2.2.2.2) ∧ MW G F1 b ma (aSave A (ordS 119 f9 g9 t9 A.1)) 0 ∧ mFr F F1 b ma) := by
  obtain ⟨mi, hh, zf, hf, sf, kf, tf, pf, pl, fb, ⟨hm0, hm1, hm2⟩, ⟨fz, hz⟩, ⟨fh, hhf⟩, ⟨fs, hsf⟩, ⟨fk, hkf⟩, fp, ⟨ft, htf⟩, fq⟩ := hM
  obtain ⟨hz0, hz1, hz2, hz3, hz4⟩ := ne_z zf hz
  have hc : A.1.1 ≤ 6 := hA.1.2.1
  have hc2 : 2 ≤ A.1.1 := hA.1.1
  have hpu : A.1.2.1 ≤ 100000 := hA.1.2.2.1
  have hrw : ∀ i k, i < 12 → k < 7 → zf (5 + 7 * i + k) = nI (A.1.2.2.2.2.2 i k).val := hz.row
  refine CG_of (by decide) (Nat.le_of_ble_eq_true rfl) rfl ?_
  intro p e s m args below meth c Q C0 hr hlk hnm hQ hw ls hl
  have hx := C0.x
  have hb := C0.b
  refine lv_aload_n hx hb dX6_byBrackets_0 rfl (lv_at hl 0 rfl) ?_
  refine lv_aload_n hx hb dX6_byBrackets_1 rfl (lv_at hl 0 rfl) ?_
  refine lv_iload_n hx hb dX6_byBrackets_2 rfl (lv_at hl 1 rfl) ?_
  refine lv_iload_n hx hb dX6_byBrackets_3 rfl (lv_at hl 2 rfl) ?_
  refine q_calli hw (q_runS (As := [.int (nI (f9)), .int (nI (g9))]) (c_X6_areSlots l G L F (nI (f9)) (nI (g9))) C0 hw sw_X6_115 rfl hl.1 rfl (Nat.le_of_ble_eq_true rfl) dX6_byBrackets_4 ⟨by decide, by decide⟩ ⟨by decide, by decide⟩) rfl rfl (fun r_6319 F_6317 H locs hw hp_6318 => ?_)
  obtain ⟨he_6320, o_6321⟩ := hp_6318
  rw [if_pos h8] at he_6320
  subst he_6320
  refine n_if_eq (tgt := 21) hx hb dX6_byBrackets_7 (by decide) (by decide) (fun c_7 => ?_) (fun c_7 => ?_)
  · skip
    exact absurd c_7 (by omega)
  · skip
    refine lv_iload_n hx hb dX6_byBrackets_10 rfl (lv_at hl 3 rfl) ?_
    refine q_calli hw (q_runS (As := [.int (nI (t9))]) (c_X6_isSlot l G L F_6317 (nI (t9))) C0 hw sw_X6_42 rfl hl.1 rfl (Nat.le_of_ble_eq_true rfl) dX6_byBrackets_11 ⟨by decide, by decide⟩ ⟨by decide, by decide⟩) rfl rfl (fun r_6324 F_6322 H locs hw hp_6323 => ?_)
    obtain ⟨he_6325, o_6326⟩ := hp_6323
    rw [if_pos h9] at he_6325
    subst he_6325
    refine n_if_eq (tgt := 21) hx hb dX6_byBrackets_14 (by decide) (by decide) (fun c_14 => ?_) (fun c_14 => ?_)
    · skip
      exact absurd c_14 (by omega)
    · skip
      refine lv_iconst (v := nI 1) hx hb dX6_byBrackets_17 (by decide) ?_
      refine lv_goto (tgt := 22) hx hb dX6_byBrackets_18 (by decide) ?_
      refine lv_bipush (v := nI 20) hx hb dX6_byBrackets_22 (by decide) ?_
      have f_6327 : F_6317 (ma 0) = .inl (G.2 0, 89, .inl zf) := (o_6321 (ma 0) ).trans fz
      have f_6328 : F_6322 (ma 0) = .inl (G.2 0, 89, .inl zf) := (o_6326 (ma 0) ).trans f_6327
      have f_6329 : F_6317 b = mO ma mi hh := (o_6321 b ).trans fb
      have f_6330 : F_6322 b = mO ma mi hh := (o_6326 b ).trans f_6329
      refine q_calli hw (q_runV (As := [.int (nI (1)), .int (nI (20))]) (c_X6_refused l G L F_6322 b ma mi hh zf 20 A.1.1 A.1.2.1 mb f_6330 hma f_6328 hz0 hz1 hc (by omega) hpu (by omega)) C0 hw vw_X6_119 mb f_6330 rfl rfl rfl hl.1 rfl (Nat.le_of_ble_eq_true rfl) dX6_byBrackets_24 ⟨by decide, by decide⟩ ⟨by decide, by decide⟩) rfl rfl (fun r_6333 F_6331 H locs hw hp_6332 => ?_)
      obtain ⟨he_6334, o_6335⟩ := hp_6332
      subst he_6334
      have f_6336 : F_6331 b = mO ma mi hh := (o_6335 b ).trans f_6330
      refine q_put C0 hw mb f_6336 fw_X6_31 pw_X6_8 rfl rfl rfl (Nat.le_of_ble_eq_true rfl) dX6_byBrackets_27 (fun F_6337 H locs hw f_6338 o_6339 => ?_)
      have f_6338 : F_6337 b = .inr (6, [.ref (ma 0), .int (mi 0), .ref (ma 1), .ref (ma 2), .ref (ma 3), .ref (ma 4), .int (mi 1), .ref (ma 5), .int (nI (0)), .ref (ma 6), .int (mi 3), .int (mi 4), .long (hh)]) := f_6338
      refine lv_aload_n hx hb dX6_byBrackets_30 rfl (lv_at hl 0 rfl) ?_
      refine q_get C0 hw mb f_6338 fw_X6_31 rfl dX6_byBrackets_31 ?_
      refine n_if_le (tgt := 39) hx hb dX6_byBrackets_34 (by decide) (by decide) (fun c_34 => ?_) (fun c_34 => ?_)
      · skip
        have hb_6340 : F_6337 b = mO ma (va_up mi 2 (nI 0)) hh := f_6338
        refine lv_aload_n hx hb dX6_byBrackets_39 rfl (lv_at hl 0 rfl) ?_
        refine lv_iload_n hx hb dX6_byBrackets_40 rfl (lv_at hl 1 rfl) ?_
        refine lv_iload_n hx hb dX6_byBrackets_41 rfl (lv_at hl 2 rfl) ?_
        refine lv_iconst (v := nI 5) hx hb dX6_byBrackets_42 (by decide) ?_
        have f_6341 : F_6317 (ma 4) = pcE G pl := (o_6321 (ma 4) ).trans fp
        have f_6342 : F_6322 (ma 4) = pcE G pl := (o_6326 (ma 4) ).trans f_6341
        have f_6343 : F_6331 (ma 4) = pcE G pl := (o_6335 (ma 4) ).trans f_6342
        have f_6344 : F_6337 (ma 4) = pcE G pl := (o_6339 (ma 4) (ne_ao f_6343 f_6336)).trans f_6343
        have f_6345 : F_6331 (ma 0) = .inl (G.2 0, 89, .inl zf) := (o_6335 (ma 0) ).trans f_6328
        have f_6346 : F_6337 (ma 0) = .inl (G.2 0, 89, .inl zf) := (o_6339 (ma 0) (ne_ao f_6345 f_6336)).trans f_6345
        refine q_callv hw (q_runV (As := [.int (nI (f9)), .int (nI (g9)), .int (nI (5))]) (c_X6_layWay l G L F_6337 b ma (va_up mi 2 (nI 0)) hh pl zf A.1.1 A.1.2.2.2.2.2 f9 g9 5 mb hb_6340 hma f_6344 f_6346 hz0 (by omega) (by omega) (by omega) (by omega) (by omega) (by omega) hrw) C0 hw vw_X6_135 mb hb_6340 rfl rfl rfl hl.1 rfl (Nat.le_of_ble_eq_true rfl) dX6_byBrackets_43 ⟨by decide, by decide⟩ ⟨by decide, by decide⟩) rfl rfl (fun F_6347 H locs hw hp_6348 => ?_)
        obtain ⟨⟨P_6349, f_6352, r_6350, r_6354, r_6355, ro_6351⟩, o_6353⟩ := hp_6348
        refine lv_aload_n hx hb dX6_byBrackets_46 rfl (lv_at hl 0 rfl) ?_
        refine lv_bipush (v := nI 20) hx hb dX6_byBrackets_47 (by decide) ?_
        refine lv_iload_n hx hb dX6_byBrackets_49 rfl (lv_at hl 3 rfl) ?_
        refine q_calli hw (q_runS (As := [.int (nI (t9))]) (c_X6_fieldAt l G L F_6347 t9 (by omega)) C0 hw sw_X6_109 rfl hl.1 rfl (Nat.le_of_ble_eq_true rfl) dX6_byBrackets_50 ⟨by decide, by decide⟩ ⟨by decide, by decide⟩) rfl rfl (fun r_6358 F_6356 H locs hw hp_6357 => ?_)
        obtain ⟨he_6359, o_6360⟩ := hp_6357
        subst he_6359
        have f_6361 : F_6347 b = mO ma ((va_up mi 2 (nI 0))) hh := (o_6353 b (ne_oa hb_6340 f_6344)).trans hb_6340
        have f_6362 : F_6356 b = mO ma ((va_up mi 2 (nI 0))) hh := (o_6360 b ).trans f_6361
        have f_6363 : F_6347 (ma 0) = .inl (G.2 0, 89, .inl zf) := (o_6353 (ma 0) (ne_aa (by decide) f_6346 f_6344)).trans f_6346
        have f_6364 : F_6356 (ma 0) = .inl (G.2 0, 89, .inl zf) := (o_6360 (ma 0) ).trans f_6363
        have f_6365 : F_6317 (ma 1) = .inl (G.2 0, 534, .inl hf) := (o_6321 (ma 1) ).trans fh
        have f_6366 : F_6322 (ma 1) = .inl (G.2 0, 534, .inl hf) := (o_6326 (ma 1) ).trans f_6365
        have f_6367 : F_6331 (ma 1) = .inl (G.2 0, 534, .inl hf) := (o_6335 (ma 1) ).trans f_6366
        have f_6368 : F_6337 (ma 1) = .inl (G.2 0, 534, .inl hf) := (o_6339 (ma 1) (ne_ao f_6367 f_6336)).trans f_6367
        have f_6369 : F_6347 (ma 1) = .inl (G.2 0, 534, .inl hf) := (o_6353 (ma 1) (ne_aa (by decide) f_6368 f_6344)).trans f_6368
        have f_6370 : F_6356 (ma 1) = .inl (G.2 0, 534, .inl hf) := (o_6360 (ma 1) ).trans f_6369
        have f_6371 : F_6356 (ma 4) = pcE G P_6349 := (o_6360 (ma 4) ).trans f_6352
        refine q_calli hw (q_runV (As := [.int (nI (20)), .int (nI (5 + 7 * t9))]) (c_X6_ended l G L F_6356 b ma ((va_up mi 2 (nI 0))) hh zf hf P_6349 A.2.1.1 20 (5 + 7 * t9) A.1.1 A.1.2.1 A.1.2.2.1 A.1.2.2.2.1 mb f_6362 hm0 hA.2.1.1 hma f_6364 f_6370 f_6371 hz0 hc hc2 hz1 hz2 hz3 (by omega) (by omega) (by omega)) C0 hw vw_X6_129 mb f_6362 rfl rfl rfl hl.1 rfl (Nat.le_of_ble_eq_true rfl) dX6_byBrackets_53 ⟨by decide, by decide⟩ ⟨by decide, by decide⟩) rfl rfl (fun r_6374 F_6372 H locs hw hp_6373 => ?_)
        obtain ⟨f_6375, f_6376, f_6377, f_6378, f_6379⟩ := hp_6373
        subst f_6375
        have hu_6380 : P_6349 2 = ordR 119 f9 g9 A.1.1 A.1.2.2.2.2.2 := r_6350.trans (way_eq (hA.1.2.2.2 f9 (by omega)).1 (hA.1.2.2.2 f9 (by omega)).2 (hA.1.2.2.2 g9 (by omega)).1 (hA.1.2.2.2 g9 (by omega)).2 hc)
        have hz_6381 := f_6378
        rw [hu_6380] at hz_6381
        have f_6382 : F_6317 (ma 2) = .inl (G.2 0, 178, .inl sf) := (o_6321 (ma 2) ).trans fs
        have f_6383 : F_6322 (ma 2) = .inl (G.2 0, 178, .inl sf) := (o_6326 (ma 2) ).trans f_6382
        have f_6384 : F_6331 (ma 2) = .inl (G.2 0, 178, .inl sf) := (o_6335 (ma 2) ).trans f_6383
        have f_6385 : F_6337 (ma 2) = .inl (G.2 0, 178, .inl sf) := (o_6339 (ma 2) (ne_ao f_6384 f_6336)).trans f_6384
        have f_6386 : F_6347 (ma 2) = .inl (G.2 0, 178, .inl sf) := (o_6353 (ma 2) (ne_aa (by decide) f_6385 f_6344)).trans f_6385
        have f_6387 : F_6356 (ma 2) = .inl (G.2 0, 178, .inl sf) := (o_6360 (ma 2) ).trans f_6386
        have f_6388 : F_6372 (ma 2) = .inl (G.2 0, 178, .inl sf) := (f_6379 (ma 2) (ne_ao f_6387 f_6362) (ne_aa (by decide) f_6387 f_6370) (ne_aa (by decide) f_6387 f_6364)).trans f_6387
        have f_6389 : F_6317 (ma 3) = .inl (G.2 0, 2, .inl kf) := (o_6321 (ma 3) ).trans fk
        have f_6390 : F_6322 (ma 3) = .inl (G.2 0, 2, .inl kf) := (o_6326 (ma 3) ).trans f_6389
        have f_6391 : F_6331 (ma 3) = .inl (G.2 0, 2, .inl kf) := (o_6335 (ma 3) ).trans f_6390
        have f_6392 : F_6337 (ma 3) = .inl (G.2 0, 2, .inl kf) := (o_6339 (ma 3) (ne_ao f_6391 f_6336)).trans f_6391
        have f_6393 : F_6347 (ma 3) = .inl (G.2 0, 2, .inl kf) := (o_6353 (ma 3) (ne_aa (by decide) f_6392 f_6344)).trans f_6392
        have f_6394 : F_6356 (ma 3) = .inl (G.2 0, 2, .inl kf) := (o_6360 (ma 3) ).trans f_6393
        have f_6395 : F_6372 (ma 3) = .inl (G.2 0, 2, .inl kf) := (f_6379 (ma 3) (ne_ao f_6394 f_6362) (ne_aa (by decide) f_6394 f_6370) (ne_aa (by decide) f_6394 f_6364)).trans f_6394
        have f_6396 : F_6372 (ma 4) = pcE G P_6349 := (f_6379 (ma 4) (ne_ao f_6371 f_6362) (ne_aa (by decide) f_6371 f_6370) (ne_aa (by decide) f_6371 f_6364)).trans f_6371
        have f_6397 : F_6317 (ma 5) = .inl (G.2 0, 60, .inl tf) := (o_6321 (ma 5) ).trans ft
        have f_6398 : F_6322 (ma 5) = .inl (G.2 0, 60, .inl tf) := (o_6326 (ma 5) ).trans f_6397
        have f_6399 : F_6331 (ma 5) = .inl (G.2 0, 60, .inl tf) := (o_6335 (ma 5) ).trans f_6398
        have f_6400 : F_6337 (ma 5) = .inl (G.2 0, 60, .inl tf) := (o_6339 (ma 5) (ne_ao f_6399 f_6336)).trans f_6399
        have f_6401 : F_6347 (ma 5) = .inl (G.2 0, 60, .inl tf) := (o_6353 (ma 5) (ne_aa (by decide) f_6400 f_6344)).trans f_6400
        have f_6402 : F_6356 (ma 5) = .inl (G.2 0, 60, .inl tf) := (o_6360 (ma 5) ).trans f_6401
        have f_6403 : F_6372 (ma 5) = .inl (G.2 0, 60, .inl tf) := (f_6379 (ma 5) (ne_ao f_6402 f_6362) (ne_aa (by decide) f_6402 f_6370) (ne_aa (by decide) f_6402 f_6364)).trans f_6402
        have f_6404 : F_6317 (ma 6) = .inl (G.2 0, 52, .inl pf) := (o_6321 (ma 6) ).trans fq
        have f_6405 : F_6322 (ma 6) = .inl (G.2 0, 52, .inl pf) := (o_6326 (ma 6) ).trans f_6404
        have f_6406 : F_6331 (ma 6) = .inl (G.2 0, 52, .inl pf) := (o_6335 (ma 6) ).trans f_6405
        have f_6407 : F_6337 (ma 6) = .inl (G.2 0, 52, .inl pf) := (o_6339 (ma 6) (ne_ao f_6406 f_6336)).trans f_6406
        have f_6408 : F_6347 (ma 6) = .inl (G.2 0, 52, .inl pf) := (o_6353 (ma 6) (ne_aa (by decide) f_6407 f_6344)).trans f_6407
        have f_6409 : F_6356 (ma 6) = .inl (G.2 0, 52, .inl pf) := (o_6360 (ma 6) ).trans f_6408
        have f_6410 : F_6372 (ma 6) = .inl (G.2 0, 52, .inl pf) := (f_6379 (ma 6) (ne_ao f_6409 f_6362) (ne_aa (by decide) f_6409 f_6370) (ne_aa (by decide) f_6409 f_6364)).trans f_6409
        exact r_i C0 hr hlk hw (v := (lowR (P_6349 2))) rfl ⟨(by rw [hu_6380]), ⟨_, _, _, _, _, _, _, _, _, f_6376, ⟨(congrArg nI (sv_n (st := A.1) hA.2.1.1)), hm1, rfl⟩, ⟨hz_6381, (pyM_ok (un := 20) (t := t9) (u := ordR 119 f9 g9 A.1.1 A.1.2.2.2.2.2) hz (by omega))⟩, ⟨f_6377, (sv_h hA.2.1.1 hz hhf)⟩, ⟨f_6388, hsf⟩, ⟨f_6395, hkf⟩, f_6396, ⟨f_6403, htf⟩, f_6410⟩, (fun q k0 k1 => ((f_6379 q k0 (k1 1 (by decide)) (k1 0 (by decide))).trans ((o_6360 q ).trans ((o_6353 q (k1 4 (by decide))).trans ((o_6339 q k0).trans ((o_6335 q ).trans ((o_6326 q ).trans (o_6321 q ))))))))⟩ (Nat.le_refl _) (Nat.le_refl _) dX6_byBrackets_56 hQ
      · skip
        exact absurd c_34 (by omega)
abbrev rm_X6_push : Room := { frames := 6, cells := 0, slots := 0, locals := 139 }
set_option maxHeartbeats 4000000 in
set_option maxRecDepth 100000 in
theorem k_X6_push_x1 (l : Launch) (G : Gl) (L : List Nat) (F : Nat → va_E) (b : Nat) (ma : Nat → Nat) (A : AB) (th : Nat) (x9 y9 z9 : Int32) (mb : b ∈ L) (hma : ∀ i, i < 7 → ma i ∈ L) (hM : MW G F b ma A th) (hA : okA A) (h9 : ¬ (inR x9 0 5 ∧ inR y9 0 5)) : CI l yX6_push cX6_push 4 (some .int) rm_X6_push G L F [.ref b, .int (x9), .int (y9), .int (z9)] (fun r F1 => MW G F1 b ma A 1 ∧ mFr F F1 b ma) := by
  obtain ⟨mi, hh, zf, hf, sf, kf, tf, pf, pl, fb, ⟨hm0, hm1, hm2⟩, ⟨fz, hz⟩, ⟨fh, hhf⟩, ⟨fs, hsf⟩, ⟨fk, hkf⟩, fp, ⟨ft, htf⟩, fq⟩ := hM
  obtain ⟨hz0, hz1, hz2, hz3, hz4⟩ := ne_z zf hz
  have hc : A.1.1 ≤ 6 := hA.1.2.1
  have hc2 : 2 ≤ A.1.1 := hA.1.1
  have hpu : A.1.2.1 ≤ 100000 := hA.1.2.2.1
  have hrw : ∀ i k, i < 12 → k < 7 → zf (5 + 7 * i + k) = nI (A.1.2.2.2.2.2 i k).val := hz.row
  refine CG_of (by decide) (Nat.le_of_ble_eq_true rfl) rfl ?_
  intro p e s m args below meth c Q C0 hr hlk hnm hQ hw ls hl
  have hx := C0.x
  have hb := C0.b
  refine lv_aload_n hx hb dX6_push_0 rfl (lv_at hl 0 rfl) ?_
  refine lv_aload_n hx hb dX6_push_1 rfl (lv_at hl 0 rfl) ?_
  refine lv_iload_n hx hb dX6_push_2 rfl (lv_at hl 1 rfl) ?_
  refine lv_iload_n hx hb dX6_push_3 rfl (lv_at hl 2 rfl) ?_
  refine q_calli hw (q_runS (As := [.int (x9), .int (y9)]) (c_X6_areSlots l G L F (x9) (y9)) C0 hw sw_X6_115 rfl hl.1 rfl (Nat.le_of_ble_eq_true rfl) dX6_push_4 ⟨by decide, by decide⟩ ⟨by decide, by decide⟩) rfl rfl (fun r_6413 F_6411 H locs hw hp_6412 => ?_)
  obtain ⟨he_6414, o_6415⟩ := hp_6412
  rw [if_neg h9] at he_6414
  subst he_6414
  refine n_if_eq (tgt := 21) hx hb dX6_push_7 (by decide) (by decide) (fun c_7 => ?_) (fun c_7 => ?_)
  · skip
    refine lv_iconst (v := nI 0) hx hb dX6_push_21 (by decide) ?_
    refine lv_bipush (v := nI 6) hx hb dX6_push_22 (by decide) ?_
    have f_6416 : F_6411 (ma 0) = .inl (G.2 0, 89, .inl zf) := (o_6415 (ma 0) ).trans fz
    have f_6417 : F_6411 b = mO ma mi hh := (o_6415 b ).trans fb
    refine q_calli hw (q_runV (As := [.int (nI (0)), .int (nI (6))]) (c_X6_refused_1 l G L F_6411 b ma mi hh zf mb f_6417 hma f_6416 (nI 6)) C0 hw vw_X6_119 mb f_6417 rfl rfl rfl hl.1 rfl (Nat.le_of_ble_eq_true rfl) dX6_push_24 ⟨by decide, by decide⟩ ⟨by decide, by decide⟩) rfl rfl (fun r_6420 F_6418 H locs hw hp_6419 => ?_)
    obtain ⟨he_6421, o_6422⟩ := hp_6419
    subst he_6421
    have f_6423 : F_6418 b = mO ma mi hh := (o_6422 b ).trans f_6417
    refine q_put C0 hw mb f_6423 fw_X6_31 pw_X6_8 rfl rfl rfl (Nat.le_of_ble_eq_true rfl) dX6_push_27 (fun F_6424 H locs hw f_6425 o_6426 => ?_)
    have f_6425 : F_6424 b = .inr (6, [.ref (ma 0), .int (mi 0), .ref (ma 1), .ref (ma 2), .ref (ma 3), .ref (ma 4), .int (mi 1), .ref (ma 5), .int (nI (1)), .ref (ma 6), .int (mi 3), .int (mi 4), .long (hh)]) := f_6425
    refine lv_aload_n hx hb dX6_push_30 rfl (lv_at hl 0 rfl) ?_
    refine q_get C0 hw mb f_6425 fw_X6_31 rfl dX6_push_31 ?_
    refine n_if_le (tgt := 39) hx hb dX6_push_34 (by decide) (by decide) (fun c_34 => ?_) (fun c_34 => ?_)
    · skip
      exact absurd c_34 (by omega)
    · skip
      refine lv_iconst (v := nI 0) hx hb dX6_push_37 (by decide) ?_
      have hb_6427 : F_6424 b = mO ma (va_up mi 2 (nI 1)) (hh) := f_6425
      have f_6428 : F_6418 (ma 0) = .inl (G.2 0, 89, .inl zf) := (o_6422 (ma 0) ).trans f_6416
      have f_6429 : F_6424 (ma 0) = .inl (G.2 0, 89, .inl zf) := (o_6426 (ma 0) (ne_ao f_6428 f_6423)).trans f_6428
      have f_6430 : F_6411 (ma 1) = .inl (G.2 0, 534, .inl hf) := (o_6415 (ma 1) ).trans fh
      have f_6431 : F_6418 (ma 1) = .inl (G.2 0, 534, .inl hf) := (o_6422 (ma 1) ).trans f_6430
      have f_6432 : F_6424 (ma 1) = .inl (G.2 0, 534, .inl hf) := (o_6426 (ma 1) (ne_ao f_6431 f_6423)).trans f_6431
      have f_6433 : F_6411 (ma 2) = .inl (G.2 0, 178, .inl sf) := (o_6415 (ma 2) ).trans fs
      have f_6434 : F_6418 (ma 2) = .inl (G.2 0, 178, .inl sf) := (o_6422 (ma 2) ).trans f_6433
      have f_6435 : F_6424 (ma 2) = .inl (G.2 0, 178, .inl sf) := (o_6426 (ma 2) (ne_ao f_6434 f_6423)).trans f_6434
      have f_6436 : F_6411 (ma 3) = .inl (G.2 0, 2, .inl kf) := (o_6415 (ma 3) ).trans fk
      have f_6437 : F_6418 (ma 3) = .inl (G.2 0, 2, .inl kf) := (o_6422 (ma 3) ).trans f_6436
      have f_6438 : F_6424 (ma 3) = .inl (G.2 0, 2, .inl kf) := (o_6426 (ma 3) (ne_ao f_6437 f_6423)).trans f_6437
      have f_6439 : F_6411 (ma 4) = pcE G pl := (o_6415 (ma 4) ).trans fp
      have f_6440 : F_6418 (ma 4) = pcE G pl := (o_6422 (ma 4) ).trans f_6439
      have f_6441 : F_6424 (ma 4) = pcE G pl := (o_6426 (ma 4) (ne_ao f_6440 f_6423)).trans f_6440
      have f_6442 : F_6411 (ma 5) = .inl (G.2 0, 60, .inl tf) := (o_6415 (ma 5) ).trans ft
      have f_6443 : F_6418 (ma 5) = .inl (G.2 0, 60, .inl tf) := (o_6422 (ma 5) ).trans f_6442
      have f_6444 : F_6424 (ma 5) = .inl (G.2 0, 60, .inl tf) := (o_6426 (ma 5) (ne_ao f_6443 f_6423)).trans f_6443
      have f_6445 : F_6411 (ma 6) = .inl (G.2 0, 52, .inl pf) := (o_6415 (ma 6) ).trans fq
      have f_6446 : F_6418 (ma 6) = .inl (G.2 0, 52, .inl pf) := (o_6422 (ma 6) ).trans f_6445
      have f_6447 : F_6424 (ma 6) = .inl (G.2 0, 52, .inl pf) := (o_6426 (ma 6) (ne_ao f_6446 f_6423)).trans f_6446
      exact r_i C0 hr hlk hw (v := nI 0) rfl ⟨⟨_, _, _, _, _, _, _, _, _, hb_6427, ⟨hm0, hm1, rfl⟩, ⟨f_6429, hz⟩, ⟨f_6432, hhf⟩, ⟨f_6435, hsf⟩, ⟨f_6438, hkf⟩, f_6441, ⟨f_6444, htf⟩, f_6447⟩, (fun q k0 k1 => ((o_6426 q k0).trans ((o_6422 q ).trans (o_6415 q ))))⟩ (Nat.le_refl _) (Nat.le_refl _) dX6_push_38 hQ
  · skip
    exact absurd c_7 (by omega)
set_option maxHeartbeats 4000000 in
set_option maxRecDepth 100000 in
theorem k_X6_push_x1b (l : Launch) (G : Gl) (L : List Nat) (F : Nat → va_E) (b : Nat) (ma : Nat → Nat) (A : AB) (th : Nat) (x9 y9 z9 : Int32) (mb : b ∈ L) (hma : ∀ i, i < 7 → ma i ∈ L) (hM : MW G F b ma A th) (hA : okA A) (h8 : inR x9 0 5 ∧ inR y9 0 5) (h9 : ¬ inR z9 0 5) : CI l yX6_push cX6_push 4 (some .int) rm_X6_push G L F [.ref b, .int (x9), .int (y9), .int (z9)] (fun r F1 => MW G F1 b ma A 1 ∧ mFr F F1 b ma) := by
  obtain ⟨mi, hh, zf, hf, sf, kf, tf, pf, pl, fb, ⟨hm0, hm1, hm2⟩, ⟨fz, hz⟩, ⟨fh, hhf⟩, ⟨fs, hsf⟩, ⟨fk, hkf⟩, fp, ⟨ft, htf⟩, fq⟩ := hM
  obtain ⟨hz0, hz1, hz2, hz3, hz4⟩ := ne_z zf hz
  have hc : A.1.1 ≤ 6 := hA.1.2.1
  have hc2 : 2 ≤ A.1.1 := hA.1.1
  have hpu : A.1.2.1 ≤ 100000 := hA.1.2.2.1
  have hrw : ∀ i k, i < 12 → k < 7 → zf (5 + 7 * i + k) = nI (A.1.2.2.2.2.2 i k).val := hz.row
  refine CG_of (by decide) (Nat.le_of_ble_eq_true rfl) rfl ?_
  intro p e s m args below meth c Q C0 hr hlk hnm hQ hw ls hl
  have hx := C0.x
  have hb := C0.b
  refine lv_aload_n hx hb dX6_push_0 rfl (lv_at hl 0 rfl) ?_
  refine lv_aload_n hx hb dX6_push_1 rfl (lv_at hl 0 rfl) ?_
  refine lv_iload_n hx hb dX6_push_2 rfl (lv_at hl 1 rfl) ?_
  refine lv_iload_n hx hb dX6_push_3 rfl (lv_at hl 2 rfl) ?_
  refine q_calli hw (q_runS (As := [.int (x9), .int (y9)]) (c_X6_areSlots l G L F (x9) (y9)) C0 hw sw_X6_115 rfl hl.1 rfl (Nat.le_of_ble_eq_true rfl) dX6_push_4 ⟨by decide, by decide⟩ ⟨by decide, by decide⟩) rfl rfl (fun r_6450 F_6448 H locs hw hp_6449 => ?_)
  obtain ⟨he_6451, o_6452⟩ := hp_6449
  rw [if_pos h8] at he_6451
  subst he_6451
  refine n_if_eq (tgt := 21) hx hb dX6_push_7 (by decide) (by decide) (fun c_7 => ?_) (fun c_7 => ?_)
  · skip
    exact absurd c_7 (by omega)
  · skip
    refine lv_iload_n hx hb dX6_push_10 rfl (lv_at hl 3 rfl) ?_
    refine q_calli hw (q_runS (As := [.int (z9)]) (c_X6_isSlot l G L F_6448 (z9)) C0 hw sw_X6_42 rfl hl.1 rfl (Nat.le_of_ble_eq_true rfl) dX6_push_11 ⟨by decide, by decide⟩ ⟨by decide, by decide⟩) rfl rfl (fun r_6455 F_6453 H locs hw hp_6454 => ?_)
    obtain ⟨he_6456, o_6457⟩ := hp_6454
    rw [if_neg h9] at he_6456
    subst he_6456
    refine n_if_eq (tgt := 21) hx hb dX6_push_14 (by decide) (by decide) (fun c_14 => ?_) (fun c_14 => ?_)
    · skip
      refine lv_iconst (v := nI 0) hx hb dX6_push_21 (by decide) ?_
      refine lv_bipush (v := nI 6) hx hb dX6_push_22 (by decide) ?_
      have f_6458 : F_6448 (ma 0) = .inl (G.2 0, 89, .inl zf) := (o_6452 (ma 0) ).trans fz
      have f_6459 : F_6453 (ma 0) = .inl (G.2 0, 89, .inl zf) := (o_6457 (ma 0) ).trans f_6458
      have f_6460 : F_6448 b = mO ma mi hh := (o_6452 b ).trans fb
      have f_6461 : F_6453 b = mO ma mi hh := (o_6457 b ).trans f_6460
      refine q_calli hw (q_runV (As := [.int (nI (0)), .int (nI (6))]) (c_X6_refused_1 l G L F_6453 b ma mi hh zf mb f_6461 hma f_6459 (nI 6)) C0 hw vw_X6_119 mb f_6461 rfl rfl rfl hl.1 rfl (Nat.le_of_ble_eq_true rfl) dX6_push_24 ⟨by decide, by decide⟩ ⟨by decide, by decide⟩) rfl rfl (fun r_6464 F_6462 H locs hw hp_6463 => ?_)
      obtain ⟨he_6465, o_6466⟩ := hp_6463
      subst he_6465
      have f_6467 : F_6462 b = mO ma mi hh := (o_6466 b ).trans f_6461
      refine q_put C0 hw mb f_6467 fw_X6_31 pw_X6_8 rfl rfl rfl (Nat.le_of_ble_eq_true rfl) dX6_push_27 (fun F_6468 H locs hw f_6469 o_6470 => ?_)
      have f_6469 : F_6468 b = .inr (6, [.ref (ma 0), .int (mi 0), .ref (ma 1), .ref (ma 2), .ref (ma 3), .ref (ma 4), .int (mi 1), .ref (ma 5), .int (nI (1)), .ref (ma 6), .int (mi 3), .int (mi 4), .long (hh)]) := f_6469
      refine lv_aload_n hx hb dX6_push_30 rfl (lv_at hl 0 rfl) ?_
      refine q_get C0 hw mb f_6469 fw_X6_31 rfl dX6_push_31 ?_
      refine n_if_le (tgt := 39) hx hb dX6_push_34 (by decide) (by decide) (fun c_34 => ?_) (fun c_34 => ?_)
      · skip
        exact absurd c_34 (by omega)
      · skip
        refine lv_iconst (v := nI 0) hx hb dX6_push_37 (by decide) ?_
        have hb_6471 : F_6468 b = mO ma (va_up mi 2 (nI 1)) (hh) := f_6469
        have f_6472 : F_6462 (ma 0) = .inl (G.2 0, 89, .inl zf) := (o_6466 (ma 0) ).trans f_6459
        have f_6473 : F_6468 (ma 0) = .inl (G.2 0, 89, .inl zf) := (o_6470 (ma 0) (ne_ao f_6472 f_6467)).trans f_6472
        have f_6474 : F_6448 (ma 1) = .inl (G.2 0, 534, .inl hf) := (o_6452 (ma 1) ).trans fh
        have f_6475 : F_6453 (ma 1) = .inl (G.2 0, 534, .inl hf) := (o_6457 (ma 1) ).trans f_6474
        have f_6476 : F_6462 (ma 1) = .inl (G.2 0, 534, .inl hf) := (o_6466 (ma 1) ).trans f_6475
        have f_6477 : F_6468 (ma 1) = .inl (G.2 0, 534, .inl hf) := (o_6470 (ma 1) (ne_ao f_6476 f_6467)).trans f_6476
        have f_6478 : F_6448 (ma 2) = .inl (G.2 0, 178, .inl sf) := (o_6452 (ma 2) ).trans fs
        have f_6479 : F_6453 (ma 2) = .inl (G.2 0, 178, .inl sf) := (o_6457 (ma 2) ).trans f_6478
        have f_6480 : F_6462 (ma 2) = .inl (G.2 0, 178, .inl sf) := (o_6466 (ma 2) ).trans f_6479
        have f_6481 : F_6468 (ma 2) = .inl (G.2 0, 178, .inl sf) := (o_6470 (ma 2) (ne_ao f_6480 f_6467)).trans f_6480
        have f_6482 : F_6448 (ma 3) = .inl (G.2 0, 2, .inl kf) := (o_6452 (ma 3) ).trans fk
        have f_6483 : F_6453 (ma 3) = .inl (G.2 0, 2, .inl kf) := (o_6457 (ma 3) ).trans f_6482
        have f_6484 : F_6462 (ma 3) = .inl (G.2 0, 2, .inl kf) := (o_6466 (ma 3) ).trans f_6483
        have f_6485 : F_6468 (ma 3) = .inl (G.2 0, 2, .inl kf) := (o_6470 (ma 3) (ne_ao f_6484 f_6467)).trans f_6484
        have f_6486 : F_6448 (ma 4) = pcE G pl := (o_6452 (ma 4) ).trans fp
        have f_6487 : F_6453 (ma 4) = pcE G pl := (o_6457 (ma 4) ).trans f_6486
        have f_6488 : F_6462 (ma 4) = pcE G pl := (o_6466 (ma 4) ).trans f_6487
        have f_6489 : F_6468 (ma 4) = pcE G pl := (o_6470 (ma 4) (ne_ao f_6488 f_6467)).trans f_6488
        have f_6490 : F_6448 (ma 5) = .inl (G.2 0, 60, .inl tf) := (o_6452 (ma 5) ).trans ft
        have f_6491 : F_6453 (ma 5) = .inl (G.2 0, 60, .inl tf) := (o_6457 (ma 5) ).trans f_6490
        have f_6492 : F_6462 (ma 5) = .inl (G.2 0, 60, .inl tf) := (o_6466 (ma 5) ).trans f_6491
        have f_6493 : F_6468 (ma 5) = .inl (G.2 0, 60, .inl tf) := (o_6470 (ma 5) (ne_ao f_6492 f_6467)).trans f_6492
        have f_6494 : F_6448 (ma 6) = .inl (G.2 0, 52, .inl pf) := (o_6452 (ma 6) ).trans fq
        have f_6495 : F_6453 (ma 6) = .inl (G.2 0, 52, .inl pf) := (o_6457 (ma 6) ).trans f_6494
        have f_6496 : F_6462 (ma 6) = .inl (G.2 0, 52, .inl pf) := (o_6466 (ma 6) ).trans f_6495
        have f_6497 : F_6468 (ma 6) = .inl (G.2 0, 52, .inl pf) := (o_6470 (ma 6) (ne_ao f_6496 f_6467)).trans f_6496
        exact r_i C0 hr hlk hw (v := nI 0) rfl ⟨⟨_, _, _, _, _, _, _, _, _, hb_6471, ⟨hm0, hm1, rfl⟩, ⟨f_6473, hz⟩, ⟨f_6477, hhf⟩, ⟨f_6481, hsf⟩, ⟨f_6485, hkf⟩, f_6489, ⟨f_6493, htf⟩, f_6497⟩, (fun q k0 k1 => ((o_6470 q k0).trans ((o_6466 q ).trans ((o_6457 q ).trans (o_6452 q )))))⟩ (Nat.le_refl _) (Nat.le_refl _) dX6_push_38 hQ
    · skip
      exact absurd c_14 (by omega)
set_option maxHeartbeats 4000000 in
set_option maxRecDepth 100000 in
theorem k_X6_push_x2 (l : Launch) (G : Gl) (L : List Nat) (F : Nat → va_E) (b : Nat) (ma : Nat → Nat) (A : AB) (th : Nat) (x9 y9 z9 : Int32) (mb : b ∈ L) (hma : ∀ i, i < 7 → ma i ∈ L) (hM : MW G F b ma A th) (hA : okA A) (h8 : inR x9 0 5 ∧ inR y9 0 5) (h9 : inR z9 0 5) (hm : A.1.2.1 < A.1.1 * 6) : CI l yX6_push cX6_push 4 (some .int) rm_X6_push G L F [.ref b, .int (x9), .int (y9), .int (z9)] (fun r F1 => MW G F1 b ma A 2 ∧ mFr F F1 b ma) := by
  obtain ⟨mi, hh, zf, hf, sf, kf, tf, pf, pl, fb, ⟨hm0, hm1, hm2⟩, ⟨fz, hz⟩, ⟨fh, hhf⟩, ⟨fs, hsf⟩, ⟨fk, hkf⟩, fp, ⟨ft, htf⟩, fq⟩ := hM
  obtain ⟨hz0, hz1, hz2, hz3, hz4⟩ := ne_z zf hz
  have hc : A.1.1 ≤ 6 := hA.1.2.1
  have hc2 : 2 ≤ A.1.1 := hA.1.1
  have hpu : A.1.2.1 ≤ 100000 := hA.1.2.2.1
  have hrw : ∀ i k, i < 12 → k < 7 → zf (5 + 7 * i + k) = nI (A.1.2.2.2.2.2 i k).val := hz.row
  refine CG_of (by decide) (Nat.le_of_ble_eq_true rfl) rfl ?_
  intro p e s m args below meth c Q C0 hr hlk hnm hQ hw ls hl
  have hx := C0.x
  have hb := C0.b
  refine lv_aload_n hx hb dX6_push_0 rfl (lv_at hl 0 rfl) ?_
  refine lv_aload_n hx hb dX6_push_1 rfl (lv_at hl 0 rfl) ?_
  refine lv_iload_n hx hb dX6_push_2 rfl (lv_at hl 1 rfl) ?_
  refine lv_iload_n hx hb dX6_push_3 rfl (lv_at hl 2 rfl) ?_
  refine q_calli hw (q_runS (As := [.int (x9), .int (y9)]) (c_X6_areSlots l G L F (x9) (y9)) C0 hw sw_X6_115 rfl hl.1 rfl (Nat.le_of_ble_eq_true rfl) dX6_push_4 ⟨by decide, by decide⟩ ⟨by decide, by decide⟩) rfl rfl (fun r_6500 F_6498 H locs hw hp_6499 => ?_)
  obtain ⟨he_6501, o_6502⟩ := hp_6499
  rw [if_pos h8] at he_6501
  subst he_6501
  refine n_if_eq (tgt := 21) hx hb dX6_push_7 (by decide) (by decide) (fun c_7 => ?_) (fun c_7 => ?_)
  · skip
    exact absurd c_7 (by omega)
  · skip
    refine lv_iload_n hx hb dX6_push_10 rfl (lv_at hl 3 rfl) ?_
    refine q_calli hw (q_runS (As := [.int (z9)]) (c_X6_isSlot l G L F_6498 (z9)) C0 hw sw_X6_42 rfl hl.1 rfl (Nat.le_of_ble_eq_true rfl) dX6_push_11 ⟨by decide, by decide⟩ ⟨by decide, by decide⟩) rfl rfl (fun r_6505 F_6503 H locs hw hp_6504 => ?_)
    obtain ⟨he_6506, o_6507⟩ := hp_6504
    rw [if_pos h9] at he_6506
    subst he_6506
    refine n_if_eq (tgt := 21) hx hb dX6_push_14 (by decide) (by decide) (fun c_14 => ?_) (fun c_14 => ?_)
    · skip
      exact absurd c_14 (by omega)
    · skip
      refine lv_iconst (v := nI 1) hx hb dX6_push_17 (by decide) ?_
      refine lv_goto (tgt := 22) hx hb dX6_push_18 (by decide) ?_
      refine lv_bipush (v := nI 6) hx hb dX6_push_22 (by decide) ?_
      have f_6508 : F_6498 (ma 0) = .inl (G.2 0, 89, .inl zf) := (o_6502 (ma 0) ).trans fz
      have f_6509 : F_6503 (ma 0) = .inl (G.2 0, 89, .inl zf) := (o_6507 (ma 0) ).trans f_6508
      have f_6510 : F_6498 b = mO ma mi hh := (o_6502 b ).trans fb
      have f_6511 : F_6503 b = mO ma mi hh := (o_6507 b ).trans f_6510
      refine q_calli hw (q_runV (As := [.int (nI (1)), .int (nI (6))]) (c_X6_refused_2 l G L F_6503 b ma mi hh zf 6 A.1.1 A.1.2.1 mb f_6511 hma f_6509 hz0 hz1 hc (by omega) hpu (by omega)) C0 hw vw_X6_119 mb f_6511 rfl rfl rfl hl.1 rfl (Nat.le_of_ble_eq_true rfl) dX6_push_24 ⟨by decide, by decide⟩ ⟨by decide, by decide⟩) rfl rfl (fun r_6514 F_6512 H locs hw hp_6513 => ?_)
      obtain ⟨he_6515, o_6516⟩ := hp_6513
      subst he_6515
      have f_6517 : F_6512 b = mO ma mi hh := (o_6516 b ).trans f_6511
      refine q_put C0 hw mb f_6517 fw_X6_31 pw_X6_8 rfl rfl rfl (Nat.le_of_ble_eq_true rfl) dX6_push_27 (fun F_6518 H locs hw f_6519 o_6520 => ?_)
      have f_6519 : F_6518 b = .inr (6, [.ref (ma 0), .int (mi 0), .ref (ma 1), .ref (ma 2), .ref (ma 3), .ref (ma 4), .int (mi 1), .ref (ma 5), .int (nI (2)), .ref (ma 6), .int (mi 3), .int (mi 4), .long (hh)]) := f_6519
      refine lv_aload_n hx hb dX6_push_30 rfl (lv_at hl 0 rfl) ?_
      refine q_get C0 hw mb f_6519 fw_X6_31 rfl dX6_push_31 ?_
      refine n_if_le (tgt := 39) hx hb dX6_push_34 (by decide) (by decide) (fun c_34 => ?_) (fun c_34 => ?_)
      · skip
        exact absurd c_34 (by omega)
      · skip
        refine lv_iconst (v := nI 0) hx hb dX6_push_37 (by decide) ?_
        have hb_6521 : F_6518 b = mO ma (va_up mi 2 (nI 2)) (hh) := f_6519
        have f_6522 : F_6512 (ma 0) = .inl (G.2 0, 89, .inl zf) := (o_6516 (ma 0) ).trans f_6509
        have f_6523 : F_6518 (ma 0) = .inl (G.2 0, 89, .inl zf) := (o_6520 (ma 0) (ne_ao f_6522 f_6517)).trans f_6522
        have f_6524 : F_6498 (ma 1) = .inl (G.2 0, 534, .inl hf) := (o_6502 (ma 1) ).trans fh
        have f_6525 : F_6503 (ma 1) = .inl (G.2 0, 534, .inl hf) := (o_6507 (ma 1) ).trans f_6524
        have f_6526 : F_6512 (ma 1) = .inl (G.2 0, 534, .inl hf) := (o_6516 (ma 1) ).trans f_6525
        have f_6527 : F_6518 (ma 1) = .inl (G.2 0, 534, .inl hf) := (o_6520 (ma 1) (ne_ao f_6526 f_6517)).trans f_6526
        have f_6528 : F_6498 (ma 2) = .inl (G.2 0, 178, .inl sf) := (o_6502 (ma 2) ).trans fs
        have f_6529 : F_6503 (ma 2) = .inl (G.2 0, 178, .inl sf) := (o_6507 (ma 2) ).trans f_6528
        have f_6530 : F_6512 (ma 2) = .inl (G.2 0, 178, .inl sf) := (o_6516 (ma 2) ).trans f_6529
        have f_6531 : F_6518 (ma 2) = .inl (G.2 0, 178, .inl sf) := (o_6520 (ma 2) (ne_ao f_6530 f_6517)).trans f_6530
        have f_6532 : F_6498 (ma 3) = .inl (G.2 0, 2, .inl kf) := (o_6502 (ma 3) ).trans fk
        have f_6533 : F_6503 (ma 3) = .inl (G.2 0, 2, .inl kf) := (o_6507 (ma 3) ).trans f_6532
        have f_6534 : F_6512 (ma 3) = .inl (G.2 0, 2, .inl kf) := (o_6516 (ma 3) ).trans f_6533
        have f_6535 : F_6518 (ma 3) = .inl (G.2 0, 2, .inl kf) := (o_6520 (ma 3) (ne_ao f_6534 f_6517)).trans f_6534
        have f_6536 : F_6498 (ma 4) = pcE G pl := (o_6502 (ma 4) ).trans fp
        have f_6537 : F_6503 (ma 4) = pcE G pl := (o_6507 (ma 4) ).trans f_6536
        have f_6538 : F_6512 (ma 4) = pcE G pl := (o_6516 (ma 4) ).trans f_6537
        have f_6539 : F_6518 (ma 4) = pcE G pl := (o_6520 (ma 4) (ne_ao f_6538 f_6517)).trans f_6538
        have f_6540 : F_6498 (ma 5) = .inl (G.2 0, 60, .inl tf) := (o_6502 (ma 5) ).trans ft
        have f_6541 : F_6503 (ma 5) = .inl (G.2 0, 60, .inl tf) := (o_6507 (ma 5) ).trans f_6540
        have f_6542 : F_6512 (ma 5) = .inl (G.2 0, 60, .inl tf) := (o_6516 (ma 5) ).trans f_6541
        have f_6543 : F_6518 (ma 5) = .inl (G.2 0, 60, .inl tf) := (o_6520 (ma 5) (ne_ao f_6542 f_6517)).trans f_6542
        have f_6544 : F_6498 (ma 6) = .inl (G.2 0, 52, .inl pf) := (o_6502 (ma 6) ).trans fq
        have f_6545 : F_6503 (ma 6) = .inl (G.2 0, 52, .inl pf) := (o_6507 (ma 6) ).trans f_6544
        have f_6546 : F_6512 (ma 6) = .inl (G.2 0, 52, .inl pf) := (o_6516 (ma 6) ).trans f_6545
        have f_6547 : F_6518 (ma 6) = .inl (G.2 0, 52, .inl pf) := (o_6520 (ma 6) (ne_ao f_6546 f_6517)).trans f_6546
        exact r_i C0 hr hlk hw (v := nI 0) rfl ⟨⟨_, _, _, _, _, _, _, _, _, hb_6521, ⟨hm0, hm1, rfl⟩, ⟨f_6523, hz⟩, ⟨f_6527, hhf⟩, ⟨f_6531, hsf⟩, ⟨f_6535, hkf⟩, f_6539, ⟨f_6543, htf⟩, f_6547⟩, (fun q k0 k1 => ((o_6520 q k0).trans ((o_6516 q ).trans ((o_6507 q ).trans (o_6502 q )))))⟩ (Nat.le_refl _) (Nat.le_refl _) dX6_push_38 hQ
set_option maxHeartbeats 4000000 in
set_option maxRecDepth 100000 in
theorem k_X6_push (l : Launch) (G : Gl) (L : List Nat) (F : Nat → va_E) (b : Nat) (ma : Nat → Nat) (A : AB) (th : Nat) (f9 g9 t9 : Nat) (mb : b ∈ L) (hma : ∀ i, i < 7 → ma i ∈ L) (hM : MW G F b ma A th) (hA : okA A) (hf9 : f9 < 6) (hg9 : g9 < 6) (ht9 : t9 < 6) (h8 : inR (nI f9) 0 5 ∧ inR (nI g9) 0 5) (h9 : inR (nI t9) 0 5) (hm : 6 * A.1.1 ≤ A.1.2.1) : CI l yX6_push cX6_push 4 (some .int) rm_X6_push G L F [.ref b, .int (nI (f9)), .int (nI (g9)), .int (nI (t9))] (fun r F1 => r = lowR (ordR 112 f9 g9 A.1.1 A.1.2.2.2.2.2) ∧ MW G F1 b ma (aSave A (ordS 112 f9 g9 t9 A.1)) 0 ∧ mFr F F1 b ma) := by
  obtain ⟨mi, hh, zf, hf, sf, kf, tf, pf, pl, fb, ⟨hm0, hm1, hm2⟩, ⟨fz, hz⟩, ⟨fh, hhf⟩, ⟨fs, hsf⟩, ⟨fk, hkf⟩, fp, ⟨ft, htf⟩, fq⟩ := hM
  obtain ⟨hz0, hz1, hz2, hz3, hz4⟩ := ne_z zf hz
  have hc : A.1.1 ≤ 6 := hA.1.2.1
  have hc2 : 2 ≤ A.1.1 := hA.1.1
  have hpu : A.1.2.1 ≤ 100000 := hA.1.2.2.1
  have hrw : ∀ i k, i < 12 → k < 7 → zf (5 + 7 * i + k) = nI (A.1.2.2.2.2.2 i k).val := hz.row
  refine CG_of (by decide) (Nat.le_of_ble_eq_true rfl) rfl ?_
  intro p e s m args below meth c Q C0 hr hlk hnm hQ hw ls hl
  have hx := C0.x
  have hb := C0.b
  refine lv_aload_n hx hb dX6_push_0 rfl (lv_at hl 0 rfl) ?_
  refine lv_aload_n hx hb dX6_push_1 rfl (lv_at hl 0 rfl) ?_
  refine lv_iload_n hx hb dX6_push_2 rfl (lv_at hl 1 rfl) ?_
  refine lv_iload_n hx hb dX6_push_3 rfl (lv_at hl 2 rfl) ?_
  refine q_calli hw (q_runS (As := [.int (nI (f9)), .int (nI (g9))]) (c_X6_areSlots l G L F (nI (f9)) (nI (g9))) C0 hw sw_X6_115 rfl hl.1 rfl (Nat.le_of_ble_eq_true rfl) dX6_push_4 ⟨by decide, by decide⟩ ⟨by decide, by decide⟩) rfl rfl (fun r_6550 F_6548 H locs hw hp_6549 => ?_)
  obtain ⟨he_6551, o_6552⟩ := hp_6549
  rw [if_pos h8] at he_6551
  subst he_6551
  refine n_if_eq (tgt := 21) hx hb dX6_push_7 (by decide) (by decide) (fun c_7 => ?_) (fun c_7 => ?_)
  · skip
    exact absurd c_7 (by omega)
  · skip
    refine lv_iload_n hx hb dX6_push_10 rfl (lv_at hl 3 rfl) ?_
    refine q_calli hw (q_runS (As := [.int (nI (t9))]) (c_X6_isSlot l G L F_6548 (nI (t9))) C0 hw sw_X6_42 rfl hl.1 rfl (Nat.le_of_ble_eq_true rfl) dX6_push_11 ⟨by decide, by decide⟩ ⟨by decide, by decide⟩) rfl rfl (fun r_6555 F_6553 H locs hw hp_6554 => ?_)
    obtain ⟨he_6556, o_6557⟩ := hp_6554
    rw [if_pos h9] at he_6556
    subst he_6556
    refine n_if_eq (tgt := 21) hx hb dX6_push_14 (by decide) (by decide) (fun c_14 => ?_) (fun c_14 => ?_)
    · skip
      exact absurd c_14 (by omega)
    · skip
      refine lv_iconst (v := nI 1) hx hb dX6_push_17 (by decide) ?_
      refine lv_goto (tgt := 22) hx hb dX6_push_18 (by decide) ?_
      refine lv_bipush (v := nI 6) hx hb dX6_push_22 (by decide) ?_
      have f_6558 : F_6548 (ma 0) = .inl (G.2 0, 89, .inl zf) := (o_6552 (ma 0) ).trans fz
      have f_6559 : F_6553 (ma 0) = .inl (G.2 0, 89, .inl zf) := (o_6557 (ma 0) ).trans f_6558
      have f_6560 : F_6548 b = mO ma mi hh := (o_6552 b ).trans fb
      have f_6561 : F_6553 b = mO ma mi hh := (o_6557 b ).trans f_6560
      refine q_calli hw (q_runV (As := [.int (nI (1)), .int (nI (6))]) (c_X6_refused l G L F_6553 b ma mi hh zf 6 A.1.1 A.1.2.1 mb f_6561 hma f_6559 hz0 hz1 hc (by omega) hpu (by omega)) C0 hw vw_X6_119 mb f_6561 rfl rfl rfl hl.1 rfl (Nat.le_of_ble_eq_true rfl) dX6_push_24 ⟨by decide, by decide⟩ ⟨by decide, by decide⟩) rfl rfl (fun r_6564 F_6562 H locs hw hp_6563 => ?_)
      obtain ⟨he_6565, o_6566⟩ := hp_6563
      subst he_6565
      have f_6567 : F_6562 b = mO ma mi hh := (o_6566 b ).trans f_6561
      refine q_put C0 hw mb f_6567 fw_X6_31 pw_X6_8 rfl rfl rfl (Nat.le_of_ble_eq_true rfl) dX6_push_27 (fun F_6568 H locs hw f_6569 o_6570 => ?_)
      have f_6569 : F_6568 b = .inr (6, [.ref (ma 0), .int (mi 0), .ref (ma 1), .ref (ma 2), .ref (ma 3), .ref (ma 4), .int (mi 1), .ref (ma 5), .int (nI (0)), .ref (ma 6), .int (mi 3), .int (mi 4), .long (hh)]) := f_6569
      refine lv_aload_n hx hb dX6_push_30 rfl (lv_at hl 0 rfl) ?_
      refine q_get C0 hw mb f_6569 fw_X6_31 rfl dX6_push_31 ?_
      refine n_if_le (tgt := 39) hx hb dX6_push_34 (by decide) (by decide) (fun c_34 => ?_) (fun c_34 => ?_)
      · skip
        have hb_6571 : F_6568 b = mO ma (va_up mi 2 (nI 0)) hh := f_6569
        refine lv_aload_n hx hb dX6_push_39 rfl (lv_at hl 0 rfl) ?_
        refine lv_iload_n hx hb dX6_push_40 rfl (lv_at hl 1 rfl) ?_
        refine lv_iload_n hx hb dX6_push_41 rfl (lv_at hl 2 rfl) ?_
        have f_6572 : F_6548 (ma 4) = pcE G pl := (o_6552 (ma 4) ).trans fp
        have f_6573 : F_6553 (ma 4) = pcE G pl := (o_6557 (ma 4) ).trans f_6572
        have f_6574 : F_6562 (ma 4) = pcE G pl := (o_6566 (ma 4) ).trans f_6573
        have f_6575 : F_6568 (ma 4) = pcE G pl := (o_6570 (ma 4) (ne_ao f_6574 f_6567)).trans f_6574
        have f_6576 : F_6562 (ma 0) = .inl (G.2 0, 89, .inl zf) := (o_6566 (ma 0) ).trans f_6559
        have f_6577 : F_6568 (ma 0) = .inl (G.2 0, 89, .inl zf) := (o_6570 (ma 0) (ne_ao f_6576 f_6567)).trans f_6576
        refine q_callv hw (q_runV (As := [.int (nI (f9)), .int (nI (g9))]) (c_X6_layPush l G L F_6568 b ma (va_up mi 2 (nI 0)) hh pl zf A.1.1 A.1.2.2.2.2.2 f9 g9 mb hb_6571 hma f_6575 f_6577 hz0 (by omega) (by omega) (by omega) (by omega) hrw) C0 hw vw_X6_144 mb hb_6571 rfl rfl rfl hl.1 rfl (Nat.le_of_ble_eq_true rfl) dX6_push_42 ⟨by decide, by decide⟩ ⟨by decide, by decide⟩) rfl rfl (fun F_6578 H locs hw hp_6579 => ?_)
        obtain ⟨⟨P_6580, f_6583, r_6581, ro_6582⟩, o_6584⟩ := hp_6579
        refine lv_aload_n hx hb dX6_push_45 rfl (lv_at hl 0 rfl) ?_
        refine lv_bipush (v := nI 6) hx hb dX6_push_46 (by decide) ?_
        refine lv_iload_n hx hb dX6_push_48 rfl (lv_at hl 3 rfl) ?_
        refine q_calli hw (q_runS (As := [.int (nI (t9))]) (c_X6_fieldAt l G L F_6578 t9 (by omega)) C0 hw sw_X6_109 rfl hl.1 rfl (Nat.le_of_ble_eq_true rfl) dX6_push_49 ⟨by decide, by decide⟩ ⟨by decide, by decide⟩) rfl rfl (fun r_6587 F_6585 H locs hw hp_6586 => ?_)
        obtain ⟨he_6588, o_6589⟩ := hp_6586
        subst he_6588
        have f_6590 : F_6578 b = mO ma ((va_up mi 2 (nI 0))) hh := (o_6584 b (ne_oa hb_6571 f_6575)).trans hb_6571
        have f_6591 : F_6585 b = mO ma ((va_up mi 2 (nI 0))) hh := (o_6589 b ).trans f_6590
        have f_6592 : F_6578 (ma 0) = .inl (G.2 0, 89, .inl zf) := (o_6584 (ma 0) (ne_aa (by decide) f_6577 f_6575)).trans f_6577
        have f_6593 : F_6585 (ma 0) = .inl (G.2 0, 89, .inl zf) := (o_6589 (ma 0) ).trans f_6592
        have f_6594 : F_6548 (ma 1) = .inl (G.2 0, 534, .inl hf) := (o_6552 (ma 1) ).trans fh
        have f_6595 : F_6553 (ma 1) = .inl (G.2 0, 534, .inl hf) := (o_6557 (ma 1) ).trans f_6594
        have f_6596 : F_6562 (ma 1) = .inl (G.2 0, 534, .inl hf) := (o_6566 (ma 1) ).trans f_6595
        have f_6597 : F_6568 (ma 1) = .inl (G.2 0, 534, .inl hf) := (o_6570 (ma 1) (ne_ao f_6596 f_6567)).trans f_6596
        have f_6598 : F_6578 (ma 1) = .inl (G.2 0, 534, .inl hf) := (o_6584 (ma 1) (ne_aa (by decide) f_6597 f_6575)).trans f_6597
        have f_6599 : F_6585 (ma 1) = .inl (G.2 0, 534, .inl hf) := (o_6589 (ma 1) ).trans f_6598
        have f_6600 : F_6585 (ma 4) = pcE G P_6580 := (o_6589 (ma 4) ).trans f_6583
        refine q_calli hw (q_runV (As := [.int (nI (6)), .int (nI (5 + 7 * t9))]) (c_X6_ended l G L F_6585 b ma ((va_up mi 2 (nI 0))) hh zf hf P_6580 A.2.1.1 6 (5 + 7 * t9) A.1.1 A.1.2.1 A.1.2.2.1 A.1.2.2.2.1 mb f_6591 hm0 hA.2.1.1 hma f_6593 f_6599 f_6600 hz0 hc hc2 hz1 hz2 hz3 (by omega) (by omega) (by omega)) C0 hw vw_X6_129 mb f_6591 rfl rfl rfl hl.1 rfl (Nat.le_of_ble_eq_true rfl) dX6_push_52 ⟨by decide, by decide⟩ ⟨by decide, by decide⟩) rfl rfl (fun r_6603 F_6601 H locs hw hp_6602 => ?_)
        obtain ⟨f_6604, f_6605, f_6606, f_6607, f_6608⟩ := hp_6602
        subst f_6604
        have hu_6609 : P_6580 2 = ordR 112 f9 g9 A.1.1 A.1.2.2.2.2.2 := r_6581.trans (push_eq _ (hA.1.2.2.2 g9 (by omega)).1 (hA.1.2.2.2 g9 (by omega)).2 (by omega) hc)
        have hz_6610 := f_6607
        rw [hu_6609] at hz_6610
        have f_6611 : F_6548 (ma 2) = .inl (G.2 0, 178, .inl sf) := (o_6552 (ma 2) ).trans fs
        have f_6612 : F_6553 (ma 2) = .inl (G.2 0, 178, .inl sf) := (o_6557 (ma 2) ).trans f_6611
        have f_6613 : F_6562 (ma 2) = .inl (G.2 0, 178, .inl sf) := (o_6566 (ma 2) ).trans f_6612
        have f_6614 : F_6568 (ma 2) = .inl (G.2 0, 178, .inl sf) := (o_6570 (ma 2) (ne_ao f_6613 f_6567)).trans f_6613
        have f_6615 : F_6578 (ma 2) = .inl (G.2 0, 178, .inl sf) := (o_6584 (ma 2) (ne_aa (by decide) f_6614 f_6575)).trans f_6614
        have f_6616 : F_6585 (ma 2) = .inl (G.2 0, 178, .inl sf) := (o_6589 (ma 2) ).trans f_6615
        have f_6617 : F_6601 (ma 2) = .inl (G.2 0, 178, .inl sf) := (f_6608 (ma 2) (ne_ao f_6616 f_6591) (ne_aa (by decide) f_6616 f_6599) (ne_aa (by decide) f_6616 f_6593)).trans f_6616
        have f_6618 : F_6548 (ma 3) = .inl (G.2 0, 2, .inl kf) := (o_6552 (ma 3) ).trans fk
        have f_6619 : F_6553 (ma 3) = .inl (G.2 0, 2, .inl kf) := (o_6557 (ma 3) ).trans f_6618
        have f_6620 : F_6562 (ma 3) = .inl (G.2 0, 2, .inl kf) := (o_6566 (ma 3) ).trans f_6619
        have f_6621 : F_6568 (ma 3) = .inl (G.2 0, 2, .inl kf) := (o_6570 (ma 3) (ne_ao f_6620 f_6567)).trans f_6620
        have f_6622 : F_6578 (ma 3) = .inl (G.2 0, 2, .inl kf) := (o_6584 (ma 3) (ne_aa (by decide) f_6621 f_6575)).trans f_6621
        have f_6623 : F_6585 (ma 3) = .inl (G.2 0, 2, .inl kf) := (o_6589 (ma 3) ).trans f_6622
        have f_6624 : F_6601 (ma 3) = .inl (G.2 0, 2, .inl kf) := (f_6608 (ma 3) (ne_ao f_6623 f_6591) (ne_aa (by decide) f_6623 f_6599) (ne_aa (by decide) f_6623 f_6593)).trans f_6623
        have f_6625 : F_6601 (ma 4) = pcE G P_6580 := (f_6608 (ma 4) (ne_ao f_6600 f_6591) (ne_aa (by decide) f_6600 f_6599) (ne_aa (by decide) f_6600 f_6593)).trans f_6600
        have f_6626 : F_6548 (ma 5) = .inl (G.2 0, 60, .inl tf) := (o_6552 (ma 5) ).trans ft
        have f_6627 : F_6553 (ma 5) = .inl (G.2 0, 60, .inl tf) := (o_6557 (ma 5) ).trans f_6626
        have f_6628 : F_6562 (ma 5) = .inl (G.2 0, 60, .inl tf) := (o_6566 (ma 5) ).trans f_6627
        have f_6629 : F_6568 (ma 5) = .inl (G.2 0, 60, .inl tf) := (o_6570 (ma 5) (ne_ao f_6628 f_6567)).trans f_6628
        have f_6630 : F_6578 (ma 5) = .inl (G.2 0, 60, .inl tf) := (o_6584 (ma 5) (ne_aa (by decide) f_6629 f_6575)).trans f_6629
        have f_6631 : F_6585 (ma 5) = .inl (G.2 0, 60, .inl tf) := (o_6589 (ma 5) ).trans f_6630
        have f_6632 : F_6601 (ma 5) = .inl (G.2 0, 60, .inl tf) := (f_6608 (ma 5) (ne_ao f_6631 f_6591) (ne_aa (by decide) f_6631 f_6599) (ne_aa (by decide) f_6631 f_6593)).trans f_6631
        have f_6633 : F_6548 (ma 6) = .inl (G.2 0, 52, .inl pf) := (o_6552 (ma 6) ).trans fq
        have f_6634 : F_6553 (ma 6) = .inl (G.2 0, 52, .inl pf) := (o_6557 (ma 6) ).trans f_6633
        have f_6635 : F_6562 (ma 6) = .inl (G.2 0, 52, .inl pf) := (o_6566 (ma 6) ).trans f_6634
        have f_6636 : F_6568 (ma 6) = .inl (G.2 0, 52, .inl pf) := (o_6570 (ma 6) (ne_ao f_6635 f_6567)).trans f_6635
        have f_6637 : F_6578 (ma 6) = .inl (G.2 0, 52, .inl pf) := (o_6584 (ma 6) (ne_aa (by decide) f_6636 f_6575)).trans f_6636
        have f_6638 : F_6585 (ma 6) = .inl (G.2 0, 52, .inl pf) := (o_6589 (ma 6) ).trans f_6637
        have f_6639 : F_6601 (ma 6) = .inl (G.2 0, 52, .inl pf) := (f_6608 (ma 6) (ne_ao f_6638 f_6591) (ne_aa (by decide) f_6638 f_6599) (ne_aa (by decide) f_6638 f_6593)).trans f_6638
        exact r_i C0 hr hlk hw (v := (lowR (P_6580 2))) rfl ⟨(by rw [hu_6609]), ⟨_, _, _, _, _, _, _, _, _, f_6605, ⟨(congrArg nI (sv_n (st := A.1) hA.2.1.1)), hm1, rfl⟩, ⟨hz_6610, (pyM_ok (un := 6) (t := t9) (u := ordR 112 f9 g9 A.1.1 A.1.2.2.2.2.2) hz (by omega))⟩, ⟨f_6606, (sv_h hA.2.1.1 hz hhf)⟩, ⟨f_6617, hsf⟩, ⟨f_6624, hkf⟩, f_6625, ⟨f_6632, htf⟩, f_6639⟩, (fun q k0 k1 => ((f_6608 q k0 (k1 1 (by decide)) (k1 0 (by decide))).trans ((o_6589 q ).trans ((o_6584 q (k1 4 (by decide))).trans ((o_6570 q k0).trans ((o_6566 q ).trans ((o_6557 q ).trans (o_6552 q ))))))))⟩ (Nat.le_refl _) (Nat.le_refl _) dX6_push_55 hQ
      · skip
        exact absurd c_34 (by omega)
abbrev rm_X6_log : Room := { frames := 6, cells := 0, slots := 0, locals := 137 }
set_option maxHeartbeats 4000000 in
set_option maxRecDepth 100000 in
theorem k_X6_log_x1 (l : Launch) (G : Gl) (L : List Nat) (F : Nat → va_E) (b : Nat) (ma : Nat → Nat) (A : AB) (th : Nat) (x9 y9 : Int32) (mb : b ∈ L) (hma : ∀ i, i < 7 → ma i ∈ L) (hM : MW G F b ma A th) (hA : okA A) (h9 : ¬ (inR x9 0 5 ∧ inR y9 0 5)) : CI l yX6_log cX6_log 3 (some .int) rm_X6_log G L F [.ref b, .int (x9), .int (y9)] (fun r F1 => MW G F1 b ma A 1 ∧ mFr F F1 b ma) := by
  obtain ⟨mi, hh, zf, hf, sf, kf, tf, pf, pl, fb, ⟨hm0, hm1, hm2⟩, ⟨fz, hz⟩, ⟨fh, hhf⟩, ⟨fs, hsf⟩, ⟨fk, hkf⟩, fp, ⟨ft, htf⟩, fq⟩ := hM
  obtain ⟨hz0, hz1, hz2, hz3, hz4⟩ := ne_z zf hz
  have hc : A.1.1 ≤ 6 := hA.1.2.1
  have hc2 : 2 ≤ A.1.1 := hA.1.1
  have hpu : A.1.2.1 ≤ 100000 := hA.1.2.2.1
  have hrw : ∀ i k, i < 12 → k < 7 → zf (5 + 7 * i + k) = nI (A.1.2.2.2.2.2 i k).val := hz.row
  refine CG_of (by decide) (Nat.le_of_ble_eq_true rfl) rfl ?_
  intro p e s m args below meth c Q C0 hr hlk hnm hQ hw ls hl
  have hx := C0.x
  have hb := C0.b
  refine lv_aload_n hx hb dX6_log_0 rfl (lv_at hl 0 rfl) ?_
  refine lv_aload_n hx hb dX6_log_1 rfl (lv_at hl 0 rfl) ?_
  refine lv_iload_n hx hb dX6_log_2 rfl (lv_at hl 1 rfl) ?_
  refine lv_iload_n hx hb dX6_log_3 rfl (lv_at hl 2 rfl) ?_
  refine q_calli hw (q_runS (As := [.int (x9), .int (y9)]) (c_X6_areSlots l G L F (x9) (y9)) C0 hw sw_X6_115 rfl hl.1 rfl (Nat.le_of_ble_eq_true rfl) dX6_log_4 ⟨by decide, by decide⟩ ⟨by decide, by decide⟩) rfl rfl (fun r_6642 F_6640 H locs hw hp_6641 => ?_)
  obtain ⟨he_6643, o_6644⟩ := hp_6641
  rw [if_neg h9] at he_6643
  subst he_6643
  refine lv_bipush (v := nI 6) hx hb dX6_log_7 (by decide) ?_
  have f_6645 : F_6640 (ma 0) = .inl (G.2 0, 89, .inl zf) := (o_6644 (ma 0) ).trans fz
  have f_6646 : F_6640 b = mO ma mi hh := (o_6644 b ).trans fb
  refine q_calli hw (q_runV (As := [.int (nI (0)), .int (nI (6))]) (c_X6_refused_1 l G L F_6640 b ma mi hh zf mb f_6646 hma f_6645 (nI 6)) C0 hw vw_X6_119 mb f_6646 rfl rfl rfl hl.1 rfl (Nat.le_of_ble_eq_true rfl) dX6_log_9 ⟨by decide, by decide⟩ ⟨by decide, by decide⟩) rfl rfl (fun r_6649 F_6647 H locs hw hp_6648 => ?_)
  obtain ⟨he_6650, o_6651⟩ := hp_6648
  subst he_6650
  have f_6652 : F_6647 b = mO ma mi hh := (o_6651 b ).trans f_6646
  refine q_put C0 hw mb f_6652 fw_X6_31 pw_X6_8 rfl rfl rfl (Nat.le_of_ble_eq_true rfl) dX6_log_12 (fun F_6653 H locs hw f_6654 o_6655 => ?_)
  have f_6654 : F_6653 b = .inr (6, [.ref (ma 0), .int (mi 0), .ref (ma 1), .ref (ma 2), .ref (ma 3), .ref (ma 4), .int (mi 1), .ref (ma 5), .int (nI (1)), .ref (ma 6), .int (mi 3), .int (mi 4), .long (hh)]) := f_6654
  refine lv_aload_n hx hb dX6_log_15 rfl (lv_at hl 0 rfl) ?_
  refine q_get C0 hw mb f_6654 fw_X6_31 rfl dX6_log_16 ?_
  refine n_if_le (tgt := 24) hx hb dX6_log_19 (by decide) (by decide) (fun c_19 => ?_) (fun c_19 => ?_)
  · skip
    exact absurd c_19 (by omega)
  · skip
    refine lv_iconst (v := nI 0) hx hb dX6_log_22 (by decide) ?_
    have hb_6656 : F_6653 b = mO ma (va_up mi 2 (nI 1)) (hh) := f_6654
    have f_6657 : F_6647 (ma 0) = .inl (G.2 0, 89, .inl zf) := (o_6651 (ma 0) ).trans f_6645
    have f_6658 : F_6653 (ma 0) = .inl (G.2 0, 89, .inl zf) := (o_6655 (ma 0) (ne_ao f_6657 f_6652)).trans f_6657
    have f_6659 : F_6640 (ma 1) = .inl (G.2 0, 534, .inl hf) := (o_6644 (ma 1) ).trans fh
    have f_6660 : F_6647 (ma 1) = .inl (G.2 0, 534, .inl hf) := (o_6651 (ma 1) ).trans f_6659
    have f_6661 : F_6653 (ma 1) = .inl (G.2 0, 534, .inl hf) := (o_6655 (ma 1) (ne_ao f_6660 f_6652)).trans f_6660
    have f_6662 : F_6640 (ma 2) = .inl (G.2 0, 178, .inl sf) := (o_6644 (ma 2) ).trans fs
    have f_6663 : F_6647 (ma 2) = .inl (G.2 0, 178, .inl sf) := (o_6651 (ma 2) ).trans f_6662
    have f_6664 : F_6653 (ma 2) = .inl (G.2 0, 178, .inl sf) := (o_6655 (ma 2) (ne_ao f_6663 f_6652)).trans f_6663
    have f_6665 : F_6640 (ma 3) = .inl (G.2 0, 2, .inl kf) := (o_6644 (ma 3) ).trans fk
    have f_6666 : F_6647 (ma 3) = .inl (G.2 0, 2, .inl kf) := (o_6651 (ma 3) ).trans f_6665
    have f_6667 : F_6653 (ma 3) = .inl (G.2 0, 2, .inl kf) := (o_6655 (ma 3) (ne_ao f_6666 f_6652)).trans f_6666
    have f_6668 : F_6640 (ma 4) = pcE G pl := (o_6644 (ma 4) ).trans fp
    have f_6669 : F_6647 (ma 4) = pcE G pl := (o_6651 (ma 4) ).trans f_6668
    have f_6670 : F_6653 (ma 4) = pcE G pl := (o_6655 (ma 4) (ne_ao f_6669 f_6652)).trans f_6669
    have f_6671 : F_6640 (ma 5) = .inl (G.2 0, 60, .inl tf) := (o_6644 (ma 5) ).trans ft
    have f_6672 : F_6647 (ma 5) = .inl (G.2 0, 60, .inl tf) := (o_6651 (ma 5) ).trans f_6671
    have f_6673 : F_6653 (ma 5) = .inl (G.2 0, 60, .inl tf) := (o_6655 (ma 5) (ne_ao f_6672 f_6652)).trans f_6672
    have f_6674 : F_6640 (ma 6) = .inl (G.2 0, 52, .inl pf) := (o_6644 (ma 6) ).trans fq
    have f_6675 : F_6647 (ma 6) = .inl (G.2 0, 52, .inl pf) := (o_6651 (ma 6) ).trans f_6674
    have f_6676 : F_6653 (ma 6) = .inl (G.2 0, 52, .inl pf) := (o_6655 (ma 6) (ne_ao f_6675 f_6652)).trans f_6675
    exact r_i C0 hr hlk hw (v := nI 0) rfl ⟨⟨_, _, _, _, _, _, _, _, _, hb_6656, ⟨hm0, hm1, rfl⟩, ⟨f_6658, hz⟩, ⟨f_6661, hhf⟩, ⟨f_6664, hsf⟩, ⟨f_6667, hkf⟩, f_6670, ⟨f_6673, htf⟩, f_6676⟩, (fun q k0 k1 => ((o_6655 q k0).trans ((o_6651 q ).trans (o_6644 q ))))⟩ (Nat.le_refl _) (Nat.le_refl _) dX6_log_23 hQ
set_option maxHeartbeats 4000000 in
set_option maxRecDepth 100000 in
theorem k_X6_log_x2 (l : Launch) (G : Gl) (L : List Nat) (F : Nat → va_E) (b : Nat) (ma : Nat → Nat) (A : AB) (th : Nat) (x9 y9 : Int32) (mb : b ∈ L) (hma : ∀ i, i < 7 → ma i ∈ L) (hM : MW G F b ma A th) (hA : okA A) (h8 : inR x9 0 5 ∧ inR y9 0 5) (hm : A.1.2.1 < A.1.1 * 6) : CI l yX6_log cX6_log 3 (some .int) rm_X6_log G L F [.ref b, .int (x9), .int (y9)] (fun r F1 => MW G F1 b ma A 2 ∧ mFr F F1 b ma) := by
  obtain ⟨mi, hh, zf, hf, sf, kf, tf, pf, pl, fb, ⟨hm0, hm1, hm2⟩, ⟨fz, hz⟩, ⟨fh, hhf⟩, ⟨fs, hsf⟩, ⟨fk, hkf⟩, fp, ⟨ft, htf⟩, fq⟩ := hM
  obtain ⟨hz0, hz1, hz2, hz3, hz4⟩ := ne_z zf hz
  have hc : A.1.1 ≤ 6 := hA.1.2.1
  have hc2 : 2 ≤ A.1.1 := hA.1.1
  have hpu : A.1.2.1 ≤ 100000 := hA.1.2.2.1
  have hrw : ∀ i k, i < 12 → k < 7 → zf (5 + 7 * i + k) = nI (A.1.2.2.2.2.2 i k).val := hz.row
  refine CG_of (by decide) (Nat.le_of_ble_eq_true rfl) rfl ?_
  intro p e s m args below meth c Q C0 hr hlk hnm hQ hw ls hl
  have hx := C0.x
  have hb := C0.b
  refine lv_aload_n hx hb dX6_log_0 rfl (lv_at hl 0 rfl) ?_
  refine lv_aload_n hx hb dX6_log_1 rfl (lv_at hl 0 rfl) ?_
  refine lv_iload_n hx hb dX6_log_2 rfl (lv_at hl 1 rfl) ?_
  refine lv_iload_n hx hb dX6_log_3 rfl (lv_at hl 2 rfl) ?_
  refine q_calli hw (q_runS (As := [.int (x9), .int (y9)]) (c_X6_areSlots l G L F (x9) (y9)) C0 hw sw_X6_115 rfl hl.1 rfl (Nat.le_of_ble_eq_true rfl) dX6_log_4 ⟨by decide, by decide⟩ ⟨by decide, by decide⟩) rfl rfl (fun r_6679 F_6677 H locs hw hp_6678 => ?_)
  obtain ⟨he_6680, o_6681⟩ := hp_6678
  rw [if_pos h8] at he_6680
  subst he_6680
  refine lv_bipush (v := nI 6) hx hb dX6_log_7 (by decide) ?_
  have f_6682 : F_6677 (ma 0) = .inl (G.2 0, 89, .inl zf) := (o_6681 (ma 0) ).trans fz
  have f_6683 : F_6677 b = mO ma mi hh := (o_6681 b ).trans fb
  refine q_calli hw (q_runV (As := [.int (nI (1)), .int (nI (6))]) (c_X6_refused_2 l G L F_6677 b ma mi hh zf 6 A.1.1 A.1.2.1 mb f_6683 hma f_6682 hz0 hz1 hc (by omega) hpu (by omega)) C0 hw vw_X6_119 mb f_6683 rfl rfl rfl hl.1 rfl (Nat.le_of_ble_eq_true rfl) dX6_log_9 ⟨by decide, by decide⟩ ⟨by decide, by decide⟩) rfl rfl (fun r_6686 F_6684 H locs hw hp_6685 => ?_)
  obtain ⟨he_6687, o_6688⟩ := hp_6685
  subst he_6687
  have f_6689 : F_6684 b = mO ma mi hh := (o_6688 b ).trans f_6683
  refine q_put C0 hw mb f_6689 fw_X6_31 pw_X6_8 rfl rfl rfl (Nat.le_of_ble_eq_true rfl) dX6_log_12 (fun F_6690 H locs hw f_6691 o_6692 => ?_)
  have f_6691 : F_6690 b = .inr (6, [.ref (ma 0), .int (mi 0), .ref (ma 1), .ref (ma 2), .ref (ma 3), .ref (ma 4), .int (mi 1), .ref (ma 5), .int (nI (2)), .ref (ma 6), .int (mi 3), .int (mi 4), .long (hh)]) := f_6691
  refine lv_aload_n hx hb dX6_log_15 rfl (lv_at hl 0 rfl) ?_
  refine q_get C0 hw mb f_6691 fw_X6_31 rfl dX6_log_16 ?_
  refine n_if_le (tgt := 24) hx hb dX6_log_19 (by decide) (by decide) (fun c_19 => ?_) (fun c_19 => ?_)
  · skip
    exact absurd c_19 (by omega)
  · skip
    refine lv_iconst (v := nI 0) hx hb dX6_log_22 (by decide) ?_
    have hb_6693 : F_6690 b = mO ma (va_up mi 2 (nI 2)) (hh) := f_6691
    have f_6694 : F_6684 (ma 0) = .inl (G.2 0, 89, .inl zf) := (o_6688 (ma 0) ).trans f_6682
    have f_6695 : F_6690 (ma 0) = .inl (G.2 0, 89, .inl zf) := (o_6692 (ma 0) (ne_ao f_6694 f_6689)).trans f_6694
    have f_6696 : F_6677 (ma 1) = .inl (G.2 0, 534, .inl hf) := (o_6681 (ma 1) ).trans fh
    have f_6697 : F_6684 (ma 1) = .inl (G.2 0, 534, .inl hf) := (o_6688 (ma 1) ).trans f_6696
    have f_6698 : F_6690 (ma 1) = .inl (G.2 0, 534, .inl hf) := (o_6692 (ma 1) (ne_ao f_6697 f_6689)).trans f_6697
    have f_6699 : F_6677 (ma 2) = .inl (G.2 0, 178, .inl sf) := (o_6681 (ma 2) ).trans fs
    have f_6700 : F_6684 (ma 2) = .inl (G.2 0, 178, .inl sf) := (o_6688 (ma 2) ).trans f_6699
    have f_6701 : F_6690 (ma 2) = .inl (G.2 0, 178, .inl sf) := (o_6692 (ma 2) (ne_ao f_6700 f_6689)).trans f_6700
    have f_6702 : F_6677 (ma 3) = .inl (G.2 0, 2, .inl kf) := (o_6681 (ma 3) ).trans fk
    have f_6703 : F_6684 (ma 3) = .inl (G.2 0, 2, .inl kf) := (o_6688 (ma 3) ).trans f_6702
    have f_6704 : F_6690 (ma 3) = .inl (G.2 0, 2, .inl kf) := (o_6692 (ma 3) (ne_ao f_6703 f_6689)).trans f_6703
    have f_6705 : F_6677 (ma 4) = pcE G pl := (o_6681 (ma 4) ).trans fp
    have f_6706 : F_6684 (ma 4) = pcE G pl := (o_6688 (ma 4) ).trans f_6705
    have f_6707 : F_6690 (ma 4) = pcE G pl := (o_6692 (ma 4) (ne_ao f_6706 f_6689)).trans f_6706
    have f_6708 : F_6677 (ma 5) = .inl (G.2 0, 60, .inl tf) := (o_6681 (ma 5) ).trans ft
    have f_6709 : F_6684 (ma 5) = .inl (G.2 0, 60, .inl tf) := (o_6688 (ma 5) ).trans f_6708
    have f_6710 : F_6690 (ma 5) = .inl (G.2 0, 60, .inl tf) := (o_6692 (ma 5) (ne_ao f_6709 f_6689)).trans f_6709
    have f_6711 : F_6677 (ma 6) = .inl (G.2 0, 52, .inl pf) := (o_6681 (ma 6) ).trans fq
    have f_6712 : F_6684 (ma 6) = .inl (G.2 0, 52, .inl pf) := (o_6688 (ma 6) ).trans f_6711
    have f_6713 : F_6690 (ma 6) = .inl (G.2 0, 52, .inl pf) := (o_6692 (ma 6) (ne_ao f_6712 f_6689)).trans f_6712
    exact r_i C0 hr hlk hw (v := nI 0) rfl ⟨⟨_, _, _, _, _, _, _, _, _, hb_6693, ⟨hm0, hm1, rfl⟩, ⟨f_6695, hz⟩, ⟨f_6698, hhf⟩, ⟨f_6701, hsf⟩, ⟨f_6704, hkf⟩, f_6707, ⟨f_6710, htf⟩, f_6713⟩, (fun q k0 k1 => ((o_6692 q k0).trans ((o_6688 q ).trans (o_6681 q ))))⟩ (Nat.le_refl _) (Nat.le_refl _) dX6_log_23 hQ
set_option maxHeartbeats 4000000 in
set_option maxRecDepth 100000 in
theorem k_X6_log (l : Launch) (G : Gl) (L : List Nat) (F : Nat → va_E) (b : Nat) (ma : Nat → Nat) (A : AB) (th : Nat) (f9 t9 : Nat) (mb : b ∈ L) (hma : ∀ i, i < 7 → ma i ∈ L) (hM : MW G F b ma A th) (hA : okA A) (hf9 : f9 < 6) (ht9 : t9 < 6) (h8 : inR (nI f9) 0 5 ∧ inR (nI t9) 0 5) (hm : 6 * A.1.1 ≤ A.1.2.1) : CI l yX6_log cX6_log 3 (some .int) rm_X6_log G L F [.ref b, .int (nI (f9)), .int (nI (t9))] (fun r F1 => r = lowR (ordR 108 f9 f9 A.1.1 A.1.2.2.2.2.2) ∧ MW G F1 b ma (aSave A (ordS 108 f9 f9 t9 A.1)) 0 ∧ mFr F F1 b ma) := by
  obtain ⟨mi, hh, zf, hf, sf, kf, tf, pf, pl, fb, ⟨hm0, hm1, hm2⟩, ⟨fz, hz⟩, ⟨fh, hhf⟩, ⟨fs, hsf⟩, ⟨fk, hkf⟩, fp, ⟨ft, htf⟩, fq⟩ := hM
  obtain ⟨hz0, hz1, hz2, hz3, hz4⟩ := ne_z zf hz
  have hc : A.1.1 ≤ 6 := hA.1.2.1
  have hc2 : 2 ≤ A.1.1 := hA.1.1
  have hpu : A.1.2.1 ≤ 100000 := hA.1.2.2.1
  have hrw : ∀ i k, i < 12 → k < 7 → zf (5 + 7 * i + k) = nI (A.1.2.2.2.2.2 i k).val := hz.row
  refine CG_of (by decide) (Nat.le_of_ble_eq_true rfl) rfl ?_
  intro p e s m args below meth c Q C0 hr hlk hnm hQ hw ls hl
  have hx := C0.x
  have hb := C0.b
  refine lv_aload_n hx hb dX6_log_0 rfl (lv_at hl 0 rfl) ?_
  refine lv_aload_n hx hb dX6_log_1 rfl (lv_at hl 0 rfl) ?_
  refine lv_iload_n hx hb dX6_log_2 rfl (lv_at hl 1 rfl) ?_
  refine lv_iload_n hx hb dX6_log_3 rfl (lv_at hl 2 rfl) ?_
  refine q_calli hw (q_runS (As := [.int (nI (f9)), .int (nI (t9))]) (c_X6_areSlots l G L F (nI (f9)) (nI (t9))) C0 hw sw_X6_115 rfl hl.1 rfl (Nat.le_of_ble_eq_true rfl) dX6_log_4 ⟨by decide, by decide⟩ ⟨by decide, by decide⟩) rfl rfl (fun r_6716 F_6714 H locs hw hp_6715 => ?_)
  obtain ⟨he_6717, o_6718⟩ := hp_6715
  rw [if_pos h8] at he_6717
  subst he_6717
  refine lv_bipush (v := nI 6) hx hb dX6_log_7 (by decide) ?_
  have f_6719 : F_6714 (ma 0) = .inl (G.2 0, 89, .inl zf) := (o_6718 (ma 0) ).trans fz
  have f_6720 : F_6714 b = mO ma mi hh := (o_6718 b ).trans fb
  refine q_calli hw (q_runV (As := [.int (nI (1)), .int (nI (6))]) (c_X6_refused l G L F_6714 b ma mi hh zf 6 A.1.1 A.1.2.1 mb f_6720 hma f_6719 hz0 hz1 hc (by omega) hpu (by omega)) C0 hw vw_X6_119 mb f_6720 rfl rfl rfl hl.1 rfl (Nat.le_of_ble_eq_true rfl) dX6_log_9 ⟨by decide, by decide⟩ ⟨by decide, by decide⟩) rfl rfl (fun r_6723 F_6721 H locs hw hp_6722 => ?_)
  obtain ⟨he_6724, o_6725⟩ := hp_6722
  subst he_6724
  have f_6726 : F_6721 b = mO ma mi hh := (o_6725 b ).trans f_6720
  refine q_put C0 hw mb f_6726 fw_X6_31 pw_X6_8 rfl rfl rfl (Nat.le_of_ble_eq_true rfl) dX6_log_12 (fun F_6727 H locs hw f_6728 o_6729 => ?_)
  have f_6728 : F_6727 b = .inr (6, [.ref (ma 0), .int (mi 0), .ref (ma 1), .ref (ma 2), .ref (ma 3), .ref (ma 4), .int (mi 1), .ref (ma 5), .int (nI (0)), .ref (ma 6), .int (mi 3), .int (mi 4), .long (hh)]) := f_6728
  refine lv_aload_n hx hb dX6_log_15 rfl (lv_at hl 0 rfl) ?_
  refine q_get C0 hw mb f_6728 fw_X6_31 rfl dX6_log_16 ?_
  refine n_if_le (tgt := 24) hx hb dX6_log_19 (by decide) (by decide) (fun c_19 => ?_) (fun c_19 => ?_)
  · skip
    have hb_6730 : F_6727 b = mO ma (va_up mi 2 (nI 0)) hh := f_6728
    refine lv_aload_n hx hb dX6_log_24 rfl (lv_at hl 0 rfl) ?_
    refine lv_iload_n hx hb dX6_log_25 rfl (lv_at hl 1 rfl) ?_
    have f_6731 : F_6714 (ma 4) = pcE G pl := (o_6718 (ma 4) ).trans fp
    have f_6732 : F_6721 (ma 4) = pcE G pl := (o_6725 (ma 4) ).trans f_6731
    have f_6733 : F_6727 (ma 4) = pcE G pl := (o_6729 (ma 4) (ne_ao f_6732 f_6726)).trans f_6732
    have f_6734 : F_6721 (ma 0) = .inl (G.2 0, 89, .inl zf) := (o_6725 (ma 0) ).trans f_6719
    have f_6735 : F_6727 (ma 0) = .inl (G.2 0, 89, .inl zf) := (o_6729 (ma 0) (ne_ao f_6734 f_6726)).trans f_6734
    refine q_callv hw (q_runV (As := [.int (nI (f9))]) (c_X6_layLog l G L F_6727 b ma (va_up mi 2 (nI 0)) hh pl zf A.1.1 A.1.2.2.2.2.2 f9 mb hb_6730 hma f_6733 f_6735 hz0 (by omega) (by omega) (by omega) hrw) C0 hw vw_X6_150 mb hb_6730 rfl rfl rfl hl.1 rfl (Nat.le_of_ble_eq_true rfl) dX6_log_26 ⟨by decide, by decide⟩ ⟨by decide, by decide⟩) rfl rfl (fun F_6736 H locs hw hp_6737 => ?_)
    obtain ⟨⟨P_6738, f_6741, r_6739, ro_6740⟩, o_6742⟩ := hp_6737
    refine lv_aload_n hx hb dX6_log_29 rfl (lv_at hl 0 rfl) ?_
    refine lv_bipush (v := nI 6) hx hb dX6_log_30 (by decide) ?_
    refine lv_iload_n hx hb dX6_log_32 rfl (lv_at hl 2 rfl) ?_
    refine q_calli hw (q_runS (As := [.int (nI (t9))]) (c_X6_fieldAt l G L F_6736 t9 (by omega)) C0 hw sw_X6_109 rfl hl.1 rfl (Nat.le_of_ble_eq_true rfl) dX6_log_33 ⟨by decide, by decide⟩ ⟨by decide, by decide⟩) rfl rfl (fun r_6745 F_6743 H locs hw hp_6744 => ?_)
    obtain ⟨he_6746, o_6747⟩ := hp_6744
    subst he_6746
    have f_6748 : F_6736 b = mO ma ((va_up mi 2 (nI 0))) hh := (o_6742 b (ne_oa hb_6730 f_6733)).trans hb_6730
    have f_6749 : F_6743 b = mO ma ((va_up mi 2 (nI 0))) hh := (o_6747 b ).trans f_6748
    have f_6750 : F_6736 (ma 0) = .inl (G.2 0, 89, .inl zf) := (o_6742 (ma 0) (ne_aa (by decide) f_6735 f_6733)).trans f_6735
    have f_6751 : F_6743 (ma 0) = .inl (G.2 0, 89, .inl zf) := (o_6747 (ma 0) ).trans f_6750
    have f_6752 : F_6714 (ma 1) = .inl (G.2 0, 534, .inl hf) := (o_6718 (ma 1) ).trans fh
    have f_6753 : F_6721 (ma 1) = .inl (G.2 0, 534, .inl hf) := (o_6725 (ma 1) ).trans f_6752
    have f_6754 : F_6727 (ma 1) = .inl (G.2 0, 534, .inl hf) := (o_6729 (ma 1) (ne_ao f_6753 f_6726)).trans f_6753
    have f_6755 : F_6736 (ma 1) = .inl (G.2 0, 534, .inl hf) := (o_6742 (ma 1) (ne_aa (by decide) f_6754 f_6733)).trans f_6754
    have f_6756 : F_6743 (ma 1) = .inl (G.2 0, 534, .inl hf) := (o_6747 (ma 1) ).trans f_6755
    have f_6757 : F_6743 (ma 4) = pcE G P_6738 := (o_6747 (ma 4) ).trans f_6741
    refine q_calli hw (q_runV (As := [.int (nI (6)), .int (nI (5 + 7 * t9))]) (c_X6_ended l G L F_6743 b ma ((va_up mi 2 (nI 0))) hh zf hf P_6738 A.2.1.1 6 (5 + 7 * t9) A.1.1 A.1.2.1 A.1.2.2.1 A.1.2.2.2.1 mb f_6749 hm0 hA.2.1.1 hma f_6751 f_6756 f_6757 hz0 hc hc2 hz1 hz2 hz3 (by omega) (by omega) (by omega)) C0 hw vw_X6_129 mb f_6749 rfl rfl rfl hl.1 rfl (Nat.le_of_ble_eq_true rfl) dX6_log_36 ⟨by decide, by decide⟩ ⟨by decide, by decide⟩) rfl rfl (fun r_6760 F_6758 H locs hw hp_6759 => ?_)
    obtain ⟨f_6761, f_6762, f_6763, f_6764, f_6765⟩ := hp_6759
    subst f_6761
    have hu_6766 : P_6738 2 = ordR 108 f9 f9 A.1.1 A.1.2.2.2.2.2 := r_6739.trans (log_eq _ (by omega) hc)
    have hz_6767 := f_6764
    rw [hu_6766] at hz_6767
    have f_6768 : F_6714 (ma 2) = .inl (G.2 0, 178, .inl sf) := (o_6718 (ma 2) ).trans fs
    have f_6769 : F_6721 (ma 2) = .inl (G.2 0, 178, .inl sf) := (o_6725 (ma 2) ).trans f_6768
    have f_6770 : F_6727 (ma 2) = .inl (G.2 0, 178, .inl sf) := (o_6729 (ma 2) (ne_ao f_6769 f_6726)).trans f_6769
    have f_6771 : F_6736 (ma 2) = .inl (G.2 0, 178, .inl sf) := (o_6742 (ma 2) (ne_aa (by decide) f_6770 f_6733)).trans f_6770
    have f_6772 : F_6743 (ma 2) = .inl (G.2 0, 178, .inl sf) := (o_6747 (ma 2) ).trans f_6771
    have f_6773 : F_6758 (ma 2) = .inl (G.2 0, 178, .inl sf) := (f_6765 (ma 2) (ne_ao f_6772 f_6749) (ne_aa (by decide) f_6772 f_6756) (ne_aa (by decide) f_6772 f_6751)).trans f_6772
    have f_6774 : F_6714 (ma 3) = .inl (G.2 0, 2, .inl kf) := (o_6718 (ma 3) ).trans fk
    have f_6775 : F_6721 (ma 3) = .inl (G.2 0, 2, .inl kf) := (o_6725 (ma 3) ).trans f_6774
    have f_6776 : F_6727 (ma 3) = .inl (G.2 0, 2, .inl kf) := (o_6729 (ma 3) (ne_ao f_6775 f_6726)).trans f_6775
    have f_6777 : F_6736 (ma 3) = .inl (G.2 0, 2, .inl kf) := (o_6742 (ma 3) (ne_aa (by decide) f_6776 f_6733)).trans f_6776
    have f_6778 : F_6743 (ma 3) = .inl (G.2 0, 2, .inl kf) := (o_6747 (ma 3) ).trans f_6777
    have f_6779 : F_6758 (ma 3) = .inl (G.2 0, 2, .inl kf) := (f_6765 (ma 3) (ne_ao f_6778 f_6749) (ne_aa (by decide) f_6778 f_6756) (ne_aa (by decide) f_6778 f_6751)).trans f_6778
    have f_6780 : F_6758 (ma 4) = pcE G P_6738 := (f_6765 (ma 4) (ne_ao f_6757 f_6749) (ne_aa (by decide) f_6757 f_6756) (ne_aa (by decide) f_6757 f_6751)).trans f_6757
    have f_6781 : F_6714 (ma 5) = .inl (G.2 0, 60, .inl tf) := (o_6718 (ma 5) ).trans ft
    have f_6782 : F_6721 (ma 5) = .inl (G.2 0, 60, .inl tf) := (o_6725 (ma 5) ).trans f_6781
    have f_6783 : F_6727 (ma 5) = .inl (G.2 0, 60, .inl tf) := (o_6729 (ma 5) (ne_ao f_6782 f_6726)).trans f_6782
    have f_6784 : F_6736 (ma 5) = .inl (G.2 0, 60, .inl tf) := (o_6742 (ma 5) (ne_aa (by decide) f_6783 f_6733)).trans f_6783
    have f_6785 : F_6743 (ma 5) = .inl (G.2 0, 60, .inl tf) := (o_6747 (ma 5) ).trans f_6784
    have f_6786 : F_6758 (ma 5) = .inl (G.2 0, 60, .inl tf) := (f_6765 (ma 5) (ne_ao f_6785 f_6749) (ne_aa (by decide) f_6785 f_6756) (ne_aa (by decide) f_6785 f_6751)).trans f_6785
    have f_6787 : F_6714 (ma 6) = .inl (G.2 0, 52, .inl pf) := (o_6718 (ma 6) ).trans fq
    have f_6788 : F_6721 (ma 6) = .inl (G.2 0, 52, .inl pf) := (o_6725 (ma 6) ).trans f_6787
    have f_6789 : F_6727 (ma 6) = .inl (G.2 0, 52, .inl pf) := (o_6729 (ma 6) (ne_ao f_6788 f_6726)).trans f_6788
    have f_6790 : F_6736 (ma 6) = .inl (G.2 0, 52, .inl pf) := (o_6742 (ma 6) (ne_aa (by decide) f_6789 f_6733)).trans f_6789
    have f_6791 : F_6743 (ma 6) = .inl (G.2 0, 52, .inl pf) := (o_6747 (ma 6) ).trans f_6790
    have f_6792 : F_6758 (ma 6) = .inl (G.2 0, 52, .inl pf) := (f_6765 (ma 6) (ne_ao f_6791 f_6749) (ne_aa (by decide) f_6791 f_6756) (ne_aa (by decide) f_6791 f_6751)).trans f_6791
    exact r_i C0 hr hlk hw (v := (lowR (P_6738 2))) rfl ⟨(by rw [hu_6766]), ⟨_, _, _, _, _, _, _, _, _, f_6762, ⟨(congrArg nI (sv_n (st := A.1) hA.2.1.1)), hm1, rfl⟩, ⟨hz_6767, (pyM_ok (un := 6) (t := t9) (u := ordR 108 f9 f9 A.1.1 A.1.2.2.2.2.2) hz (by omega))⟩, ⟨f_6763, (sv_h hA.2.1.1 hz hhf)⟩, ⟨f_6773, hsf⟩, ⟨f_6779, hkf⟩, f_6780, ⟨f_6786, htf⟩, f_6792⟩, (fun q k0 k1 => ((f_6765 q k0 (k1 1 (by decide)) (k1 0 (by decide))).trans ((o_6747 q ).trans ((o_6742 q (k1 4 (by decide))).trans ((o_6729 q k0).trans ((o_6725 q ).trans (o_6718 q )))))))⟩ (Nat.le_refl _) (Nat.le_refl _) dX6_log_39 hQ
  · skip
    exact absurd c_19 (by omega)
abbrev rm_X6_exp : Room := { frames := 5, cells := 0, slots := 0, locals := 114 }
set_option maxHeartbeats 4000000 in
set_option maxRecDepth 100000 in
theorem k_X6_exp_x1 (l : Launch) (G : Gl) (L : List Nat) (F : Nat → va_E) (b : Nat) (ma : Nat → Nat) (A : AB) (th : Nat) (x9 y9 : Int32) (mb : b ∈ L) (hma : ∀ i, i < 7 → ma i ∈ L) (hM : MW G F b ma A th) (hA : okA A) (h9 : ¬ (inR x9 0 5 ∧ inR y9 0 5)) : CI l yX6_exp cX6_exp 3 (some .int) rm_X6_exp G L F [.ref b, .int (x9), .int (y9)] (fun r F1 => MW G F1 b ma A 1 ∧ mFr F F1 b ma) := by
  obtain ⟨mi, hh, zf, hf, sf, kf, tf, pf, pl, fb, ⟨hm0, hm1, hm2⟩, ⟨fz, hz⟩, ⟨fh, hhf⟩, ⟨fs, hsf⟩, ⟨fk, hkf⟩, fp, ⟨ft, htf⟩, fq⟩ := hM
  obtain ⟨hz0, hz1, hz2, hz3, hz4⟩ := ne_z zf hz
  have hc : A.1.1 ≤ 6 := hA.1.2.1
  have hc2 : 2 ≤ A.1.1 := hA.1.1
  have hpu : A.1.2.1 ≤ 100000 := hA.1.2.2.1
  have hrw : ∀ i k, i < 12 → k < 7 → zf (5 + 7 * i + k) = nI (A.1.2.2.2.2.2 i k).val := hz.row
  refine CG_of (by decide) (Nat.le_of_ble_eq_true rfl) rfl ?_
  intro p e s m args below meth c Q C0 hr hlk hnm hQ hw ls hl
  have hx := C0.x
  have hb := C0.b
  refine lv_aload_n hx hb dX6_exp_0 rfl (lv_at hl 0 rfl) ?_
  refine lv_aload_n hx hb dX6_exp_1 rfl (lv_at hl 0 rfl) ?_
  refine lv_iload_n hx hb dX6_exp_2 rfl (lv_at hl 1 rfl) ?_
  refine lv_iload_n hx hb dX6_exp_3 rfl (lv_at hl 2 rfl) ?_
  refine q_calli hw (q_runS (As := [.int (x9), .int (y9)]) (c_X6_areSlots l G L F (x9) (y9)) C0 hw sw_X6_115 rfl hl.1 rfl (Nat.le_of_ble_eq_true rfl) dX6_exp_4 ⟨by decide, by decide⟩ ⟨by decide, by decide⟩) rfl rfl (fun r_6795 F_6793 H locs hw hp_6794 => ?_)
  obtain ⟨he_6796, o_6797⟩ := hp_6794
  rw [if_neg h9] at he_6796
  subst he_6796
  refine lv_iconst (v := nI 5) hx hb dX6_exp_7 (by decide) ?_
  have f_6798 : F_6793 (ma 0) = .inl (G.2 0, 89, .inl zf) := (o_6797 (ma 0) ).trans fz
  have f_6799 : F_6793 b = mO ma mi hh := (o_6797 b ).trans fb
  refine q_calli hw (q_runV (As := [.int (nI (0)), .int (nI (5))]) (c_X6_refused_1 l G L F_6793 b ma mi hh zf mb f_6799 hma f_6798 (nI 5)) C0 hw vw_X6_119 mb f_6799 rfl rfl rfl hl.1 rfl (Nat.le_of_ble_eq_true rfl) dX6_exp_8 ⟨by decide, by decide⟩ ⟨by decide, by decide⟩) rfl rfl (fun r_6802 F_6800 H locs hw hp_6801 => ?_)
  obtain ⟨he_6803, o_6804⟩ := hp_6801
  subst he_6803
  have f_6805 : F_6800 b = mO ma mi hh := (o_6804 b ).trans f_6799
  refine q_put C0 hw mb f_6805 fw_X6_31 pw_X6_8 rfl rfl rfl (Nat.le_of_ble_eq_true rfl) dX6_exp_11 (fun F_6806 H locs hw f_6807 o_6808 => ?_)
  have f_6807 : F_6806 b = .inr (6, [.ref (ma 0), .int (mi 0), .ref (ma 1), .ref (ma 2), .ref (ma 3), .ref (ma 4), .int (mi 1), .ref (ma 5), .int (nI (1)), .ref (ma 6), .int (mi 3), .int (mi 4), .long (hh)]) := f_6807
  refine lv_aload_n hx hb dX6_exp_14 rfl (lv_at hl 0 rfl) ?_
  refine q_get C0 hw mb f_6807 fw_X6_31 rfl dX6_exp_15 ?_
  refine n_if_le (tgt := 23) hx hb dX6_exp_18 (by decide) (by decide) (fun c_18 => ?_) (fun c_18 => ?_)
  · skip
    exact absurd c_18 (by omega)
  · skip
    refine lv_iconst (v := nI 0) hx hb dX6_exp_21 (by decide) ?_
    have hb_6809 : F_6806 b = mO ma (va_up mi 2 (nI 1)) (hh) := f_6807
    have f_6810 : F_6800 (ma 0) = .inl (G.2 0, 89, .inl zf) := (o_6804 (ma 0) ).trans f_6798
    have f_6811 : F_6806 (ma 0) = .inl (G.2 0, 89, .inl zf) := (o_6808 (ma 0) (ne_ao f_6810 f_6805)).trans f_6810
    have f_6812 : F_6793 (ma 1) = .inl (G.2 0, 534, .inl hf) := (o_6797 (ma 1) ).trans fh
    have f_6813 : F_6800 (ma 1) = .inl (G.2 0, 534, .inl hf) := (o_6804 (ma 1) ).trans f_6812
    have f_6814 : F_6806 (ma 1) = .inl (G.2 0, 534, .inl hf) := (o_6808 (ma 1) (ne_ao f_6813 f_6805)).trans f_6813
    have f_6815 : F_6793 (ma 2) = .inl (G.2 0, 178, .inl sf) := (o_6797 (ma 2) ).trans fs
    have f_6816 : F_6800 (ma 2) = .inl (G.2 0, 178, .inl sf) := (o_6804 (ma 2) ).trans f_6815
    have f_6817 : F_6806 (ma 2) = .inl (G.2 0, 178, .inl sf) := (o_6808 (ma 2) (ne_ao f_6816 f_6805)).trans f_6816
    have f_6818 : F_6793 (ma 3) = .inl (G.2 0, 2, .inl kf) := (o_6797 (ma 3) ).trans fk
    have f_6819 : F_6800 (ma 3) = .inl (G.2 0, 2, .inl kf) := (o_6804 (ma 3) ).trans f_6818
    have f_6820 : F_6806 (ma 3) = .inl (G.2 0, 2, .inl kf) := (o_6808 (ma 3) (ne_ao f_6819 f_6805)).trans f_6819
    have f_6821 : F_6793 (ma 4) = pcE G pl := (o_6797 (ma 4) ).trans fp
    have f_6822 : F_6800 (ma 4) = pcE G pl := (o_6804 (ma 4) ).trans f_6821
    have f_6823 : F_6806 (ma 4) = pcE G pl := (o_6808 (ma 4) (ne_ao f_6822 f_6805)).trans f_6822
    have f_6824 : F_6793 (ma 5) = .inl (G.2 0, 60, .inl tf) := (o_6797 (ma 5) ).trans ft
    have f_6825 : F_6800 (ma 5) = .inl (G.2 0, 60, .inl tf) := (o_6804 (ma 5) ).trans f_6824
    have f_6826 : F_6806 (ma 5) = .inl (G.2 0, 60, .inl tf) := (o_6808 (ma 5) (ne_ao f_6825 f_6805)).trans f_6825
    have f_6827 : F_6793 (ma 6) = .inl (G.2 0, 52, .inl pf) := (o_6797 (ma 6) ).trans fq
    have f_6828 : F_6800 (ma 6) = .inl (G.2 0, 52, .inl pf) := (o_6804 (ma 6) ).trans f_6827
    have f_6829 : F_6806 (ma 6) = .inl (G.2 0, 52, .inl pf) := (o_6808 (ma 6) (ne_ao f_6828 f_6805)).trans f_6828
    exact r_i C0 hr hlk hw (v := nI 0) rfl ⟨⟨_, _, _, _, _, _, _, _, _, hb_6809, ⟨hm0, hm1, rfl⟩, ⟨f_6811, hz⟩, ⟨f_6814, hhf⟩, ⟨f_6817, hsf⟩, ⟨f_6820, hkf⟩, f_6823, ⟨f_6826, htf⟩, f_6829⟩, (fun q k0 k1 => ((o_6808 q k0).trans ((o_6804 q ).trans (o_6797 q ))))⟩ (Nat.le_refl _) (Nat.le_refl _) dX6_exp_22 hQ
set_option maxHeartbeats 4000000 in
set_option maxRecDepth 100000 in
theorem k_X6_exp_x2 (l : Launch) (G : Gl) (L : List Nat) (F : Nat → va_E) (b : Nat) (ma : Nat → Nat) (A : AB) (th : Nat) (x9 y9 : Int32) (mb : b ∈ L) (hma : ∀ i, i < 7 → ma i ∈ L) (hM : MW G F b ma A th) (hA : okA A) (h8 : inR x9 0 5 ∧ inR y9 0 5) (hm : A.1.2.1 < A.1.1 * 5) : CI l yX6_exp cX6_exp 3 (some .int) rm_X6_exp G L F [.ref b, .int (x9), .int (y9)] (fun r F1 => MW G F1 b ma A 2 ∧ mFr F F1 b ma) := by
  obtain ⟨mi, hh, zf, hf, sf, kf, tf, pf, pl, fb, ⟨hm0, hm1, hm2⟩, ⟨fz, hz⟩, ⟨fh, hhf⟩, ⟨fs, hsf⟩, ⟨fk, hkf⟩, fp, ⟨ft, htf⟩, fq⟩ := hM
  obtain ⟨hz0, hz1, hz2, hz3, hz4⟩ := ne_z zf hz
  have hc : A.1.1 ≤ 6 := hA.1.2.1
  have hc2 : 2 ≤ A.1.1 := hA.1.1
  have hpu : A.1.2.1 ≤ 100000 := hA.1.2.2.1
  have hrw : ∀ i k, i < 12 → k < 7 → zf (5 + 7 * i + k) = nI (A.1.2.2.2.2.2 i k).val := hz.row
  refine CG_of (by decide) (Nat.le_of_ble_eq_true rfl) rfl ?_
  intro p e s m args below meth c Q C0 hr hlk hnm hQ hw ls hl
  have hx := C0.x
  have hb := C0.b
  refine lv_aload_n hx hb dX6_exp_0 rfl (lv_at hl 0 rfl) ?_
  refine lv_aload_n hx hb dX6_exp_1 rfl (lv_at hl 0 rfl) ?_
  refine lv_iload_n hx hb dX6_exp_2 rfl (lv_at hl 1 rfl) ?_
  refine lv_iload_n hx hb dX6_exp_3 rfl (lv_at hl 2 rfl) ?_
  refine q_calli hw (q_runS (As := [.int (x9), .int (y9)]) (c_X6_areSlots l G L F (x9) (y9)) C0 hw sw_X6_115 rfl hl.1 rfl (Nat.le_of_ble_eq_true rfl) dX6_exp_4 ⟨by decide, by decide⟩ ⟨by decide, by decide⟩) rfl rfl (fun r_6832 F_6830 H locs hw hp_6831 => ?_)
  obtain ⟨he_6833, o_6834⟩ := hp_6831
  rw [if_pos h8] at he_6833
  subst he_6833
  refine lv_iconst (v := nI 5) hx hb dX6_exp_7 (by decide) ?_
  have f_6835 : F_6830 (ma 0) = .inl (G.2 0, 89, .inl zf) := (o_6834 (ma 0) ).trans fz
  have f_6836 : F_6830 b = mO ma mi hh := (o_6834 b ).trans fb
  refine q_calli hw (q_runV (As := [.int (nI (1)), .int (nI (5))]) (c_X6_refused_2 l G L F_6830 b ma mi hh zf 5 A.1.1 A.1.2.1 mb f_6836 hma f_6835 hz0 hz1 hc (by omega) hpu (by omega)) C0 hw vw_X6_119 mb f_6836 rfl rfl rfl hl.1 rfl (Nat.le_of_ble_eq_true rfl) dX6_exp_8 ⟨by decide, by decide⟩ ⟨by decide, by decide⟩) rfl rfl (fun r_6839 F_6837 H locs hw hp_6838 => ?_)
  obtain ⟨he_6840, o_6841⟩ := hp_6838
  subst he_6840
  have f_6842 : F_6837 b = mO ma mi hh := (o_6841 b ).trans f_6836
  refine q_put C0 hw mb f_6842 fw_X6_31 pw_X6_8 rfl rfl rfl (Nat.le_of_ble_eq_true rfl) dX6_exp_11 (fun F_6843 H locs hw f_6844 o_6845 => ?_)
  have f_6844 : F_6843 b = .inr (6, [.ref (ma 0), .int (mi 0), .ref (ma 1), .ref (ma 2), .ref (ma 3), .ref (ma 4), .int (mi 1), .ref (ma 5), .int (nI (2)), .ref (ma 6), .int (mi 3), .int (mi 4), .long (hh)]) := f_6844
  refine lv_aload_n hx hb dX6_exp_14 rfl (lv_at hl 0 rfl) ?_
  refine q_get C0 hw mb f_6844 fw_X6_31 rfl dX6_exp_15 ?_
  refine n_if_le (tgt := 23) hx hb dX6_exp_18 (by decide) (by decide) (fun c_18 => ?_) (fun c_18 => ?_)
  · skip
    exact absurd c_18 (by omega)
  · skip
    refine lv_iconst (v := nI 0) hx hb dX6_exp_21 (by decide) ?_
    have hb_6846 : F_6843 b = mO ma (va_up mi 2 (nI 2)) (hh) := f_6844
    have f_6847 : F_6837 (ma 0) = .inl (G.2 0, 89, .inl zf) := (o_6841 (ma 0) ).trans f_6835
    have f_6848 : F_6843 (ma 0) = .inl (G.2 0, 89, .inl zf) := (o_6845 (ma 0) (ne_ao f_6847 f_6842)).trans f_6847
    have f_6849 : F_6830 (ma 1) = .inl (G.2 0, 534, .inl hf) := (o_6834 (ma 1) ).trans fh
    have f_6850 : F_6837 (ma 1) = .inl (G.2 0, 534, .inl hf) := (o_6841 (ma 1) ).trans f_6849
    have f_6851 : F_6843 (ma 1) = .inl (G.2 0, 534, .inl hf) := (o_6845 (ma 1) (ne_ao f_6850 f_6842)).trans f_6850
    have f_6852 : F_6830 (ma 2) = .inl (G.2 0, 178, .inl sf) := (o_6834 (ma 2) ).trans fs
    have f_6853 : F_6837 (ma 2) = .inl (G.2 0, 178, .inl sf) := (o_6841 (ma 2) ).trans f_6852
    have f_6854 : F_6843 (ma 2) = .inl (G.2 0, 178, .inl sf) := (o_6845 (ma 2) (ne_ao f_6853 f_6842)).trans f_6853
    have f_6855 : F_6830 (ma 3) = .inl (G.2 0, 2, .inl kf) := (o_6834 (ma 3) ).trans fk
    have f_6856 : F_6837 (ma 3) = .inl (G.2 0, 2, .inl kf) := (o_6841 (ma 3) ).trans f_6855
    have f_6857 : F_6843 (ma 3) = .inl (G.2 0, 2, .inl kf) := (o_6845 (ma 3) (ne_ao f_6856 f_6842)).trans f_6856
    have f_6858 : F_6830 (ma 4) = pcE G pl := (o_6834 (ma 4) ).trans fp
    have f_6859 : F_6837 (ma 4) = pcE G pl := (o_6841 (ma 4) ).trans f_6858
    have f_6860 : F_6843 (ma 4) = pcE G pl := (o_6845 (ma 4) (ne_ao f_6859 f_6842)).trans f_6859
    have f_6861 : F_6830 (ma 5) = .inl (G.2 0, 60, .inl tf) := (o_6834 (ma 5) ).trans ft
    have f_6862 : F_6837 (ma 5) = .inl (G.2 0, 60, .inl tf) := (o_6841 (ma 5) ).trans f_6861
    have f_6863 : F_6843 (ma 5) = .inl (G.2 0, 60, .inl tf) := (o_6845 (ma 5) (ne_ao f_6862 f_6842)).trans f_6862
    have f_6864 : F_6830 (ma 6) = .inl (G.2 0, 52, .inl pf) := (o_6834 (ma 6) ).trans fq
    have f_6865 : F_6837 (ma 6) = .inl (G.2 0, 52, .inl pf) := (o_6841 (ma 6) ).trans f_6864
    have f_6866 : F_6843 (ma 6) = .inl (G.2 0, 52, .inl pf) := (o_6845 (ma 6) (ne_ao f_6865 f_6842)).trans f_6865
    exact r_i C0 hr hlk hw (v := nI 0) rfl ⟨⟨_, _, _, _, _, _, _, _, _, hb_6846, ⟨hm0, hm1, rfl⟩, ⟨f_6848, hz⟩, ⟨f_6851, hhf⟩, ⟨f_6854, hsf⟩, ⟨f_6857, hkf⟩, f_6860, ⟨f_6863, htf⟩, f_6866⟩, (fun q k0 k1 => ((o_6845 q k0).trans ((o_6841 q ).trans (o_6834 q ))))⟩ (Nat.le_refl _) (Nat.le_refl _) dX6_exp_22 hQ
set_option maxHeartbeats 4000000 in
set_option maxRecDepth 100000 in
theorem k_X6_exp (l : Launch) (G : Gl) (L : List Nat) (F : Nat → va_E) (b : Nat) (ma : Nat → Nat) (A : AB) (th : Nat) (f9 t9 : Nat) (mb : b ∈ L) (hma : ∀ i, i < 7 → ma i ∈ L) (hM : MW G F b ma A th) (hA : okA A) (hf9 : f9 < 6) (ht9 : t9 < 6) (h8 : inR (nI f9) 0 5 ∧ inR (nI t9) 0 5) (hm : 5 * A.1.1 ≤ A.1.2.1) : CI l yX6_exp cX6_exp 3 (some .int) rm_X6_exp G L F [.ref b, .int (nI (f9)), .int (nI (t9))] (fun r F1 => r = lowR (ordR 101 f9 f9 A.1.1 A.1.2.2.2.2.2) ∧ MW G F1 b ma (aSave A (ordS 101 f9 f9 t9 A.1)) 0 ∧ mFr F F1 b ma) := by
  obtain ⟨mi, hh, zf, hf, sf, kf, tf, pf, pl, fb, ⟨hm0, hm1, hm2⟩, ⟨fz, hz⟩, ⟨fh, hhf⟩, ⟨fs, hsf⟩, ⟨fk, hkf⟩, fp, ⟨ft, htf⟩, fq⟩ := hM
  obtain ⟨hz0, hz1, hz2, hz3, hz4⟩ := ne_z zf hz
  have hc : A.1.1 ≤ 6 := hA.1.2.1
  have hc2 : 2 ≤ A.1.1 := hA.1.1
  have hpu : A.1.2.1 ≤ 100000 := hA.1.2.2.1
  have hrw : ∀ i k, i < 12 → k < 7 → zf (5 + 7 * i + k) = nI (A.1.2.2.2.2.2 i k).val := hz.row
  refine CG_of (by decide) (Nat.le_of_ble_eq_true rfl) rfl ?_
  intro p e s m args below meth c Q C0 hr hlk hnm hQ hw ls hl
  have hx := C0.x
  have hb := C0.b
  refine lv_aload_n hx hb dX6_exp_0 rfl (lv_at hl 0 rfl) ?_
  refine lv_aload_n hx hb dX6_exp_1 rfl (lv_at hl 0 rfl) ?_
  refine lv_iload_n hx hb dX6_exp_2 rfl (lv_at hl 1 rfl) ?_
  refine lv_iload_n hx hb dX6_exp_3 rfl (lv_at hl 2 rfl) ?_
  refine q_calli hw (q_runS (As := [.int (nI (f9)), .int (nI (t9))]) (c_X6_areSlots l G L F (nI (f9)) (nI (t9))) C0 hw sw_X6_115 rfl hl.1 rfl (Nat.le_of_ble_eq_true rfl) dX6_exp_4 ⟨by decide, by decide⟩ ⟨by decide, by decide⟩) rfl rfl (fun r_6869 F_6867 H locs hw hp_6868 => ?_)
  obtain ⟨he_6870, o_6871⟩ := hp_6868
  rw [if_pos h8] at he_6870
  subst he_6870
  refine lv_iconst (v := nI 5) hx hb dX6_exp_7 (by decide) ?_
  have f_6872 : F_6867 (ma 0) = .inl (G.2 0, 89, .inl zf) := (o_6871 (ma 0) ).trans fz
  have f_6873 : F_6867 b = mO ma mi hh := (o_6871 b ).trans fb
  refine q_calli hw (q_runV (As := [.int (nI (1)), .int (nI (5))]) (c_X6_refused l G L F_6867 b ma mi hh zf 5 A.1.1 A.1.2.1 mb f_6873 hma f_6872 hz0 hz1 hc (by omega) hpu (by omega)) C0 hw vw_X6_119 mb f_6873 rfl rfl rfl hl.1 rfl (Nat.le_of_ble_eq_true rfl) dX6_exp_8 ⟨by decide, by decide⟩ ⟨by decide, by decide⟩) rfl rfl (fun r_6876 F_6874 H locs hw hp_6875 => ?_)
  obtain ⟨he_6877, o_6878⟩ := hp_6875
  subst he_6877
  have f_6879 : F_6874 b = mO ma mi hh := (o_6878 b ).trans f_6873
  refine q_put C0 hw mb f_6879 fw_X6_31 pw_X6_8 rfl rfl rfl (Nat.le_of_ble_eq_true rfl) dX6_exp_11 (fun F_6880 H locs hw f_6881 o_6882 => ?_)
  have f_6881 : F_6880 b = .inr (6, [.ref (ma 0), .int (mi 0), .ref (ma 1), .ref (ma 2), .ref (ma 3), .ref (ma 4), .int (mi 1), .ref (ma 5), .int (nI (0)), .ref (ma 6), .int (mi 3), .int (mi 4), .long (hh)]) := f_6881
  refine lv_aload_n hx hb dX6_exp_14 rfl (lv_at hl 0 rfl) ?_
  refine q_get C0 hw mb f_6881 fw_X6_31 rfl dX6_exp_15 ?_
  refine n_if_le (tgt := 23) hx hb dX6_exp_18 (by decide) (by decide) (fun c_18 => ?_) (fun c_18 => ?_)
  · skip
    have hb_6883 : F_6880 b = mO ma (va_up mi 2 (nI 0)) hh := f_6881
    refine lv_aload_n hx hb dX6_exp_23 rfl (lv_at hl 0 rfl) ?_
    refine lv_iload_n hx hb dX6_exp_24 rfl (lv_at hl 1 rfl) ?_
    have f_6884 : F_6867 (ma 4) = pcE G pl := (o_6871 (ma 4) ).trans fp
    have f_6885 : F_6874 (ma 4) = pcE G pl := (o_6878 (ma 4) ).trans f_6884
    have f_6886 : F_6880 (ma 4) = pcE G pl := (o_6882 (ma 4) (ne_ao f_6885 f_6879)).trans f_6885
    have f_6887 : F_6874 (ma 0) = .inl (G.2 0, 89, .inl zf) := (o_6878 (ma 0) ).trans f_6872
    have f_6888 : F_6880 (ma 0) = .inl (G.2 0, 89, .inl zf) := (o_6882 (ma 0) (ne_ao f_6887 f_6879)).trans f_6887
    refine q_callv hw (q_runV (As := [.int (nI (f9))]) (c_X6_layExp l G L F_6880 b ma (va_up mi 2 (nI 0)) hh pl zf A.1.1 A.1.2.2.2.2.2 f9 mb hb_6883 hma f_6886 f_6888 hz0 (by omega) (by omega) (by omega) hrw) C0 hw vw_X6_153 mb hb_6883 rfl rfl rfl hl.1 rfl (Nat.le_of_ble_eq_true rfl) dX6_exp_25 ⟨by decide, by decide⟩ ⟨by decide, by decide⟩) rfl rfl (fun F_6889 H locs hw hp_6890 => ?_)
    obtain ⟨⟨P_6891, f_6894, r_6892, ro_6893⟩, o_6895⟩ := hp_6890
    refine lv_aload_n hx hb dX6_exp_28 rfl (lv_at hl 0 rfl) ?_
    refine lv_iconst (v := nI 5) hx hb dX6_exp_29 (by decide) ?_
    refine lv_iload_n hx hb dX6_exp_30 rfl (lv_at hl 2 rfl) ?_
    refine q_calli hw (q_runS (As := [.int (nI (t9))]) (c_X6_flowAt2 l G L F_6889 t9 (by omega)) C0 hw sw_X6_138 rfl hl.1 rfl (Nat.le_of_ble_eq_true rfl) dX6_exp_31 ⟨by decide, by decide⟩ ⟨by decide, by decide⟩) rfl rfl (fun r_6898 F_6896 H locs hw hp_6897 => ?_)
    obtain ⟨he_6899, o_6900⟩ := hp_6897
    subst he_6899
    have f_6901 : F_6889 b = mO ma ((va_up mi 2 (nI 0))) hh := (o_6895 b (ne_oa hb_6883 f_6886)).trans hb_6883
    have f_6902 : F_6896 b = mO ma ((va_up mi 2 (nI 0))) hh := (o_6900 b ).trans f_6901
    have f_6903 : F_6889 (ma 0) = .inl (G.2 0, 89, .inl zf) := (o_6895 (ma 0) (ne_aa (by decide) f_6888 f_6886)).trans f_6888
    have f_6904 : F_6896 (ma 0) = .inl (G.2 0, 89, .inl zf) := (o_6900 (ma 0) ).trans f_6903
    have f_6905 : F_6867 (ma 1) = .inl (G.2 0, 534, .inl hf) := (o_6871 (ma 1) ).trans fh
    have f_6906 : F_6874 (ma 1) = .inl (G.2 0, 534, .inl hf) := (o_6878 (ma 1) ).trans f_6905
    have f_6907 : F_6880 (ma 1) = .inl (G.2 0, 534, .inl hf) := (o_6882 (ma 1) (ne_ao f_6906 f_6879)).trans f_6906
    have f_6908 : F_6889 (ma 1) = .inl (G.2 0, 534, .inl hf) := (o_6895 (ma 1) (ne_aa (by decide) f_6907 f_6886)).trans f_6907
    have f_6909 : F_6896 (ma 1) = .inl (G.2 0, 534, .inl hf) := (o_6900 (ma 1) ).trans f_6908
    have f_6910 : F_6896 (ma 4) = pcE G P_6891 := (o_6900 (ma 4) ).trans f_6894
    refine q_calli hw (q_runV (As := [.int (nI (5)), .int (nI (5 + 7 * (6 + t9)))]) (c_X6_ended l G L F_6896 b ma ((va_up mi 2 (nI 0))) hh zf hf P_6891 A.2.1.1 5 (5 + 7 * (6 + t9)) A.1.1 A.1.2.1 A.1.2.2.1 A.1.2.2.2.1 mb f_6902 hm0 hA.2.1.1 hma f_6904 f_6909 f_6910 hz0 hc hc2 hz1 hz2 hz3 (by omega) (by omega) (by omega)) C0 hw vw_X6_129 mb f_6902 rfl rfl rfl hl.1 rfl (Nat.le_of_ble_eq_true rfl) dX6_exp_34 ⟨by decide, by decide⟩ ⟨by decide, by decide⟩) rfl rfl (fun r_6913 F_6911 H locs hw hp_6912 => ?_)
    obtain ⟨f_6914, f_6915, f_6916, f_6917, f_6918⟩ := hp_6912
    subst f_6914
    have hu_6919 : P_6891 2 = ordR 101 f9 f9 A.1.1 A.1.2.2.2.2.2 := r_6892.trans (exp_eq (hA.1.2.2.2 f9 (by omega)).1 (hA.1.2.2.2 f9 (by omega)).2 hc)
    have hz_6920 := f_6917
    rw [hu_6919] at hz_6920
    have f_6921 : F_6867 (ma 2) = .inl (G.2 0, 178, .inl sf) := (o_6871 (ma 2) ).trans fs
    have f_6922 : F_6874 (ma 2) = .inl (G.2 0, 178, .inl sf) := (o_6878 (ma 2) ).trans f_6921
    have f_6923 : F_6880 (ma 2) = .inl (G.2 0, 178, .inl sf) := (o_6882 (ma 2) (ne_ao f_6922 f_6879)).trans f_6922
    have f_6924 : F_6889 (ma 2) = .inl (G.2 0, 178, .inl sf) := (o_6895 (ma 2) (ne_aa (by decide) f_6923 f_6886)).trans f_6923
    have f_6925 : F_6896 (ma 2) = .inl (G.2 0, 178, .inl sf) := (o_6900 (ma 2) ).trans f_6924
    have f_6926 : F_6911 (ma 2) = .inl (G.2 0, 178, .inl sf) := (f_6918 (ma 2) (ne_ao f_6925 f_6902) (ne_aa (by decide) f_6925 f_6909) (ne_aa (by decide) f_6925 f_6904)).trans f_6925
    have f_6927 : F_6867 (ma 3) = .inl (G.2 0, 2, .inl kf) := (o_6871 (ma 3) ).trans fk
    have f_6928 : F_6874 (ma 3) = .inl (G.2 0, 2, .inl kf) := (o_6878 (ma 3) ).trans f_6927
    have f_6929 : F_6880 (ma 3) = .inl (G.2 0, 2, .inl kf) := (o_6882 (ma 3) (ne_ao f_6928 f_6879)).trans f_6928
    have f_6930 : F_6889 (ma 3) = .inl (G.2 0, 2, .inl kf) := (o_6895 (ma 3) (ne_aa (by decide) f_6929 f_6886)).trans f_6929
    have f_6931 : F_6896 (ma 3) = .inl (G.2 0, 2, .inl kf) := (o_6900 (ma 3) ).trans f_6930
    have f_6932 : F_6911 (ma 3) = .inl (G.2 0, 2, .inl kf) := (f_6918 (ma 3) (ne_ao f_6931 f_6902) (ne_aa (by decide) f_6931 f_6909) (ne_aa (by decide) f_6931 f_6904)).trans f_6931
    have f_6933 : F_6911 (ma 4) = pcE G P_6891 := (f_6918 (ma 4) (ne_ao f_6910 f_6902) (ne_aa (by decide) f_6910 f_6909) (ne_aa (by decide) f_6910 f_6904)).trans f_6910
    have f_6934 : F_6867 (ma 5) = .inl (G.2 0, 60, .inl tf) := (o_6871 (ma 5) ).trans ft
    have f_6935 : F_6874 (ma 5) = .inl (G.2 0, 60, .inl tf) := (o_6878 (ma 5) ).trans f_6934
    have f_6936 : F_6880 (ma 5) = .inl (G.2 0, 60, .inl tf) := (o_6882 (ma 5) (ne_ao f_6935 f_6879)).trans f_6935
    have f_6937 : F_6889 (ma 5) = .inl (G.2 0, 60, .inl tf) := (o_6895 (ma 5) (ne_aa (by decide) f_6936 f_6886)).trans f_6936
    have f_6938 : F_6896 (ma 5) = .inl (G.2 0, 60, .inl tf) := (o_6900 (ma 5) ).trans f_6937
    have f_6939 : F_6911 (ma 5) = .inl (G.2 0, 60, .inl tf) := (f_6918 (ma 5) (ne_ao f_6938 f_6902) (ne_aa (by decide) f_6938 f_6909) (ne_aa (by decide) f_6938 f_6904)).trans f_6938
    have f_6940 : F_6867 (ma 6) = .inl (G.2 0, 52, .inl pf) := (o_6871 (ma 6) ).trans fq
    have f_6941 : F_6874 (ma 6) = .inl (G.2 0, 52, .inl pf) := (o_6878 (ma 6) ).trans f_6940
    have f_6942 : F_6880 (ma 6) = .inl (G.2 0, 52, .inl pf) := (o_6882 (ma 6) (ne_ao f_6941 f_6879)).trans f_6941
    have f_6943 : F_6889 (ma 6) = .inl (G.2 0, 52, .inl pf) := (o_6895 (ma 6) (ne_aa (by decide) f_6942 f_6886)).trans f_6942
    have f_6944 : F_6896 (ma 6) = .inl (G.2 0, 52, .inl pf) := (o_6900 (ma 6) ).trans f_6943
    have f_6945 : F_6911 (ma 6) = .inl (G.2 0, 52, .inl pf) := (f_6918 (ma 6) (ne_ao f_6944 f_6902) (ne_aa (by decide) f_6944 f_6909) (ne_aa (by decide) f_6944 f_6904)).trans f_6944
    exact r_i C0 hr hlk hw (v := (lowR (P_6891 2))) rfl ⟨(by rw [hu_6919]), ⟨_, _, _, _, _, _, _, _, _, f_6915, ⟨(congrArg nI (sv_n (st := A.1) hA.2.1.1)), hm1, rfl⟩, ⟨hz_6920, (pyM_ok (un := 5) (t := (6 + t9)) (u := ordR 101 f9 f9 A.1.1 A.1.2.2.2.2.2) hz (by omega))⟩, ⟨f_6916, (sv_h hA.2.1.1 hz hhf)⟩, ⟨f_6926, hsf⟩, ⟨f_6932, hkf⟩, f_6933, ⟨f_6939, htf⟩, f_6945⟩, (fun q k0 k1 => ((f_6918 q k0 (k1 1 (by decide)) (k1 0 (by decide))).trans ((o_6900 q ).trans ((o_6895 q (k1 4 (by decide))).trans ((o_6882 q k0).trans ((o_6878 q ).trans (o_6871 q )))))))⟩ (Nat.le_refl _) (Nat.le_refl _) dX6_exp_37 hQ
  · skip
    exact absurd c_18 (by omega)
abbrev rm_X6_compose : Room := { frames := 5, cells := 0, slots := 0, locals := 116 }
set_option maxHeartbeats 4000000 in
set_option maxRecDepth 100000 in
theorem k_X6_compose_x1 (l : Launch) (G : Gl) (L : List Nat) (F : Nat → va_E) (b : Nat) (ma : Nat → Nat) (A : AB) (th : Nat) (x9 y9 z9 : Int32) (mb : b ∈ L) (hma : ∀ i, i < 7 → ma i ∈ L) (hM : MW G F b ma A th) (hA : okA A) (h9 : ¬ (inR x9 0 5 ∧ inR y9 0 5)) : CI l yX6_compose cX6_compose 4 (some .int) rm_X6_compose G L F [.ref b, .int (x9), .int (y9), .int (z9)] (fun r F1 => MW G F1 b ma A 1 ∧ mFr F F1 b ma) := by
  obtain ⟨mi, hh, zf, hf, sf, kf, tf, pf, pl, fb, ⟨hm0, hm1, hm2⟩, ⟨fz, hz⟩, ⟨fh, hhf⟩, ⟨fs, hsf⟩, ⟨fk, hkf⟩, fp, ⟨ft, htf⟩, fq⟩ := hM
  obtain ⟨hz0, hz1, hz2, hz3, hz4⟩ := ne_z zf hz
  have hc : A.1.1 ≤ 6 := hA.1.2.1
  have hc2 : 2 ≤ A.1.1 := hA.1.1
  have hpu : A.1.2.1 ≤ 100000 := hA.1.2.2.1
  have hrw : ∀ i k, i < 12 → k < 7 → zf (5 + 7 * i + k) = nI (A.1.2.2.2.2.2 i k).val := hz.row
  refine CG_of (by decide) (Nat.le_of_ble_eq_true rfl) rfl ?_
  intro p e s m args below meth c Q C0 hr hlk hnm hQ hw ls hl
  have hx := C0.x
  have hb := C0.b
  refine lv_aload_n hx hb dX6_compose_0 rfl (lv_at hl 0 rfl) ?_
  refine lv_aload_n hx hb dX6_compose_1 rfl (lv_at hl 0 rfl) ?_
  refine lv_iload_n hx hb dX6_compose_2 rfl (lv_at hl 1 rfl) ?_
  refine lv_iload_n hx hb dX6_compose_3 rfl (lv_at hl 2 rfl) ?_
  refine q_calli hw (q_runS (As := [.int (x9), .int (y9)]) (c_X6_areSlots l G L F (x9) (y9)) C0 hw sw_X6_115 rfl hl.1 rfl (Nat.le_of_ble_eq_true rfl) dX6_compose_4 ⟨by decide, by decide⟩ ⟨by decide, by decide⟩) rfl rfl (fun r_6948 F_6946 H locs hw hp_6947 => ?_)
  obtain ⟨he_6949, o_6950⟩ := hp_6947
  rw [if_neg h9] at he_6949
  subst he_6949
  refine n_if_eq (tgt := 21) hx hb dX6_compose_7 (by decide) (by decide) (fun c_7 => ?_) (fun c_7 => ?_)
  · skip
    refine lv_iconst (v := nI 0) hx hb dX6_compose_21 (by decide) ?_
    refine lv_iconst (v := nI 4) hx hb dX6_compose_22 (by decide) ?_
    have f_6951 : F_6946 (ma 0) = .inl (G.2 0, 89, .inl zf) := (o_6950 (ma 0) ).trans fz
    have f_6952 : F_6946 b = mO ma mi hh := (o_6950 b ).trans fb
    refine q_calli hw (q_runV (As := [.int (nI (0)), .int (nI (4))]) (c_X6_refused_1 l G L F_6946 b ma mi hh zf mb f_6952 hma f_6951 (nI 4)) C0 hw vw_X6_119 mb f_6952 rfl rfl rfl hl.1 rfl (Nat.le_of_ble_eq_true rfl) dX6_compose_23 ⟨by decide, by decide⟩ ⟨by decide, by decide⟩) rfl rfl (fun r_6955 F_6953 H locs hw hp_6954 => ?_)
    obtain ⟨he_6956, o_6957⟩ := hp_6954
    subst he_6956
    have f_6958 : F_6953 b = mO ma mi hh := (o_6957 b ).trans f_6952
    refine q_put C0 hw mb f_6958 fw_X6_31 pw_X6_8 rfl rfl rfl (Nat.le_of_ble_eq_true rfl) dX6_compose_26 (fun F_6959 H locs hw f_6960 o_6961 => ?_)
    have f_6960 : F_6959 b = .inr (6, [.ref (ma 0), .int (mi 0), .ref (ma 1), .ref (ma 2), .ref (ma 3), .ref (ma 4), .int (mi 1), .ref (ma 5), .int (nI (1)), .ref (ma 6), .int (mi 3), .int (mi 4), .long (hh)]) := f_6960
    refine lv_aload_n hx hb dX6_compose_29 rfl (lv_at hl 0 rfl) ?_
    refine q_get C0 hw mb f_6960 fw_X6_31 rfl dX6_compose_30 ?_
    refine n_if_le (tgt := 38) hx hb dX6_compose_33 (by decide) (by decide) (fun c_33 => ?_) (fun c_33 => ?_)
    · skip
      exact absurd c_33 (by omega)
    · skip
      refine lv_iconst (v := nI 0) hx hb dX6_compose_36 (by decide) ?_
      have hb_6962 : F_6959 b = mO ma (va_up mi 2 (nI 1)) (hh) := f_6960
      have f_6963 : F_6953 (ma 0) = .inl (G.2 0, 89, .inl zf) := (o_6957 (ma 0) ).trans f_6951
      have f_6964 : F_6959 (ma 0) = .inl (G.2 0, 89, .inl zf) := (o_6961 (ma 0) (ne_ao f_6963 f_6958)).trans f_6963
      have f_6965 : F_6946 (ma 1) = .inl (G.2 0, 534, .inl hf) := (o_6950 (ma 1) ).trans fh
      have f_6966 : F_6953 (ma 1) = .inl (G.2 0, 534, .inl hf) := (o_6957 (ma 1) ).trans f_6965
      have f_6967 : F_6959 (ma 1) = .inl (G.2 0, 534, .inl hf) := (o_6961 (ma 1) (ne_ao f_6966 f_6958)).trans f_6966
      have f_6968 : F_6946 (ma 2) = .inl (G.2 0, 178, .inl sf) := (o_6950 (ma 2) ).trans fs
      have f_6969 : F_6953 (ma 2) = .inl (G.2 0, 178, .inl sf) := (o_6957 (ma 2) ).trans f_6968
      have f_6970 : F_6959 (ma 2) = .inl (G.2 0, 178, .inl sf) := (o_6961 (ma 2) (ne_ao f_6969 f_6958)).trans f_6969
      have f_6971 : F_6946 (ma 3) = .inl (G.2 0, 2, .inl kf) := (o_6950 (ma 3) ).trans fk
      have f_6972 : F_6953 (ma 3) = .inl (G.2 0, 2, .inl kf) := (o_6957 (ma 3) ).trans f_6971
      have f_6973 : F_6959 (ma 3) = .inl (G.2 0, 2, .inl kf) := (o_6961 (ma 3) (ne_ao f_6972 f_6958)).trans f_6972
      have f_6974 : F_6946 (ma 4) = pcE G pl := (o_6950 (ma 4) ).trans fp
      have f_6975 : F_6953 (ma 4) = pcE G pl := (o_6957 (ma 4) ).trans f_6974
      have f_6976 : F_6959 (ma 4) = pcE G pl := (o_6961 (ma 4) (ne_ao f_6975 f_6958)).trans f_6975
      have f_6977 : F_6946 (ma 5) = .inl (G.2 0, 60, .inl tf) := (o_6950 (ma 5) ).trans ft
      have f_6978 : F_6953 (ma 5) = .inl (G.2 0, 60, .inl tf) := (o_6957 (ma 5) ).trans f_6977
      have f_6979 : F_6959 (ma 5) = .inl (G.2 0, 60, .inl tf) := (o_6961 (ma 5) (ne_ao f_6978 f_6958)).trans f_6978
      have f_6980 : F_6946 (ma 6) = .inl (G.2 0, 52, .inl pf) := (o_6950 (ma 6) ).trans fq
      have f_6981 : F_6953 (ma 6) = .inl (G.2 0, 52, .inl pf) := (o_6957 (ma 6) ).trans f_6980
      have f_6982 : F_6959 (ma 6) = .inl (G.2 0, 52, .inl pf) := (o_6961 (ma 6) (ne_ao f_6981 f_6958)).trans f_6981
      exact r_i C0 hr hlk hw (v := nI 0) rfl ⟨⟨_, _, _, _, _, _, _, _, _, hb_6962, ⟨hm0, hm1, rfl⟩, ⟨f_6964, hz⟩, ⟨f_6967, hhf⟩, ⟨f_6970, hsf⟩, ⟨f_6973, hkf⟩, f_6976, ⟨f_6979, htf⟩, f_6982⟩, (fun q k0 k1 => ((o_6961 q k0).trans ((o_6957 q ).trans (o_6950 q ))))⟩ (Nat.le_refl _) (Nat.le_refl _) dX6_compose_37 hQ
  · skip
    exact absurd c_7 (by omega)
set_option maxHeartbeats 4000000 in
set_option maxRecDepth 100000 in
theorem k_X6_compose_x1b (l : Launch) (G : Gl) (L : List Nat) (F : Nat → va_E) (b : Nat) (ma : Nat → Nat) (A : AB) (th : Nat) (x9 y9 z9 : Int32) (mb : b ∈ L) (hma : ∀ i, i < 7 → ma i ∈ L) (hM : MW G F b ma A th) (hA : okA A) (h8 : inR x9 0 5 ∧ inR y9 0 5) (h9 : ¬ inR z9 0 5) : CI l yX6_compose cX6_compose 4 (some .int) rm_X6_compose G L F [.ref b, .int (x9), .int (y9), .int (z9)] (fun r F1 => MW G F1 b ma A 1 ∧ mFr F F1 b ma) := by
  obtain ⟨mi, hh, zf, hf, sf, kf, tf, pf, pl, fb, ⟨hm0, hm1, hm2⟩, ⟨fz, hz⟩, ⟨fh, hhf⟩, ⟨fs, hsf⟩, ⟨fk, hkf⟩, fp, ⟨ft, htf⟩, fq⟩ := hM
  obtain ⟨hz0, hz1, hz2, hz3, hz4⟩ := ne_z zf hz
  have hc : A.1.1 ≤ 6 := hA.1.2.1
  have hc2 : 2 ≤ A.1.1 := hA.1.1
  have hpu : A.1.2.1 ≤ 100000 := hA.1.2.2.1
  have hrw : ∀ i k, i < 12 → k < 7 → zf (5 + 7 * i + k) = nI (A.1.2.2.2.2.2 i k).val := hz.row
  refine CG_of (by decide) (Nat.le_of_ble_eq_true rfl) rfl ?_
  intro p e s m args below meth c Q C0 hr hlk hnm hQ hw ls hl
  have hx := C0.x
  have hb := C0.b
  refine lv_aload_n hx hb dX6_compose_0 rfl (lv_at hl 0 rfl) ?_
  refine lv_aload_n hx hb dX6_compose_1 rfl (lv_at hl 0 rfl) ?_
  refine lv_iload_n hx hb dX6_compose_2 rfl (lv_at hl 1 rfl) ?_
  refine lv_iload_n hx hb dX6_compose_3 rfl (lv_at hl 2 rfl) ?_
  refine q_calli hw (q_runS (As := [.int (x9), .int (y9)]) (c_X6_areSlots l G L F (x9) (y9)) C0 hw sw_X6_115 rfl hl.1 rfl (Nat.le_of_ble_eq_true rfl) dX6_compose_4 ⟨by decide, by decide⟩ ⟨by decide, by decide⟩) rfl rfl (fun r_6985 F_6983 H locs hw hp_6984 => ?_)
  obtain ⟨he_6986, o_6987⟩ := hp_6984
  rw [if_pos h8] at he_6986
  subst he_6986
  refine n_if_eq (tgt := 21) hx hb dX6_compose_7 (by decide) (by decide) (fun c_7 => ?_) (fun c_7 => ?_)
  · skip
    exact absurd c_7 (by omega)
  · skip
    refine lv_iload_n hx hb dX6_compose_10 rfl (lv_at hl 3 rfl) ?_
    refine q_calli hw (q_runS (As := [.int (z9)]) (c_X6_isSlot l G L F_6983 (z9)) C0 hw sw_X6_42 rfl hl.1 rfl (Nat.le_of_ble_eq_true rfl) dX6_compose_11 ⟨by decide, by decide⟩ ⟨by decide, by decide⟩) rfl rfl (fun r_6990 F_6988 H locs hw hp_6989 => ?_)
    obtain ⟨he_6991, o_6992⟩ := hp_6989
    rw [if_neg h9] at he_6991
    subst he_6991
    refine n_if_eq (tgt := 21) hx hb dX6_compose_14 (by decide) (by decide) (fun c_14 => ?_) (fun c_14 => ?_)
    · skip
      refine lv_iconst (v := nI 0) hx hb dX6_compose_21 (by decide) ?_
      refine lv_iconst (v := nI 4) hx hb dX6_compose_22 (by decide) ?_
      have f_6993 : F_6983 (ma 0) = .inl (G.2 0, 89, .inl zf) := (o_6987 (ma 0) ).trans fz
      have f_6994 : F_6988 (ma 0) = .inl (G.2 0, 89, .inl zf) := (o_6992 (ma 0) ).trans f_6993
      have f_6995 : F_6983 b = mO ma mi hh := (o_6987 b ).trans fb
      have f_6996 : F_6988 b = mO ma mi hh := (o_6992 b ).trans f_6995
      refine q_calli hw (q_runV (As := [.int (nI (0)), .int (nI (4))]) (c_X6_refused_1 l G L F_6988 b ma mi hh zf mb f_6996 hma f_6994 (nI 4)) C0 hw vw_X6_119 mb f_6996 rfl rfl rfl hl.1 rfl (Nat.le_of_ble_eq_true rfl) dX6_compose_23 ⟨by decide, by decide⟩ ⟨by decide, by decide⟩) rfl rfl (fun r_6999 F_6997 H locs hw hp_6998 => ?_)
      obtain ⟨he_7000, o_7001⟩ := hp_6998
      subst he_7000
      have f_7002 : F_6997 b = mO ma mi hh := (o_7001 b ).trans f_6996
      refine q_put C0 hw mb f_7002 fw_X6_31 pw_X6_8 rfl rfl rfl (Nat.le_of_ble_eq_true rfl) dX6_compose_26 (fun F_7003 H locs hw f_7004 o_7005 => ?_)
      have f_7004 : F_7003 b = .inr (6, [.ref (ma 0), .int (mi 0), .ref (ma 1), .ref (ma 2), .ref (ma 3), .ref (ma 4), .int (mi 1), .ref (ma 5), .int (nI (1)), .ref (ma 6), .int (mi 3), .int (mi 4), .long (hh)]) := f_7004
      refine lv_aload_n hx hb dX6_compose_29 rfl (lv_at hl 0 rfl) ?_
      refine q_get C0 hw mb f_7004 fw_X6_31 rfl dX6_compose_30 ?_
      refine n_if_le (tgt := 38) hx hb dX6_compose_33 (by decide) (by decide) (fun c_33 => ?_) (fun c_33 => ?_)
      · skip
        exact absurd c_33 (by omega)
      · skip
        refine lv_iconst (v := nI 0) hx hb dX6_compose_36 (by decide) ?_
        have hb_7006 : F_7003 b = mO ma (va_up mi 2 (nI 1)) (hh) := f_7004
        have f_7007 : F_6997 (ma 0) = .inl (G.2 0, 89, .inl zf) := (o_7001 (ma 0) ).trans f_6994
        have f_7008 : F_7003 (ma 0) = .inl (G.2 0, 89, .inl zf) := (o_7005 (ma 0) (ne_ao f_7007 f_7002)).trans f_7007
        have f_7009 : F_6983 (ma 1) = .inl (G.2 0, 534, .inl hf) := (o_6987 (ma 1) ).trans fh
        have f_7010 : F_6988 (ma 1) = .inl (G.2 0, 534, .inl hf) := (o_6992 (ma 1) ).trans f_7009
        have f_7011 : F_6997 (ma 1) = .inl (G.2 0, 534, .inl hf) := (o_7001 (ma 1) ).trans f_7010
        have f_7012 : F_7003 (ma 1) = .inl (G.2 0, 534, .inl hf) := (o_7005 (ma 1) (ne_ao f_7011 f_7002)).trans f_7011
        have f_7013 : F_6983 (ma 2) = .inl (G.2 0, 178, .inl sf) := (o_6987 (ma 2) ).trans fs
        have f_7014 : F_6988 (ma 2) = .inl (G.2 0, 178, .inl sf) := (o_6992 (ma 2) ).trans f_7013
        have f_7015 : F_6997 (ma 2) = .inl (G.2 0, 178, .inl sf) := (o_7001 (ma 2) ).trans f_7014
        have f_7016 : F_7003 (ma 2) = .inl (G.2 0, 178, .inl sf) := (o_7005 (ma 2) (ne_ao f_7015 f_7002)).trans f_7015
        have f_7017 : F_6983 (ma 3) = .inl (G.2 0, 2, .inl kf) := (o_6987 (ma 3) ).trans fk
        have f_7018 : F_6988 (ma 3) = .inl (G.2 0, 2, .inl kf) := (o_6992 (ma 3) ).trans f_7017
        have f_7019 : F_6997 (ma 3) = .inl (G.2 0, 2, .inl kf) := (o_7001 (ma 3) ).trans f_7018
        have f_7020 : F_7003 (ma 3) = .inl (G.2 0, 2, .inl kf) := (o_7005 (ma 3) (ne_ao f_7019 f_7002)).trans f_7019
        have f_7021 : F_6983 (ma 4) = pcE G pl := (o_6987 (ma 4) ).trans fp
        have f_7022 : F_6988 (ma 4) = pcE G pl := (o_6992 (ma 4) ).trans f_7021
        have f_7023 : F_6997 (ma 4) = pcE G pl := (o_7001 (ma 4) ).trans f_7022
        have f_7024 : F_7003 (ma 4) = pcE G pl := (o_7005 (ma 4) (ne_ao f_7023 f_7002)).trans f_7023
        have f_7025 : F_6983 (ma 5) = .inl (G.2 0, 60, .inl tf) := (o_6987 (ma 5) ).trans ft
        have f_7026 : F_6988 (ma 5) = .inl (G.2 0, 60, .inl tf) := (o_6992 (ma 5) ).trans f_7025
        have f_7027 : F_6997 (ma 5) = .inl (G.2 0, 60, .inl tf) := (o_7001 (ma 5) ).trans f_7026
        have f_7028 : F_7003 (ma 5) = .inl (G.2 0, 60, .inl tf) := (o_7005 (ma 5) (ne_ao f_7027 f_7002)).trans f_7027
        have f_7029 : F_6983 (ma 6) = .inl (G.2 0, 52, .inl pf) := (o_6987 (ma 6) ).trans fq
        have f_7030 : F_6988 (ma 6) = .inl (G.2 0, 52, .inl pf) := (o_6992 (ma 6) ).trans f_7029
        have f_7031 : F_6997 (ma 6) = .inl (G.2 0, 52, .inl pf) := (o_7001 (ma 6) ).trans f_7030
        have f_7032 : F_7003 (ma 6) = .inl (G.2 0, 52, .inl pf) := (o_7005 (ma 6) (ne_ao f_7031 f_7002)).trans f_7031
        exact r_i C0 hr hlk hw (v := nI 0) rfl ⟨⟨_, _, _, _, _, _, _, _, _, hb_7006, ⟨hm0, hm1, rfl⟩, ⟨f_7008, hz⟩, ⟨f_7012, hhf⟩, ⟨f_7016, hsf⟩, ⟨f_7020, hkf⟩, f_7024, ⟨f_7028, htf⟩, f_7032⟩, (fun q k0 k1 => ((o_7005 q k0).trans ((o_7001 q ).trans ((o_6992 q ).trans (o_6987 q )))))⟩ (Nat.le_refl _) (Nat.le_refl _) dX6_compose_37 hQ
    · skip
      exact absurd c_14 (by omega)
set_option maxHeartbeats 4000000 in
set_option maxRecDepth 100000 in
theorem k_X6_compose_x2 (l : Launch) (G : Gl) (L : List Nat) (F : Nat → va_E) (b : Nat) (ma : Nat → Nat) (A : AB) (th : Nat) (x9 y9 z9 : Int32) (mb : b ∈ L) (hma : ∀ i, i < 7 → ma i ∈ L) (hM : MW G F b ma A th) (hA : okA A) (h8 : inR x9 0 5 ∧ inR y9 0 5) (h9 : inR z9 0 5) (hm : A.1.2.1 < A.1.1 * 4) : CI l yX6_compose cX6_compose 4 (some .int) rm_X6_compose G L F [.ref b, .int (x9), .int (y9), .int (z9)] (fun r F1 => MW G F1 b ma A 2 ∧ mFr F F1 b ma) := by
  obtain ⟨mi, hh, zf, hf, sf, kf, tf, pf, pl, fb, ⟨hm0, hm1, hm2⟩, ⟨fz, hz⟩, ⟨fh, hhf⟩, ⟨fs, hsf⟩, ⟨fk, hkf⟩, fp, ⟨ft, htf⟩, fq⟩ := hM
  obtain ⟨hz0, hz1, hz2, hz3, hz4⟩ := ne_z zf hz
  have hc : A.1.1 ≤ 6 := hA.1.2.1
  have hc2 : 2 ≤ A.1.1 := hA.1.1
  have hpu : A.1.2.1 ≤ 100000 := hA.1.2.2.1
  have hrw : ∀ i k, i < 12 → k < 7 → zf (5 + 7 * i + k) = nI (A.1.2.2.2.2.2 i k).val := hz.row
  refine CG_of (by decide) (Nat.le_of_ble_eq_true rfl) rfl ?_
  intro p e s m args below meth c Q C0 hr hlk hnm hQ hw ls hl
  have hx := C0.x
  have hb := C0.b
  refine lv_aload_n hx hb dX6_compose_0 rfl (lv_at hl 0 rfl) ?_
  refine lv_aload_n hx hb dX6_compose_1 rfl (lv_at hl 0 rfl) ?_
  refine lv_iload_n hx hb dX6_compose_2 rfl (lv_at hl 1 rfl) ?_
  refine lv_iload_n hx hb dX6_compose_3 rfl (lv_at hl 2 rfl) ?_
  refine q_calli hw (q_runS (As := [.int (x9), .int (y9)]) (c_X6_areSlots l G L F (x9) (y9)) C0 hw sw_X6_115 rfl hl.1 rfl (Nat.le_of_ble_eq_true rfl) dX6_compose_4 ⟨by decide, by decide⟩ ⟨by decide, by decide⟩) rfl rfl (fun r_7035 F_7033 H locs hw hp_7034 => ?_)
  obtain ⟨he_7036, o_7037⟩ := hp_7034
  rw [if_pos h8] at he_7036
  subst he_7036
  refine n_if_eq (tgt := 21) hx hb dX6_compose_7 (by decide) (by decide) (fun c_7 => ?_) (fun c_7 => ?_)
  · skip
    exact absurd c_7 (by omega)
  · skip
    refine lv_iload_n hx hb dX6_compose_10 rfl (lv_at hl 3 rfl) ?_
    refine q_calli hw (q_runS (As := [.int (z9)]) (c_X6_isSlot l G L F_7033 (z9)) C0 hw sw_X6_42 rfl hl.1 rfl (Nat.le_of_ble_eq_true rfl) dX6_compose_11 ⟨by decide, by decide⟩ ⟨by decide, by decide⟩) rfl rfl (fun r_7040 F_7038 H locs hw hp_7039 => ?_)
    obtain ⟨he_7041, o_7042⟩ := hp_7039
    rw [if_pos h9] at he_7041
    subst he_7041
    refine n_if_eq (tgt := 21) hx hb dX6_compose_14 (by decide) (by decide) (fun c_14 => ?_) (fun c_14 => ?_)
    · skip
      exact absurd c_14 (by omega)
    · skip
      refine lv_iconst (v := nI 1) hx hb dX6_compose_17 (by decide) ?_
      refine lv_goto (tgt := 22) hx hb dX6_compose_18 (by decide) ?_
      refine lv_iconst (v := nI 4) hx hb dX6_compose_22 (by decide) ?_
      have f_7043 : F_7033 (ma 0) = .inl (G.2 0, 89, .inl zf) := (o_7037 (ma 0) ).trans fz
      have f_7044 : F_7038 (ma 0) = .inl (G.2 0, 89, .inl zf) := (o_7042 (ma 0) ).trans f_7043
      have f_7045 : F_7033 b = mO ma mi hh := (o_7037 b ).trans fb
      have f_7046 : F_7038 b = mO ma mi hh := (o_7042 b ).trans f_7045
      refine q_calli hw (q_runV (As := [.int (nI (1)), .int (nI (4))]) (c_X6_refused_2 l G L F_7038 b ma mi hh zf 4 A.1.1 A.1.2.1 mb f_7046 hma f_7044 hz0 hz1 hc (by omega) hpu (by omega)) C0 hw vw_X6_119 mb f_7046 rfl rfl rfl hl.1 rfl (Nat.le_of_ble_eq_true rfl) dX6_compose_23 ⟨by decide, by decide⟩ ⟨by decide, by decide⟩) rfl rfl (fun r_7049 F_7047 H locs hw hp_7048 => ?_)
      obtain ⟨he_7050, o_7051⟩ := hp_7048
      subst he_7050
      have f_7052 : F_7047 b = mO ma mi hh := (o_7051 b ).trans f_7046
      refine q_put C0 hw mb f_7052 fw_X6_31 pw_X6_8 rfl rfl rfl (Nat.le_of_ble_eq_true rfl) dX6_compose_26 (fun F_7053 H locs hw f_7054 o_7055 => ?_)
      have f_7054 : F_7053 b = .inr (6, [.ref (ma 0), .int (mi 0), .ref (ma 1), .ref (ma 2), .ref (ma 3), .ref (ma 4), .int (mi 1), .ref (ma 5), .int (nI (2)), .ref (ma 6), .int (mi 3), .int (mi 4), .long (hh)]) := f_7054
      refine lv_aload_n hx hb dX6_compose_29 rfl (lv_at hl 0 rfl) ?_
      refine q_get C0 hw mb f_7054 fw_X6_31 rfl dX6_compose_30 ?_
      refine n_if_le (tgt := 38) hx hb dX6_compose_33 (by decide) (by decide) (fun c_33 => ?_) (fun c_33 => ?_)
      · skip
        exact absurd c_33 (by omega)
      · skip
        refine lv_iconst (v := nI 0) hx hb dX6_compose_36 (by decide) ?_
        have hb_7056 : F_7053 b = mO ma (va_up mi 2 (nI 2)) (hh) := f_7054
        have f_7057 : F_7047 (ma 0) = .inl (G.2 0, 89, .inl zf) := (o_7051 (ma 0) ).trans f_7044
        have f_7058 : F_7053 (ma 0) = .inl (G.2 0, 89, .inl zf) := (o_7055 (ma 0) (ne_ao f_7057 f_7052)).trans f_7057
        have f_7059 : F_7033 (ma 1) = .inl (G.2 0, 534, .inl hf) := (o_7037 (ma 1) ).trans fh
        have f_7060 : F_7038 (ma 1) = .inl (G.2 0, 534, .inl hf) := (o_7042 (ma 1) ).trans f_7059
        have f_7061 : F_7047 (ma 1) = .inl (G.2 0, 534, .inl hf) := (o_7051 (ma 1) ).trans f_7060
        have f_7062 : F_7053 (ma 1) = .inl (G.2 0, 534, .inl hf) := (o_7055 (ma 1) (ne_ao f_7061 f_7052)).trans f_7061
        have f_7063 : F_7033 (ma 2) = .inl (G.2 0, 178, .inl sf) := (o_7037 (ma 2) ).trans fs
        have f_7064 : F_7038 (ma 2) = .inl (G.2 0, 178, .inl sf) := (o_7042 (ma 2) ).trans f_7063
        have f_7065 : F_7047 (ma 2) = .inl (G.2 0, 178, .inl sf) := (o_7051 (ma 2) ).trans f_7064
        have f_7066 : F_7053 (ma 2) = .inl (G.2 0, 178, .inl sf) := (o_7055 (ma 2) (ne_ao f_7065 f_7052)).trans f_7065
        have f_7067 : F_7033 (ma 3) = .inl (G.2 0, 2, .inl kf) := (o_7037 (ma 3) ).trans fk
        have f_7068 : F_7038 (ma 3) = .inl (G.2 0, 2, .inl kf) := (o_7042 (ma 3) ).trans f_7067
        have f_7069 : F_7047 (ma 3) = .inl (G.2 0, 2, .inl kf) := (o_7051 (ma 3) ).trans f_7068
        have f_7070 : F_7053 (ma 3) = .inl (G.2 0, 2, .inl kf) := (o_7055 (ma 3) (ne_ao f_7069 f_7052)).trans f_7069
        have f_7071 : F_7033 (ma 4) = pcE G pl := (o_7037 (ma 4) ).trans fp
        have f_7072 : F_7038 (ma 4) = pcE G pl := (o_7042 (ma 4) ).trans f_7071
        have f_7073 : F_7047 (ma 4) = pcE G pl := (o_7051 (ma 4) ).trans f_7072
        have f_7074 : F_7053 (ma 4) = pcE G pl := (o_7055 (ma 4) (ne_ao f_7073 f_7052)).trans f_7073
        have f_7075 : F_7033 (ma 5) = .inl (G.2 0, 60, .inl tf) := (o_7037 (ma 5) ).trans ft
        have f_7076 : F_7038 (ma 5) = .inl (G.2 0, 60, .inl tf) := (o_7042 (ma 5) ).trans f_7075
        have f_7077 : F_7047 (ma 5) = .inl (G.2 0, 60, .inl tf) := (o_7051 (ma 5) ).trans f_7076
        have f_7078 : F_7053 (ma 5) = .inl (G.2 0, 60, .inl tf) := (o_7055 (ma 5) (ne_ao f_7077 f_7052)).trans f_7077
        have f_7079 : F_7033 (ma 6) = .inl (G.2 0, 52, .inl pf) := (o_7037 (ma 6) ).trans fq
        have f_7080 : F_7038 (ma 6) = .inl (G.2 0, 52, .inl pf) := (o_7042 (ma 6) ).trans f_7079
        have f_7081 : F_7047 (ma 6) = .inl (G.2 0, 52, .inl pf) := (o_7051 (ma 6) ).trans f_7080
        have f_7082 : F_7053 (ma 6) = .inl (G.2 0, 52, .inl pf) := (o_7055 (ma 6) (ne_ao f_7081 f_7052)).trans f_7081
        exact r_i C0 hr hlk hw (v := nI 0) rfl ⟨⟨_, _, _, _, _, _, _, _, _, hb_7056, ⟨hm0, hm1, rfl⟩, ⟨f_7058, hz⟩, ⟨f_7062, hhf⟩, ⟨f_7066, hsf⟩, ⟨f_7070, hkf⟩, f_7074, ⟨f_7078, htf⟩, f_7082⟩, (fun q k0 k1 => ((o_7055 q k0).trans ((o_7051 q ).trans ((o_7042 q ).trans (o_7037 q )))))⟩ (Nat.le_refl _) (Nat.le_refl _) dX6_compose_37 hQ
set_option maxHeartbeats 4000000 in
set_option maxRecDepth 100000 in
theorem k_X6_compose (l : Launch) (G : Gl) (L : List Nat) (F : Nat → va_E) (b : Nat) (ma : Nat → Nat) (A : AB) (th : Nat) (f9 g9 t9 : Nat) (mb : b ∈ L) (hma : ∀ i, i < 7 → ma i ∈ L) (hM : MW G F b ma A th) (hA : okA A) (hf9 : f9 < 6) (hg9 : g9 < 6) (ht9 : t9 < 6) (h8 : inR (nI f9) 0 5 ∧ inR (nI g9) 0 5) (h9 : inR (nI t9) 0 5) (hm : 4 * A.1.1 ≤ A.1.2.1) : CI l yX6_compose cX6_compose 4 (some .int) rm_X6_compose G L F [.ref b, .int (nI (f9)), .int (nI (g9)), .int (nI (t9))] (fun r F1 => r = lowR (ordR 99 f9 g9 A.1.1 A.1.2.2.2.2.2) ∧ MW G F1 b ma (aSave A (ordS 99 f9 g9 t9 A.1)) 0 ∧ mFr F F1 b ma) := by
  obtain ⟨mi, hh, zf, hf, sf, kf, tf, pf, pl, fb, ⟨hm0, hm1, hm2⟩, ⟨fz, hz⟩, ⟨fh, hhf⟩, ⟨fs, hsf⟩, ⟨fk, hkf⟩, fp, ⟨ft, htf⟩, fq⟩ := hM
  obtain ⟨hz0, hz1, hz2, hz3, hz4⟩ := ne_z zf hz
  have hc : A.1.1 ≤ 6 := hA.1.2.1
  have hc2 : 2 ≤ A.1.1 := hA.1.1
  have hpu : A.1.2.1 ≤ 100000 := hA.1.2.2.1
  have hrw : ∀ i k, i < 12 → k < 7 → zf (5 + 7 * i + k) = nI (A.1.2.2.2.2.2 i k).val := hz.row
  refine CG_of (by decide) (Nat.le_of_ble_eq_true rfl) rfl ?_
  intro p e s m args below meth c Q C0 hr hlk hnm hQ hw ls hl
  have hx := C0.x
  have hb := C0.b
  refine lv_aload_n hx hb dX6_compose_0 rfl (lv_at hl 0 rfl) ?_
  refine lv_aload_n hx hb dX6_compose_1 rfl (lv_at hl 0 rfl) ?_
  refine lv_iload_n hx hb dX6_compose_2 rfl (lv_at hl 1 rfl) ?_
  refine lv_iload_n hx hb dX6_compose_3 rfl (lv_at hl 2 rfl) ?_
  refine q_calli hw (q_runS (As := [.int (nI (f9)), .int (nI (g9))]) (c_X6_areSlots l G L F (nI (f9)) (nI (g9))) C0 hw sw_X6_115 rfl hl.1 rfl (Nat.le_of_ble_eq_true rfl) dX6_compose_4 ⟨by decide, by decide⟩ ⟨by decide, by decide⟩) rfl rfl (fun r_7085 F_7083 H locs hw hp_7084 => ?_)
  obtain ⟨he_7086, o_7087⟩ := hp_7084
  rw [if_pos h8] at he_7086
  subst he_7086
  refine n_if_eq (tgt := 21) hx hb dX6_compose_7 (by decide) (by decide) (fun c_7 => ?_) (fun c_7 => ?_)
  · skip
    exact absurd c_7 (by omega)
  · skip
    refine lv_iload_n hx hb dX6_compose_10 rfl (lv_at hl 3 rfl) ?_
    refine q_calli hw (q_runS (As := [.int (nI (t9))]) (c_X6_isSlot l G L F_7083 (nI (t9))) C0 hw sw_X6_42 rfl hl.1 rfl (Nat.le_of_ble_eq_true rfl) dX6_compose_11 ⟨by decide, by decide⟩ ⟨by decide, by decide⟩) rfl rfl (fun r_7090 F_7088 H locs hw hp_7089 => ?_)
    obtain ⟨he_7091, o_7092⟩ := hp_7089
    rw [if_pos h9] at he_7091
    subst he_7091
    refine n_if_eq (tgt := 21) hx hb dX6_compose_14 (by decide) (by decide) (fun c_14 => ?_) (fun c_14 => ?_)
    · skip
      exact absurd c_14 (by omega)
    · skip
      refine lv_iconst (v := nI 1) hx hb dX6_compose_17 (by decide) ?_
      refine lv_goto (tgt := 22) hx hb dX6_compose_18 (by decide) ?_
      refine lv_iconst (v := nI 4) hx hb dX6_compose_22 (by decide) ?_
      have f_7093 : F_7083 (ma 0) = .inl (G.2 0, 89, .inl zf) := (o_7087 (ma 0) ).trans fz
      have f_7094 : F_7088 (ma 0) = .inl (G.2 0, 89, .inl zf) := (o_7092 (ma 0) ).trans f_7093
      have f_7095 : F_7083 b = mO ma mi hh := (o_7087 b ).trans fb
      have f_7096 : F_7088 b = mO ma mi hh := (o_7092 b ).trans f_7095
      refine q_calli hw (q_runV (As := [.int (nI (1)), .int (nI (4))]) (c_X6_refused l G L F_7088 b ma mi hh zf 4 A.1.1 A.1.2.1 mb f_7096 hma f_7094 hz0 hz1 hc (by omega) hpu (by omega)) C0 hw vw_X6_119 mb f_7096 rfl rfl rfl hl.1 rfl (Nat.le_of_ble_eq_true rfl) dX6_compose_23 ⟨by decide, by decide⟩ ⟨by decide, by decide⟩) rfl rfl (fun r_7099 F_7097 H locs hw hp_7098 => ?_)
      obtain ⟨he_7100, o_7101⟩ := hp_7098
      subst he_7100
      have f_7102 : F_7097 b = mO ma mi hh := (o_7101 b ).trans f_7096
      refine q_put C0 hw mb f_7102 fw_X6_31 pw_X6_8 rfl rfl rfl (Nat.le_of_ble_eq_true rfl) dX6_compose_26 (fun F_7103 H locs hw f_7104 o_7105 => ?_)
      have f_7104 : F_7103 b = .inr (6, [.ref (ma 0), .int (mi 0), .ref (ma 1), .ref (ma 2), .ref (ma 3), .ref (ma 4), .int (mi 1), .ref (ma 5), .int (nI (0)), .ref (ma 6), .int (mi 3), .int (mi 4), .long (hh)]) := f_7104
      refine lv_aload_n hx hb dX6_compose_29 rfl (lv_at hl 0 rfl) ?_
      refine q_get C0 hw mb f_7104 fw_X6_31 rfl dX6_compose_30 ?_
      refine n_if_le (tgt := 38) hx hb dX6_compose_33 (by decide) (by decide) (fun c_33 => ?_) (fun c_33 => ?_)
      · skip
        have hb_7106 : F_7103 b = mO ma (va_up mi 2 (nI 0)) hh := f_7104
        refine lv_aload_n hx hb dX6_compose_38 rfl (lv_at hl 0 rfl) ?_
        refine lv_iload_n hx hb dX6_compose_39 rfl (lv_at hl 1 rfl) ?_
        refine lv_iload_n hx hb dX6_compose_40 rfl (lv_at hl 2 rfl) ?_
        have f_7107 : F_7083 (ma 4) = pcE G pl := (o_7087 (ma 4) ).trans fp
        have f_7108 : F_7088 (ma 4) = pcE G pl := (o_7092 (ma 4) ).trans f_7107
        have f_7109 : F_7097 (ma 4) = pcE G pl := (o_7101 (ma 4) ).trans f_7108
        have f_7110 : F_7103 (ma 4) = pcE G pl := (o_7105 (ma 4) (ne_ao f_7109 f_7102)).trans f_7109
        have f_7111 : F_7097 (ma 0) = .inl (G.2 0, 89, .inl zf) := (o_7101 (ma 0) ).trans f_7094
        have f_7112 : F_7103 (ma 0) = .inl (G.2 0, 89, .inl zf) := (o_7105 (ma 0) (ne_ao f_7111 f_7102)).trans f_7111
        refine q_callv hw (q_runV (As := [.int (nI (f9)), .int (nI (g9))]) (c_X6_layCompose l G L F_7103 b ma (va_up mi 2 (nI 0)) hh pl zf A.1.1 A.1.2.2.2.2.2 f9 g9 mb hb_7106 hma f_7110 f_7112 hz0 (by omega) (by omega) (by omega) (by omega) hrw) C0 hw vw_X6_156 mb hb_7106 rfl rfl rfl hl.1 rfl (Nat.le_of_ble_eq_true rfl) dX6_compose_41 ⟨by decide, by decide⟩ ⟨by decide, by decide⟩) rfl rfl (fun F_7113 H locs hw hp_7114 => ?_)
        obtain ⟨⟨P_7115, f_7118, r_7116, ro_7117⟩, o_7119⟩ := hp_7114
        refine lv_aload_n hx hb dX6_compose_44 rfl (lv_at hl 0 rfl) ?_
        refine lv_iconst (v := nI 4) hx hb dX6_compose_45 (by decide) ?_
        refine lv_iload_n hx hb dX6_compose_46 rfl (lv_at hl 3 rfl) ?_
        refine q_calli hw (q_runS (As := [.int (nI (t9))]) (c_X6_flowAt2 l G L F_7113 t9 (by omega)) C0 hw sw_X6_138 rfl hl.1 rfl (Nat.le_of_ble_eq_true rfl) dX6_compose_47 ⟨by decide, by decide⟩ ⟨by decide, by decide⟩) rfl rfl (fun r_7122 F_7120 H locs hw hp_7121 => ?_)
        obtain ⟨he_7123, o_7124⟩ := hp_7121
        subst he_7123
        have f_7125 : F_7113 b = mO ma ((va_up mi 2 (nI 0))) hh := (o_7119 b (ne_oa hb_7106 f_7110)).trans hb_7106
        have f_7126 : F_7120 b = mO ma ((va_up mi 2 (nI 0))) hh := (o_7124 b ).trans f_7125
        have f_7127 : F_7113 (ma 0) = .inl (G.2 0, 89, .inl zf) := (o_7119 (ma 0) (ne_aa (by decide) f_7112 f_7110)).trans f_7112
        have f_7128 : F_7120 (ma 0) = .inl (G.2 0, 89, .inl zf) := (o_7124 (ma 0) ).trans f_7127
        have f_7129 : F_7083 (ma 1) = .inl (G.2 0, 534, .inl hf) := (o_7087 (ma 1) ).trans fh
        have f_7130 : F_7088 (ma 1) = .inl (G.2 0, 534, .inl hf) := (o_7092 (ma 1) ).trans f_7129
        have f_7131 : F_7097 (ma 1) = .inl (G.2 0, 534, .inl hf) := (o_7101 (ma 1) ).trans f_7130
        have f_7132 : F_7103 (ma 1) = .inl (G.2 0, 534, .inl hf) := (o_7105 (ma 1) (ne_ao f_7131 f_7102)).trans f_7131
        have f_7133 : F_7113 (ma 1) = .inl (G.2 0, 534, .inl hf) := (o_7119 (ma 1) (ne_aa (by decide) f_7132 f_7110)).trans f_7132
        have f_7134 : F_7120 (ma 1) = .inl (G.2 0, 534, .inl hf) := (o_7124 (ma 1) ).trans f_7133
        have f_7135 : F_7120 (ma 4) = pcE G P_7115 := (o_7124 (ma 4) ).trans f_7118
        refine q_calli hw (q_runV (As := [.int (nI (4)), .int (nI (5 + 7 * (6 + t9)))]) (c_X6_ended l G L F_7120 b ma ((va_up mi 2 (nI 0))) hh zf hf P_7115 A.2.1.1 4 (5 + 7 * (6 + t9)) A.1.1 A.1.2.1 A.1.2.2.1 A.1.2.2.2.1 mb f_7126 hm0 hA.2.1.1 hma f_7128 f_7134 f_7135 hz0 hc hc2 hz1 hz2 hz3 (by omega) (by omega) (by omega)) C0 hw vw_X6_129 mb f_7126 rfl rfl rfl hl.1 rfl (Nat.le_of_ble_eq_true rfl) dX6_compose_50 ⟨by decide, by decide⟩ ⟨by decide, by decide⟩) rfl rfl (fun r_7138 F_7136 H locs hw hp_7137 => ?_)
        obtain ⟨f_7139, f_7140, f_7141, f_7142, f_7143⟩ := hp_7137
        subst f_7139
        have hu_7144 : P_7115 2 = ordR 99 f9 g9 A.1.1 A.1.2.2.2.2.2 := r_7116.trans (pi_eq _ _ _)
        have hz_7145 := f_7142
        rw [hu_7144] at hz_7145
        have f_7146 : F_7083 (ma 2) = .inl (G.2 0, 178, .inl sf) := (o_7087 (ma 2) ).trans fs
        have f_7147 : F_7088 (ma 2) = .inl (G.2 0, 178, .inl sf) := (o_7092 (ma 2) ).trans f_7146
        have f_7148 : F_7097 (ma 2) = .inl (G.2 0, 178, .inl sf) := (o_7101 (ma 2) ).trans f_7147
        have f_7149 : F_7103 (ma 2) = .inl (G.2 0, 178, .inl sf) := (o_7105 (ma 2) (ne_ao f_7148 f_7102)).trans f_7148
        have f_7150 : F_7113 (ma 2) = .inl (G.2 0, 178, .inl sf) := (o_7119 (ma 2) (ne_aa (by decide) f_7149 f_7110)).trans f_7149
        have f_7151 : F_7120 (ma 2) = .inl (G.2 0, 178, .inl sf) := (o_7124 (ma 2) ).trans f_7150
        have f_7152 : F_7136 (ma 2) = .inl (G.2 0, 178, .inl sf) := (f_7143 (ma 2) (ne_ao f_7151 f_7126) (ne_aa (by decide) f_7151 f_7134) (ne_aa (by decide) f_7151 f_7128)).trans f_7151
        have f_7153 : F_7083 (ma 3) = .inl (G.2 0, 2, .inl kf) := (o_7087 (ma 3) ).trans fk
        have f_7154 : F_7088 (ma 3) = .inl (G.2 0, 2, .inl kf) := (o_7092 (ma 3) ).trans f_7153
        have f_7155 : F_7097 (ma 3) = .inl (G.2 0, 2, .inl kf) := (o_7101 (ma 3) ).trans f_7154
        have f_7156 : F_7103 (ma 3) = .inl (G.2 0, 2, .inl kf) := (o_7105 (ma 3) (ne_ao f_7155 f_7102)).trans f_7155
        have f_7157 : F_7113 (ma 3) = .inl (G.2 0, 2, .inl kf) := (o_7119 (ma 3) (ne_aa (by decide) f_7156 f_7110)).trans f_7156
        have f_7158 : F_7120 (ma 3) = .inl (G.2 0, 2, .inl kf) := (o_7124 (ma 3) ).trans f_7157
        have f_7159 : F_7136 (ma 3) = .inl (G.2 0, 2, .inl kf) := (f_7143 (ma 3) (ne_ao f_7158 f_7126) (ne_aa (by decide) f_7158 f_7134) (ne_aa (by decide) f_7158 f_7128)).trans f_7158
        have f_7160 : F_7136 (ma 4) = pcE G P_7115 := (f_7143 (ma 4) (ne_ao f_7135 f_7126) (ne_aa (by decide) f_7135 f_7134) (ne_aa (by decide) f_7135 f_7128)).trans f_7135
        have f_7161 : F_7083 (ma 5) = .inl (G.2 0, 60, .inl tf) := (o_7087 (ma 5) ).trans ft
        have f_7162 : F_7088 (ma 5) = .inl (G.2 0, 60, .inl tf) := (o_7092 (ma 5) ).trans f_7161
        have f_7163 : F_7097 (ma 5) = .inl (G.2 0, 60, .inl tf) := (o_7101 (ma 5) ).trans f_7162
        have f_7164 : F_7103 (ma 5) = .inl (G.2 0, 60, .inl tf) := (o_7105 (ma 5) (ne_ao f_7163 f_7102)).trans f_7163
        have f_7165 : F_7113 (ma 5) = .inl (G.2 0, 60, .inl tf) := (o_7119 (ma 5) (ne_aa (by decide) f_7164 f_7110)).trans f_7164
        have f_7166 : F_7120 (ma 5) = .inl (G.2 0, 60, .inl tf) := (o_7124 (ma 5) ).trans f_7165
        have f_7167 : F_7136 (ma 5) = .inl (G.2 0, 60, .inl tf) := (f_7143 (ma 5) (ne_ao f_7166 f_7126) (ne_aa (by decide) f_7166 f_7134) (ne_aa (by decide) f_7166 f_7128)).trans f_7166
        have f_7168 : F_7083 (ma 6) = .inl (G.2 0, 52, .inl pf) := (o_7087 (ma 6) ).trans fq
        have f_7169 : F_7088 (ma 6) = .inl (G.2 0, 52, .inl pf) := (o_7092 (ma 6) ).trans f_7168
        have f_7170 : F_7097 (ma 6) = .inl (G.2 0, 52, .inl pf) := (o_7101 (ma 6) ).trans f_7169
        have f_7171 : F_7103 (ma 6) = .inl (G.2 0, 52, .inl pf) := (o_7105 (ma 6) (ne_ao f_7170 f_7102)).trans f_7170
        have f_7172 : F_7113 (ma 6) = .inl (G.2 0, 52, .inl pf) := (o_7119 (ma 6) (ne_aa (by decide) f_7171 f_7110)).trans f_7171
        have f_7173 : F_7120 (ma 6) = .inl (G.2 0, 52, .inl pf) := (o_7124 (ma 6) ).trans f_7172
        have f_7174 : F_7136 (ma 6) = .inl (G.2 0, 52, .inl pf) := (f_7143 (ma 6) (ne_ao f_7173 f_7126) (ne_aa (by decide) f_7173 f_7134) (ne_aa (by decide) f_7173 f_7128)).trans f_7173
        exact r_i C0 hr hlk hw (v := (lowR (P_7115 2))) rfl ⟨(by rw [hu_7144]), ⟨_, _, _, _, _, _, _, _, _, f_7140, ⟨(congrArg nI (sv_n (st := A.1) hA.2.1.1)), hm1, rfl⟩, ⟨hz_7145, (pyM_ok (un := 4) (t := (6 + t9)) (u := ordR 99 f9 g9 A.1.1 A.1.2.2.2.2.2) hz (by omega))⟩, ⟨f_7141, (sv_h hA.2.1.1 hz hhf)⟩, ⟨f_7152, hsf⟩, ⟨f_7159, hkf⟩, f_7160, ⟨f_7167, htf⟩, f_7174⟩, (fun q k0 k1 => ((f_7143 q k0 (k1 1 (by decide)) (k1 0 (by decide))).trans ((o_7124 q ).trans ((o_7119 q (k1 4 (by decide))).trans ((o_7105 q k0).trans ((o_7101 q ).trans ((o_7092 q ).trans (o_7087 q ))))))))⟩ (Nat.le_refl _) (Nat.le_refl _) dX6_compose_53 hQ
      · skip
        exact absurd c_33 (by omega)
abbrev rm_X6_invert : Room := { frames := 6, cells := 0, slots := 0, locals := 138 }
set_option maxHeartbeats 4000000 in
set_option maxRecDepth 100000 in
theorem k_X6_invert_x1 (l : Launch) (G : Gl) (L : List Nat) (F : Nat → va_E) (b : Nat) (ma : Nat → Nat) (A : AB) (th : Nat) (x9 y9 : Int32) (mb : b ∈ L) (hma : ∀ i, i < 7 → ma i ∈ L) (hM : MW G F b ma A th) (hA : okA A) (h9 : ¬ (inR x9 0 5 ∧ inR y9 0 5)) : CI l yX6_invert cX6_invert 3 (some .int) rm_X6_invert G L F [.ref b, .int (x9), .int (y9)] (fun r F1 => MW G F1 b ma A 1 ∧ mFr F F1 b ma) := by
  obtain ⟨mi, hh, zf, hf, sf, kf, tf, pf, pl, fb, ⟨hm0, hm1, hm2⟩, ⟨fz, hz⟩, ⟨fh, hhf⟩, ⟨fs, hsf⟩, ⟨fk, hkf⟩, fp, ⟨ft, htf⟩, fq⟩ := hM
  obtain ⟨hz0, hz1, hz2, hz3, hz4⟩ := ne_z zf hz
  have hc : A.1.1 ≤ 6 := hA.1.2.1
  have hc2 : 2 ≤ A.1.1 := hA.1.1
  have hpu : A.1.2.1 ≤ 100000 := hA.1.2.2.1
  have hrw : ∀ i k, i < 12 → k < 7 → zf (5 + 7 * i + k) = nI (A.1.2.2.2.2.2 i k).val := hz.row
  refine CG_of (by decide) (Nat.le_of_ble_eq_true rfl) rfl ?_
  intro p e s m args below meth c Q C0 hr hlk hnm hQ hw ls hl
  have hx := C0.x
  have hb := C0.b
  refine lv_aload_n hx hb dX6_invert_0 rfl (lv_at hl 0 rfl) ?_
  refine lv_aload_n hx hb dX6_invert_1 rfl (lv_at hl 0 rfl) ?_
  refine lv_iload_n hx hb dX6_invert_2 rfl (lv_at hl 1 rfl) ?_
  refine lv_iload_n hx hb dX6_invert_3 rfl (lv_at hl 2 rfl) ?_
  refine q_calli hw (q_runS (As := [.int (x9), .int (y9)]) (c_X6_areSlots l G L F (x9) (y9)) C0 hw sw_X6_115 rfl hl.1 rfl (Nat.le_of_ble_eq_true rfl) dX6_invert_4 ⟨by decide, by decide⟩ ⟨by decide, by decide⟩) rfl rfl (fun r_7177 F_7175 H locs hw hp_7176 => ?_)
  obtain ⟨he_7178, o_7179⟩ := hp_7176
  rw [if_neg h9] at he_7178
  subst he_7178
  refine lv_iconst (v := nI 4) hx hb dX6_invert_7 (by decide) ?_
  have f_7180 : F_7175 (ma 0) = .inl (G.2 0, 89, .inl zf) := (o_7179 (ma 0) ).trans fz
  have f_7181 : F_7175 b = mO ma mi hh := (o_7179 b ).trans fb
  refine q_calli hw (q_runV (As := [.int (nI (0)), .int (nI (4))]) (c_X6_refused_1 l G L F_7175 b ma mi hh zf mb f_7181 hma f_7180 (nI 4)) C0 hw vw_X6_119 mb f_7181 rfl rfl rfl hl.1 rfl (Nat.le_of_ble_eq_true rfl) dX6_invert_8 ⟨by decide, by decide⟩ ⟨by decide, by decide⟩) rfl rfl (fun r_7184 F_7182 H locs hw hp_7183 => ?_)
  obtain ⟨he_7185, o_7186⟩ := hp_7183
  subst he_7185
  have f_7187 : F_7182 b = mO ma mi hh := (o_7186 b ).trans f_7181
  refine q_put C0 hw mb f_7187 fw_X6_31 pw_X6_8 rfl rfl rfl (Nat.le_of_ble_eq_true rfl) dX6_invert_11 (fun F_7188 H locs hw f_7189 o_7190 => ?_)
  have f_7189 : F_7188 b = .inr (6, [.ref (ma 0), .int (mi 0), .ref (ma 1), .ref (ma 2), .ref (ma 3), .ref (ma 4), .int (mi 1), .ref (ma 5), .int (nI (1)), .ref (ma 6), .int (mi 3), .int (mi 4), .long (hh)]) := f_7189
  refine lv_aload_n hx hb dX6_invert_14 rfl (lv_at hl 0 rfl) ?_
  refine q_get C0 hw mb f_7189 fw_X6_31 rfl dX6_invert_15 ?_
  refine n_if_le (tgt := 23) hx hb dX6_invert_18 (by decide) (by decide) (fun c_18 => ?_) (fun c_18 => ?_)
  · skip
    exact absurd c_18 (by omega)
  · skip
    refine lv_iconst (v := nI 0) hx hb dX6_invert_21 (by decide) ?_
    have hb_7191 : F_7188 b = mO ma (va_up mi 2 (nI 1)) (hh) := f_7189
    have f_7192 : F_7182 (ma 0) = .inl (G.2 0, 89, .inl zf) := (o_7186 (ma 0) ).trans f_7180
    have f_7193 : F_7188 (ma 0) = .inl (G.2 0, 89, .inl zf) := (o_7190 (ma 0) (ne_ao f_7192 f_7187)).trans f_7192
    have f_7194 : F_7175 (ma 1) = .inl (G.2 0, 534, .inl hf) := (o_7179 (ma 1) ).trans fh
    have f_7195 : F_7182 (ma 1) = .inl (G.2 0, 534, .inl hf) := (o_7186 (ma 1) ).trans f_7194
    have f_7196 : F_7188 (ma 1) = .inl (G.2 0, 534, .inl hf) := (o_7190 (ma 1) (ne_ao f_7195 f_7187)).trans f_7195
    have f_7197 : F_7175 (ma 2) = .inl (G.2 0, 178, .inl sf) := (o_7179 (ma 2) ).trans fs
    have f_7198 : F_7182 (ma 2) = .inl (G.2 0, 178, .inl sf) := (o_7186 (ma 2) ).trans f_7197
    have f_7199 : F_7188 (ma 2) = .inl (G.2 0, 178, .inl sf) := (o_7190 (ma 2) (ne_ao f_7198 f_7187)).trans f_7198
    have f_7200 : F_7175 (ma 3) = .inl (G.2 0, 2, .inl kf) := (o_7179 (ma 3) ).trans fk
    have f_7201 : F_7182 (ma 3) = .inl (G.2 0, 2, .inl kf) := (o_7186 (ma 3) ).trans f_7200
    have f_7202 : F_7188 (ma 3) = .inl (G.2 0, 2, .inl kf) := (o_7190 (ma 3) (ne_ao f_7201 f_7187)).trans f_7201
    have f_7203 : F_7175 (ma 4) = pcE G pl := (o_7179 (ma 4) ).trans fp
    have f_7204 : F_7182 (ma 4) = pcE G pl := (o_7186 (ma 4) ).trans f_7203
    have f_7205 : F_7188 (ma 4) = pcE G pl := (o_7190 (ma 4) (ne_ao f_7204 f_7187)).trans f_7204
    have f_7206 : F_7175 (ma 5) = .inl (G.2 0, 60, .inl tf) := (o_7179 (ma 5) ).trans ft
    have f_7207 : F_7182 (ma 5) = .inl (G.2 0, 60, .inl tf) := (o_7186 (ma 5) ).trans f_7206
    have f_7208 : F_7188 (ma 5) = .inl (G.2 0, 60, .inl tf) := (o_7190 (ma 5) (ne_ao f_7207 f_7187)).trans f_7207
    have f_7209 : F_7175 (ma 6) = .inl (G.2 0, 52, .inl pf) := (o_7179 (ma 6) ).trans fq
    have f_7210 : F_7182 (ma 6) = .inl (G.2 0, 52, .inl pf) := (o_7186 (ma 6) ).trans f_7209
    have f_7211 : F_7188 (ma 6) = .inl (G.2 0, 52, .inl pf) := (o_7190 (ma 6) (ne_ao f_7210 f_7187)).trans f_7210
    exact r_i C0 hr hlk hw (v := nI 0) rfl ⟨⟨_, _, _, _, _, _, _, _, _, hb_7191, ⟨hm0, hm1, rfl⟩, ⟨f_7193, hz⟩, ⟨f_7196, hhf⟩, ⟨f_7199, hsf⟩, ⟨f_7202, hkf⟩, f_7205, ⟨f_7208, htf⟩, f_7211⟩, (fun q k0 k1 => ((o_7190 q k0).trans ((o_7186 q ).trans (o_7179 q ))))⟩ (Nat.le_refl _) (Nat.le_refl _) dX6_invert_22 hQ
set_option maxHeartbeats 4000000 in
set_option maxRecDepth 100000 in
theorem k_X6_invert_x2 (l : Launch) (G : Gl) (L : List Nat) (F : Nat → va_E) (b : Nat) (ma : Nat → Nat) (A : AB) (th : Nat) (x9 y9 : Int32) (mb : b ∈ L) (hma : ∀ i, i < 7 → ma i ∈ L) (hM : MW G F b ma A th) (hA : okA A) (h8 : inR x9 0 5 ∧ inR y9 0 5) (hm : A.1.2.1 < A.1.1 * 4) : CI l yX6_invert cX6_invert 3 (some .int) rm_X6_invert G L F [.ref b, .int (x9), .int (y9)] (fun r F1 => MW G F1 b ma A 2 ∧ mFr F F1 b ma) := by
  obtain ⟨mi, hh, zf, hf, sf, kf, tf, pf, pl, fb, ⟨hm0, hm1, hm2⟩, ⟨fz, hz⟩, ⟨fh, hhf⟩, ⟨fs, hsf⟩, ⟨fk, hkf⟩, fp, ⟨ft, htf⟩, fq⟩ := hM
  obtain ⟨hz0, hz1, hz2, hz3, hz4⟩ := ne_z zf hz
  have hc : A.1.1 ≤ 6 := hA.1.2.1
  have hc2 : 2 ≤ A.1.1 := hA.1.1
  have hpu : A.1.2.1 ≤ 100000 := hA.1.2.2.1
  have hrw : ∀ i k, i < 12 → k < 7 → zf (5 + 7 * i + k) = nI (A.1.2.2.2.2.2 i k).val := hz.row
  refine CG_of (by decide) (Nat.le_of_ble_eq_true rfl) rfl ?_
  intro p e s m args below meth c Q C0 hr hlk hnm hQ hw ls hl
  have hx := C0.x
  have hb := C0.b
  refine lv_aload_n hx hb dX6_invert_0 rfl (lv_at hl 0 rfl) ?_
  refine lv_aload_n hx hb dX6_invert_1 rfl (lv_at hl 0 rfl) ?_
  refine lv_iload_n hx hb dX6_invert_2 rfl (lv_at hl 1 rfl) ?_
  refine lv_iload_n hx hb dX6_invert_3 rfl (lv_at hl 2 rfl) ?_
  refine q_calli hw (q_runS (As := [.int (x9), .int (y9)]) (c_X6_areSlots l G L F (x9) (y9)) C0 hw sw_X6_115 rfl hl.1 rfl (Nat.le_of_ble_eq_true rfl) dX6_invert_4 ⟨by decide, by decide⟩ ⟨by decide, by decide⟩) rfl rfl (fun r_7214 F_7212 H locs hw hp_7213 => ?_)
  obtain ⟨he_7215, o_7216⟩ := hp_7213
  rw [if_pos h8] at he_7215
  subst he_7215
  refine lv_iconst (v := nI 4) hx hb dX6_invert_7 (by decide) ?_
  have f_7217 : F_7212 (ma 0) = .inl (G.2 0, 89, .inl zf) := (o_7216 (ma 0) ).trans fz
  have f_7218 : F_7212 b = mO ma mi hh := (o_7216 b ).trans fb
  refine q_calli hw (q_runV (As := [.int (nI (1)), .int (nI (4))]) (c_X6_refused_2 l G L F_7212 b ma mi hh zf 4 A.1.1 A.1.2.1 mb f_7218 hma f_7217 hz0 hz1 hc (by omega) hpu (by omega)) C0 hw vw_X6_119 mb f_7218 rfl rfl rfl hl.1 rfl (Nat.le_of_ble_eq_true rfl) dX6_invert_8 ⟨by decide, by decide⟩ ⟨by decide, by decide⟩) rfl rfl (fun r_7221 F_7219 H locs hw hp_7220 => ?_)
  obtain ⟨he_7222, o_7223⟩ := hp_7220
  subst he_7222
  have f_7224 : F_7219 b = mO ma mi hh := (o_7223 b ).trans f_7218
  refine q_put C0 hw mb f_7224 fw_X6_31 pw_X6_8 rfl rfl rfl (Nat.le_of_ble_eq_true rfl) dX6_invert_11 (fun F_7225 H locs hw f_7226 o_7227 => ?_)
  have f_7226 : F_7225 b = .inr (6, [.ref (ma 0), .int (mi 0), .ref (ma 1), .ref (ma 2), .ref (ma 3), .ref (ma 4), .int (mi 1), .ref (ma 5), .int (nI (2)), .ref (ma 6), .int (mi 3), .int (mi 4), .long (hh)]) := f_7226
  refine lv_aload_n hx hb dX6_invert_14 rfl (lv_at hl 0 rfl) ?_
  refine q_get C0 hw mb f_7226 fw_X6_31 rfl dX6_invert_15 ?_
  refine n_if_le (tgt := 23) hx hb dX6_invert_18 (by decide) (by decide) (fun c_18 => ?_) (fun c_18 => ?_)
  · skip
    exact absurd c_18 (by omega)
  · skip
    refine lv_iconst (v := nI 0) hx hb dX6_invert_21 (by decide) ?_
    have hb_7228 : F_7225 b = mO ma (va_up mi 2 (nI 2)) (hh) := f_7226
    have f_7229 : F_7219 (ma 0) = .inl (G.2 0, 89, .inl zf) := (o_7223 (ma 0) ).trans f_7217
    have f_7230 : F_7225 (ma 0) = .inl (G.2 0, 89, .inl zf) := (o_7227 (ma 0) (ne_ao f_7229 f_7224)).trans f_7229
    have f_7231 : F_7212 (ma 1) = .inl (G.2 0, 534, .inl hf) := (o_7216 (ma 1) ).trans fh
    have f_7232 : F_7219 (ma 1) = .inl (G.2 0, 534, .inl hf) := (o_7223 (ma 1) ).trans f_7231
    have f_7233 : F_7225 (ma 1) = .inl (G.2 0, 534, .inl hf) := (o_7227 (ma 1) (ne_ao f_7232 f_7224)).trans f_7232
    have f_7234 : F_7212 (ma 2) = .inl (G.2 0, 178, .inl sf) := (o_7216 (ma 2) ).trans fs
    have f_7235 : F_7219 (ma 2) = .inl (G.2 0, 178, .inl sf) := (o_7223 (ma 2) ).trans f_7234
    have f_7236 : F_7225 (ma 2) = .inl (G.2 0, 178, .inl sf) := (o_7227 (ma 2) (ne_ao f_7235 f_7224)).trans f_7235
    have f_7237 : F_7212 (ma 3) = .inl (G.2 0, 2, .inl kf) := (o_7216 (ma 3) ).trans fk
    have f_7238 : F_7219 (ma 3) = .inl (G.2 0, 2, .inl kf) := (o_7223 (ma 3) ).trans f_7237
    have f_7239 : F_7225 (ma 3) = .inl (G.2 0, 2, .inl kf) := (o_7227 (ma 3) (ne_ao f_7238 f_7224)).trans f_7238
    have f_7240 : F_7212 (ma 4) = pcE G pl := (o_7216 (ma 4) ).trans fp
    have f_7241 : F_7219 (ma 4) = pcE G pl := (o_7223 (ma 4) ).trans f_7240
    have f_7242 : F_7225 (ma 4) = pcE G pl := (o_7227 (ma 4) (ne_ao f_7241 f_7224)).trans f_7241
    have f_7243 : F_7212 (ma 5) = .inl (G.2 0, 60, .inl tf) := (o_7216 (ma 5) ).trans ft
    have f_7244 : F_7219 (ma 5) = .inl (G.2 0, 60, .inl tf) := (o_7223 (ma 5) ).trans f_7243
    have f_7245 : F_7225 (ma 5) = .inl (G.2 0, 60, .inl tf) := (o_7227 (ma 5) (ne_ao f_7244 f_7224)).trans f_7244
    have f_7246 : F_7212 (ma 6) = .inl (G.2 0, 52, .inl pf) := (o_7216 (ma 6) ).trans fq
    have f_7247 : F_7219 (ma 6) = .inl (G.2 0, 52, .inl pf) := (o_7223 (ma 6) ).trans f_7246
    have f_7248 : F_7225 (ma 6) = .inl (G.2 0, 52, .inl pf) := (o_7227 (ma 6) (ne_ao f_7247 f_7224)).trans f_7247
    exact r_i C0 hr hlk hw (v := nI 0) rfl ⟨⟨_, _, _, _, _, _, _, _, _, hb_7228, ⟨hm0, hm1, rfl⟩, ⟨f_7230, hz⟩, ⟨f_7233, hhf⟩, ⟨f_7236, hsf⟩, ⟨f_7239, hkf⟩, f_7242, ⟨f_7245, htf⟩, f_7248⟩, (fun q k0 k1 => ((o_7227 q k0).trans ((o_7223 q ).trans (o_7216 q ))))⟩ (Nat.le_refl _) (Nat.le_refl _) dX6_invert_22 hQ
set_option maxHeartbeats 4000000 in
set_option maxRecDepth 100000 in
theorem k_X6_invert (l : Launch) (G : Gl) (L : List Nat) (F : Nat → va_E) (b : Nat) (ma : Nat → Nat) (A : AB) (th : Nat) (f9 t9 : Nat) (mb : b ∈ L) (hma : ∀ i, i < 7 → ma i ∈ L) (hM : MW G F b ma A th) (hA : okA A) (hf9 : f9 < 6) (ht9 : t9 < 6) (h8 : inR (nI f9) 0 5 ∧ inR (nI t9) 0 5) (hm : 4 * A.1.1 ≤ A.1.2.1) : CI l yX6_invert cX6_invert 3 (some .int) rm_X6_invert G L F [.ref b, .int (nI (f9)), .int (nI (t9))] (fun r F1 => r = lowR (ordR 105 f9 f9 A.1.1 A.1.2.2.2.2.2) ∧ MW G F1 b ma (aSave A (ordS 105 f9 f9 t9 A.1)) 0 ∧ mFr F F1 b ma) := by
  obtain ⟨mi, hh, zf, hf, sf, kf, tf, pf, pl, fb, ⟨hm0, hm1, hm2⟩, ⟨fz, hz⟩, ⟨fh, hhf⟩, ⟨fs, hsf⟩, ⟨fk, hkf⟩, fp, ⟨ft, htf⟩, fq⟩ := hM
  obtain ⟨hz0, hz1, hz2, hz3, hz4⟩ := ne_z zf hz
  have hc : A.1.1 ≤ 6 := hA.1.2.1
  have hc2 : 2 ≤ A.1.1 := hA.1.1
  have hpu : A.1.2.1 ≤ 100000 := hA.1.2.2.1
  have hrw : ∀ i k, i < 12 → k < 7 → zf (5 + 7 * i + k) = nI (A.1.2.2.2.2.2 i k).val := hz.row
  refine CG_of (by decide) (Nat.le_of_ble_eq_true rfl) rfl ?_
  intro p e s m args below meth c Q C0 hr hlk hnm hQ hw ls hl
  have hx := C0.x
  have hb := C0.b
  refine lv_aload_n hx hb dX6_invert_0 rfl (lv_at hl 0 rfl) ?_
  refine lv_aload_n hx hb dX6_invert_1 rfl (lv_at hl 0 rfl) ?_
  refine lv_iload_n hx hb dX6_invert_2 rfl (lv_at hl 1 rfl) ?_
  refine lv_iload_n hx hb dX6_invert_3 rfl (lv_at hl 2 rfl) ?_
  refine q_calli hw (q_runS (As := [.int (nI (f9)), .int (nI (t9))]) (c_X6_areSlots l G L F (nI (f9)) (nI (t9))) C0 hw sw_X6_115 rfl hl.1 rfl (Nat.le_of_ble_eq_true rfl) dX6_invert_4 ⟨by decide, by decide⟩ ⟨by decide, by decide⟩) rfl rfl (fun r_7251 F_7249 H locs hw hp_7250 => ?_)
  obtain ⟨he_7252, o_7253⟩ := hp_7250
  rw [if_pos h8] at he_7252
  subst he_7252
  refine lv_iconst (v := nI 4) hx hb dX6_invert_7 (by decide) ?_
  have f_7254 : F_7249 (ma 0) = .inl (G.2 0, 89, .inl zf) := (o_7253 (ma 0) ).trans fz
  have f_7255 : F_7249 b = mO ma mi hh := (o_7253 b ).trans fb
  refine q_calli hw (q_runV (As := [.int (nI (1)), .int (nI (4))]) (c_X6_refused l G L F_7249 b ma mi hh zf 4 A.1.1 A.1.2.1 mb f_7255 hma f_7254 hz0 hz1 hc (by omega) hpu (by omega)) C0 hw vw_X6_119 mb f_7255 rfl rfl rfl hl.1 rfl (Nat.le_of_ble_eq_true rfl) dX6_invert_8 ⟨by decide, by decide⟩ ⟨by decide, by decide⟩) rfl rfl (fun r_7258 F_7256 H locs hw hp_7257 => ?_)
  obtain ⟨he_7259, o_7260⟩ := hp_7257
  subst he_7259
  have f_7261 : F_7256 b = mO ma mi hh := (o_7260 b ).trans f_7255
  refine q_put C0 hw mb f_7261 fw_X6_31 pw_X6_8 rfl rfl rfl (Nat.le_of_ble_eq_true rfl) dX6_invert_11 (fun F_7262 H locs hw f_7263 o_7264 => ?_)
  have f_7263 : F_7262 b = .inr (6, [.ref (ma 0), .int (mi 0), .ref (ma 1), .ref (ma 2), .ref (ma 3), .ref (ma 4), .int (mi 1), .ref (ma 5), .int (nI (0)), .ref (ma 6), .int (mi 3), .int (mi 4), .long (hh)]) := f_7263
  refine lv_aload_n hx hb dX6_invert_14 rfl (lv_at hl 0 rfl) ?_
  refine q_get C0 hw mb f_7263 fw_X6_31 rfl dX6_invert_15 ?_
  refine n_if_le (tgt := 23) hx hb dX6_invert_18 (by decide) (by decide) (fun c_18 => ?_) (fun c_18 => ?_)
  · skip
    have hb_7265 : F_7262 b = mO ma (va_up mi 2 (nI 0)) hh := f_7263
    refine lv_aload_n hx hb dX6_invert_23 rfl (lv_at hl 0 rfl) ?_
    refine lv_iload_n hx hb dX6_invert_24 rfl (lv_at hl 1 rfl) ?_
    have f_7266 : F_7249 (ma 4) = pcE G pl := (o_7253 (ma 4) ).trans fp
    have f_7267 : F_7256 (ma 4) = pcE G pl := (o_7260 (ma 4) ).trans f_7266
    have f_7268 : F_7262 (ma 4) = pcE G pl := (o_7264 (ma 4) (ne_ao f_7267 f_7261)).trans f_7267
    have f_7269 : F_7256 (ma 0) = .inl (G.2 0, 89, .inl zf) := (o_7260 (ma 0) ).trans f_7254
    have f_7270 : F_7262 (ma 0) = .inl (G.2 0, 89, .inl zf) := (o_7264 (ma 0) (ne_ao f_7269 f_7261)).trans f_7269
    refine q_callv hw (q_runV (As := [.int (nI (f9))]) (c_X6_layInverse l G L F_7262 b ma (va_up mi 2 (nI 0)) hh pl zf A.1.1 A.1.2.2.2.2.2 f9 mb hb_7265 hma f_7268 f_7270 hz0 (by omega) (by omega) (by omega) hrw) C0 hw vw_X6_159 mb hb_7265 rfl rfl rfl hl.1 rfl (Nat.le_of_ble_eq_true rfl) dX6_invert_25 ⟨by decide, by decide⟩ ⟨by decide, by decide⟩) rfl rfl (fun F_7271 H locs hw hp_7272 => ?_)
    obtain ⟨⟨P_7273, f_7276, r_7274, ro_7275⟩, o_7277⟩ := hp_7272
    refine lv_aload_n hx hb dX6_invert_28 rfl (lv_at hl 0 rfl) ?_
    refine lv_iconst (v := nI 4) hx hb dX6_invert_29 (by decide) ?_
    refine lv_iload_n hx hb dX6_invert_30 rfl (lv_at hl 2 rfl) ?_
    refine q_calli hw (q_runS (As := [.int (nI (t9))]) (c_X6_flowAt2 l G L F_7271 t9 (by omega)) C0 hw sw_X6_138 rfl hl.1 rfl (Nat.le_of_ble_eq_true rfl) dX6_invert_31 ⟨by decide, by decide⟩ ⟨by decide, by decide⟩) rfl rfl (fun r_7280 F_7278 H locs hw hp_7279 => ?_)
    obtain ⟨he_7281, o_7282⟩ := hp_7279
    subst he_7281
    have f_7283 : F_7271 b = mO ma ((va_up mi 2 (nI 0))) hh := (o_7277 b (ne_oa hb_7265 f_7268)).trans hb_7265
    have f_7284 : F_7278 b = mO ma ((va_up mi 2 (nI 0))) hh := (o_7282 b ).trans f_7283
    have f_7285 : F_7271 (ma 0) = .inl (G.2 0, 89, .inl zf) := (o_7277 (ma 0) (ne_aa (by decide) f_7270 f_7268)).trans f_7270
    have f_7286 : F_7278 (ma 0) = .inl (G.2 0, 89, .inl zf) := (o_7282 (ma 0) ).trans f_7285
    have f_7287 : F_7249 (ma 1) = .inl (G.2 0, 534, .inl hf) := (o_7253 (ma 1) ).trans fh
    have f_7288 : F_7256 (ma 1) = .inl (G.2 0, 534, .inl hf) := (o_7260 (ma 1) ).trans f_7287
    have f_7289 : F_7262 (ma 1) = .inl (G.2 0, 534, .inl hf) := (o_7264 (ma 1) (ne_ao f_7288 f_7261)).trans f_7288
    have f_7290 : F_7271 (ma 1) = .inl (G.2 0, 534, .inl hf) := (o_7277 (ma 1) (ne_aa (by decide) f_7289 f_7268)).trans f_7289
    have f_7291 : F_7278 (ma 1) = .inl (G.2 0, 534, .inl hf) := (o_7282 (ma 1) ).trans f_7290
    have f_7292 : F_7278 (ma 4) = pcE G P_7273 := (o_7282 (ma 4) ).trans f_7276
    refine q_calli hw (q_runV (As := [.int (nI (4)), .int (nI (5 + 7 * (6 + t9)))]) (c_X6_ended l G L F_7278 b ma ((va_up mi 2 (nI 0))) hh zf hf P_7273 A.2.1.1 4 (5 + 7 * (6 + t9)) A.1.1 A.1.2.1 A.1.2.2.1 A.1.2.2.2.1 mb f_7284 hm0 hA.2.1.1 hma f_7286 f_7291 f_7292 hz0 hc hc2 hz1 hz2 hz3 (by omega) (by omega) (by omega)) C0 hw vw_X6_129 mb f_7284 rfl rfl rfl hl.1 rfl (Nat.le_of_ble_eq_true rfl) dX6_invert_34 ⟨by decide, by decide⟩ ⟨by decide, by decide⟩) rfl rfl (fun r_7295 F_7293 H locs hw hp_7294 => ?_)
    obtain ⟨f_7296, f_7297, f_7298, f_7299, f_7300⟩ := hp_7294
    subst f_7296
    have hu_7301 : P_7273 2 = ordR 105 f9 f9 A.1.1 A.1.2.2.2.2.2 := r_7274.trans (inv_eq _ (by omega))
    have hz_7302 := f_7299
    rw [hu_7301] at hz_7302
    have f_7303 : F_7249 (ma 2) = .inl (G.2 0, 178, .inl sf) := (o_7253 (ma 2) ).trans fs
    have f_7304 : F_7256 (ma 2) = .inl (G.2 0, 178, .inl sf) := (o_7260 (ma 2) ).trans f_7303
    have f_7305 : F_7262 (ma 2) = .inl (G.2 0, 178, .inl sf) := (o_7264 (ma 2) (ne_ao f_7304 f_7261)).trans f_7304
    have f_7306 : F_7271 (ma 2) = .inl (G.2 0, 178, .inl sf) := (o_7277 (ma 2) (ne_aa (by decide) f_7305 f_7268)).trans f_7305
    have f_7307 : F_7278 (ma 2) = .inl (G.2 0, 178, .inl sf) := (o_7282 (ma 2) ).trans f_7306
    have f_7308 : F_7293 (ma 2) = .inl (G.2 0, 178, .inl sf) := (f_7300 (ma 2) (ne_ao f_7307 f_7284) (ne_aa (by decide) f_7307 f_7291) (ne_aa (by decide) f_7307 f_7286)).trans f_7307
    have f_7309 : F_7249 (ma 3) = .inl (G.2 0, 2, .inl kf) := (o_7253 (ma 3) ).trans fk
    have f_7310 : F_7256 (ma 3) = .inl (G.2 0, 2, .inl kf) := (o_7260 (ma 3) ).trans f_7309
    have f_7311 : F_7262 (ma 3) = .inl (G.2 0, 2, .inl kf) := (o_7264 (ma 3) (ne_ao f_7310 f_7261)).trans f_7310
    have f_7312 : F_7271 (ma 3) = .inl (G.2 0, 2, .inl kf) := (o_7277 (ma 3) (ne_aa (by decide) f_7311 f_7268)).trans f_7311
    have f_7313 : F_7278 (ma 3) = .inl (G.2 0, 2, .inl kf) := (o_7282 (ma 3) ).trans f_7312
    have f_7314 : F_7293 (ma 3) = .inl (G.2 0, 2, .inl kf) := (f_7300 (ma 3) (ne_ao f_7313 f_7284) (ne_aa (by decide) f_7313 f_7291) (ne_aa (by decide) f_7313 f_7286)).trans f_7313
    have f_7315 : F_7293 (ma 4) = pcE G P_7273 := (f_7300 (ma 4) (ne_ao f_7292 f_7284) (ne_aa (by decide) f_7292 f_7291) (ne_aa (by decide) f_7292 f_7286)).trans f_7292
    have f_7316 : F_7249 (ma 5) = .inl (G.2 0, 60, .inl tf) := (o_7253 (ma 5) ).trans ft
    have f_7317 : F_7256 (ma 5) = .inl (G.2 0, 60, .inl tf) := (o_7260 (ma 5) ).trans f_7316
    have f_7318 : F_7262 (ma 5) = .inl (G.2 0, 60, .inl tf) := (o_7264 (ma 5) (ne_ao f_7317 f_7261)).trans f_7317
    have f_7319 : F_7271 (ma 5) = .inl (G.2 0, 60, .inl tf) := (o_7277 (ma 5) (ne_aa (by decide) f_7318 f_7268)).trans f_7318
    have f_7320 : F_7278 (ma 5) = .inl (G.2 0, 60, .inl tf) := (o_7282 (ma 5) ).trans f_7319
    have f_7321 : F_7293 (ma 5) = .inl (G.2 0, 60, .inl tf) := (f_7300 (ma 5) (ne_ao f_7320 f_7284) (ne_aa (by decide) f_7320 f_7291) (ne_aa (by decide) f_7320 f_7286)).trans f_7320
    have f_7322 : F_7249 (ma 6) = .inl (G.2 0, 52, .inl pf) := (o_7253 (ma 6) ).trans fq
    have f_7323 : F_7256 (ma 6) = .inl (G.2 0, 52, .inl pf) := (o_7260 (ma 6) ).trans f_7322
    have f_7324 : F_7262 (ma 6) = .inl (G.2 0, 52, .inl pf) := (o_7264 (ma 6) (ne_ao f_7323 f_7261)).trans f_7323
    have f_7325 : F_7271 (ma 6) = .inl (G.2 0, 52, .inl pf) := (o_7277 (ma 6) (ne_aa (by decide) f_7324 f_7268)).trans f_7324
    have f_7326 : F_7278 (ma 6) = .inl (G.2 0, 52, .inl pf) := (o_7282 (ma 6) ).trans f_7325
    have f_7327 : F_7293 (ma 6) = .inl (G.2 0, 52, .inl pf) := (f_7300 (ma 6) (ne_ao f_7326 f_7284) (ne_aa (by decide) f_7326 f_7291) (ne_aa (by decide) f_7326 f_7286)).trans f_7326
    exact r_i C0 hr hlk hw (v := (lowR (P_7273 2))) rfl ⟨(by rw [hu_7301]), ⟨_, _, _, _, _, _, _, _, _, f_7297, ⟨(congrArg nI (sv_n (st := A.1) hA.2.1.1)), hm1, rfl⟩, ⟨hz_7302, (pyM_ok (un := 4) (t := (6 + t9)) (u := ordR 105 f9 f9 A.1.1 A.1.2.2.2.2.2) hz (by omega))⟩, ⟨f_7298, (sv_h hA.2.1.1 hz hhf)⟩, ⟨f_7308, hsf⟩, ⟨f_7314, hkf⟩, f_7315, ⟨f_7321, htf⟩, f_7327⟩, (fun q k0 k1 => ((f_7300 q k0 (k1 1 (by decide)) (k1 0 (by decide))).trans ((o_7282 q ).trans ((o_7277 q (k1 4 (by decide))).trans ((o_7264 q k0).trans ((o_7260 q ).trans (o_7253 q )))))))⟩ (Nat.le_refl _) (Nat.le_refl _) dX6_invert_37 hQ
  · skip
    exact absurd c_18 (by omega)
abbrev rm_X6_scale : Room := { frames := 4, cells := 0, slots := 0, locals := 89 }
set_option maxHeartbeats 4000000 in
set_option maxRecDepth 100000 in
theorem k_X6_scale_x1 (l : Launch) (G : Gl) (L : List Nat) (F : Nat → va_E) (b : Nat) (ma : Nat → Nat) (A : AB) (th : Nat) (x9 y9 z9 : Int32) (mb : b ∈ L) (hma : ∀ i, i < 7 → ma i ∈ L) (hM : MW G F b ma A th) (hA : okA A) (h9 : ¬ (inR x9 0 5 ∧ inR z9 0 5)) : CI l yX6_scale cX6_scale 4 (some .int) rm_X6_scale G L F [.ref b, .int (x9), .int (y9), .int (z9)] (fun r F1 => MW G F1 b ma A 1 ∧ mFr F F1 b ma) := by
  obtain ⟨mi, hh, zf, hf, sf, kf, tf, pf, pl, fb, ⟨hm0, hm1, hm2⟩, ⟨fz, hz⟩, ⟨fh, hhf⟩, ⟨fs, hsf⟩, ⟨fk, hkf⟩, fp, ⟨ft, htf⟩, fq⟩ := hM
  obtain ⟨hz0, hz1, hz2, hz3, hz4⟩ := ne_z zf hz
  have hc : A.1.1 ≤ 6 := hA.1.2.1
  have hc2 : 2 ≤ A.1.1 := hA.1.1
  have hpu : A.1.2.1 ≤ 100000 := hA.1.2.2.1
  have hrw : ∀ i k, i < 12 → k < 7 → zf (5 + 7 * i + k) = nI (A.1.2.2.2.2.2 i k).val := hz.row
  refine CG_of (by decide) (Nat.le_of_ble_eq_true rfl) rfl ?_
  intro p e s m args below meth c Q C0 hr hlk hnm hQ hw ls hl
  have hx := C0.x
  have hb := C0.b
  refine lv_aload_n hx hb dX6_scale_0 rfl (lv_at hl 0 rfl) ?_
  refine lv_aload_n hx hb dX6_scale_1 rfl (lv_at hl 0 rfl) ?_
  refine lv_iload_n hx hb dX6_scale_2 rfl (lv_at hl 1 rfl) ?_
  refine lv_iload_n hx hb dX6_scale_3 rfl (lv_at hl 3 rfl) ?_
  refine q_calli hw (q_runS (As := [.int (x9), .int (z9)]) (c_X6_areSlots l G L F (x9) (z9)) C0 hw sw_X6_115 rfl hl.1 rfl (Nat.le_of_ble_eq_true rfl) dX6_scale_4 ⟨by decide, by decide⟩ ⟨by decide, by decide⟩) rfl rfl (fun r_7330 F_7328 H locs hw hp_7329 => ?_)
  obtain ⟨he_7331, o_7332⟩ := hp_7329
  rw [if_neg h9] at he_7331
  subst he_7331
  refine lv_iconst (v := nI 1) hx hb dX6_scale_7 (by decide) ?_
  have f_7333 : F_7328 (ma 0) = .inl (G.2 0, 89, .inl zf) := (o_7332 (ma 0) ).trans fz
  have f_7334 : F_7328 b = mO ma mi hh := (o_7332 b ).trans fb
  refine q_calli hw (q_runV (As := [.int (nI (0)), .int (nI (1))]) (c_X6_refused_1 l G L F_7328 b ma mi hh zf mb f_7334 hma f_7333 (nI 1)) C0 hw vw_X6_119 mb f_7334 rfl rfl rfl hl.1 rfl (Nat.le_of_ble_eq_true rfl) dX6_scale_8 ⟨by decide, by decide⟩ ⟨by decide, by decide⟩) rfl rfl (fun r_7337 F_7335 H locs hw hp_7336 => ?_)
  obtain ⟨he_7338, o_7339⟩ := hp_7336
  subst he_7338
  have f_7340 : F_7335 b = mO ma mi hh := (o_7339 b ).trans f_7334
  refine q_put C0 hw mb f_7340 fw_X6_31 pw_X6_8 rfl rfl rfl (Nat.le_of_ble_eq_true rfl) dX6_scale_11 (fun F_7341 H locs hw f_7342 o_7343 => ?_)
  have f_7342 : F_7341 b = .inr (6, [.ref (ma 0), .int (mi 0), .ref (ma 1), .ref (ma 2), .ref (ma 3), .ref (ma 4), .int (mi 1), .ref (ma 5), .int (nI (1)), .ref (ma 6), .int (mi 3), .int (mi 4), .long (hh)]) := f_7342
  refine lv_aload_n hx hb dX6_scale_14 rfl (lv_at hl 0 rfl) ?_
  refine q_get C0 hw mb f_7342 fw_X6_31 rfl dX6_scale_15 ?_
  refine n_if_le (tgt := 23) hx hb dX6_scale_18 (by decide) (by decide) (fun c_18 => ?_) (fun c_18 => ?_)
  · skip
    exact absurd c_18 (by omega)
  · skip
    refine lv_iconst (v := nI 0) hx hb dX6_scale_21 (by decide) ?_
    have hb_7344 : F_7341 b = mO ma (va_up mi 2 (nI 1)) (hh) := f_7342
    have f_7345 : F_7335 (ma 0) = .inl (G.2 0, 89, .inl zf) := (o_7339 (ma 0) ).trans f_7333
    have f_7346 : F_7341 (ma 0) = .inl (G.2 0, 89, .inl zf) := (o_7343 (ma 0) (ne_ao f_7345 f_7340)).trans f_7345
    have f_7347 : F_7328 (ma 1) = .inl (G.2 0, 534, .inl hf) := (o_7332 (ma 1) ).trans fh
    have f_7348 : F_7335 (ma 1) = .inl (G.2 0, 534, .inl hf) := (o_7339 (ma 1) ).trans f_7347
    have f_7349 : F_7341 (ma 1) = .inl (G.2 0, 534, .inl hf) := (o_7343 (ma 1) (ne_ao f_7348 f_7340)).trans f_7348
    have f_7350 : F_7328 (ma 2) = .inl (G.2 0, 178, .inl sf) := (o_7332 (ma 2) ).trans fs
    have f_7351 : F_7335 (ma 2) = .inl (G.2 0, 178, .inl sf) := (o_7339 (ma 2) ).trans f_7350
    have f_7352 : F_7341 (ma 2) = .inl (G.2 0, 178, .inl sf) := (o_7343 (ma 2) (ne_ao f_7351 f_7340)).trans f_7351
    have f_7353 : F_7328 (ma 3) = .inl (G.2 0, 2, .inl kf) := (o_7332 (ma 3) ).trans fk
    have f_7354 : F_7335 (ma 3) = .inl (G.2 0, 2, .inl kf) := (o_7339 (ma 3) ).trans f_7353
    have f_7355 : F_7341 (ma 3) = .inl (G.2 0, 2, .inl kf) := (o_7343 (ma 3) (ne_ao f_7354 f_7340)).trans f_7354
    have f_7356 : F_7328 (ma 4) = pcE G pl := (o_7332 (ma 4) ).trans fp
    have f_7357 : F_7335 (ma 4) = pcE G pl := (o_7339 (ma 4) ).trans f_7356
    have f_7358 : F_7341 (ma 4) = pcE G pl := (o_7343 (ma 4) (ne_ao f_7357 f_7340)).trans f_7357
    have f_7359 : F_7328 (ma 5) = .inl (G.2 0, 60, .inl tf) := (o_7332 (ma 5) ).trans ft
    have f_7360 : F_7335 (ma 5) = .inl (G.2 0, 60, .inl tf) := (o_7339 (ma 5) ).trans f_7359
    have f_7361 : F_7341 (ma 5) = .inl (G.2 0, 60, .inl tf) := (o_7343 (ma 5) (ne_ao f_7360 f_7340)).trans f_7360
    have f_7362 : F_7328 (ma 6) = .inl (G.2 0, 52, .inl pf) := (o_7332 (ma 6) ).trans fq
    have f_7363 : F_7335 (ma 6) = .inl (G.2 0, 52, .inl pf) := (o_7339 (ma 6) ).trans f_7362
    have f_7364 : F_7341 (ma 6) = .inl (G.2 0, 52, .inl pf) := (o_7343 (ma 6) (ne_ao f_7363 f_7340)).trans f_7363
    exact r_i C0 hr hlk hw (v := nI 0) rfl ⟨⟨_, _, _, _, _, _, _, _, _, hb_7344, ⟨hm0, hm1, rfl⟩, ⟨f_7346, hz⟩, ⟨f_7349, hhf⟩, ⟨f_7352, hsf⟩, ⟨f_7355, hkf⟩, f_7358, ⟨f_7361, htf⟩, f_7364⟩, (fun q k0 k1 => ((o_7343 q k0).trans ((o_7339 q ).trans (o_7332 q ))))⟩ (Nat.le_refl _) (Nat.le_refl _) dX6_scale_22 hQ
set_option maxHeartbeats 4000000 in
set_option maxRecDepth 100000 in
theorem k_X6_scale_x2 (l : Launch) (G : Gl) (L : List Nat) (F : Nat → va_E) (b : Nat) (ma : Nat → Nat) (A : AB) (th : Nat) (x9 y9 z9 : Int32) (mb : b ∈ L) (hma : ∀ i, i < 7 → ma i ∈ L) (hM : MW G F b ma A th) (hA : okA A) (h8 : inR x9 0 5 ∧ inR z9 0 5) (hm : A.1.2.1 < A.1.1 * 1) : CI l yX6_scale cX6_scale 4 (some .int) rm_X6_scale G L F [.ref b, .int (x9), .int (y9), .int (z9)] (fun r F1 => MW G F1 b ma A 2 ∧ mFr F F1 b ma) := by
  obtain ⟨mi, hh, zf, hf, sf, kf, tf, pf, pl, fb, ⟨hm0, hm1, hm2⟩, ⟨fz, hz⟩, ⟨fh, hhf⟩, ⟨fs, hsf⟩, ⟨fk, hkf⟩, fp, ⟨ft, htf⟩, fq⟩ := hM
  obtain ⟨hz0, hz1, hz2, hz3, hz4⟩ := ne_z zf hz
  have hc : A.1.1 ≤ 6 := hA.1.2.1
  have hc2 : 2 ≤ A.1.1 := hA.1.1
  have hpu : A.1.2.1 ≤ 100000 := hA.1.2.2.1
  have hrw : ∀ i k, i < 12 → k < 7 → zf (5 + 7 * i + k) = nI (A.1.2.2.2.2.2 i k).val := hz.row
  refine CG_of (by decide) (Nat.le_of_ble_eq_true rfl) rfl ?_
  intro p e s m args below meth c Q C0 hr hlk hnm hQ hw ls hl
  have hx := C0.x
  have hb := C0.b
  refine lv_aload_n hx hb dX6_scale_0 rfl (lv_at hl 0 rfl) ?_
  refine lv_aload_n hx hb dX6_scale_1 rfl (lv_at hl 0 rfl) ?_
  refine lv_iload_n hx hb dX6_scale_2 rfl (lv_at hl 1 rfl) ?_
  refine lv_iload_n hx hb dX6_scale_3 rfl (lv_at hl 3 rfl) ?_
  refine q_calli hw (q_runS (As := [.int (x9), .int (z9)]) (c_X6_areSlots l G L F (x9) (z9)) C0 hw sw_X6_115 rfl hl.1 rfl (Nat.le_of_ble_eq_true rfl) dX6_scale_4 ⟨by decide, by decide⟩ ⟨by decide, by decide⟩) rfl rfl (fun r_7367 F_7365 H locs hw hp_7366 => ?_)
  obtain ⟨he_7368, o_7369⟩ := hp_7366
  rw [if_pos h8] at he_7368
  subst he_7368
  refine lv_iconst (v := nI 1) hx hb dX6_scale_7 (by decide) ?_
  have f_7370 : F_7365 (ma 0) = .inl (G.2 0, 89, .inl zf) := (o_7369 (ma 0) ).trans fz
  have f_7371 : F_7365 b = mO ma mi hh := (o_7369 b ).trans fb
  refine q_calli hw (q_runV (As := [.int (nI (1)), .int (nI (1))]) (c_X6_refused_2 l G L F_7365 b ma mi hh zf 1 A.1.1 A.1.2.1 mb f_7371 hma f_7370 hz0 hz1 hc (by omega) hpu (by omega)) C0 hw vw_X6_119 mb f_7371 rfl rfl rfl hl.1 rfl (Nat.le_of_ble_eq_true rfl) dX6_scale_8 ⟨by decide, by decide⟩ ⟨by decide, by decide⟩) rfl rfl (fun r_7374 F_7372 H locs hw hp_7373 => ?_)
  obtain ⟨he_7375, o_7376⟩ := hp_7373
  subst he_7375
  have f_7377 : F_7372 b = mO ma mi hh := (o_7376 b ).trans f_7371
  refine q_put C0 hw mb f_7377 fw_X6_31 pw_X6_8 rfl rfl rfl (Nat.le_of_ble_eq_true rfl) dX6_scale_11 (fun F_7378 H locs hw f_7379 o_7380 => ?_)
  have f_7379 : F_7378 b = .inr (6, [.ref (ma 0), .int (mi 0), .ref (ma 1), .ref (ma 2), .ref (ma 3), .ref (ma 4), .int (mi 1), .ref (ma 5), .int (nI (2)), .ref (ma 6), .int (mi 3), .int (mi 4), .long (hh)]) := f_7379
  refine lv_aload_n hx hb dX6_scale_14 rfl (lv_at hl 0 rfl) ?_
  refine q_get C0 hw mb f_7379 fw_X6_31 rfl dX6_scale_15 ?_
  refine n_if_le (tgt := 23) hx hb dX6_scale_18 (by decide) (by decide) (fun c_18 => ?_) (fun c_18 => ?_)
  · skip
    exact absurd c_18 (by omega)
  · skip
    refine lv_iconst (v := nI 0) hx hb dX6_scale_21 (by decide) ?_
    have hb_7381 : F_7378 b = mO ma (va_up mi 2 (nI 2)) (hh) := f_7379
    have f_7382 : F_7372 (ma 0) = .inl (G.2 0, 89, .inl zf) := (o_7376 (ma 0) ).trans f_7370
    have f_7383 : F_7378 (ma 0) = .inl (G.2 0, 89, .inl zf) := (o_7380 (ma 0) (ne_ao f_7382 f_7377)).trans f_7382
    have f_7384 : F_7365 (ma 1) = .inl (G.2 0, 534, .inl hf) := (o_7369 (ma 1) ).trans fh
    have f_7385 : F_7372 (ma 1) = .inl (G.2 0, 534, .inl hf) := (o_7376 (ma 1) ).trans f_7384
    have f_7386 : F_7378 (ma 1) = .inl (G.2 0, 534, .inl hf) := (o_7380 (ma 1) (ne_ao f_7385 f_7377)).trans f_7385
    have f_7387 : F_7365 (ma 2) = .inl (G.2 0, 178, .inl sf) := (o_7369 (ma 2) ).trans fs
    have f_7388 : F_7372 (ma 2) = .inl (G.2 0, 178, .inl sf) := (o_7376 (ma 2) ).trans f_7387
    have f_7389 : F_7378 (ma 2) = .inl (G.2 0, 178, .inl sf) := (o_7380 (ma 2) (ne_ao f_7388 f_7377)).trans f_7388
    have f_7390 : F_7365 (ma 3) = .inl (G.2 0, 2, .inl kf) := (o_7369 (ma 3) ).trans fk
    have f_7391 : F_7372 (ma 3) = .inl (G.2 0, 2, .inl kf) := (o_7376 (ma 3) ).trans f_7390
    have f_7392 : F_7378 (ma 3) = .inl (G.2 0, 2, .inl kf) := (o_7380 (ma 3) (ne_ao f_7391 f_7377)).trans f_7391
    have f_7393 : F_7365 (ma 4) = pcE G pl := (o_7369 (ma 4) ).trans fp
    have f_7394 : F_7372 (ma 4) = pcE G pl := (o_7376 (ma 4) ).trans f_7393
    have f_7395 : F_7378 (ma 4) = pcE G pl := (o_7380 (ma 4) (ne_ao f_7394 f_7377)).trans f_7394
    have f_7396 : F_7365 (ma 5) = .inl (G.2 0, 60, .inl tf) := (o_7369 (ma 5) ).trans ft
    have f_7397 : F_7372 (ma 5) = .inl (G.2 0, 60, .inl tf) := (o_7376 (ma 5) ).trans f_7396
    have f_7398 : F_7378 (ma 5) = .inl (G.2 0, 60, .inl tf) := (o_7380 (ma 5) (ne_ao f_7397 f_7377)).trans f_7397
    have f_7399 : F_7365 (ma 6) = .inl (G.2 0, 52, .inl pf) := (o_7369 (ma 6) ).trans fq
    have f_7400 : F_7372 (ma 6) = .inl (G.2 0, 52, .inl pf) := (o_7376 (ma 6) ).trans f_7399
    have f_7401 : F_7378 (ma 6) = .inl (G.2 0, 52, .inl pf) := (o_7380 (ma 6) (ne_ao f_7400 f_7377)).trans f_7400
    exact r_i C0 hr hlk hw (v := nI 0) rfl ⟨⟨_, _, _, _, _, _, _, _, _, hb_7381, ⟨hm0, hm1, rfl⟩, ⟨f_7383, hz⟩, ⟨f_7386, hhf⟩, ⟨f_7389, hsf⟩, ⟨f_7392, hkf⟩, f_7395, ⟨f_7398, htf⟩, f_7401⟩, (fun q k0 k1 => ((o_7380 q k0).trans ((o_7376 q ).trans (o_7369 q ))))⟩ (Nat.le_refl _) (Nat.le_refl _) dX6_scale_22 hQ
set_option maxHeartbeats 4000000 in
set_option maxRecDepth 100000 in
theorem k_X6_scale (l : Launch) (G : Gl) (L : List Nat) (F : Nat → va_E) (b : Nat) (ma : Nat → Nat) (A : AB) (th : Nat) (f9 t9 : Nat) (y9 : Int32) (mb : b ∈ L) (hma : ∀ i, i < 7 → ma i ∈ L) (hM : MW G F b ma A th) (hA : okA A) (hf9 : f9 < 6) (ht9 : t9 < 6) (h8 : inR (nI f9) 0 5 ∧ inR (nI t9) 0 5) (hm : 1 * A.1.1 ≤ A.1.2.1) : CI l yX6_scale cX6_scale 4 (some .int) rm_X6_scale G L F [.ref b, .int (nI (f9)), .int (y9), .int (nI (t9))] (fun r F1 => r = lowR (m_scale (A.1.2.2.2.2.2 f9) (zi y9)) ∧ MW G F1 b ma (aSave A (genS 1 t9 (m_scale (A.1.2.2.2.2.2 f9) (zi y9)) A.1)) 0 ∧ mFr F F1 b ma) := by
  obtain ⟨mi, hh, zf, hf, sf, kf, tf, pf, pl, fb, ⟨hm0, hm1, hm2⟩, ⟨fz, hz⟩, ⟨fh, hhf⟩, ⟨fs, hsf⟩, ⟨fk, hkf⟩, fp, ⟨ft, htf⟩, fq⟩ := hM
  obtain ⟨hz0, hz1, hz2, hz3, hz4⟩ := ne_z zf hz
  have hc : A.1.1 ≤ 6 := hA.1.2.1
  have hc2 : 2 ≤ A.1.1 := hA.1.1
  have hpu : A.1.2.1 ≤ 100000 := hA.1.2.2.1
  have hrw : ∀ i k, i < 12 → k < 7 → zf (5 + 7 * i + k) = nI (A.1.2.2.2.2.2 i k).val := hz.row
  refine CG_of (by decide) (Nat.le_of_ble_eq_true rfl) rfl ?_
  intro p e s m args below meth c Q C0 hr hlk hnm hQ hw ls hl
  have hx := C0.x
  have hb := C0.b
  refine lv_aload_n hx hb dX6_scale_0 rfl (lv_at hl 0 rfl) ?_
  refine lv_aload_n hx hb dX6_scale_1 rfl (lv_at hl 0 rfl) ?_
  refine lv_iload_n hx hb dX6_scale_2 rfl (lv_at hl 1 rfl) ?_
  refine lv_iload_n hx hb dX6_scale_3 rfl (lv_at hl 3 rfl) ?_
  refine q_calli hw (q_runS (As := [.int (nI (f9)), .int (nI (t9))]) (c_X6_areSlots l G L F (nI (f9)) (nI (t9))) C0 hw sw_X6_115 rfl hl.1 rfl (Nat.le_of_ble_eq_true rfl) dX6_scale_4 ⟨by decide, by decide⟩ ⟨by decide, by decide⟩) rfl rfl (fun r_7404 F_7402 H locs hw hp_7403 => ?_)
  obtain ⟨he_7405, o_7406⟩ := hp_7403
  rw [if_pos h8] at he_7405
  subst he_7405
  refine lv_iconst (v := nI 1) hx hb dX6_scale_7 (by decide) ?_
  have f_7407 : F_7402 (ma 0) = .inl (G.2 0, 89, .inl zf) := (o_7406 (ma 0) ).trans fz
  have f_7408 : F_7402 b = mO ma mi hh := (o_7406 b ).trans fb
  refine q_calli hw (q_runV (As := [.int (nI (1)), .int (nI (1))]) (c_X6_refused l G L F_7402 b ma mi hh zf 1 A.1.1 A.1.2.1 mb f_7408 hma f_7407 hz0 hz1 hc (by omega) hpu (by omega)) C0 hw vw_X6_119 mb f_7408 rfl rfl rfl hl.1 rfl (Nat.le_of_ble_eq_true rfl) dX6_scale_8 ⟨by decide, by decide⟩ ⟨by decide, by decide⟩) rfl rfl (fun r_7411 F_7409 H locs hw hp_7410 => ?_)
  obtain ⟨he_7412, o_7413⟩ := hp_7410
  subst he_7412
  have f_7414 : F_7409 b = mO ma mi hh := (o_7413 b ).trans f_7408
  refine q_put C0 hw mb f_7414 fw_X6_31 pw_X6_8 rfl rfl rfl (Nat.le_of_ble_eq_true rfl) dX6_scale_11 (fun F_7415 H locs hw f_7416 o_7417 => ?_)
  have f_7416 : F_7415 b = .inr (6, [.ref (ma 0), .int (mi 0), .ref (ma 1), .ref (ma 2), .ref (ma 3), .ref (ma 4), .int (mi 1), .ref (ma 5), .int (nI (0)), .ref (ma 6), .int (mi 3), .int (mi 4), .long (hh)]) := f_7416
  refine lv_aload_n hx hb dX6_scale_14 rfl (lv_at hl 0 rfl) ?_
  refine q_get C0 hw mb f_7416 fw_X6_31 rfl dX6_scale_15 ?_
  refine n_if_le (tgt := 23) hx hb dX6_scale_18 (by decide) (by decide) (fun c_18 => ?_) (fun c_18 => ?_)
  · skip
    have hb_7418 : F_7415 b = mO ma (va_up mi 2 (nI 0)) hh := f_7416
    refine lv_aload_n hx hb dX6_scale_23 rfl (lv_at hl 0 rfl) ?_
    refine lv_iload_n hx hb dX6_scale_24 rfl (lv_at hl 1 rfl) ?_
    refine q_calli hw (q_runS (As := [.int (nI (f9))]) (c_X6_fieldAt l G L F_7415 f9 (by omega)) C0 hw sw_X6_109 rfl hl.1 rfl (Nat.le_of_ble_eq_true rfl) dX6_scale_25 ⟨by decide, by decide⟩ ⟨by decide, by decide⟩) rfl rfl (fun r_7421 F_7419 H locs hw hp_7420 => ?_)
    obtain ⟨he_7422, o_7423⟩ := hp_7420
    subst he_7422
    refine lv_iconst (v := nI 0) hx hb dX6_scale_28 (by decide) ?_
    have f_7424 : F_7419 b = mO ma ((va_up mi 2 (nI 0))) hh := (o_7423 b ).trans hb_7418
    have f_7425 : F_7402 (ma 4) = pcE G pl := (o_7406 (ma 4) ).trans fp
    have f_7426 : F_7409 (ma 4) = pcE G pl := (o_7413 (ma 4) ).trans f_7425
    have f_7427 : F_7415 (ma 4) = pcE G pl := (o_7417 (ma 4) (ne_ao f_7426 f_7414)).trans f_7426
    have f_7428 : F_7419 (ma 4) = pcE G pl := (o_7423 (ma 4) ).trans f_7427
    have f_7429 : F_7409 (ma 0) = .inl (G.2 0, 89, .inl zf) := (o_7413 (ma 0) ).trans f_7407
    have f_7430 : F_7415 (ma 0) = .inl (G.2 0, 89, .inl zf) := (o_7417 (ma 0) (ne_ao f_7429 f_7414)).trans f_7429
    have f_7431 : F_7419 (ma 0) = .inl (G.2 0, 89, .inl zf) := (o_7423 (ma 0) ).trans f_7430
    refine q_callv hw (q_runV (As := [.int (nI (5 + 7 * f9)), .int (nI (0))]) (c_X6_load l G L F_7419 b ma (va_up mi 2 (nI 0)) hh pl zf A.1.1 (5 + 7 * f9) 0 (A.1.2.2.2.2.2 f9) mb f_7424 hma f_7428 f_7431 hz0 (by omega) (by omega) (by omega) (by omega) (fun k hk => hrw f9 k (by omega) hk)) C0 hw vw_X6_112 mb f_7424 rfl rfl rfl hl.1 rfl (Nat.le_of_ble_eq_true rfl) dX6_scale_29 ⟨by decide, by decide⟩ ⟨by decide, by decide⟩) rfl rfl (fun F_7432 H locs hw hp_7433 => ?_)
    obtain ⟨P_7434, eP_7434⟩ : ∃ P9, P9 = va_up pl 0 (A.1.2.2.2.2.2 f9) := ⟨_, rfl⟩
    have f_7437 : F_7432 (ma 4) = pcE G P_7434 := by rw [eP_7434]; exact hp_7433.1
    have r_7435 : P_7434 0 = A.1.2.2.2.2.2 f9 := by rw [eP_7434, va_up_self]
    have ro_7436 : ∀ q, q ≠ 0 → P_7434 q = pl q := fun q hq => by rw [eP_7434]; exact va_up_ne _ _ hq
    refine lv_aload_n hx hb dX6_scale_32 rfl (lv_at hl 0 rfl) ?_
    refine lv_iconst (v := nI 2) hx hb dX6_scale_33 (by decide) ?_
    have f_7438 : F_7432 b = mO ma ((va_up mi 2 (nI 0))) hh := (hp_7433.2 b (ne_oa f_7424 f_7428)).trans f_7424
    have f_7439 : F_7432 (ma 0) = .inl (G.2 0, 89, .inl zf) := (hp_7433.2 (ma 0) (ne_aa (by decide) f_7431 f_7428)).trans f_7431
    refine q_callv hw (q_runV (As := [.int (nI (2))]) (c_X6_clear l G L F_7432 b ma (va_up mi 2 (nI 0)) hh P_7434 zf A.1.1 2 mb f_7438 hma f_7437 f_7439 hz0 (by omega) (by omega) (by omega)) C0 hw vw_X6_54 mb f_7438 rfl rfl rfl hl.1 rfl (Nat.le_of_ble_eq_true rfl) dX6_scale_34 ⟨by decide, by decide⟩ ⟨by decide, by decide⟩) rfl rfl (fun F_7440 H locs hw hp_7441 => ?_)
    obtain ⟨P_7442, eP_7442⟩ : ∃ P9, P9 = va_up P_7434 2 ((fun _ => zc 0)) := ⟨_, rfl⟩
    have f_7445 : F_7440 (ma 4) = pcE G P_7442 := by rw [eP_7442]; exact hp_7441.1
    have r_7443 : P_7442 2 = (fun _ => zc 0) := by rw [eP_7442, va_up_self]
    have ro_7444 : ∀ q, q ≠ 2 → P_7442 q = P_7434 q := fun q hq => by rw [eP_7442]; exact va_up_ne _ _ hq
    refine lv_aload_n hx hb dX6_scale_37 rfl (lv_at hl 0 rfl) ?_
    refine lv_iconst (v := nI 0) hx hb dX6_scale_38 (by decide) ?_
    refine lv_iload_n hx hb dX6_scale_39 rfl (lv_at hl 2 rfl) ?_
    refine q_calli hw (q_runS (As := [.int (y9)]) (c_X6_modulo l G L F_7440 y9) C0 hw sw_X6_90 rfl hl.1 rfl (Nat.le_of_ble_eq_true rfl) dX6_scale_40 ⟨by decide, by decide⟩ ⟨by decide, by decide⟩) rfl rfl (fun r_7448 F_7446 H locs hw hp_7447 => ?_)
    obtain ⟨he_7449, o_7450⟩ := hp_7447
    subst he_7449
    refine lv_iconst (v := nI 2) hx hb dX6_scale_43 (by decide) ?_
    have r_7451 : P_7442 0 = A.1.2.2.2.2.2 f9 := (ro_7444 0 (by omega)).trans r_7435
    have f_7452 : F_7440 b = mO ma ((va_up mi 2 (nI 0))) hh := (hp_7441.2 b (ne_oa f_7438 f_7437)).trans f_7438
    have f_7453 : F_7446 b = mO ma ((va_up mi 2 (nI 0))) hh := (o_7450 b ).trans f_7452
    have f_7454 : F_7446 (ma 4) = pcE G P_7442 := (o_7450 (ma 4) ).trans f_7445
    have f_7455 : F_7440 (ma 0) = .inl (G.2 0, 89, .inl zf) := (hp_7441.2 (ma 0) (ne_aa (by decide) f_7439 f_7437)).trans f_7439
    have f_7456 : F_7446 (ma 0) = .inl (G.2 0, 89, .inl zf) := (o_7450 (ma 0) ).trans f_7455
    refine q_callv hw (q_runV (As := [.int (nI (0)), .int (nI ((zi y9).val)), .int (nI (2))]) (c_X6_addTimes l G L F_7446 b ma (va_up mi 2 (nI 0)) hh P_7442 zf A.1.1 0 (zi y9).val 2 mb f_7453 hma f_7454 f_7456 hz0 (by omega) (by omega) (by omega) (by omega) (by omega) (by omega)) C0 hw vw_X6_58 mb f_7453 rfl rfl rfl hl.1 rfl (Nat.le_of_ble_eq_true rfl) dX6_scale_44 ⟨by decide, by decide⟩ ⟨by decide, by decide⟩) rfl rfl (fun F_7457 H locs hw hp_7458 => ?_)
    obtain ⟨P_7459, eP_7459⟩ : ∃ P9, P9 = va_up P_7442 2 (m_am (P_7442 2) (P_7442 0) (zc (zi y9).val)) := ⟨_, rfl⟩
    have f_7462 : F_7457 (ma 4) = pcE G P_7459 := by rw [eP_7459]; exact hp_7458.1
    have r_7460 : P_7459 2 = m_am (fun _ => zc 0) (A.1.2.2.2.2.2 f9) (zc (zi y9).val) := by rw [eP_7459, va_up_self]; rw [r_7451, r_7443]
    have ro_7461 : ∀ q, q ≠ 2 → P_7459 q = P_7442 q := fun q hq => by rw [eP_7459]; exact va_up_ne _ _ hq
    refine lv_aload_n hx hb dX6_scale_47 rfl (lv_at hl 0 rfl) ?_
    refine lv_iconst (v := nI 1) hx hb dX6_scale_48 (by decide) ?_
    refine lv_iload_n hx hb dX6_scale_49 rfl (lv_at hl 3 rfl) ?_
    refine q_calli hw (q_runS (As := [.int (nI (t9))]) (c_X6_fieldAt l G L F_7457 t9 (by omega)) C0 hw sw_X6_109 rfl hl.1 rfl (Nat.le_of_ble_eq_true rfl) dX6_scale_50 ⟨by decide, by decide⟩ ⟨by decide, by decide⟩) rfl rfl (fun r_7465 F_7463 H locs hw hp_7464 => ?_)
    obtain ⟨he_7466, o_7467⟩ := hp_7464
    subst he_7466
    have f_7468 : F_7457 b = mO ma ((va_up mi 2 (nI 0))) hh := (hp_7458.2 b (ne_oa f_7453 f_7454)).trans f_7453
    have f_7469 : F_7463 b = mO ma ((va_up mi 2 (nI 0))) hh := (o_7467 b ).trans f_7468
    have f_7470 : F_7457 (ma 0) = .inl (G.2 0, 89, .inl zf) := (hp_7458.2 (ma 0) (ne_aa (by decide) f_7456 f_7454)).trans f_7456
    have f_7471 : F_7463 (ma 0) = .inl (G.2 0, 89, .inl zf) := (o_7467 (ma 0) ).trans f_7470
    have f_7472 : F_7402 (ma 1) = .inl (G.2 0, 534, .inl hf) := (o_7406 (ma 1) ).trans fh
    have f_7473 : F_7409 (ma 1) = .inl (G.2 0, 534, .inl hf) := (o_7413 (ma 1) ).trans f_7472
    have f_7474 : F_7415 (ma 1) = .inl (G.2 0, 534, .inl hf) := (o_7417 (ma 1) (ne_ao f_7473 f_7414)).trans f_7473
    have f_7475 : F_7419 (ma 1) = .inl (G.2 0, 534, .inl hf) := (o_7423 (ma 1) ).trans f_7474
    have f_7476 : F_7432 (ma 1) = .inl (G.2 0, 534, .inl hf) := (hp_7433.2 (ma 1) (ne_aa (by decide) f_7475 f_7428)).trans f_7475
    have f_7477 : F_7440 (ma 1) = .inl (G.2 0, 534, .inl hf) := (hp_7441.2 (ma 1) (ne_aa (by decide) f_7476 f_7437)).trans f_7476
    have f_7478 : F_7446 (ma 1) = .inl (G.2 0, 534, .inl hf) := (o_7450 (ma 1) ).trans f_7477
    have f_7479 : F_7457 (ma 1) = .inl (G.2 0, 534, .inl hf) := (hp_7458.2 (ma 1) (ne_aa (by decide) f_7478 f_7454)).trans f_7478
    have f_7480 : F_7463 (ma 1) = .inl (G.2 0, 534, .inl hf) := (o_7467 (ma 1) ).trans f_7479
    have f_7481 : F_7463 (ma 4) = pcE G P_7459 := (o_7467 (ma 4) ).trans f_7462
    refine q_calli hw (q_runV (As := [.int (nI (1)), .int (nI (5 + 7 * t9))]) (c_X6_ended l G L F_7463 b ma ((va_up mi 2 (nI 0))) hh zf hf P_7459 A.2.1.1 1 (5 + 7 * t9) A.1.1 A.1.2.1 A.1.2.2.1 A.1.2.2.2.1 mb f_7469 hm0 hA.2.1.1 hma f_7471 f_7480 f_7481 hz0 hc hc2 hz1 hz2 hz3 (by omega) (by omega) (by omega)) C0 hw vw_X6_129 mb f_7469 rfl rfl rfl hl.1 rfl (Nat.le_of_ble_eq_true rfl) dX6_scale_53 ⟨by decide, by decide⟩ ⟨by decide, by decide⟩) rfl rfl (fun r_7484 F_7482 H locs hw hp_7483 => ?_)
    obtain ⟨f_7485, f_7486, f_7487, f_7488, f_7489⟩ := hp_7483
    subst f_7485
    have hu_7490 : P_7459 2 = m_scale (A.1.2.2.2.2.2 f9) (zi y9) := r_7460.trans ((by rw [zrow, zc_z]; exact am_0 _ _))
    have hz_7491 := f_7488
    rw [hu_7490] at hz_7491
    have f_7492 : F_7402 (ma 2) = .inl (G.2 0, 178, .inl sf) := (o_7406 (ma 2) ).trans fs
    have f_7493 : F_7409 (ma 2) = .inl (G.2 0, 178, .inl sf) := (o_7413 (ma 2) ).trans f_7492
    have f_7494 : F_7415 (ma 2) = .inl (G.2 0, 178, .inl sf) := (o_7417 (ma 2) (ne_ao f_7493 f_7414)).trans f_7493
    have f_7495 : F_7419 (ma 2) = .inl (G.2 0, 178, .inl sf) := (o_7423 (ma 2) ).trans f_7494
    have f_7496 : F_7432 (ma 2) = .inl (G.2 0, 178, .inl sf) := (hp_7433.2 (ma 2) (ne_aa (by decide) f_7495 f_7428)).trans f_7495
    have f_7497 : F_7440 (ma 2) = .inl (G.2 0, 178, .inl sf) := (hp_7441.2 (ma 2) (ne_aa (by decide) f_7496 f_7437)).trans f_7496
    have f_7498 : F_7446 (ma 2) = .inl (G.2 0, 178, .inl sf) := (o_7450 (ma 2) ).trans f_7497
    have f_7499 : F_7457 (ma 2) = .inl (G.2 0, 178, .inl sf) := (hp_7458.2 (ma 2) (ne_aa (by decide) f_7498 f_7454)).trans f_7498
    have f_7500 : F_7463 (ma 2) = .inl (G.2 0, 178, .inl sf) := (o_7467 (ma 2) ).trans f_7499
    have f_7501 : F_7482 (ma 2) = .inl (G.2 0, 178, .inl sf) := (f_7489 (ma 2) (ne_ao f_7500 f_7469) (ne_aa (by decide) f_7500 f_7480) (ne_aa (by decide) f_7500 f_7471)).trans f_7500
    have f_7502 : F_7402 (ma 3) = .inl (G.2 0, 2, .inl kf) := (o_7406 (ma 3) ).trans fk
    have f_7503 : F_7409 (ma 3) = .inl (G.2 0, 2, .inl kf) := (o_7413 (ma 3) ).trans f_7502
    have f_7504 : F_7415 (ma 3) = .inl (G.2 0, 2, .inl kf) := (o_7417 (ma 3) (ne_ao f_7503 f_7414)).trans f_7503
    have f_7505 : F_7419 (ma 3) = .inl (G.2 0, 2, .inl kf) := (o_7423 (ma 3) ).trans f_7504
    have f_7506 : F_7432 (ma 3) = .inl (G.2 0, 2, .inl kf) := (hp_7433.2 (ma 3) (ne_aa (by decide) f_7505 f_7428)).trans f_7505
    have f_7507 : F_7440 (ma 3) = .inl (G.2 0, 2, .inl kf) := (hp_7441.2 (ma 3) (ne_aa (by decide) f_7506 f_7437)).trans f_7506
    have f_7508 : F_7446 (ma 3) = .inl (G.2 0, 2, .inl kf) := (o_7450 (ma 3) ).trans f_7507
    have f_7509 : F_7457 (ma 3) = .inl (G.2 0, 2, .inl kf) := (hp_7458.2 (ma 3) (ne_aa (by decide) f_7508 f_7454)).trans f_7508
    have f_7510 : F_7463 (ma 3) = .inl (G.2 0, 2, .inl kf) := (o_7467 (ma 3) ).trans f_7509
    have f_7511 : F_7482 (ma 3) = .inl (G.2 0, 2, .inl kf) := (f_7489 (ma 3) (ne_ao f_7510 f_7469) (ne_aa (by decide) f_7510 f_7480) (ne_aa (by decide) f_7510 f_7471)).trans f_7510
    have f_7512 : F_7482 (ma 4) = pcE G P_7459 := (f_7489 (ma 4) (ne_ao f_7481 f_7469) (ne_aa (by decide) f_7481 f_7480) (ne_aa (by decide) f_7481 f_7471)).trans f_7481
    have f_7513 : F_7402 (ma 5) = .inl (G.2 0, 60, .inl tf) := (o_7406 (ma 5) ).trans ft
    have f_7514 : F_7409 (ma 5) = .inl (G.2 0, 60, .inl tf) := (o_7413 (ma 5) ).trans f_7513
    have f_7515 : F_7415 (ma 5) = .inl (G.2 0, 60, .inl tf) := (o_7417 (ma 5) (ne_ao f_7514 f_7414)).trans f_7514
    have f_7516 : F_7419 (ma 5) = .inl (G.2 0, 60, .inl tf) := (o_7423 (ma 5) ).trans f_7515
    have f_7517 : F_7432 (ma 5) = .inl (G.2 0, 60, .inl tf) := (hp_7433.2 (ma 5) (ne_aa (by decide) f_7516 f_7428)).trans f_7516
    have f_7518 : F_7440 (ma 5) = .inl (G.2 0, 60, .inl tf) := (hp_7441.2 (ma 5) (ne_aa (by decide) f_7517 f_7437)).trans f_7517
    have f_7519 : F_7446 (ma 5) = .inl (G.2 0, 60, .inl tf) := (o_7450 (ma 5) ).trans f_7518
    have f_7520 : F_7457 (ma 5) = .inl (G.2 0, 60, .inl tf) := (hp_7458.2 (ma 5) (ne_aa (by decide) f_7519 f_7454)).trans f_7519
    have f_7521 : F_7463 (ma 5) = .inl (G.2 0, 60, .inl tf) := (o_7467 (ma 5) ).trans f_7520
    have f_7522 : F_7482 (ma 5) = .inl (G.2 0, 60, .inl tf) := (f_7489 (ma 5) (ne_ao f_7521 f_7469) (ne_aa (by decide) f_7521 f_7480) (ne_aa (by decide) f_7521 f_7471)).trans f_7521
    have f_7523 : F_7402 (ma 6) = .inl (G.2 0, 52, .inl pf) := (o_7406 (ma 6) ).trans fq
    have f_7524 : F_7409 (ma 6) = .inl (G.2 0, 52, .inl pf) := (o_7413 (ma 6) ).trans f_7523
    have f_7525 : F_7415 (ma 6) = .inl (G.2 0, 52, .inl pf) := (o_7417 (ma 6) (ne_ao f_7524 f_7414)).trans f_7524
    have f_7526 : F_7419 (ma 6) = .inl (G.2 0, 52, .inl pf) := (o_7423 (ma 6) ).trans f_7525
    have f_7527 : F_7432 (ma 6) = .inl (G.2 0, 52, .inl pf) := (hp_7433.2 (ma 6) (ne_aa (by decide) f_7526 f_7428)).trans f_7526
    have f_7528 : F_7440 (ma 6) = .inl (G.2 0, 52, .inl pf) := (hp_7441.2 (ma 6) (ne_aa (by decide) f_7527 f_7437)).trans f_7527
    have f_7529 : F_7446 (ma 6) = .inl (G.2 0, 52, .inl pf) := (o_7450 (ma 6) ).trans f_7528
    have f_7530 : F_7457 (ma 6) = .inl (G.2 0, 52, .inl pf) := (hp_7458.2 (ma 6) (ne_aa (by decide) f_7529 f_7454)).trans f_7529
    have f_7531 : F_7463 (ma 6) = .inl (G.2 0, 52, .inl pf) := (o_7467 (ma 6) ).trans f_7530
    have f_7532 : F_7482 (ma 6) = .inl (G.2 0, 52, .inl pf) := (f_7489 (ma 6) (ne_ao f_7531 f_7469) (ne_aa (by decide) f_7531 f_7480) (ne_aa (by decide) f_7531 f_7471)).trans f_7531
    exact r_i C0 hr hlk hw (v := (lowR (P_7459 2))) rfl ⟨(by rw [hu_7490]), ⟨_, _, _, _, _, _, _, _, _, f_7486, ⟨(congrArg nI (sv_n (st := A.1) hA.2.1.1)), hm1, rfl⟩, ⟨hz_7491, (pyM_ok (un := 1) (t := t9) (u := m_scale (A.1.2.2.2.2.2 f9) (zi y9)) hz (by omega))⟩, ⟨f_7487, (sv_h hA.2.1.1 hz hhf)⟩, ⟨f_7501, hsf⟩, ⟨f_7511, hkf⟩, f_7512, ⟨f_7522, htf⟩, f_7532⟩, (fun q k0 k1 => ((f_7489 q k0 (k1 1 (by decide)) (k1 0 (by decide))).trans ((o_7467 q ).trans ((hp_7458.2 q (k1 4 (by decide))).trans ((o_7450 q ).trans ((hp_7441.2 q (k1 4 (by decide))).trans ((hp_7433.2 q (k1 4 (by decide))).trans ((o_7423 q ).trans ((o_7417 q k0).trans ((o_7413 q ).trans (o_7406 q )))))))))))⟩ (Nat.le_refl _) (Nat.le_refl _) dX6_scale_56 hQ
  · skip
    exact absurd c_18 (by omega)
set_option maxHeartbeats 4000000 in
set_option maxRecDepth 100000 in
theorem c_X6_withinI (l : Launch) (G : Gl) (L : List Nat) (F : Nat → va_E) (v lo hi : Int32) : CI l yX6_within cX6_within 3 (some .boolean) rm_X6_within G L F [.int (v), .int (lo), .int (hi)] (fun r F1 => r = (if lo ≤ v ∧ v ≤ hi then nI 1 else nI 0) ∧ ∀ q, F1 q = F q) := by
  refine CG_of (by decide) (Nat.le_of_ble_eq_true rfl) rfl ?_
  intro p e s m args below meth c Q C0 hr hlk hnm hQ hw ls hl
  have hx := C0.x
  have hb := C0.b
  refine lv_iload_n hx hb dX6_within_0 rfl (lv_at hl 0 rfl) ?_
  refine lv_iload_n hx hb dX6_within_1 rfl (lv_at hl 1 rfl) ?_
  refine lv_icmp_lt (tgt := 14) hx hb dX6_within_2 (by decide) (fun c_2 => ?_) (fun c_2 => ?_)
  · skip
    refine lv_iconst (v := nI 0) hx hb dX6_within_14 (by decide) ?_
    exact r_i C0 hr hlk hw (v := nI 0) rfl ⟨bool_f (fun h9 => absurd h9.1 (Int32.not_le.mpr c_2)), (fun q  => rfl)⟩ (Nat.le_refl _) (Nat.le_refl _) dX6_within_15 hQ
  · skip
    refine lv_iload_n hx hb dX6_within_5 rfl (lv_at hl 0 rfl) ?_
    refine lv_iload_n hx hb dX6_within_6 rfl (lv_at hl 2 rfl) ?_
    refine lv_icmp_gt (tgt := 14) hx hb dX6_within_7 (by decide) (fun c_7 => ?_) (fun c_7 => ?_)
    · skip
      refine lv_iconst (v := nI 0) hx hb dX6_within_14 (by decide) ?_
      exact r_i C0 hr hlk hw (v := nI 0) rfl ⟨bool_f (fun h9 => absurd h9.2 (Int32.not_le.mpr c_7)), (fun q  => rfl)⟩ (Nat.le_refl _) (Nat.le_refl _) dX6_within_15 hQ
    · skip
      refine lv_iconst (v := nI 1) hx hb dX6_within_10 (by decide) ?_
      refine lv_goto (tgt := 15) hx hb dX6_within_11 (by decide) ?_
      exact r_i C0 hr hlk hw (v := nI 1) rfl ⟨bool_t ⟨Int32.not_lt.mp c_2, Int32.not_lt.mp c_7⟩, (fun q  => rfl)⟩ (Nat.le_refl _) (Nat.le_refl _) dX6_within_15 hQ
abbrev rm_X6_power : Room := { frames := 6, cells := 0, slots := 0, locals := 138 }
set_option maxHeartbeats 4000000 in
set_option maxRecDepth 100000 in
theorem k_X6_power_x1 (l : Launch) (G : Gl) (L : List Nat) (F : Nat → va_E) (b : Nat) (ma : Nat → Nat) (A : AB) (th : Nat) (x9 y9 z9 : Int32) (mb : b ∈ L) (hma : ∀ i, i < 7 → ma i ∈ L) (hM : MW G F b ma A th) (hA : okA A) (h9 : ¬ (inR x9 0 5 ∧ inR z9 0 5)) : CI l yX6_power cX6_power 4 (some .int) rm_X6_power G L F [.ref b, .int (x9), .int (y9), .int (z9)] (fun r F1 => MW G F1 b ma A 1 ∧ mFr F F1 b ma) := by
  obtain ⟨mi, hh, zf, hf, sf, kf, tf, pf, pl, fb, ⟨hm0, hm1, hm2⟩, ⟨fz, hz⟩, ⟨fh, hhf⟩, ⟨fs, hsf⟩, ⟨fk, hkf⟩, fp, ⟨ft, htf⟩, fq⟩ := hM
  obtain ⟨hz0, hz1, hz2, hz3, hz4⟩ := ne_z zf hz
  have hc : A.1.1 ≤ 6 := hA.1.2.1
  have hc2 : 2 ≤ A.1.1 := hA.1.1
  have hpu : A.1.2.1 ≤ 100000 := hA.1.2.2.1
  have hrw : ∀ i k, i < 12 → k < 7 → zf (5 + 7 * i + k) = nI (A.1.2.2.2.2.2 i k).val := hz.row
  refine CG_of (by decide) (Nat.le_of_ble_eq_true rfl) rfl ?_
  intro p e s m args below meth c Q C0 hr hlk hnm hQ hw ls hl
  have hx := C0.x
  have hb := C0.b
  refine lv_aload_n hx hb dX6_power_0 rfl (lv_at hl 0 rfl) ?_
  refine lv_iload_n hx hb dX6_power_1 rfl (lv_at hl 1 rfl) ?_
  refine lv_iload_n hx hb dX6_power_2 rfl (lv_at hl 3 rfl) ?_
  refine q_calli hw (q_runS (As := [.int (x9), .int (z9)]) (c_X6_areSlots l G L F (x9) (z9)) C0 hw sw_X6_115 rfl hl.1 rfl (Nat.le_of_ble_eq_true rfl) dX6_power_3 ⟨by decide, by decide⟩ ⟨by decide, by decide⟩) rfl rfl (fun r_7535 F_7533 H locs hw hp_7534 => ?_)
  obtain ⟨he_7536, o_7537⟩ := hp_7534
  rw [if_neg h9] at he_7536
  subst he_7536
  refine n_if_ne (tgt := 13) hx hb dX6_power_6 (by decide) (by decide) (fun c_6 => ?_) (fun c_6 => ?_)
  · skip
    exact absurd c_6 (by omega)
  · skip
    refine lv_iconst (v := nI 1) hx hb dX6_power_9 (by decide) ?_
    refine lv_goto (tgt := 44) hx hb dX6_power_10 (by decide) ?_
    have f_7538 : F_7533 b = mO ma mi hh := (o_7537 b ).trans fb
    refine q_put C0 hw mb f_7538 fw_X6_31 pw_X6_8 rfl rfl rfl (Nat.le_of_ble_eq_true rfl) dX6_power_44 (fun F_7539 H locs hw f_7540 o_7541 => ?_)
    have f_7540 : F_7539 b = .inr (6, [.ref (ma 0), .int (mi 0), .ref (ma 1), .ref (ma 2), .ref (ma 3), .ref (ma 4), .int (mi 1), .ref (ma 5), .int (nI (1)), .ref (ma 6), .int (mi 3), .int (mi 4), .long (hh)]) := f_7540
    refine lv_aload_n hx hb dX6_power_47 rfl (lv_at hl 0 rfl) ?_
    refine q_get C0 hw mb f_7540 fw_X6_31 rfl dX6_power_48 ?_
    refine n_if_le (tgt := 56) hx hb dX6_power_51 (by decide) (by decide) (fun c_51 => ?_) (fun c_51 => ?_)
    · skip
      exact absurd c_51 (by omega)
    · skip
      refine lv_iconst (v := nI 0) hx hb dX6_power_54 (by decide) ?_
      have hb_7542 : F_7539 b = mO ma (va_up mi 2 (nI 1)) (hh) := f_7540
      have f_7543 : F_7533 (ma 0) = .inl (G.2 0, 89, .inl zf) := (o_7537 (ma 0) ).trans fz
      have f_7544 : F_7539 (ma 0) = .inl (G.2 0, 89, .inl zf) := (o_7541 (ma 0) (ne_ao f_7543 f_7538)).trans f_7543
      have f_7545 : F_7533 (ma 1) = .inl (G.2 0, 534, .inl hf) := (o_7537 (ma 1) ).trans fh
      have f_7546 : F_7539 (ma 1) = .inl (G.2 0, 534, .inl hf) := (o_7541 (ma 1) (ne_ao f_7545 f_7538)).trans f_7545
      have f_7547 : F_7533 (ma 2) = .inl (G.2 0, 178, .inl sf) := (o_7537 (ma 2) ).trans fs
      have f_7548 : F_7539 (ma 2) = .inl (G.2 0, 178, .inl sf) := (o_7541 (ma 2) (ne_ao f_7547 f_7538)).trans f_7547
      have f_7549 : F_7533 (ma 3) = .inl (G.2 0, 2, .inl kf) := (o_7537 (ma 3) ).trans fk
      have f_7550 : F_7539 (ma 3) = .inl (G.2 0, 2, .inl kf) := (o_7541 (ma 3) (ne_ao f_7549 f_7538)).trans f_7549
      have f_7551 : F_7533 (ma 4) = pcE G pl := (o_7537 (ma 4) ).trans fp
      have f_7552 : F_7539 (ma 4) = pcE G pl := (o_7541 (ma 4) (ne_ao f_7551 f_7538)).trans f_7551
      have f_7553 : F_7533 (ma 5) = .inl (G.2 0, 60, .inl tf) := (o_7537 (ma 5) ).trans ft
      have f_7554 : F_7539 (ma 5) = .inl (G.2 0, 60, .inl tf) := (o_7541 (ma 5) (ne_ao f_7553 f_7538)).trans f_7553
      have f_7555 : F_7533 (ma 6) = .inl (G.2 0, 52, .inl pf) := (o_7537 (ma 6) ).trans fq
      have f_7556 : F_7539 (ma 6) = .inl (G.2 0, 52, .inl pf) := (o_7541 (ma 6) (ne_ao f_7555 f_7538)).trans f_7555
      exact r_i C0 hr hlk hw (v := nI 0) rfl ⟨⟨_, _, _, _, _, _, _, _, _, hb_7542, ⟨hm0, hm1, rfl⟩, ⟨f_7544, hz⟩, ⟨f_7546, hhf⟩, ⟨f_7548, hsf⟩, ⟨f_7550, hkf⟩, f_7552, ⟨f_7554, htf⟩, f_7556⟩, (fun q k0 k1 => ((o_7541 q k0).trans (o_7537 q )))⟩ (Nat.le_refl _) (Nat.le_refl _) dX6_power_55 hQ
set_option maxHeartbeats 4000000 in
set_option maxRecDepth 100000 in
theorem k_X6_power_x2 (l : Launch) (G : Gl) (L : List Nat) (F : Nat → va_E) (b : Nat) (ma : Nat → Nat) (A : AB) (th : Nat) (x9 y9 z9 : Int32) (mb : b ∈ L) (hma : ∀ i, i < 7 → ma i ∈ L) (hM : MW G F b ma A th) (hA : okA A) (h8 : inR x9 0 5 ∧ inR z9 0 5) (h9 : ¬ ((-5000) ≤ y9 ∧ y9 ≤ nI 5000)) : CI l yX6_power cX6_power 4 (some .int) rm_X6_power G L F [.ref b, .int (x9), .int (y9), .int (z9)] (fun r F1 => MW G F1 b ma A 2 ∧ mFr F F1 b ma) := by
  obtain ⟨mi, hh, zf, hf, sf, kf, tf, pf, pl, fb, ⟨hm0, hm1, hm2⟩, ⟨fz, hz⟩, ⟨fh, hhf⟩, ⟨fs, hsf⟩, ⟨fk, hkf⟩, fp, ⟨ft, htf⟩, fq⟩ := hM
  obtain ⟨hz0, hz1, hz2, hz3, hz4⟩ := ne_z zf hz
  have hc : A.1.1 ≤ 6 := hA.1.2.1
  have hc2 : 2 ≤ A.1.1 := hA.1.1
  have hpu : A.1.2.1 ≤ 100000 := hA.1.2.2.1
  have hrw : ∀ i k, i < 12 → k < 7 → zf (5 + 7 * i + k) = nI (A.1.2.2.2.2.2 i k).val := hz.row
  refine CG_of (by decide) (Nat.le_of_ble_eq_true rfl) rfl ?_
  intro p e s m args below meth c Q C0 hr hlk hnm hQ hw ls hl
  have hx := C0.x
  have hb := C0.b
  refine lv_aload_n hx hb dX6_power_0 rfl (lv_at hl 0 rfl) ?_
  refine lv_iload_n hx hb dX6_power_1 rfl (lv_at hl 1 rfl) ?_
  refine lv_iload_n hx hb dX6_power_2 rfl (lv_at hl 3 rfl) ?_
  refine q_calli hw (q_runS (As := [.int (x9), .int (z9)]) (c_X6_areSlots l G L F (x9) (z9)) C0 hw sw_X6_115 rfl hl.1 rfl (Nat.le_of_ble_eq_true rfl) dX6_power_3 ⟨by decide, by decide⟩ ⟨by decide, by decide⟩) rfl rfl (fun r_7559 F_7557 H locs hw hp_7558 => ?_)
  obtain ⟨he_7560, o_7561⟩ := hp_7558
  rw [if_pos h8] at he_7560
  subst he_7560
  refine n_if_ne (tgt := 13) hx hb dX6_power_6 (by decide) (by decide) (fun c_6 => ?_) (fun c_6 => ?_)
  · skip
    refine lv_iload_n hx hb dX6_power_13 rfl (lv_at hl 2 rfl) ?_
    refine lv_sipush (v := (-5000)) hx hb dX6_power_14 (by decide) ?_
    refine lv_sipush (v := nI 5000) hx hb dX6_power_17 (by decide) ?_
    refine q_calli hw (q_runS (As := [.int (y9), .int ((-5000)), .int (nI (5000))]) (c_X6_withinI l G L F_7557 (y9) ((-5000)) (nI 5000)) C0 hw sw_X6_38 rfl hl.1 rfl (Nat.le_of_ble_eq_true rfl) dX6_power_20 ⟨by decide, by decide⟩ ⟨by decide, by decide⟩) rfl rfl (fun r_7564 F_7562 H locs hw hp_7563 => ?_)
    obtain ⟨he_7565, o_7566⟩ := hp_7563
    rw [if_neg h9] at he_7565
    subst he_7565
    refine n_if_ne (tgt := 30) hx hb dX6_power_23 (by decide) (by decide) (fun c_23 => ?_) (fun c_23 => ?_)
    · skip
      exact absurd c_23 (by omega)
    · skip
      refine lv_iconst (v := nI 2) hx hb dX6_power_26 (by decide) ?_
      refine lv_goto (tgt := 44) hx hb dX6_power_27 (by decide) ?_
      have f_7567 : F_7557 b = mO ma mi hh := (o_7561 b ).trans fb
      have f_7568 : F_7562 b = mO ma mi hh := (o_7566 b ).trans f_7567
      refine q_put C0 hw mb f_7568 fw_X6_31 pw_X6_8 rfl rfl rfl (Nat.le_of_ble_eq_true rfl) dX6_power_44 (fun F_7569 H locs hw f_7570 o_7571 => ?_)
      have f_7570 : F_7569 b = .inr (6, [.ref (ma 0), .int (mi 0), .ref (ma 1), .ref (ma 2), .ref (ma 3), .ref (ma 4), .int (mi 1), .ref (ma 5), .int (nI (2)), .ref (ma 6), .int (mi 3), .int (mi 4), .long (hh)]) := f_7570
      refine lv_aload_n hx hb dX6_power_47 rfl (lv_at hl 0 rfl) ?_
      refine q_get C0 hw mb f_7570 fw_X6_31 rfl dX6_power_48 ?_
      refine n_if_le (tgt := 56) hx hb dX6_power_51 (by decide) (by decide) (fun c_51 => ?_) (fun c_51 => ?_)
      · skip
        exact absurd c_51 (by omega)
      · skip
        refine lv_iconst (v := nI 0) hx hb dX6_power_54 (by decide) ?_
        have hb_7572 : F_7569 b = mO ma (va_up mi 2 (nI 2)) (hh) := f_7570
        have f_7573 : F_7557 (ma 0) = .inl (G.2 0, 89, .inl zf) := (o_7561 (ma 0) ).trans fz
        have f_7574 : F_7562 (ma 0) = .inl (G.2 0, 89, .inl zf) := (o_7566 (ma 0) ).trans f_7573
        have f_7575 : F_7569 (ma 0) = .inl (G.2 0, 89, .inl zf) := (o_7571 (ma 0) (ne_ao f_7574 f_7568)).trans f_7574
        have f_7576 : F_7557 (ma 1) = .inl (G.2 0, 534, .inl hf) := (o_7561 (ma 1) ).trans fh
        have f_7577 : F_7562 (ma 1) = .inl (G.2 0, 534, .inl hf) := (o_7566 (ma 1) ).trans f_7576
        have f_7578 : F_7569 (ma 1) = .inl (G.2 0, 534, .inl hf) := (o_7571 (ma 1) (ne_ao f_7577 f_7568)).trans f_7577
        have f_7579 : F_7557 (ma 2) = .inl (G.2 0, 178, .inl sf) := (o_7561 (ma 2) ).trans fs
        have f_7580 : F_7562 (ma 2) = .inl (G.2 0, 178, .inl sf) := (o_7566 (ma 2) ).trans f_7579
        have f_7581 : F_7569 (ma 2) = .inl (G.2 0, 178, .inl sf) := (o_7571 (ma 2) (ne_ao f_7580 f_7568)).trans f_7580
        have f_7582 : F_7557 (ma 3) = .inl (G.2 0, 2, .inl kf) := (o_7561 (ma 3) ).trans fk
        have f_7583 : F_7562 (ma 3) = .inl (G.2 0, 2, .inl kf) := (o_7566 (ma 3) ).trans f_7582
        have f_7584 : F_7569 (ma 3) = .inl (G.2 0, 2, .inl kf) := (o_7571 (ma 3) (ne_ao f_7583 f_7568)).trans f_7583
        have f_7585 : F_7557 (ma 4) = pcE G pl := (o_7561 (ma 4) ).trans fp
        have f_7586 : F_7562 (ma 4) = pcE G pl := (o_7566 (ma 4) ).trans f_7585
        have f_7587 : F_7569 (ma 4) = pcE G pl := (o_7571 (ma 4) (ne_ao f_7586 f_7568)).trans f_7586
        have f_7588 : F_7557 (ma 5) = .inl (G.2 0, 60, .inl tf) := (o_7561 (ma 5) ).trans ft
        have f_7589 : F_7562 (ma 5) = .inl (G.2 0, 60, .inl tf) := (o_7566 (ma 5) ).trans f_7588
        have f_7590 : F_7569 (ma 5) = .inl (G.2 0, 60, .inl tf) := (o_7571 (ma 5) (ne_ao f_7589 f_7568)).trans f_7589
        have f_7591 : F_7557 (ma 6) = .inl (G.2 0, 52, .inl pf) := (o_7561 (ma 6) ).trans fq
        have f_7592 : F_7562 (ma 6) = .inl (G.2 0, 52, .inl pf) := (o_7566 (ma 6) ).trans f_7591
        have f_7593 : F_7569 (ma 6) = .inl (G.2 0, 52, .inl pf) := (o_7571 (ma 6) (ne_ao f_7592 f_7568)).trans f_7592
        exact r_i C0 hr hlk hw (v := nI 0) rfl ⟨⟨_, _, _, _, _, _, _, _, _, hb_7572, ⟨hm0, hm1, rfl⟩, ⟨f_7575, hz⟩, ⟨f_7578, hhf⟩, ⟨f_7581, hsf⟩, ⟨f_7584, hkf⟩, f_7587, ⟨f_7590, htf⟩, f_7593⟩, (fun q k0 k1 => ((o_7571 q k0).trans ((o_7566 q ).trans (o_7561 q ))))⟩ (Nat.le_refl _) (Nat.le_refl _) dX6_power_55 hQ
  · skip
    exact absurd c_6 (by omega)
set_option maxHeartbeats 4000000 in
set_option maxRecDepth 100000 in
theorem k_X6_power_x3 (l : Launch) (G : Gl) (L : List Nat) (F : Nat → va_E) (b : Nat) (ma : Nat → Nat) (A : AB) (th : Nat) (x9 y9 z9 : Int32) (mb : b ∈ L) (hma : ∀ i, i < 7 → ma i ∈ L) (hM : MW G F b ma A th) (hA : okA A) (h8 : inR x9 0 5 ∧ inR z9 0 5) (h9 : (-5000) ≤ y9 ∧ y9 ≤ nI 5000) (hm : A.1.2.1 < A.1.1 * 8) : CI l yX6_power cX6_power 4 (some .int) rm_X6_power G L F [.ref b, .int (x9), .int (y9), .int (z9)] (fun r F1 => MW G F1 b ma A 3 ∧ mFr F F1 b ma) := by
  obtain ⟨mi, hh, zf, hf, sf, kf, tf, pf, pl, fb, ⟨hm0, hm1, hm2⟩, ⟨fz, hz⟩, ⟨fh, hhf⟩, ⟨fs, hsf⟩, ⟨fk, hkf⟩, fp, ⟨ft, htf⟩, fq⟩ := hM
  obtain ⟨hz0, hz1, hz2, hz3, hz4⟩ := ne_z zf hz
  have hc : A.1.1 ≤ 6 := hA.1.2.1
  have hc2 : 2 ≤ A.1.1 := hA.1.1
  have hpu : A.1.2.1 ≤ 100000 := hA.1.2.2.1
  have hrw : ∀ i k, i < 12 → k < 7 → zf (5 + 7 * i + k) = nI (A.1.2.2.2.2.2 i k).val := hz.row
  refine CG_of (by decide) (Nat.le_of_ble_eq_true rfl) rfl ?_
  intro p e s m args below meth c Q C0 hr hlk hnm hQ hw ls hl
  have hx := C0.x
  have hb := C0.b
  have hm9 : ¬ A.1.1 * 8 ≤ A.1.2.1 := by omega
  refine lv_aload_n hx hb dX6_power_0 rfl (lv_at hl 0 rfl) ?_
  refine lv_iload_n hx hb dX6_power_1 rfl (lv_at hl 1 rfl) ?_
  refine lv_iload_n hx hb dX6_power_2 rfl (lv_at hl 3 rfl) ?_
  refine q_calli hw (q_runS (As := [.int (x9), .int (z9)]) (c_X6_areSlots l G L F (x9) (z9)) C0 hw sw_X6_115 rfl hl.1 rfl (Nat.le_of_ble_eq_true rfl) dX6_power_3 ⟨by decide, by decide⟩ ⟨by decide, by decide⟩) rfl rfl (fun r_7596 F_7594 H locs hw hp_7595 => ?_)
  obtain ⟨he_7597, o_7598⟩ := hp_7595
  rw [if_pos h8] at he_7597
  subst he_7597
  refine n_if_ne (tgt := 13) hx hb dX6_power_6 (by decide) (by decide) (fun c_6 => ?_) (fun c_6 => ?_)
  · skip
    refine lv_iload_n hx hb dX6_power_13 rfl (lv_at hl 2 rfl) ?_
    refine lv_sipush (v := (-5000)) hx hb dX6_power_14 (by decide) ?_
    refine lv_sipush (v := nI 5000) hx hb dX6_power_17 (by decide) ?_
    refine q_calli hw (q_runS (As := [.int (y9), .int ((-5000)), .int (nI (5000))]) (c_X6_withinI l G L F_7594 (y9) ((-5000)) (nI 5000)) C0 hw sw_X6_38 rfl hl.1 rfl (Nat.le_of_ble_eq_true rfl) dX6_power_20 ⟨by decide, by decide⟩ ⟨by decide, by decide⟩) rfl rfl (fun r_7601 F_7599 H locs hw hp_7600 => ?_)
    obtain ⟨he_7602, o_7603⟩ := hp_7600
    rw [if_pos h9] at he_7602
    subst he_7602
    refine n_if_ne (tgt := 30) hx hb dX6_power_23 (by decide) (by decide) (fun c_23 => ?_) (fun c_23 => ?_)
    · skip
      refine lv_aload_n hx hb dX6_power_30 rfl (lv_at hl 0 rfl) ?_
      refine lv_bipush (v := nI 8) hx hb dX6_power_31 (by decide) ?_
      have f_7604 : F_7594 b = mO ma mi hh := (o_7598 b ).trans fb
      have f_7605 : F_7599 b = mO ma mi hh := (o_7603 b ).trans f_7604
      have f_7606 : F_7594 (ma 0) = .inl (G.2 0, 89, .inl zf) := (o_7598 (ma 0) ).trans fz
      have f_7607 : F_7599 (ma 0) = .inl (G.2 0, 89, .inl zf) := (o_7603 (ma 0) ).trans f_7606
      refine q_calli hw (q_runV (As := [.int (nI (8))]) (c_X6_canPay l G L F_7599 b ma mi hh zf 8 A.1.1 A.1.2.1 mb f_7605 hma f_7607 hz0 hz1 hc (by omega) hpu (by omega)) C0 hw vw_X6_106 mb f_7605 rfl rfl rfl hl.1 rfl (Nat.le_of_ble_eq_true rfl) dX6_power_33 ⟨by decide, by decide⟩ ⟨by decide, by decide⟩) rfl rfl (fun r_7610 F_7608 H locs hw hp_7609 => ?_)
      obtain ⟨he_7611, o_7612⟩ := hp_7609
      rw [if_neg hm9] at he_7611
      subst he_7611
      refine n_if_eq (tgt := 43) hx hb dX6_power_36 (by decide) (by decide) (fun c_36 => ?_) (fun c_36 => ?_)
      · skip
        refine lv_iconst (v := nI 3) hx hb dX6_power_43 (by decide) ?_
        have f_7613 : F_7608 b = mO ma mi hh := (o_7612 b ).trans f_7605
        refine q_put C0 hw mb f_7613 fw_X6_31 pw_X6_8 rfl rfl rfl (Nat.le_of_ble_eq_true rfl) dX6_power_44 (fun F_7614 H locs hw f_7615 o_7616 => ?_)
        have f_7615 : F_7614 b = .inr (6, [.ref (ma 0), .int (mi 0), .ref (ma 1), .ref (ma 2), .ref (ma 3), .ref (ma 4), .int (mi 1), .ref (ma 5), .int (nI (3)), .ref (ma 6), .int (mi 3), .int (mi 4), .long (hh)]) := f_7615
        refine lv_aload_n hx hb dX6_power_47 rfl (lv_at hl 0 rfl) ?_
        refine q_get C0 hw mb f_7615 fw_X6_31 rfl dX6_power_48 ?_
        refine n_if_le (tgt := 56) hx hb dX6_power_51 (by decide) (by decide) (fun c_51 => ?_) (fun c_51 => ?_)
        · skip
          exact absurd c_51 (by omega)
        · skip
          refine lv_iconst (v := nI 0) hx hb dX6_power_54 (by decide) ?_
          have hb_7617 : F_7614 b = mO ma (va_up mi 2 (nI 3)) (hh) := f_7615
          have f_7618 : F_7608 (ma 0) = .inl (G.2 0, 89, .inl zf) := (o_7612 (ma 0) ).trans f_7607
          have f_7619 : F_7614 (ma 0) = .inl (G.2 0, 89, .inl zf) := (o_7616 (ma 0) (ne_ao f_7618 f_7613)).trans f_7618
          have f_7620 : F_7594 (ma 1) = .inl (G.2 0, 534, .inl hf) := (o_7598 (ma 1) ).trans fh
          have f_7621 : F_7599 (ma 1) = .inl (G.2 0, 534, .inl hf) := (o_7603 (ma 1) ).trans f_7620
          have f_7622 : F_7608 (ma 1) = .inl (G.2 0, 534, .inl hf) := (o_7612 (ma 1) ).trans f_7621
          have f_7623 : F_7614 (ma 1) = .inl (G.2 0, 534, .inl hf) := (o_7616 (ma 1) (ne_ao f_7622 f_7613)).trans f_7622
          have f_7624 : F_7594 (ma 2) = .inl (G.2 0, 178, .inl sf) := (o_7598 (ma 2) ).trans fs
          have f_7625 : F_7599 (ma 2) = .inl (G.2 0, 178, .inl sf) := (o_7603 (ma 2) ).trans f_7624
          have f_7626 : F_7608 (ma 2) = .inl (G.2 0, 178, .inl sf) := (o_7612 (ma 2) ).trans f_7625
          have f_7627 : F_7614 (ma 2) = .inl (G.2 0, 178, .inl sf) := (o_7616 (ma 2) (ne_ao f_7626 f_7613)).trans f_7626
          have f_7628 : F_7594 (ma 3) = .inl (G.2 0, 2, .inl kf) := (o_7598 (ma 3) ).trans fk
          have f_7629 : F_7599 (ma 3) = .inl (G.2 0, 2, .inl kf) := (o_7603 (ma 3) ).trans f_7628
          have f_7630 : F_7608 (ma 3) = .inl (G.2 0, 2, .inl kf) := (o_7612 (ma 3) ).trans f_7629
          have f_7631 : F_7614 (ma 3) = .inl (G.2 0, 2, .inl kf) := (o_7616 (ma 3) (ne_ao f_7630 f_7613)).trans f_7630
          have f_7632 : F_7594 (ma 4) = pcE G pl := (o_7598 (ma 4) ).trans fp
          have f_7633 : F_7599 (ma 4) = pcE G pl := (o_7603 (ma 4) ).trans f_7632
          have f_7634 : F_7608 (ma 4) = pcE G pl := (o_7612 (ma 4) ).trans f_7633
          have f_7635 : F_7614 (ma 4) = pcE G pl := (o_7616 (ma 4) (ne_ao f_7634 f_7613)).trans f_7634
          have f_7636 : F_7594 (ma 5) = .inl (G.2 0, 60, .inl tf) := (o_7598 (ma 5) ).trans ft
          have f_7637 : F_7599 (ma 5) = .inl (G.2 0, 60, .inl tf) := (o_7603 (ma 5) ).trans f_7636
          have f_7638 : F_7608 (ma 5) = .inl (G.2 0, 60, .inl tf) := (o_7612 (ma 5) ).trans f_7637
          have f_7639 : F_7614 (ma 5) = .inl (G.2 0, 60, .inl tf) := (o_7616 (ma 5) (ne_ao f_7638 f_7613)).trans f_7638
          have f_7640 : F_7594 (ma 6) = .inl (G.2 0, 52, .inl pf) := (o_7598 (ma 6) ).trans fq
          have f_7641 : F_7599 (ma 6) = .inl (G.2 0, 52, .inl pf) := (o_7603 (ma 6) ).trans f_7640
          have f_7642 : F_7608 (ma 6) = .inl (G.2 0, 52, .inl pf) := (o_7612 (ma 6) ).trans f_7641
          have f_7643 : F_7614 (ma 6) = .inl (G.2 0, 52, .inl pf) := (o_7616 (ma 6) (ne_ao f_7642 f_7613)).trans f_7642
          exact r_i C0 hr hlk hw (v := nI 0) rfl ⟨⟨_, _, _, _, _, _, _, _, _, hb_7617, ⟨hm0, hm1, rfl⟩, ⟨f_7619, hz⟩, ⟨f_7623, hhf⟩, ⟨f_7627, hsf⟩, ⟨f_7631, hkf⟩, f_7635, ⟨f_7639, htf⟩, f_7643⟩, (fun q k0 k1 => ((o_7616 q k0).trans ((o_7612 q ).trans ((o_7603 q ).trans (o_7598 q )))))⟩ (Nat.le_refl _) (Nat.le_refl _) dX6_power_55 hQ
      · skip
        exact absurd c_36 (by omega)
    · skip
      exact absurd c_23 (by omega)
  · skip
    exact absurd c_6 (by omega)
set_option maxHeartbeats 4000000 in
set_option maxRecDepth 100000 in
theorem k_X6_power (l : Launch) (G : Gl) (L : List Nat) (F : Nat → va_E) (b : Nat) (ma : Nat → Nat) (A : AB) (th : Nat) (f9 t9 : Nat) (y9 : Int32) (mb : b ∈ L) (hma : ∀ i, i < 7 → ma i ∈ L) (hM : MW G F b ma A th) (hA : okA A) (hf9 : f9 < 6) (ht9 : t9 < 6) (h8 : inR (nI f9) 0 5 ∧ inR (nI t9) 0 5) (h9 : (-5000) ≤ y9 ∧ y9 ≤ nI 5000) (hm : 8 * A.1.1 ≤ A.1.2.1) : CI l yX6_power cX6_power 4 (some .int) rm_X6_power G L F [.ref b, .int (nI (f9)), .int (y9), .int (nI (t9))] (fun r F1 => r = lowR (m_rep (A.1.2.2.2.2.2 (6 + f9)) (zi y9) A.1.1) ∧ MW G F1 b ma (aSave A (genS 8 (6 + t9) (m_rep (A.1.2.2.2.2.2 (6 + f9)) (zi y9) A.1.1) A.1)) 0 ∧ mFr F F1 b ma) := by
  obtain ⟨mi, hh, zf, hf, sf, kf, tf, pf, pl, fb, ⟨hm0, hm1, hm2⟩, ⟨fz, hz⟩, ⟨fh, hhf⟩, ⟨fs, hsf⟩, ⟨fk, hkf⟩, fp, ⟨ft, htf⟩, fq⟩ := hM
  obtain ⟨hz0, hz1, hz2, hz3, hz4⟩ := ne_z zf hz
  have hc : A.1.1 ≤ 6 := hA.1.2.1
  have hc2 : 2 ≤ A.1.1 := hA.1.1
  have hpu : A.1.2.1 ≤ 100000 := hA.1.2.2.1
  have hrw : ∀ i k, i < 12 → k < 7 → zf (5 + 7 * i + k) = nI (A.1.2.2.2.2.2 i k).val := hz.row
  refine CG_of (by decide) (Nat.le_of_ble_eq_true rfl) rfl ?_
  intro p e s m args below meth c Q C0 hr hlk hnm hQ hw ls hl
  have hx := C0.x
  have hb := C0.b
  have hm9 : A.1.1 * 8 ≤ A.1.2.1 := by omega
  refine lv_aload_n hx hb dX6_power_0 rfl (lv_at hl 0 rfl) ?_
  refine lv_iload_n hx hb dX6_power_1 rfl (lv_at hl 1 rfl) ?_
  refine lv_iload_n hx hb dX6_power_2 rfl (lv_at hl 3 rfl) ?_
  refine q_calli hw (q_runS (As := [.int (nI (f9)), .int (nI (t9))]) (c_X6_areSlots l G L F (nI (f9)) (nI (t9))) C0 hw sw_X6_115 rfl hl.1 rfl (Nat.le_of_ble_eq_true rfl) dX6_power_3 ⟨by decide, by decide⟩ ⟨by decide, by decide⟩) rfl rfl (fun r_7646 F_7644 H locs hw hp_7645 => ?_)
  obtain ⟨he_7647, o_7648⟩ := hp_7645
  rw [if_pos h8] at he_7647
  subst he_7647
  refine n_if_ne (tgt := 13) hx hb dX6_power_6 (by decide) (by decide) (fun c_6 => ?_) (fun c_6 => ?_)
  · skip
    refine lv_iload_n hx hb dX6_power_13 rfl (lv_at hl 2 rfl) ?_
    refine lv_sipush (v := (-5000)) hx hb dX6_power_14 (by decide) ?_
    refine lv_sipush (v := nI 5000) hx hb dX6_power_17 (by decide) ?_
    refine q_calli hw (q_runS (As := [.int (y9), .int ((-5000)), .int (nI (5000))]) (c_X6_withinI l G L F_7644 (y9) ((-5000)) (nI 5000)) C0 hw sw_X6_38 rfl hl.1 rfl (Nat.le_of_ble_eq_true rfl) dX6_power_20 ⟨by decide, by decide⟩ ⟨by decide, by decide⟩) rfl rfl (fun r_7651 F_7649 H locs hw hp_7650 => ?_)
    obtain ⟨he_7652, o_7653⟩ := hp_7650
    rw [if_pos h9] at he_7652
    subst he_7652
    refine n_if_ne (tgt := 30) hx hb dX6_power_23 (by decide) (by decide) (fun c_23 => ?_) (fun c_23 => ?_)
    · skip
      refine lv_aload_n hx hb dX6_power_30 rfl (lv_at hl 0 rfl) ?_
      refine lv_bipush (v := nI 8) hx hb dX6_power_31 (by decide) ?_
      have f_7654 : F_7644 b = mO ma mi hh := (o_7648 b ).trans fb
      have f_7655 : F_7649 b = mO ma mi hh := (o_7653 b ).trans f_7654
      have f_7656 : F_7644 (ma 0) = .inl (G.2 0, 89, .inl zf) := (o_7648 (ma 0) ).trans fz
      have f_7657 : F_7649 (ma 0) = .inl (G.2 0, 89, .inl zf) := (o_7653 (ma 0) ).trans f_7656
      refine q_calli hw (q_runV (As := [.int (nI (8))]) (c_X6_canPay l G L F_7649 b ma mi hh zf 8 A.1.1 A.1.2.1 mb f_7655 hma f_7657 hz0 hz1 hc (by omega) hpu (by omega)) C0 hw vw_X6_106 mb f_7655 rfl rfl rfl hl.1 rfl (Nat.le_of_ble_eq_true rfl) dX6_power_33 ⟨by decide, by decide⟩ ⟨by decide, by decide⟩) rfl rfl (fun r_7660 F_7658 H locs hw hp_7659 => ?_)
      obtain ⟨he_7661, o_7662⟩ := hp_7659
      rw [if_pos hm9] at he_7661
      subst he_7661
      refine n_if_eq (tgt := 43) hx hb dX6_power_36 (by decide) (by decide) (fun c_36 => ?_) (fun c_36 => ?_)
      · skip
        exact absurd c_36 (by omega)
      · skip
        refine lv_iconst (v := nI 0) hx hb dX6_power_39 (by decide) ?_
        refine lv_goto (tgt := 44) hx hb dX6_power_40 (by decide) ?_
        have f_7663 : F_7658 b = mO ma mi hh := (o_7662 b ).trans f_7655
        refine q_put C0 hw mb f_7663 fw_X6_31 pw_X6_8 rfl rfl rfl (Nat.le_of_ble_eq_true rfl) dX6_power_44 (fun F_7664 H locs hw f_7665 o_7666 => ?_)
        have f_7665 : F_7664 b = .inr (6, [.ref (ma 0), .int (mi 0), .ref (ma 1), .ref (ma 2), .ref (ma 3), .ref (ma 4), .int (mi 1), .ref (ma 5), .int (nI (0)), .ref (ma 6), .int (mi 3), .int (mi 4), .long (hh)]) := f_7665
        refine lv_aload_n hx hb dX6_power_47 rfl (lv_at hl 0 rfl) ?_
        refine q_get C0 hw mb f_7665 fw_X6_31 rfl dX6_power_48 ?_
        refine n_if_le (tgt := 56) hx hb dX6_power_51 (by decide) (by decide) (fun c_51 => ?_) (fun c_51 => ?_)
        · skip
          have hb_7667 : F_7664 b = mO ma (va_up mi 2 (nI 0)) hh := f_7665
          refine lv_aload_n hx hb dX6_power_56 rfl (lv_at hl 0 rfl) ?_
          refine lv_iload_n hx hb dX6_power_57 rfl (lv_at hl 1 rfl) ?_
          refine lv_iload_n hx hb dX6_power_58 rfl (lv_at hl 2 rfl) ?_
          refine q_calli hw (q_runS (As := [.int (y9)]) (c_X6_modulo l G L F_7664 y9) C0 hw sw_X6_90 rfl hl.1 rfl (Nat.le_of_ble_eq_true rfl) dX6_power_59 ⟨by decide, by decide⟩ ⟨by decide, by decide⟩) rfl rfl (fun r_7670 F_7668 H locs hw hp_7669 => ?_)
          obtain ⟨he_7671, o_7672⟩ := hp_7669
          subst he_7671
          have hzlt := (zi y9).isLt
          have f_7673 : F_7668 b = mO ma ((va_up mi 2 (nI 0))) hh := (o_7672 b ).trans hb_7667
          have f_7674 : F_7644 (ma 4) = pcE G pl := (o_7648 (ma 4) ).trans fp
          have f_7675 : F_7649 (ma 4) = pcE G pl := (o_7653 (ma 4) ).trans f_7674
          have f_7676 : F_7658 (ma 4) = pcE G pl := (o_7662 (ma 4) ).trans f_7675
          have f_7677 : F_7664 (ma 4) = pcE G pl := (o_7666 (ma 4) (ne_ao f_7676 f_7663)).trans f_7676
          have f_7678 : F_7668 (ma 4) = pcE G pl := (o_7672 (ma 4) ).trans f_7677
          have f_7679 : F_7658 (ma 0) = .inl (G.2 0, 89, .inl zf) := (o_7662 (ma 0) ).trans f_7657
          have f_7680 : F_7664 (ma 0) = .inl (G.2 0, 89, .inl zf) := (o_7666 (ma 0) (ne_ao f_7679 f_7663)).trans f_7679
          have f_7681 : F_7668 (ma 0) = .inl (G.2 0, 89, .inl zf) := (o_7672 (ma 0) ).trans f_7680
          refine q_callv hw (q_runV (As := [.int (nI (f9)), .int (nI ((zi y9).val))]) (c_X6_layTimes l G L F_7668 b ma (va_up mi 2 (nI 0)) hh pl zf A.1.1 A.1.2.2.2.2.2 f9 (zi y9).val mb f_7673 hma f_7678 f_7681 hz0 (by omega) (by omega) (by omega) (by omega) hrw) C0 hw vw_X6_162 mb f_7673 rfl rfl rfl hl.1 rfl (Nat.le_of_ble_eq_true rfl) dX6_power_62 ⟨by decide, by decide⟩ ⟨by decide, by decide⟩) rfl rfl (fun F_7682 H locs hw hp_7683 => ?_)
          obtain ⟨⟨P_7684, f_7687, r_7685, ro_7686⟩, o_7688⟩ := hp_7683
          refine lv_aload_n hx hb dX6_power_65 rfl (lv_at hl 0 rfl) ?_
          refine lv_bipush (v := nI 8) hx hb dX6_power_66 (by decide) ?_
          refine lv_iload_n hx hb dX6_power_68 rfl (lv_at hl 3 rfl) ?_
          refine q_calli hw (q_runS (As := [.int (nI (t9))]) (c_X6_flowAt2 l G L F_7682 t9 (by omega)) C0 hw sw_X6_138 rfl hl.1 rfl (Nat.le_of_ble_eq_true rfl) dX6_power_69 ⟨by decide, by decide⟩ ⟨by decide, by decide⟩) rfl rfl (fun r_7691 F_7689 H locs hw hp_7690 => ?_)
          obtain ⟨he_7692, o_7693⟩ := hp_7690
          subst he_7692
          have f_7694 : F_7682 b = mO ma ((va_up mi 2 (nI 0))) hh := (o_7688 b (ne_oa f_7673 f_7678)).trans f_7673
          have f_7695 : F_7689 b = mO ma ((va_up mi 2 (nI 0))) hh := (o_7693 b ).trans f_7694
          have f_7696 : F_7682 (ma 0) = .inl (G.2 0, 89, .inl zf) := (o_7688 (ma 0) (ne_aa (by decide) f_7681 f_7678)).trans f_7681
          have f_7697 : F_7689 (ma 0) = .inl (G.2 0, 89, .inl zf) := (o_7693 (ma 0) ).trans f_7696
          have f_7698 : F_7644 (ma 1) = .inl (G.2 0, 534, .inl hf) := (o_7648 (ma 1) ).trans fh
          have f_7699 : F_7649 (ma 1) = .inl (G.2 0, 534, .inl hf) := (o_7653 (ma 1) ).trans f_7698
          have f_7700 : F_7658 (ma 1) = .inl (G.2 0, 534, .inl hf) := (o_7662 (ma 1) ).trans f_7699
          have f_7701 : F_7664 (ma 1) = .inl (G.2 0, 534, .inl hf) := (o_7666 (ma 1) (ne_ao f_7700 f_7663)).trans f_7700
          have f_7702 : F_7668 (ma 1) = .inl (G.2 0, 534, .inl hf) := (o_7672 (ma 1) ).trans f_7701
          have f_7703 : F_7682 (ma 1) = .inl (G.2 0, 534, .inl hf) := (o_7688 (ma 1) (ne_aa (by decide) f_7702 f_7678)).trans f_7702
          have f_7704 : F_7689 (ma 1) = .inl (G.2 0, 534, .inl hf) := (o_7693 (ma 1) ).trans f_7703
          have f_7705 : F_7689 (ma 4) = pcE G P_7684 := (o_7693 (ma 4) ).trans f_7687
          refine q_calli hw (q_runV (As := [.int (nI (8)), .int (nI (5 + 7 * (6 + t9)))]) (c_X6_ended l G L F_7689 b ma ((va_up mi 2 (nI 0))) hh zf hf P_7684 A.2.1.1 8 (5 + 7 * (6 + t9)) A.1.1 A.1.2.1 A.1.2.2.1 A.1.2.2.2.1 mb f_7695 hm0 hA.2.1.1 hma f_7697 f_7704 f_7705 hz0 hc hc2 hz1 hz2 hz3 (by omega) (by omega) (by omega)) C0 hw vw_X6_129 mb f_7695 rfl rfl rfl hl.1 rfl (Nat.le_of_ble_eq_true rfl) dX6_power_72 ⟨by decide, by decide⟩ ⟨by decide, by decide⟩) rfl rfl (fun r_7708 F_7706 H locs hw hp_7707 => ?_)
          obtain ⟨f_7709, f_7710, f_7711, f_7712, f_7713⟩ := hp_7707
          subst f_7709
          have hu_7714 : P_7684 2 = m_rep (A.1.2.2.2.2.2 (6 + f9)) (zi y9) A.1.1 := r_7685.trans (by rw [zrow, zc_z]; exact rep_eq _ _ (by omega) hc)
          have hz_7715 := f_7712
          rw [hu_7714] at hz_7715
          have f_7716 : F_7644 (ma 2) = .inl (G.2 0, 178, .inl sf) := (o_7648 (ma 2) ).trans fs
          have f_7717 : F_7649 (ma 2) = .inl (G.2 0, 178, .inl sf) := (o_7653 (ma 2) ).trans f_7716
          have f_7718 : F_7658 (ma 2) = .inl (G.2 0, 178, .inl sf) := (o_7662 (ma 2) ).trans f_7717
          have f_7719 : F_7664 (ma 2) = .inl (G.2 0, 178, .inl sf) := (o_7666 (ma 2) (ne_ao f_7718 f_7663)).trans f_7718
          have f_7720 : F_7668 (ma 2) = .inl (G.2 0, 178, .inl sf) := (o_7672 (ma 2) ).trans f_7719
          have f_7721 : F_7682 (ma 2) = .inl (G.2 0, 178, .inl sf) := (o_7688 (ma 2) (ne_aa (by decide) f_7720 f_7678)).trans f_7720
          have f_7722 : F_7689 (ma 2) = .inl (G.2 0, 178, .inl sf) := (o_7693 (ma 2) ).trans f_7721
          have f_7723 : F_7706 (ma 2) = .inl (G.2 0, 178, .inl sf) := (f_7713 (ma 2) (ne_ao f_7722 f_7695) (ne_aa (by decide) f_7722 f_7704) (ne_aa (by decide) f_7722 f_7697)).trans f_7722
          have f_7724 : F_7644 (ma 3) = .inl (G.2 0, 2, .inl kf) := (o_7648 (ma 3) ).trans fk
          have f_7725 : F_7649 (ma 3) = .inl (G.2 0, 2, .inl kf) := (o_7653 (ma 3) ).trans f_7724
          have f_7726 : F_7658 (ma 3) = .inl (G.2 0, 2, .inl kf) := (o_7662 (ma 3) ).trans f_7725
          have f_7727 : F_7664 (ma 3) = .inl (G.2 0, 2, .inl kf) := (o_7666 (ma 3) (ne_ao f_7726 f_7663)).trans f_7726
          have f_7728 : F_7668 (ma 3) = .inl (G.2 0, 2, .inl kf) := (o_7672 (ma 3) ).trans f_7727
          have f_7729 : F_7682 (ma 3) = .inl (G.2 0, 2, .inl kf) := (o_7688 (ma 3) (ne_aa (by decide) f_7728 f_7678)).trans f_7728
          have f_7730 : F_7689 (ma 3) = .inl (G.2 0, 2, .inl kf) := (o_7693 (ma 3) ).trans f_7729
          have f_7731 : F_7706 (ma 3) = .inl (G.2 0, 2, .inl kf) := (f_7713 (ma 3) (ne_ao f_7730 f_7695) (ne_aa (by decide) f_7730 f_7704) (ne_aa (by decide) f_7730 f_7697)).trans f_7730
          have f_7732 : F_7706 (ma 4) = pcE G P_7684 := (f_7713 (ma 4) (ne_ao f_7705 f_7695) (ne_aa (by decide) f_7705 f_7704) (ne_aa (by decide) f_7705 f_7697)).trans f_7705
          have f_7733 : F_7644 (ma 5) = .inl (G.2 0, 60, .inl tf) := (o_7648 (ma 5) ).trans ft
          have f_7734 : F_7649 (ma 5) = .inl (G.2 0, 60, .inl tf) := (o_7653 (ma 5) ).trans f_7733
          have f_7735 : F_7658 (ma 5) = .inl (G.2 0, 60, .inl tf) := (o_7662 (ma 5) ).trans f_7734
          have f_7736 : F_7664 (ma 5) = .inl (G.2 0, 60, .inl tf) := (o_7666 (ma 5) (ne_ao f_7735 f_7663)).trans f_7735
          have f_7737 : F_7668 (ma 5) = .inl (G.2 0, 60, .inl tf) := (o_7672 (ma 5) ).trans f_7736
          have f_7738 : F_7682 (ma 5) = .inl (G.2 0, 60, .inl tf) := (o_7688 (ma 5) (ne_aa (by decide) f_7737 f_7678)).trans f_7737
          have f_7739 : F_7689 (ma 5) = .inl (G.2 0, 60, .inl tf) := (o_7693 (ma 5) ).trans f_7738
          have f_7740 : F_7706 (ma 5) = .inl (G.2 0, 60, .inl tf) := (f_7713 (ma 5) (ne_ao f_7739 f_7695) (ne_aa (by decide) f_7739 f_7704) (ne_aa (by decide) f_7739 f_7697)).trans f_7739
          have f_7741 : F_7644 (ma 6) = .inl (G.2 0, 52, .inl pf) := (o_7648 (ma 6) ).trans fq
          have f_7742 : F_7649 (ma 6) = .inl (G.2 0, 52, .inl pf) := (o_7653 (ma 6) ).trans f_7741
          have f_7743 : F_7658 (ma 6) = .inl (G.2 0, 52, .inl pf) := (o_7662 (ma 6) ).trans f_7742
          have f_7744 : F_7664 (ma 6) = .inl (G.2 0, 52, .inl pf) := (o_7666 (ma 6) (ne_ao f_7743 f_7663)).trans f_7743
          have f_7745 : F_7668 (ma 6) = .inl (G.2 0, 52, .inl pf) := (o_7672 (ma 6) ).trans f_7744
          have f_7746 : F_7682 (ma 6) = .inl (G.2 0, 52, .inl pf) := (o_7688 (ma 6) (ne_aa (by decide) f_7745 f_7678)).trans f_7745
          have f_7747 : F_7689 (ma 6) = .inl (G.2 0, 52, .inl pf) := (o_7693 (ma 6) ).trans f_7746
          have f_7748 : F_7706 (ma 6) = .inl (G.2 0, 52, .inl pf) := (f_7713 (ma 6) (ne_ao f_7747 f_7695) (ne_aa (by decide) f_7747 f_7704) (ne_aa (by decide) f_7747 f_7697)).trans f_7747
          exact r_i C0 hr hlk hw (v := (lowR (P_7684 2))) rfl ⟨(by rw [hu_7714]), ⟨_, _, _, _, _, _, _, _, _, f_7710, ⟨(congrArg nI (sv_n (st := A.1) hA.2.1.1)), hm1, rfl⟩, ⟨hz_7715, (pyM_ok (un := 8) (t := (6 + t9)) (u := m_rep (A.1.2.2.2.2.2 (6 + f9)) (zi y9) A.1.1) hz (by omega))⟩, ⟨f_7711, (sv_h hA.2.1.1 hz hhf)⟩, ⟨f_7723, hsf⟩, ⟨f_7731, hkf⟩, f_7732, ⟨f_7740, htf⟩, f_7748⟩, (fun q k0 k1 => ((f_7713 q k0 (k1 1 (by decide)) (k1 0 (by decide))).trans ((o_7693 q ).trans ((o_7688 q (k1 4 (by decide))).trans ((o_7672 q ).trans ((o_7666 q k0).trans ((o_7662 q ).trans ((o_7653 q ).trans (o_7648 q )))))))))⟩ (Nat.le_refl _) (Nat.le_refl _) dX6_power_75 hQ
        · skip
          exact absurd c_51 (by omega)
    · skip
      exact absurd c_23 (by omega)
  · skip
    exact absurd c_6 (by omega)
abbrev rm_X6_root : Room := { frames := 6, cells := 0, slots := 0, locals := 138 }
set_option maxHeartbeats 4000000 in
set_option maxRecDepth 100000 in
theorem k_X6_root_x1 (l : Launch) (G : Gl) (L : List Nat) (F : Nat → va_E) (b : Nat) (ma : Nat → Nat) (A : AB) (th : Nat) (x9 y9 z9 : Int32) (mb : b ∈ L) (hma : ∀ i, i < 7 → ma i ∈ L) (hM : MW G F b ma A th) (hA : okA A) (h9 : ¬ (inR x9 0 5 ∧ inR z9 0 5)) : CI l yX6_root cX6_root 4 (some .int) rm_X6_root G L F [.ref b, .int (x9), .int (y9), .int (z9)] (fun r F1 => MW G F1 b ma A 1 ∧ mFr F F1 b ma) := by
  obtain ⟨mi, hh, zf, hf, sf, kf, tf, pf, pl, fb, ⟨hm0, hm1, hm2⟩, ⟨fz, hz⟩, ⟨fh, hhf⟩, ⟨fs, hsf⟩, ⟨fk, hkf⟩, fp, ⟨ft, htf⟩, fq⟩ := hM
  obtain ⟨hz0, hz1, hz2, hz3, hz4⟩ := ne_z zf hz
  have hc : A.1.1 ≤ 6 := hA.1.2.1
  have hc2 : 2 ≤ A.1.1 := hA.1.1
  have hpu : A.1.2.1 ≤ 100000 := hA.1.2.2.1
  have hrw : ∀ i k, i < 12 → k < 7 → zf (5 + 7 * i + k) = nI (A.1.2.2.2.2.2 i k).val := hz.row
  refine CG_of (by decide) (Nat.le_of_ble_eq_true rfl) rfl ?_
  intro p e s m args below meth c Q C0 hr hlk hnm hQ hw ls hl
  have hx := C0.x
  have hb := C0.b
  refine lv_aload_n hx hb dX6_root_0 rfl (lv_at hl 0 rfl) ?_
  refine lv_iload_n hx hb dX6_root_1 rfl (lv_at hl 1 rfl) ?_
  refine lv_iload_n hx hb dX6_root_2 rfl (lv_at hl 3 rfl) ?_
  refine q_calli hw (q_runS (As := [.int (x9), .int (z9)]) (c_X6_areSlots l G L F (x9) (z9)) C0 hw sw_X6_115 rfl hl.1 rfl (Nat.le_of_ble_eq_true rfl) dX6_root_3 ⟨by decide, by decide⟩ ⟨by decide, by decide⟩) rfl rfl (fun r_7751 F_7749 H locs hw hp_7750 => ?_)
  obtain ⟨he_7752, o_7753⟩ := hp_7750
  rw [if_neg h9] at he_7752
  subst he_7752
  refine n_if_ne (tgt := 13) hx hb dX6_root_6 (by decide) (by decide) (fun c_6 => ?_) (fun c_6 => ?_)
  · skip
    exact absurd c_6 (by omega)
  · skip
    refine lv_iconst (v := nI 1) hx hb dX6_root_9 (by decide) ?_
    refine lv_goto (tgt := 42) hx hb dX6_root_10 (by decide) ?_
    have f_7754 : F_7749 b = mO ma mi hh := (o_7753 b ).trans fb
    refine q_put C0 hw mb f_7754 fw_X6_31 pw_X6_8 rfl rfl rfl (Nat.le_of_ble_eq_true rfl) dX6_root_42 (fun F_7755 H locs hw f_7756 o_7757 => ?_)
    have f_7756 : F_7755 b = .inr (6, [.ref (ma 0), .int (mi 0), .ref (ma 1), .ref (ma 2), .ref (ma 3), .ref (ma 4), .int (mi 1), .ref (ma 5), .int (nI (1)), .ref (ma 6), .int (mi 3), .int (mi 4), .long (hh)]) := f_7756
    refine lv_aload_n hx hb dX6_root_45 rfl (lv_at hl 0 rfl) ?_
    refine q_get C0 hw mb f_7756 fw_X6_31 rfl dX6_root_46 ?_
    refine n_if_le (tgt := 54) hx hb dX6_root_49 (by decide) (by decide) (fun c_49 => ?_) (fun c_49 => ?_)
    · skip
      exact absurd c_49 (by omega)
    · skip
      refine lv_iconst (v := nI 0) hx hb dX6_root_52 (by decide) ?_
      have hb_7758 : F_7755 b = mO ma (va_up mi 2 (nI 1)) (hh) := f_7756
      have f_7759 : F_7749 (ma 0) = .inl (G.2 0, 89, .inl zf) := (o_7753 (ma 0) ).trans fz
      have f_7760 : F_7755 (ma 0) = .inl (G.2 0, 89, .inl zf) := (o_7757 (ma 0) (ne_ao f_7759 f_7754)).trans f_7759
      have f_7761 : F_7749 (ma 1) = .inl (G.2 0, 534, .inl hf) := (o_7753 (ma 1) ).trans fh
      have f_7762 : F_7755 (ma 1) = .inl (G.2 0, 534, .inl hf) := (o_7757 (ma 1) (ne_ao f_7761 f_7754)).trans f_7761
      have f_7763 : F_7749 (ma 2) = .inl (G.2 0, 178, .inl sf) := (o_7753 (ma 2) ).trans fs
      have f_7764 : F_7755 (ma 2) = .inl (G.2 0, 178, .inl sf) := (o_7757 (ma 2) (ne_ao f_7763 f_7754)).trans f_7763
      have f_7765 : F_7749 (ma 3) = .inl (G.2 0, 2, .inl kf) := (o_7753 (ma 3) ).trans fk
      have f_7766 : F_7755 (ma 3) = .inl (G.2 0, 2, .inl kf) := (o_7757 (ma 3) (ne_ao f_7765 f_7754)).trans f_7765
      have f_7767 : F_7749 (ma 4) = pcE G pl := (o_7753 (ma 4) ).trans fp
      have f_7768 : F_7755 (ma 4) = pcE G pl := (o_7757 (ma 4) (ne_ao f_7767 f_7754)).trans f_7767
      have f_7769 : F_7749 (ma 5) = .inl (G.2 0, 60, .inl tf) := (o_7753 (ma 5) ).trans ft
      have f_7770 : F_7755 (ma 5) = .inl (G.2 0, 60, .inl tf) := (o_7757 (ma 5) (ne_ao f_7769 f_7754)).trans f_7769
      have f_7771 : F_7749 (ma 6) = .inl (G.2 0, 52, .inl pf) := (o_7753 (ma 6) ).trans fq
      have f_7772 : F_7755 (ma 6) = .inl (G.2 0, 52, .inl pf) := (o_7757 (ma 6) (ne_ao f_7771 f_7754)).trans f_7771
      exact r_i C0 hr hlk hw (v := nI 0) rfl ⟨⟨_, _, _, _, _, _, _, _, _, hb_7758, ⟨hm0, hm1, rfl⟩, ⟨f_7760, hz⟩, ⟨f_7762, hhf⟩, ⟨f_7764, hsf⟩, ⟨f_7766, hkf⟩, f_7768, ⟨f_7770, htf⟩, f_7772⟩, (fun q k0 k1 => ((o_7757 q k0).trans (o_7753 q )))⟩ (Nat.le_refl _) (Nat.le_refl _) dX6_root_53 hQ
set_option maxHeartbeats 4000000 in
set_option maxRecDepth 100000 in
theorem k_X6_root_x2 (l : Launch) (G : Gl) (L : List Nat) (F : Nat → va_E) (b : Nat) (ma : Nat → Nat) (A : AB) (th : Nat) (x9 y9 z9 : Int32) (mb : b ∈ L) (hma : ∀ i, i < 7 → ma i ∈ L) (hM : MW G F b ma A th) (hA : okA A) (h8 : inR x9 0 5 ∧ inR z9 0 5) (h9 : ¬ (nI 1 ≤ y9 ∧ y9 ≤ nI 5000)) : CI l yX6_root cX6_root 4 (some .int) rm_X6_root G L F [.ref b, .int (x9), .int (y9), .int (z9)] (fun r F1 => MW G F1 b ma A 2 ∧ mFr F F1 b ma) := by
  obtain ⟨mi, hh, zf, hf, sf, kf, tf, pf, pl, fb, ⟨hm0, hm1, hm2⟩, ⟨fz, hz⟩, ⟨fh, hhf⟩, ⟨fs, hsf⟩, ⟨fk, hkf⟩, fp, ⟨ft, htf⟩, fq⟩ := hM
  obtain ⟨hz0, hz1, hz2, hz3, hz4⟩ := ne_z zf hz
  have hc : A.1.1 ≤ 6 := hA.1.2.1
  have hc2 : 2 ≤ A.1.1 := hA.1.1
  have hpu : A.1.2.1 ≤ 100000 := hA.1.2.2.1
  have hrw : ∀ i k, i < 12 → k < 7 → zf (5 + 7 * i + k) = nI (A.1.2.2.2.2.2 i k).val := hz.row
  refine CG_of (by decide) (Nat.le_of_ble_eq_true rfl) rfl ?_
  intro p e s m args below meth c Q C0 hr hlk hnm hQ hw ls hl
  have hx := C0.x
  have hb := C0.b
  refine lv_aload_n hx hb dX6_root_0 rfl (lv_at hl 0 rfl) ?_
  refine lv_iload_n hx hb dX6_root_1 rfl (lv_at hl 1 rfl) ?_
  refine lv_iload_n hx hb dX6_root_2 rfl (lv_at hl 3 rfl) ?_
  refine q_calli hw (q_runS (As := [.int (x9), .int (z9)]) (c_X6_areSlots l G L F (x9) (z9)) C0 hw sw_X6_115 rfl hl.1 rfl (Nat.le_of_ble_eq_true rfl) dX6_root_3 ⟨by decide, by decide⟩ ⟨by decide, by decide⟩) rfl rfl (fun r_7775 F_7773 H locs hw hp_7774 => ?_)
  obtain ⟨he_7776, o_7777⟩ := hp_7774
  rw [if_pos h8] at he_7776
  subst he_7776
  refine n_if_ne (tgt := 13) hx hb dX6_root_6 (by decide) (by decide) (fun c_6 => ?_) (fun c_6 => ?_)
  · skip
    refine lv_iload_n hx hb dX6_root_13 rfl (lv_at hl 2 rfl) ?_
    refine lv_iconst (v := nI 1) hx hb dX6_root_14 (by decide) ?_
    refine lv_sipush (v := nI 5000) hx hb dX6_root_15 (by decide) ?_
    refine q_calli hw (q_runS (As := [.int (y9), .int (nI (1)), .int (nI (5000))]) (c_X6_withinI l G L F_7773 (y9) (nI 1) (nI 5000)) C0 hw sw_X6_38 rfl hl.1 rfl (Nat.le_of_ble_eq_true rfl) dX6_root_18 ⟨by decide, by decide⟩ ⟨by decide, by decide⟩) rfl rfl (fun r_7780 F_7778 H locs hw hp_7779 => ?_)
    obtain ⟨he_7781, o_7782⟩ := hp_7779
    rw [if_neg h9] at he_7781
    subst he_7781
    refine n_if_ne (tgt := 28) hx hb dX6_root_21 (by decide) (by decide) (fun c_21 => ?_) (fun c_21 => ?_)
    · skip
      exact absurd c_21 (by omega)
    · skip
      refine lv_iconst (v := nI 2) hx hb dX6_root_24 (by decide) ?_
      refine lv_goto (tgt := 42) hx hb dX6_root_25 (by decide) ?_
      have f_7783 : F_7773 b = mO ma mi hh := (o_7777 b ).trans fb
      have f_7784 : F_7778 b = mO ma mi hh := (o_7782 b ).trans f_7783
      refine q_put C0 hw mb f_7784 fw_X6_31 pw_X6_8 rfl rfl rfl (Nat.le_of_ble_eq_true rfl) dX6_root_42 (fun F_7785 H locs hw f_7786 o_7787 => ?_)
      have f_7786 : F_7785 b = .inr (6, [.ref (ma 0), .int (mi 0), .ref (ma 1), .ref (ma 2), .ref (ma 3), .ref (ma 4), .int (mi 1), .ref (ma 5), .int (nI (2)), .ref (ma 6), .int (mi 3), .int (mi 4), .long (hh)]) := f_7786
      refine lv_aload_n hx hb dX6_root_45 rfl (lv_at hl 0 rfl) ?_
      refine q_get C0 hw mb f_7786 fw_X6_31 rfl dX6_root_46 ?_
      refine n_if_le (tgt := 54) hx hb dX6_root_49 (by decide) (by decide) (fun c_49 => ?_) (fun c_49 => ?_)
      · skip
        exact absurd c_49 (by omega)
      · skip
        refine lv_iconst (v := nI 0) hx hb dX6_root_52 (by decide) ?_
        have hb_7788 : F_7785 b = mO ma (va_up mi 2 (nI 2)) (hh) := f_7786
        have f_7789 : F_7773 (ma 0) = .inl (G.2 0, 89, .inl zf) := (o_7777 (ma 0) ).trans fz
        have f_7790 : F_7778 (ma 0) = .inl (G.2 0, 89, .inl zf) := (o_7782 (ma 0) ).trans f_7789
        have f_7791 : F_7785 (ma 0) = .inl (G.2 0, 89, .inl zf) := (o_7787 (ma 0) (ne_ao f_7790 f_7784)).trans f_7790
        have f_7792 : F_7773 (ma 1) = .inl (G.2 0, 534, .inl hf) := (o_7777 (ma 1) ).trans fh
        have f_7793 : F_7778 (ma 1) = .inl (G.2 0, 534, .inl hf) := (o_7782 (ma 1) ).trans f_7792
        have f_7794 : F_7785 (ma 1) = .inl (G.2 0, 534, .inl hf) := (o_7787 (ma 1) (ne_ao f_7793 f_7784)).trans f_7793
        have f_7795 : F_7773 (ma 2) = .inl (G.2 0, 178, .inl sf) := (o_7777 (ma 2) ).trans fs
        have f_7796 : F_7778 (ma 2) = .inl (G.2 0, 178, .inl sf) := (o_7782 (ma 2) ).trans f_7795
        have f_7797 : F_7785 (ma 2) = .inl (G.2 0, 178, .inl sf) := (o_7787 (ma 2) (ne_ao f_7796 f_7784)).trans f_7796
        have f_7798 : F_7773 (ma 3) = .inl (G.2 0, 2, .inl kf) := (o_7777 (ma 3) ).trans fk
        have f_7799 : F_7778 (ma 3) = .inl (G.2 0, 2, .inl kf) := (o_7782 (ma 3) ).trans f_7798
        have f_7800 : F_7785 (ma 3) = .inl (G.2 0, 2, .inl kf) := (o_7787 (ma 3) (ne_ao f_7799 f_7784)).trans f_7799
        have f_7801 : F_7773 (ma 4) = pcE G pl := (o_7777 (ma 4) ).trans fp
        have f_7802 : F_7778 (ma 4) = pcE G pl := (o_7782 (ma 4) ).trans f_7801
        have f_7803 : F_7785 (ma 4) = pcE G pl := (o_7787 (ma 4) (ne_ao f_7802 f_7784)).trans f_7802
        have f_7804 : F_7773 (ma 5) = .inl (G.2 0, 60, .inl tf) := (o_7777 (ma 5) ).trans ft
        have f_7805 : F_7778 (ma 5) = .inl (G.2 0, 60, .inl tf) := (o_7782 (ma 5) ).trans f_7804
        have f_7806 : F_7785 (ma 5) = .inl (G.2 0, 60, .inl tf) := (o_7787 (ma 5) (ne_ao f_7805 f_7784)).trans f_7805
        have f_7807 : F_7773 (ma 6) = .inl (G.2 0, 52, .inl pf) := (o_7777 (ma 6) ).trans fq
        have f_7808 : F_7778 (ma 6) = .inl (G.2 0, 52, .inl pf) := (o_7782 (ma 6) ).trans f_7807
        have f_7809 : F_7785 (ma 6) = .inl (G.2 0, 52, .inl pf) := (o_7787 (ma 6) (ne_ao f_7808 f_7784)).trans f_7808
        exact r_i C0 hr hlk hw (v := nI 0) rfl ⟨⟨_, _, _, _, _, _, _, _, _, hb_7788, ⟨hm0, hm1, rfl⟩, ⟨f_7791, hz⟩, ⟨f_7794, hhf⟩, ⟨f_7797, hsf⟩, ⟨f_7800, hkf⟩, f_7803, ⟨f_7806, htf⟩, f_7809⟩, (fun q k0 k1 => ((o_7787 q k0).trans ((o_7782 q ).trans (o_7777 q ))))⟩ (Nat.le_refl _) (Nat.le_refl _) dX6_root_53 hQ
  · skip
    exact absurd c_6 (by omega)
set_option maxHeartbeats 4000000 in
set_option maxRecDepth 100000 in
theorem k_X6_root_x3 (l : Launch) (G : Gl) (L : List Nat) (F : Nat → va_E) (b : Nat) (ma : Nat → Nat) (A : AB) (th : Nat) (x9 y9 z9 : Int32) (mb : b ∈ L) (hma : ∀ i, i < 7 → ma i ∈ L) (hM : MW G F b ma A th) (hA : okA A) (h8 : inR x9 0 5 ∧ inR z9 0 5) (h9 : nI 1 ≤ y9 ∧ y9 ≤ nI 5000) (hm : A.1.2.1 < A.1.1 * 8) : CI l yX6_root cX6_root 4 (some .int) rm_X6_root G L F [.ref b, .int (x9), .int (y9), .int (z9)] (fun r F1 => MW G F1 b ma A 3 ∧ mFr F F1 b ma) := by
  obtain ⟨mi, hh, zf, hf, sf, kf, tf, pf, pl, fb, ⟨hm0, hm1, hm2⟩, ⟨fz, hz⟩, ⟨fh, hhf⟩, ⟨fs, hsf⟩, ⟨fk, hkf⟩, fp, ⟨ft, htf⟩, fq⟩ := hM
  obtain ⟨hz0, hz1, hz2, hz3, hz4⟩ := ne_z zf hz
  have hc : A.1.1 ≤ 6 := hA.1.2.1
  have hc2 : 2 ≤ A.1.1 := hA.1.1
  have hpu : A.1.2.1 ≤ 100000 := hA.1.2.2.1
  have hrw : ∀ i k, i < 12 → k < 7 → zf (5 + 7 * i + k) = nI (A.1.2.2.2.2.2 i k).val := hz.row
  refine CG_of (by decide) (Nat.le_of_ble_eq_true rfl) rfl ?_
  intro p e s m args below meth c Q C0 hr hlk hnm hQ hw ls hl
  have hx := C0.x
  have hb := C0.b
  have hm9 : ¬ A.1.1 * 8 ≤ A.1.2.1 := by omega
  refine lv_aload_n hx hb dX6_root_0 rfl (lv_at hl 0 rfl) ?_
  refine lv_iload_n hx hb dX6_root_1 rfl (lv_at hl 1 rfl) ?_
  refine lv_iload_n hx hb dX6_root_2 rfl (lv_at hl 3 rfl) ?_
  refine q_calli hw (q_runS (As := [.int (x9), .int (z9)]) (c_X6_areSlots l G L F (x9) (z9)) C0 hw sw_X6_115 rfl hl.1 rfl (Nat.le_of_ble_eq_true rfl) dX6_root_3 ⟨by decide, by decide⟩ ⟨by decide, by decide⟩) rfl rfl (fun r_7812 F_7810 H locs hw hp_7811 => ?_)
  obtain ⟨he_7813, o_7814⟩ := hp_7811
  rw [if_pos h8] at he_7813
  subst he_7813
  refine n_if_ne (tgt := 13) hx hb dX6_root_6 (by decide) (by decide) (fun c_6 => ?_) (fun c_6 => ?_)
  · skip
    refine lv_iload_n hx hb dX6_root_13 rfl (lv_at hl 2 rfl) ?_
    refine lv_iconst (v := nI 1) hx hb dX6_root_14 (by decide) ?_
    refine lv_sipush (v := nI 5000) hx hb dX6_root_15 (by decide) ?_
    refine q_calli hw (q_runS (As := [.int (y9), .int (nI (1)), .int (nI (5000))]) (c_X6_withinI l G L F_7810 (y9) (nI 1) (nI 5000)) C0 hw sw_X6_38 rfl hl.1 rfl (Nat.le_of_ble_eq_true rfl) dX6_root_18 ⟨by decide, by decide⟩ ⟨by decide, by decide⟩) rfl rfl (fun r_7817 F_7815 H locs hw hp_7816 => ?_)
    obtain ⟨he_7818, o_7819⟩ := hp_7816
    rw [if_pos h9] at he_7818
    subst he_7818
    refine n_if_ne (tgt := 28) hx hb dX6_root_21 (by decide) (by decide) (fun c_21 => ?_) (fun c_21 => ?_)
    · skip
      refine lv_aload_n hx hb dX6_root_28 rfl (lv_at hl 0 rfl) ?_
      refine lv_bipush (v := nI 8) hx hb dX6_root_29 (by decide) ?_
      have f_7820 : F_7810 b = mO ma mi hh := (o_7814 b ).trans fb
      have f_7821 : F_7815 b = mO ma mi hh := (o_7819 b ).trans f_7820
      have f_7822 : F_7810 (ma 0) = .inl (G.2 0, 89, .inl zf) := (o_7814 (ma 0) ).trans fz
      have f_7823 : F_7815 (ma 0) = .inl (G.2 0, 89, .inl zf) := (o_7819 (ma 0) ).trans f_7822
      refine q_calli hw (q_runV (As := [.int (nI (8))]) (c_X6_canPay l G L F_7815 b ma mi hh zf 8 A.1.1 A.1.2.1 mb f_7821 hma f_7823 hz0 hz1 hc (by omega) hpu (by omega)) C0 hw vw_X6_106 mb f_7821 rfl rfl rfl hl.1 rfl (Nat.le_of_ble_eq_true rfl) dX6_root_31 ⟨by decide, by decide⟩ ⟨by decide, by decide⟩) rfl rfl (fun r_7826 F_7824 H locs hw hp_7825 => ?_)
      obtain ⟨he_7827, o_7828⟩ := hp_7825
      rw [if_neg hm9] at he_7827
      subst he_7827
      refine n_if_eq (tgt := 41) hx hb dX6_root_34 (by decide) (by decide) (fun c_34 => ?_) (fun c_34 => ?_)
      · skip
        refine lv_iconst (v := nI 3) hx hb dX6_root_41 (by decide) ?_
        have f_7829 : F_7824 b = mO ma mi hh := (o_7828 b ).trans f_7821
        refine q_put C0 hw mb f_7829 fw_X6_31 pw_X6_8 rfl rfl rfl (Nat.le_of_ble_eq_true rfl) dX6_root_42 (fun F_7830 H locs hw f_7831 o_7832 => ?_)
        have f_7831 : F_7830 b = .inr (6, [.ref (ma 0), .int (mi 0), .ref (ma 1), .ref (ma 2), .ref (ma 3), .ref (ma 4), .int (mi 1), .ref (ma 5), .int (nI (3)), .ref (ma 6), .int (mi 3), .int (mi 4), .long (hh)]) := f_7831
        refine lv_aload_n hx hb dX6_root_45 rfl (lv_at hl 0 rfl) ?_
        refine q_get C0 hw mb f_7831 fw_X6_31 rfl dX6_root_46 ?_
        refine n_if_le (tgt := 54) hx hb dX6_root_49 (by decide) (by decide) (fun c_49 => ?_) (fun c_49 => ?_)
        · skip
          exact absurd c_49 (by omega)
        · skip
          refine lv_iconst (v := nI 0) hx hb dX6_root_52 (by decide) ?_
          have hb_7833 : F_7830 b = mO ma (va_up mi 2 (nI 3)) (hh) := f_7831
          have f_7834 : F_7824 (ma 0) = .inl (G.2 0, 89, .inl zf) := (o_7828 (ma 0) ).trans f_7823
          have f_7835 : F_7830 (ma 0) = .inl (G.2 0, 89, .inl zf) := (o_7832 (ma 0) (ne_ao f_7834 f_7829)).trans f_7834
          have f_7836 : F_7810 (ma 1) = .inl (G.2 0, 534, .inl hf) := (o_7814 (ma 1) ).trans fh
          have f_7837 : F_7815 (ma 1) = .inl (G.2 0, 534, .inl hf) := (o_7819 (ma 1) ).trans f_7836
          have f_7838 : F_7824 (ma 1) = .inl (G.2 0, 534, .inl hf) := (o_7828 (ma 1) ).trans f_7837
          have f_7839 : F_7830 (ma 1) = .inl (G.2 0, 534, .inl hf) := (o_7832 (ma 1) (ne_ao f_7838 f_7829)).trans f_7838
          have f_7840 : F_7810 (ma 2) = .inl (G.2 0, 178, .inl sf) := (o_7814 (ma 2) ).trans fs
          have f_7841 : F_7815 (ma 2) = .inl (G.2 0, 178, .inl sf) := (o_7819 (ma 2) ).trans f_7840
          have f_7842 : F_7824 (ma 2) = .inl (G.2 0, 178, .inl sf) := (o_7828 (ma 2) ).trans f_7841
          have f_7843 : F_7830 (ma 2) = .inl (G.2 0, 178, .inl sf) := (o_7832 (ma 2) (ne_ao f_7842 f_7829)).trans f_7842
          have f_7844 : F_7810 (ma 3) = .inl (G.2 0, 2, .inl kf) := (o_7814 (ma 3) ).trans fk
          have f_7845 : F_7815 (ma 3) = .inl (G.2 0, 2, .inl kf) := (o_7819 (ma 3) ).trans f_7844
          have f_7846 : F_7824 (ma 3) = .inl (G.2 0, 2, .inl kf) := (o_7828 (ma 3) ).trans f_7845
          have f_7847 : F_7830 (ma 3) = .inl (G.2 0, 2, .inl kf) := (o_7832 (ma 3) (ne_ao f_7846 f_7829)).trans f_7846
          have f_7848 : F_7810 (ma 4) = pcE G pl := (o_7814 (ma 4) ).trans fp
          have f_7849 : F_7815 (ma 4) = pcE G pl := (o_7819 (ma 4) ).trans f_7848
          have f_7850 : F_7824 (ma 4) = pcE G pl := (o_7828 (ma 4) ).trans f_7849
          have f_7851 : F_7830 (ma 4) = pcE G pl := (o_7832 (ma 4) (ne_ao f_7850 f_7829)).trans f_7850
          have f_7852 : F_7810 (ma 5) = .inl (G.2 0, 60, .inl tf) := (o_7814 (ma 5) ).trans ft
          have f_7853 : F_7815 (ma 5) = .inl (G.2 0, 60, .inl tf) := (o_7819 (ma 5) ).trans f_7852
          have f_7854 : F_7824 (ma 5) = .inl (G.2 0, 60, .inl tf) := (o_7828 (ma 5) ).trans f_7853
          have f_7855 : F_7830 (ma 5) = .inl (G.2 0, 60, .inl tf) := (o_7832 (ma 5) (ne_ao f_7854 f_7829)).trans f_7854
          have f_7856 : F_7810 (ma 6) = .inl (G.2 0, 52, .inl pf) := (o_7814 (ma 6) ).trans fq
          have f_7857 : F_7815 (ma 6) = .inl (G.2 0, 52, .inl pf) := (o_7819 (ma 6) ).trans f_7856
          have f_7858 : F_7824 (ma 6) = .inl (G.2 0, 52, .inl pf) := (o_7828 (ma 6) ).trans f_7857
          have f_7859 : F_7830 (ma 6) = .inl (G.2 0, 52, .inl pf) := (o_7832 (ma 6) (ne_ao f_7858 f_7829)).trans f_7858
          exact r_i C0 hr hlk hw (v := nI 0) rfl ⟨⟨_, _, _, _, _, _, _, _, _, hb_7833, ⟨hm0, hm1, rfl⟩, ⟨f_7835, hz⟩, ⟨f_7839, hhf⟩, ⟨f_7843, hsf⟩, ⟨f_7847, hkf⟩, f_7851, ⟨f_7855, htf⟩, f_7859⟩, (fun q k0 k1 => ((o_7832 q k0).trans ((o_7828 q ).trans ((o_7819 q ).trans (o_7814 q )))))⟩ (Nat.le_refl _) (Nat.le_refl _) dX6_root_53 hQ
      · skip
        exact absurd c_34 (by omega)
    · skip
      exact absurd c_21 (by omega)
  · skip
    exact absurd c_6 (by omega)
set_option maxHeartbeats 4000000 in
set_option maxRecDepth 100000 in
theorem k_X6_root (l : Launch) (G : Gl) (L : List Nat) (F : Nat → va_E) (b : Nat) (ma : Nat → Nat) (A : AB) (th : Nat) (f9 t9 n9 : Nat) (mb : b ∈ L) (hma : ∀ i, i < 7 → ma i ∈ L) (hM : MW G F b ma A th) (hA : okA A) (hf9 : f9 < 6) (ht9 : t9 < 6) (hn1 : 1 ≤ n9) (hn2 : n9 ≤ 5000) (h8 : inR (nI f9) 0 5 ∧ inR (nI t9) 0 5) (h9 : nI 1 ≤ nI n9 ∧ nI n9 ≤ nI 5000) (hm : 8 * A.1.1 ≤ A.1.2.1) : CI l yX6_root cX6_root 4 (some .int) rm_X6_root G L F [.ref b, .int (nI (f9)), .int (nI (n9)), .int (nI (t9))] (fun r F1 => r = lowR (m_rep (A.1.2.2.2.2.2 (6 + f9)) (m_finv (zc n9)) A.1.1) ∧ MW G F1 b ma (aSave A (genS 8 (6 + t9) (m_rep (A.1.2.2.2.2.2 (6 + f9)) (m_finv (zc n9)) A.1.1) A.1)) 0 ∧ mFr F F1 b ma) := by
  obtain ⟨mi, hh, zf, hf, sf, kf, tf, pf, pl, fb, ⟨hm0, hm1, hm2⟩, ⟨fz, hz⟩, ⟨fh, hhf⟩, ⟨fs, hsf⟩, ⟨fk, hkf⟩, fp, ⟨ft, htf⟩, fq⟩ := hM
  obtain ⟨hz0, hz1, hz2, hz3, hz4⟩ := ne_z zf hz
  have hc : A.1.1 ≤ 6 := hA.1.2.1
  have hc2 : 2 ≤ A.1.1 := hA.1.1
  have hpu : A.1.2.1 ≤ 100000 := hA.1.2.2.1
  have hrw : ∀ i k, i < 12 → k < 7 → zf (5 + 7 * i + k) = nI (A.1.2.2.2.2.2 i k).val := hz.row
  refine CG_of (by decide) (Nat.le_of_ble_eq_true rfl) rfl ?_
  intro p e s m args below meth c Q C0 hr hlk hnm hQ hw ls hl
  have hx := C0.x
  have hb := C0.b
  have hm9 : A.1.1 * 8 ≤ A.1.2.1 := by omega
  refine lv_aload_n hx hb dX6_root_0 rfl (lv_at hl 0 rfl) ?_
  refine lv_iload_n hx hb dX6_root_1 rfl (lv_at hl 1 rfl) ?_
  refine lv_iload_n hx hb dX6_root_2 rfl (lv_at hl 3 rfl) ?_
  refine q_calli hw (q_runS (As := [.int (nI (f9)), .int (nI (t9))]) (c_X6_areSlots l G L F (nI (f9)) (nI (t9))) C0 hw sw_X6_115 rfl hl.1 rfl (Nat.le_of_ble_eq_true rfl) dX6_root_3 ⟨by decide, by decide⟩ ⟨by decide, by decide⟩) rfl rfl (fun r_7862 F_7860 H locs hw hp_7861 => ?_)
  obtain ⟨he_7863, o_7864⟩ := hp_7861
  rw [if_pos h8] at he_7863
  subst he_7863
  refine n_if_ne (tgt := 13) hx hb dX6_root_6 (by decide) (by decide) (fun c_6 => ?_) (fun c_6 => ?_)
  · skip
    refine lv_iload_n hx hb dX6_root_13 rfl (lv_at hl 2 rfl) ?_
    refine lv_iconst (v := nI 1) hx hb dX6_root_14 (by decide) ?_
    refine lv_sipush (v := nI 5000) hx hb dX6_root_15 (by decide) ?_
    refine q_calli hw (q_runS (As := [.int (nI (n9)), .int (nI (1)), .int (nI (5000))]) (c_X6_withinI l G L F_7860 (nI (n9)) (nI 1) (nI 5000)) C0 hw sw_X6_38 rfl hl.1 rfl (Nat.le_of_ble_eq_true rfl) dX6_root_18 ⟨by decide, by decide⟩ ⟨by decide, by decide⟩) rfl rfl (fun r_7867 F_7865 H locs hw hp_7866 => ?_)
    obtain ⟨he_7868, o_7869⟩ := hp_7866
    rw [if_pos h9] at he_7868
    subst he_7868
    refine n_if_ne (tgt := 28) hx hb dX6_root_21 (by decide) (by decide) (fun c_21 => ?_) (fun c_21 => ?_)
    · skip
      refine lv_aload_n hx hb dX6_root_28 rfl (lv_at hl 0 rfl) ?_
      refine lv_bipush (v := nI 8) hx hb dX6_root_29 (by decide) ?_
      have f_7870 : F_7860 b = mO ma mi hh := (o_7864 b ).trans fb
      have f_7871 : F_7865 b = mO ma mi hh := (o_7869 b ).trans f_7870
      have f_7872 : F_7860 (ma 0) = .inl (G.2 0, 89, .inl zf) := (o_7864 (ma 0) ).trans fz
      have f_7873 : F_7865 (ma 0) = .inl (G.2 0, 89, .inl zf) := (o_7869 (ma 0) ).trans f_7872
      refine q_calli hw (q_runV (As := [.int (nI (8))]) (c_X6_canPay l G L F_7865 b ma mi hh zf 8 A.1.1 A.1.2.1 mb f_7871 hma f_7873 hz0 hz1 hc (by omega) hpu (by omega)) C0 hw vw_X6_106 mb f_7871 rfl rfl rfl hl.1 rfl (Nat.le_of_ble_eq_true rfl) dX6_root_31 ⟨by decide, by decide⟩ ⟨by decide, by decide⟩) rfl rfl (fun r_7876 F_7874 H locs hw hp_7875 => ?_)
      obtain ⟨he_7877, o_7878⟩ := hp_7875
      rw [if_pos hm9] at he_7877
      subst he_7877
      refine n_if_eq (tgt := 41) hx hb dX6_root_34 (by decide) (by decide) (fun c_34 => ?_) (fun c_34 => ?_)
      · skip
        exact absurd c_34 (by omega)
      · skip
        refine lv_iconst (v := nI 0) hx hb dX6_root_37 (by decide) ?_
        refine lv_goto (tgt := 42) hx hb dX6_root_38 (by decide) ?_
        have f_7879 : F_7874 b = mO ma mi hh := (o_7878 b ).trans f_7871
        refine q_put C0 hw mb f_7879 fw_X6_31 pw_X6_8 rfl rfl rfl (Nat.le_of_ble_eq_true rfl) dX6_root_42 (fun F_7880 H locs hw f_7881 o_7882 => ?_)
        have f_7881 : F_7880 b = .inr (6, [.ref (ma 0), .int (mi 0), .ref (ma 1), .ref (ma 2), .ref (ma 3), .ref (ma 4), .int (mi 1), .ref (ma 5), .int (nI (0)), .ref (ma 6), .int (mi 3), .int (mi 4), .long (hh)]) := f_7881
        refine lv_aload_n hx hb dX6_root_45 rfl (lv_at hl 0 rfl) ?_
        refine q_get C0 hw mb f_7881 fw_X6_31 rfl dX6_root_46 ?_
        refine n_if_le (tgt := 54) hx hb dX6_root_49 (by decide) (by decide) (fun c_49 => ?_) (fun c_49 => ?_)
        · skip
          have hb_7883 : F_7880 b = mO ma (va_up mi 2 (nI 0)) hh := f_7881
          refine lv_aload_n hx hb dX6_root_54 rfl (lv_at hl 0 rfl) ?_
          refine lv_iload_n hx hb dX6_root_55 rfl (lv_at hl 1 rfl) ?_
          refine lv_iload_n hx hb dX6_root_56 rfl (lv_at hl 2 rfl) ?_
          refine q_calli hw (q_runS (As := [.int (nI (n9))]) (c_X6_inverse l G L F_7880 n9 (by omega)) C0 hw sw_X6_77 rfl hl.1 rfl (Nat.le_of_ble_eq_true rfl) dX6_root_57 ⟨by decide, by decide⟩ ⟨by decide, by decide⟩) rfl rfl (fun r_7886 F_7884 H locs hw hp_7885 => ?_)
          obtain ⟨he_7887, o_7888⟩ := hp_7885
          subst he_7887
          have hzlt := (m_finv (zc n9)).isLt
          have f_7889 : F_7884 b = mO ma ((va_up mi 2 (nI 0))) hh := (o_7888 b ).trans hb_7883
          have f_7890 : F_7860 (ma 4) = pcE G pl := (o_7864 (ma 4) ).trans fp
          have f_7891 : F_7865 (ma 4) = pcE G pl := (o_7869 (ma 4) ).trans f_7890
          have f_7892 : F_7874 (ma 4) = pcE G pl := (o_7878 (ma 4) ).trans f_7891
          have f_7893 : F_7880 (ma 4) = pcE G pl := (o_7882 (ma 4) (ne_ao f_7892 f_7879)).trans f_7892
          have f_7894 : F_7884 (ma 4) = pcE G pl := (o_7888 (ma 4) ).trans f_7893
          have f_7895 : F_7874 (ma 0) = .inl (G.2 0, 89, .inl zf) := (o_7878 (ma 0) ).trans f_7873
          have f_7896 : F_7880 (ma 0) = .inl (G.2 0, 89, .inl zf) := (o_7882 (ma 0) (ne_ao f_7895 f_7879)).trans f_7895
          have f_7897 : F_7884 (ma 0) = .inl (G.2 0, 89, .inl zf) := (o_7888 (ma 0) ).trans f_7896
          refine q_callv hw (q_runV (As := [.int (nI (f9)), .int (nI ((m_finv (zc n9)).val))]) (c_X6_layTimes l G L F_7884 b ma (va_up mi 2 (nI 0)) hh pl zf A.1.1 A.1.2.2.2.2.2 f9 ((m_finv (zc n9)).val) mb f_7889 hma f_7894 f_7897 hz0 (by omega) (by omega) (by omega) (by omega) hrw) C0 hw vw_X6_162 mb f_7889 rfl rfl rfl hl.1 rfl (Nat.le_of_ble_eq_true rfl) dX6_root_60 ⟨by decide, by decide⟩ ⟨by decide, by decide⟩) rfl rfl (fun F_7898 H locs hw hp_7899 => ?_)
          obtain ⟨⟨P_7900, f_7903, r_7901, ro_7902⟩, o_7904⟩ := hp_7899
          refine lv_aload_n hx hb dX6_root_63 rfl (lv_at hl 0 rfl) ?_
          refine lv_bipush (v := nI 8) hx hb dX6_root_64 (by decide) ?_
          refine lv_iload_n hx hb dX6_root_66 rfl (lv_at hl 3 rfl) ?_
          refine q_calli hw (q_runS (As := [.int (nI (t9))]) (c_X6_flowAt2 l G L F_7898 t9 (by omega)) C0 hw sw_X6_138 rfl hl.1 rfl (Nat.le_of_ble_eq_true rfl) dX6_root_67 ⟨by decide, by decide⟩ ⟨by decide, by decide⟩) rfl rfl (fun r_7907 F_7905 H locs hw hp_7906 => ?_)
          obtain ⟨he_7908, o_7909⟩ := hp_7906
          subst he_7908
          have f_7910 : F_7898 b = mO ma ((va_up mi 2 (nI 0))) hh := (o_7904 b (ne_oa f_7889 f_7894)).trans f_7889
          have f_7911 : F_7905 b = mO ma ((va_up mi 2 (nI 0))) hh := (o_7909 b ).trans f_7910
          have f_7912 : F_7898 (ma 0) = .inl (G.2 0, 89, .inl zf) := (o_7904 (ma 0) (ne_aa (by decide) f_7897 f_7894)).trans f_7897
          have f_7913 : F_7905 (ma 0) = .inl (G.2 0, 89, .inl zf) := (o_7909 (ma 0) ).trans f_7912
          have f_7914 : F_7860 (ma 1) = .inl (G.2 0, 534, .inl hf) := (o_7864 (ma 1) ).trans fh
          have f_7915 : F_7865 (ma 1) = .inl (G.2 0, 534, .inl hf) := (o_7869 (ma 1) ).trans f_7914
          have f_7916 : F_7874 (ma 1) = .inl (G.2 0, 534, .inl hf) := (o_7878 (ma 1) ).trans f_7915
          have f_7917 : F_7880 (ma 1) = .inl (G.2 0, 534, .inl hf) := (o_7882 (ma 1) (ne_ao f_7916 f_7879)).trans f_7916
          have f_7918 : F_7884 (ma 1) = .inl (G.2 0, 534, .inl hf) := (o_7888 (ma 1) ).trans f_7917
          have f_7919 : F_7898 (ma 1) = .inl (G.2 0, 534, .inl hf) := (o_7904 (ma 1) (ne_aa (by decide) f_7918 f_7894)).trans f_7918
          have f_7920 : F_7905 (ma 1) = .inl (G.2 0, 534, .inl hf) := (o_7909 (ma 1) ).trans f_7919
          have f_7921 : F_7905 (ma 4) = pcE G P_7900 := (o_7909 (ma 4) ).trans f_7903
          refine q_calli hw (q_runV (As := [.int (nI (8)), .int (nI (5 + 7 * (6 + t9)))]) (c_X6_ended l G L F_7905 b ma ((va_up mi 2 (nI 0))) hh zf hf P_7900 A.2.1.1 8 (5 + 7 * (6 + t9)) A.1.1 A.1.2.1 A.1.2.2.1 A.1.2.2.2.1 mb f_7911 hm0 hA.2.1.1 hma f_7913 f_7920 f_7921 hz0 hc hc2 hz1 hz2 hz3 (by omega) (by omega) (by omega)) C0 hw vw_X6_129 mb f_7911 rfl rfl rfl hl.1 rfl (Nat.le_of_ble_eq_true rfl) dX6_root_70 ⟨by decide, by decide⟩ ⟨by decide, by decide⟩) rfl rfl (fun r_7924 F_7922 H locs hw hp_7923 => ?_)
          obtain ⟨f_7925, f_7926, f_7927, f_7928, f_7929⟩ := hp_7923
          subst f_7925
          have hu_7930 : P_7900 2 = m_rep (A.1.2.2.2.2.2 (6 + f9)) (m_finv (zc n9)) A.1.1 := r_7901.trans (by rw [zrow, zc_z]; exact rep_eq _ _ (by omega) hc)
          have hz_7931 := f_7928
          rw [hu_7930] at hz_7931
          have f_7932 : F_7860 (ma 2) = .inl (G.2 0, 178, .inl sf) := (o_7864 (ma 2) ).trans fs
          have f_7933 : F_7865 (ma 2) = .inl (G.2 0, 178, .inl sf) := (o_7869 (ma 2) ).trans f_7932
          have f_7934 : F_7874 (ma 2) = .inl (G.2 0, 178, .inl sf) := (o_7878 (ma 2) ).trans f_7933
          have f_7935 : F_7880 (ma 2) = .inl (G.2 0, 178, .inl sf) := (o_7882 (ma 2) (ne_ao f_7934 f_7879)).trans f_7934
          have f_7936 : F_7884 (ma 2) = .inl (G.2 0, 178, .inl sf) := (o_7888 (ma 2) ).trans f_7935
          have f_7937 : F_7898 (ma 2) = .inl (G.2 0, 178, .inl sf) := (o_7904 (ma 2) (ne_aa (by decide) f_7936 f_7894)).trans f_7936
          have f_7938 : F_7905 (ma 2) = .inl (G.2 0, 178, .inl sf) := (o_7909 (ma 2) ).trans f_7937
          have f_7939 : F_7922 (ma 2) = .inl (G.2 0, 178, .inl sf) := (f_7929 (ma 2) (ne_ao f_7938 f_7911) (ne_aa (by decide) f_7938 f_7920) (ne_aa (by decide) f_7938 f_7913)).trans f_7938
          have f_7940 : F_7860 (ma 3) = .inl (G.2 0, 2, .inl kf) := (o_7864 (ma 3) ).trans fk
          have f_7941 : F_7865 (ma 3) = .inl (G.2 0, 2, .inl kf) := (o_7869 (ma 3) ).trans f_7940
          have f_7942 : F_7874 (ma 3) = .inl (G.2 0, 2, .inl kf) := (o_7878 (ma 3) ).trans f_7941
          have f_7943 : F_7880 (ma 3) = .inl (G.2 0, 2, .inl kf) := (o_7882 (ma 3) (ne_ao f_7942 f_7879)).trans f_7942
          have f_7944 : F_7884 (ma 3) = .inl (G.2 0, 2, .inl kf) := (o_7888 (ma 3) ).trans f_7943
          have f_7945 : F_7898 (ma 3) = .inl (G.2 0, 2, .inl kf) := (o_7904 (ma 3) (ne_aa (by decide) f_7944 f_7894)).trans f_7944
          have f_7946 : F_7905 (ma 3) = .inl (G.2 0, 2, .inl kf) := (o_7909 (ma 3) ).trans f_7945
          have f_7947 : F_7922 (ma 3) = .inl (G.2 0, 2, .inl kf) := (f_7929 (ma 3) (ne_ao f_7946 f_7911) (ne_aa (by decide) f_7946 f_7920) (ne_aa (by decide) f_7946 f_7913)).trans f_7946
          have f_7948 : F_7922 (ma 4) = pcE G P_7900 := (f_7929 (ma 4) (ne_ao f_7921 f_7911) (ne_aa (by decide) f_7921 f_7920) (ne_aa (by decide) f_7921 f_7913)).trans f_7921
          have f_7949 : F_7860 (ma 5) = .inl (G.2 0, 60, .inl tf) := (o_7864 (ma 5) ).trans ft
          have f_7950 : F_7865 (ma 5) = .inl (G.2 0, 60, .inl tf) := (o_7869 (ma 5) ).trans f_7949
          have f_7951 : F_7874 (ma 5) = .inl (G.2 0, 60, .inl tf) := (o_7878 (ma 5) ).trans f_7950
          have f_7952 : F_7880 (ma 5) = .inl (G.2 0, 60, .inl tf) := (o_7882 (ma 5) (ne_ao f_7951 f_7879)).trans f_7951
          have f_7953 : F_7884 (ma 5) = .inl (G.2 0, 60, .inl tf) := (o_7888 (ma 5) ).trans f_7952
          have f_7954 : F_7898 (ma 5) = .inl (G.2 0, 60, .inl tf) := (o_7904 (ma 5) (ne_aa (by decide) f_7953 f_7894)).trans f_7953
          have f_7955 : F_7905 (ma 5) = .inl (G.2 0, 60, .inl tf) := (o_7909 (ma 5) ).trans f_7954
          have f_7956 : F_7922 (ma 5) = .inl (G.2 0, 60, .inl tf) := (f_7929 (ma 5) (ne_ao f_7955 f_7911) (ne_aa (by decide) f_7955 f_7920) (ne_aa (by decide) f_7955 f_7913)).trans f_7955
          have f_7957 : F_7860 (ma 6) = .inl (G.2 0, 52, .inl pf) := (o_7864 (ma 6) ).trans fq
          have f_7958 : F_7865 (ma 6) = .inl (G.2 0, 52, .inl pf) := (o_7869 (ma 6) ).trans f_7957
          have f_7959 : F_7874 (ma 6) = .inl (G.2 0, 52, .inl pf) := (o_7878 (ma 6) ).trans f_7958
          have f_7960 : F_7880 (ma 6) = .inl (G.2 0, 52, .inl pf) := (o_7882 (ma 6) (ne_ao f_7959 f_7879)).trans f_7959
          have f_7961 : F_7884 (ma 6) = .inl (G.2 0, 52, .inl pf) := (o_7888 (ma 6) ).trans f_7960
          have f_7962 : F_7898 (ma 6) = .inl (G.2 0, 52, .inl pf) := (o_7904 (ma 6) (ne_aa (by decide) f_7961 f_7894)).trans f_7961
          have f_7963 : F_7905 (ma 6) = .inl (G.2 0, 52, .inl pf) := (o_7909 (ma 6) ).trans f_7962
          have f_7964 : F_7922 (ma 6) = .inl (G.2 0, 52, .inl pf) := (f_7929 (ma 6) (ne_ao f_7963 f_7911) (ne_aa (by decide) f_7963 f_7920) (ne_aa (by decide) f_7963 f_7913)).trans f_7963
          exact r_i C0 hr hlk hw (v := (lowR (P_7900 2))) rfl ⟨(by rw [hu_7930]), ⟨_, _, _, _, _, _, _, _, _, f_7926, ⟨(congrArg nI (sv_n (st := A.1) hA.2.1.1)), hm1, rfl⟩, ⟨hz_7931, (pyM_ok (un := 8) (t := (6 + t9)) (u := m_rep (A.1.2.2.2.2.2 (6 + f9)) (m_finv (zc n9)) A.1.1) hz (by omega))⟩, ⟨f_7927, (sv_h hA.2.1.1 hz hhf)⟩, ⟨f_7939, hsf⟩, ⟨f_7947, hkf⟩, f_7948, ⟨f_7956, htf⟩, f_7964⟩, (fun q k0 k1 => ((f_7929 q k0 (k1 1 (by decide)) (k1 0 (by decide))).trans ((o_7909 q ).trans ((o_7904 q (k1 4 (by decide))).trans ((o_7888 q ).trans ((o_7882 q k0).trans ((o_7878 q ).trans ((o_7869 q ).trans (o_7864 q )))))))))⟩ (Nat.le_refl _) (Nat.le_refl _) dX6_root_73 hQ
        · skip
          exact absurd c_49 (by omega)
    · skip
      exact absurd c_21 (by omega)
  · skip
    exact absurd c_6 (by omega)
