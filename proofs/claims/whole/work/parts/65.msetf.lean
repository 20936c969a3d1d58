abbrev rm_X6_setField : Room := { frames := 2, cells := 0, slots := 0, locals := 44 }
set_option maxHeartbeats 4000000 in
set_option maxRecDepth 100000 in
theorem c_X6_setField_xs (l : Launch) (G : Gl) (L : List Nat) (F : Nat → va_E) (b : Nat) (ma : Nat → Nat) (mi : Nat → Int32) (hh : Int64) (zf hf : Nat → Int32) (n9 : Nat) (x9 y9 z9 : Int32) (mb : b ∈ L) (fb : F b = mO ma mi hh) (hm0 : mi 0 = nI n9) (hn6 : n9 ≤ 6) (hma : ∀ i, i < 7 → ma i ∈ L) (fz : F (ma 0) = .inl (G.2 0, 89, .inl zf)) (fh : F (ma 1) = .inl (G.2 0, 534, .inl hf)) (h9 : ¬ inR x9 0 5) : CI l yX6_setField cX6_setField 4 (some .int) rm_X6_setField G L F [.ref b, .int (x9), .int (y9), .int (z9)] (fun r F1 => r = nI 0 ∧ F1 b = mO ma (va_up mi 2 (nI 1)) hh ∧ ∀ q, q ≠ b → F1 q = F q) := by
  refine CG_of (by decide) (Nat.le_of_ble_eq_true rfl) rfl ?_
  intro p e s m args below meth c Q C0 hr hlk hnm hQ hw ls hl
  have hx := C0.x
  have hb := C0.b
  refine lv_aload_n hx hb dX6_setField_0 rfl (lv_at hl 0 rfl) ?_
  refine lv_iload_n hx hb dX6_setField_1 rfl (lv_at hl 1 rfl) ?_
  refine q_calli hw (q_runS (As := [.int (x9)]) (c_X6_isSlot l G L F (x9)) C0 hw sw_X6_42 rfl hl.1 rfl (Nat.le_of_ble_eq_true rfl) dX6_setField_2 ⟨by decide, by decide⟩ ⟨by decide, by decide⟩) rfl rfl (fun r_5067 F_5065 H locs hw hp_5066 => ?_)
  obtain ⟨he_5068, o_5069⟩ := hp_5066
  rw [if_neg h9] at he_5068
  subst he_5068
  refine n_if_eq (tgt := 20) hx hb dX6_setField_5 (by decide) (by decide) (fun c_5 => ?_) (fun c_5 => ?_)
  · skip
    refine lv_iconst (v := nI 1) hx hb dX6_setField_20 (by decide) ?_
    have f_5070 : F_5065 b = mO ma mi hh := (o_5069 b ).trans fb
    refine q_put C0 hw mb f_5070 fw_X6_31 pw_X6_8 rfl rfl rfl (Nat.le_of_ble_eq_true rfl) dX6_setField_21 (fun F_5071 H locs hw f_5072 o_5073 => ?_)
    have f_5072 : F_5071 b = .inr (6, [.ref (ma 0), .int (mi 0), .ref (ma 1), .ref (ma 2), .ref (ma 3), .ref (ma 4), .int (mi 1), .ref (ma 5), .int (nI (1)), .ref (ma 6), .int (mi 3), .int (mi 4), .long (hh)]) := f_5072
    refine lv_aload_n hx hb dX6_setField_24 rfl (lv_at hl 0 rfl) ?_
    refine q_get C0 hw mb f_5072 fw_X6_31 rfl dX6_setField_25 ?_
    refine n_if_le (tgt := 35) hx hb dX6_setField_28 (by decide) (by decide) (fun c_28 => ?_) (fun c_28 => ?_)
    · skip
      exact absurd c_28 (by omega)
    · skip
      refine lv_iconst (v := nI 0) hx hb dX6_setField_31 (by decide) ?_
      refine lv_goto (tgt := 48) hx hb dX6_setField_32 (by decide) ?_
      exact r_i C0 hr hlk hw (v := nI 0) rfl ⟨rfl, f_5072, (fun q k0 => ((o_5073 q k0).trans (o_5069 q )))⟩ (Nat.le_refl _) (Nat.le_refl _) dX6_setField_48 hQ
  · skip
    exact absurd c_5 (by omega)
set_option maxHeartbeats 4000000 in
set_option maxRecDepth 100000 in
theorem c_X6_setField_xp (l : Launch) (G : Gl) (L : List Nat) (F : Nat → va_E) (b : Nat) (ma : Nat → Nat) (mi : Nat → Int32) (hh : Int64) (zf hf : Nat → Int32) (n9 : Nat) (f9 cu : Nat) (y9 z9 : Int32) (mb : b ∈ L) (fb : F b = mO ma mi hh) (hm0 : mi 0 = nI n9) (hn6 : n9 ≤ 6) (hma : ∀ i, i < 7 → ma i ∈ L) (fz : F (ma 0) = .inl (G.2 0, 89, .inl zf)) (fh : F (ma 1) = .inl (G.2 0, 534, .inl hf)) (hz0 : zf 0 = nI cu) (h8 : inR (nI f9) 0 5) (h9 : ¬ inR y9 2 cu) : CI l yX6_setField cX6_setField 4 (some .int) rm_X6_setField G L F [.ref b, .int (nI (f9)), .int (y9), .int (z9)] (fun r F1 => r = nI 0 ∧ F1 b = mO ma (va_up mi 2 (nI 1)) hh ∧ ∀ q, q ≠ b → F1 q = F q) := by
  refine CG_of (by decide) (Nat.le_of_ble_eq_true rfl) rfl ?_
  intro p e s m args below meth c Q C0 hr hlk hnm hQ hw ls hl
  have hx := C0.x
  have hb := C0.b
  refine lv_aload_n hx hb dX6_setField_0 rfl (lv_at hl 0 rfl) ?_
  refine lv_iload_n hx hb dX6_setField_1 rfl (lv_at hl 1 rfl) ?_
  refine q_calli hw (q_runS (As := [.int (nI (f9))]) (c_X6_isSlot l G L F (nI (f9))) C0 hw sw_X6_42 rfl hl.1 rfl (Nat.le_of_ble_eq_true rfl) dX6_setField_2 ⟨by decide, by decide⟩ ⟨by decide, by decide⟩) rfl rfl (fun r_5076 F_5074 H locs hw hp_5075 => ?_)
  obtain ⟨he_5077, o_5078⟩ := hp_5075
  rw [if_pos h8] at he_5077
  subst he_5077
  refine n_if_eq (tgt := 20) hx hb dX6_setField_5 (by decide) (by decide) (fun c_5 => ?_) (fun c_5 => ?_)
  · skip
    exact absurd c_5 (by omega)
  · skip
    refine lv_aload_n hx hb dX6_setField_8 rfl (lv_at hl 0 rfl) ?_
    refine lv_iload_n hx hb dX6_setField_9 rfl (lv_at hl 2 rfl) ?_
    have f_5079 : F_5074 (ma 0) = .inl (G.2 0, 89, .inl zf) := (o_5078 (ma 0) ).trans fz
    have f_5080 : F_5074 b = mO ma mi hh := (o_5078 b ).trans fb
    refine q_calli hw (q_runV (As := [.int (y9)]) (c_X6_isPower l G L F_5074 b ma mi hh zf (y9) cu mb f_5080 hma f_5079 hz0) C0 hw vw_X6_93 mb f_5080 rfl rfl rfl hl.1 rfl (Nat.le_of_ble_eq_true rfl) dX6_setField_10 ⟨by decide, by decide⟩ ⟨by decide, by decide⟩) rfl rfl (fun r_5083 F_5081 H locs hw hp_5082 => ?_)
    obtain ⟨he_5084, o_5085⟩ := hp_5082
    rw [if_neg h9] at he_5084
    subst he_5084
    refine n_if_eq (tgt := 20) hx hb dX6_setField_13 (by decide) (by decide) (fun c_13 => ?_) (fun c_13 => ?_)
    · skip
      refine lv_iconst (v := nI 1) hx hb dX6_setField_20 (by decide) ?_
      have f_5086 : F_5081 b = mO ma mi hh := (o_5085 b ).trans f_5080
      refine q_put C0 hw mb f_5086 fw_X6_31 pw_X6_8 rfl rfl rfl (Nat.le_of_ble_eq_true rfl) dX6_setField_21 (fun F_5087 H locs hw f_5088 o_5089 => ?_)
      have f_5088 : F_5087 b = .inr (6, [.ref (ma 0), .int (mi 0), .ref (ma 1), .ref (ma 2), .ref (ma 3), .ref (ma 4), .int (mi 1), .ref (ma 5), .int (nI (1)), .ref (ma 6), .int (mi 3), .int (mi 4), .long (hh)]) := f_5088
      refine lv_aload_n hx hb dX6_setField_24 rfl (lv_at hl 0 rfl) ?_
      refine q_get C0 hw mb f_5088 fw_X6_31 rfl dX6_setField_25 ?_
      refine n_if_le (tgt := 35) hx hb dX6_setField_28 (by decide) (by decide) (fun c_28 => ?_) (fun c_28 => ?_)
      · skip
        exact absurd c_28 (by omega)
      · skip
        refine lv_iconst (v := nI 0) hx hb dX6_setField_31 (by decide) ?_
        refine lv_goto (tgt := 48) hx hb dX6_setField_32 (by decide) ?_
        exact r_i C0 hr hlk hw (v := nI 0) rfl ⟨rfl, f_5088, (fun q k0 => ((o_5089 q k0).trans ((o_5085 q ).trans (o_5078 q ))))⟩ (Nat.le_refl _) (Nat.le_refl _) dX6_setField_48 hQ
    · skip
      exact absurd c_13 (by omega)
set_option maxHeartbeats 4000000 in
set_option maxRecDepth 100000 in
theorem c_X6_setField (l : Launch) (G : Gl) (L : List Nat) (F : Nat → va_E) (b : Nat) (ma : Nat → Nat) (mi : Nat → Int32) (hh : Int64) (zf hf : Nat → Int32) (n9 : Nat) (f9 p9 cu : Nat) (z9 : Int32) (mb : b ∈ L) (fb : F b = mO ma mi hh) (hm0 : mi 0 = nI n9) (hn6 : n9 ≤ 6) (hma : ∀ i, i < 7 → ma i ∈ L) (fz : F (ma 0) = .inl (G.2 0, 89, .inl zf)) (fh : F (ma 1) = .inl (G.2 0, 534, .inl hf)) (hz0 : zf 0 = nI cu) (hf9 : f9 < 6) (hp9 : p9 ≤ 6) (h8 : inR (nI f9) 0 5) (h9 : inR (nI p9) 2 cu) : CI l yX6_setField cX6_setField 4 (some .int) rm_X6_setField G L F [.ref b, .int (nI (f9)), .int (nI (p9)), .int (z9)] (fun r F1 => r = zf (5 + 7 * f9 + p9) ∧ F1 b = mO ma (va_up (va_up mi 2 (nI 0)) 0 (nI (svM n9 hf zf).1)) hh ∧ F1 (ma 1) = .inl (G.2 0, 534, .inl (svM n9 hf zf).2) ∧ F1 (ma 0) = .inl (G.2 0, 89, .inl (upd zf (5 + 7 * f9 + p9) (nI (zi z9).val))) ∧ ∀ q, q ≠ b → q ≠ ma 1 → q ≠ ma 0 → F1 q = F q) := by
  refine CG_of (by decide) (Nat.le_of_ble_eq_true rfl) rfl ?_
  intro p e s m args below meth c Q C0 hr hlk hnm hQ hw ls hl
  have hx := C0.x
  have hb := C0.b
  refine lv_aload_n hx hb dX6_setField_0 rfl (lv_at hl 0 rfl) ?_
  refine lv_iload_n hx hb dX6_setField_1 rfl (lv_at hl 1 rfl) ?_
  refine q_calli hw (q_runS (As := [.int (nI (f9))]) (c_X6_isSlot l G L F (nI (f9))) C0 hw sw_X6_42 rfl hl.1 rfl (Nat.le_of_ble_eq_true rfl) dX6_setField_2 ⟨by decide, by decide⟩ ⟨by decide, by decide⟩) rfl rfl (fun r_5092 F_5090 H locs hw hp_5091 => ?_)
  obtain ⟨he_5093, o_5094⟩ := hp_5091
  rw [if_pos h8] at he_5093
  subst he_5093
  refine n_if_eq (tgt := 20) hx hb dX6_setField_5 (by decide) (by decide) (fun c_5 => ?_) (fun c_5 => ?_)
  · skip
    exact absurd c_5 (by omega)
  · skip
    refine lv_aload_n hx hb dX6_setField_8 rfl (lv_at hl 0 rfl) ?_
    refine lv_iload_n hx hb dX6_setField_9 rfl (lv_at hl 2 rfl) ?_
    have f_5095 : F_5090 (ma 0) = .inl (G.2 0, 89, .inl zf) := (o_5094 (ma 0) ).trans fz
    have f_5096 : F_5090 b = mO ma mi hh := (o_5094 b ).trans fb
    refine q_calli hw (q_runV (As := [.int (nI (p9))]) (c_X6_isPower l G L F_5090 b ma mi hh zf (nI (p9)) cu mb f_5096 hma f_5095 hz0) C0 hw vw_X6_93 mb f_5096 rfl rfl rfl hl.1 rfl (Nat.le_of_ble_eq_true rfl) dX6_setField_10 ⟨by decide, by decide⟩ ⟨by decide, by decide⟩) rfl rfl (fun r_5099 F_5097 H locs hw hp_5098 => ?_)
    obtain ⟨he_5100, o_5101⟩ := hp_5098
    rw [if_pos h9] at he_5100
    subst he_5100
    refine n_if_eq (tgt := 20) hx hb dX6_setField_13 (by decide) (by decide) (fun c_13 => ?_) (fun c_13 => ?_)
    · skip
      exact absurd c_13 (by omega)
    · skip
      refine lv_iconst (v := nI 0) hx hb dX6_setField_16 (by decide) ?_
      refine lv_goto (tgt := 21) hx hb dX6_setField_17 (by decide) ?_
      have f_5102 : F_5097 b = mO ma mi hh := (o_5101 b ).trans f_5096
      refine q_put C0 hw mb f_5102 fw_X6_31 pw_X6_8 rfl rfl rfl (Nat.le_of_ble_eq_true rfl) dX6_setField_21 (fun F_5103 H locs hw f_5104 o_5105 => ?_)
      have f_5104 : F_5103 b = .inr (6, [.ref (ma 0), .int (mi 0), .ref (ma 1), .ref (ma 2), .ref (ma 3), .ref (ma 4), .int (mi 1), .ref (ma 5), .int (nI (0)), .ref (ma 6), .int (mi 3), .int (mi 4), .long (hh)]) := f_5104
      refine lv_aload_n hx hb dX6_setField_24 rfl (lv_at hl 0 rfl) ?_
      refine q_get C0 hw mb f_5104 fw_X6_31 rfl dX6_setField_25 ?_
      refine n_if_le (tgt := 35) hx hb dX6_setField_28 (by decide) (by decide) (fun c_28 => ?_) (fun c_28 => ?_)
      · skip
        refine lv_aload_n hx hb dX6_setField_35 rfl (lv_at hl 0 rfl) ?_
        refine lv_iconst (v := nI 5) hx hb dX6_setField_36 (by decide) ?_
        refine lv_bipush (v := nI 7) hx hb dX6_setField_37 (by decide) ?_
        refine lv_iload_n hx hb dX6_setField_39 rfl (lv_at hl 1 rfl) ?_
        refine n_imul hx hb dX6_setField_40 ?_
        refine n_iadd hx hb dX6_setField_41 ?_
        refine lv_iload_n hx hb dX6_setField_42 rfl (lv_at hl 2 rfl) ?_
        refine n_iadd hx hb dX6_setField_43 ?_
        refine lv_iload_n hx hb dX6_setField_44 rfl (lv_at hl 3 rfl) ?_
        have hb_5106 : F_5103 b = mO ma (va_up mi 2 (nI 0)) hh := f_5104
        have f_5107 : F_5097 (ma 0) = .inl (G.2 0, 89, .inl zf) := (o_5101 (ma 0) ).trans f_5095
        have f_5108 : F_5103 (ma 0) = .inl (G.2 0, 89, .inl zf) := (o_5105 (ma 0) (ne_ao f_5107 f_5102)).trans f_5107
        have f_5109 : F_5090 (ma 1) = .inl (G.2 0, 534, .inl hf) := (o_5094 (ma 1) ).trans fh
        have f_5110 : F_5097 (ma 1) = .inl (G.2 0, 534, .inl hf) := (o_5101 (ma 1) ).trans f_5109
        have f_5111 : F_5103 (ma 1) = .inl (G.2 0, 534, .inl hf) := (o_5105 (ma 1) (ne_ao f_5110 f_5102)).trans f_5110
        refine q_calli hw (q_runV (As := [.int (nI (5 + (7 * f9) + p9)), .int (z9)]) (c_X6_setsCoefficient l G L F_5103 b ma (va_up mi 2 (nI 0)) hh zf hf n9 (5 + (7 * f9) + p9) (z9) mb hb_5106 hm0 hn6 hma f_5108 f_5111 (by omega)) C0 hw vw_X6_96 mb hb_5106 rfl rfl rfl hl.1 rfl (Nat.le_of_ble_eq_true rfl) dX6_setField_45 ⟨by decide, by decide⟩ ⟨by decide, by decide⟩) rfl rfl (fun r_5114 F_5112 H locs hw hp_5113 => ?_)
        obtain ⟨f_5115, f_5116, f_5117, f_5118, f_5119⟩ := hp_5113
        subst f_5115
        exact r_i C0 hr hlk hw (v := (zf (5 + (7 * f9) + p9))) rfl ⟨rfl, f_5116, f_5117, f_5118, (fun q k0 k1 k2 => ((f_5119 q k0 k1 k2).trans ((o_5105 q k0).trans ((o_5101 q ).trans (o_5094 q )))))⟩ (Nat.le_refl _) (Nat.le_refl _) dX6_setField_48 hQ
      · skip
        exact absurd c_28 (by omega)
abbrev rm_X6_setFlow : Room := { frames := 2, cells := 0, slots := 0, locals := 44 }
set_option maxHeartbeats 4000000 in
set_option maxRecDepth 100000 in
theorem c_X6_setFlow_xs (l : Launch) (G : Gl) (L : List Nat) (F : Nat → va_E) (b : Nat) (ma : Nat → Nat) (mi : Nat → Int32) (hh : Int64) (zf hf : Nat → Int32) (n9 : Nat) (x9 y9 z9 : Int32) (mb : b ∈ L) (fb : F b = mO ma mi hh) (hm0 : mi 0 = nI n9) (hn6 : n9 ≤ 6) (hma : ∀ i, i < 7 → ma i ∈ L) (fz : F (ma 0) = .inl (G.2 0, 89, .inl zf)) (fh : F (ma 1) = .inl (G.2 0, 534, .inl hf)) (h9 : ¬ inR x9 0 5) : CI l yX6_setFlow cX6_setFlow 4 (some .int) rm_X6_setFlow G L F [.ref b, .int (x9), .int (y9), .int (z9)] (fun r F1 => r = nI 0 ∧ F1 b = mO ma (va_up mi 2 (nI 1)) hh ∧ ∀ q, q ≠ b → F1 q = F q) := by
  refine CG_of (by decide) (Nat.le_of_ble_eq_true rfl) rfl ?_
  intro p e s m args below meth c Q C0 hr hlk hnm hQ hw ls hl
  have hx := C0.x
  have hb := C0.b
  refine lv_aload_n hx hb dX6_setFlow_0 rfl (lv_at hl 0 rfl) ?_
  refine lv_iload_n hx hb dX6_setFlow_1 rfl (lv_at hl 1 rfl) ?_
  refine q_calli hw (q_runS (As := [.int (x9)]) (c_X6_isSlot l G L F (x9)) C0 hw sw_X6_42 rfl hl.1 rfl (Nat.le_of_ble_eq_true rfl) dX6_setFlow_2 ⟨by decide, by decide⟩ ⟨by decide, by decide⟩) rfl rfl (fun r_5122 F_5120 H locs hw hp_5121 => ?_)
  obtain ⟨he_5123, o_5124⟩ := hp_5121
  rw [if_neg h9] at he_5123
  subst he_5123
  refine n_if_eq (tgt := 20) hx hb dX6_setFlow_5 (by decide) (by decide) (fun c_5 => ?_) (fun c_5 => ?_)
  · skip
    refine lv_iconst (v := nI 1) hx hb dX6_setFlow_20 (by decide) ?_
    have f_5125 : F_5120 b = mO ma mi hh := (o_5124 b ).trans fb
    refine q_put C0 hw mb f_5125 fw_X6_31 pw_X6_8 rfl rfl rfl (Nat.le_of_ble_eq_true rfl) dX6_setFlow_21 (fun F_5126 H locs hw f_5127 o_5128 => ?_)
    have f_5127 : F_5126 b = .inr (6, [.ref (ma 0), .int (mi 0), .ref (ma 1), .ref (ma 2), .ref (ma 3), .ref (ma 4), .int (mi 1), .ref (ma 5), .int (nI (1)), .ref (ma 6), .int (mi 3), .int (mi 4), .long (hh)]) := f_5127
    refine lv_aload_n hx hb dX6_setFlow_24 rfl (lv_at hl 0 rfl) ?_
    refine q_get C0 hw mb f_5127 fw_X6_31 rfl dX6_setFlow_25 ?_
    refine n_if_le (tgt := 35) hx hb dX6_setFlow_28 (by decide) (by decide) (fun c_28 => ?_) (fun c_28 => ?_)
    · skip
      exact absurd c_28 (by omega)
    · skip
      refine lv_iconst (v := nI 0) hx hb dX6_setFlow_31 (by decide) ?_
      refine lv_goto (tgt := 49) hx hb dX6_setFlow_32 (by decide) ?_
      exact r_i C0 hr hlk hw (v := nI 0) rfl ⟨rfl, f_5127, (fun q k0 => ((o_5128 q k0).trans (o_5124 q )))⟩ (Nat.le_refl _) (Nat.le_refl _) dX6_setFlow_49 hQ
  · skip
    exact absurd c_5 (by omega)
set_option maxHeartbeats 4000000 in
set_option maxRecDepth 100000 in
theorem c_X6_setFlow_xp (l : Launch) (G : Gl) (L : List Nat) (F : Nat → va_E) (b : Nat) (ma : Nat → Nat) (mi : Nat → Int32) (hh : Int64) (zf hf : Nat → Int32) (n9 : Nat) (f9 cu : Nat) (y9 z9 : Int32) (mb : b ∈ L) (fb : F b = mO ma mi hh) (hm0 : mi 0 = nI n9) (hn6 : n9 ≤ 6) (hma : ∀ i, i < 7 → ma i ∈ L) (fz : F (ma 0) = .inl (G.2 0, 89, .inl zf)) (fh : F (ma 1) = .inl (G.2 0, 534, .inl hf)) (hz0 : zf 0 = nI cu) (h8 : inR (nI f9) 0 5) (h9 : ¬ inR y9 2 cu) : CI l yX6_setFlow cX6_setFlow 4 (some .int) rm_X6_setFlow G L F [.ref b, .int (nI (f9)), .int (y9), .int (z9)] (fun r F1 => r = nI 0 ∧ F1 b = mO ma (va_up mi 2 (nI 1)) hh ∧ ∀ q, q ≠ b → F1 q = F q) := by
  refine CG_of (by decide) (Nat.le_of_ble_eq_true rfl) rfl ?_
  intro p e s m args below meth c Q C0 hr hlk hnm hQ hw ls hl
  have hx := C0.x
  have hb := C0.b
  refine lv_aload_n hx hb dX6_setFlow_0 rfl (lv_at hl 0 rfl) ?_
  refine lv_iload_n hx hb dX6_setFlow_1 rfl (lv_at hl 1 rfl) ?_
  refine q_calli hw (q_runS (As := [.int (nI (f9))]) (c_X6_isSlot l G L F (nI (f9))) C0 hw sw_X6_42 rfl hl.1 rfl (Nat.le_of_ble_eq_true rfl) dX6_setFlow_2 ⟨by decide, by decide⟩ ⟨by decide, by decide⟩) rfl rfl (fun r_5131 F_5129 H locs hw hp_5130 => ?_)
  obtain ⟨he_5132, o_5133⟩ := hp_5130
  rw [if_pos h8] at he_5132
  subst he_5132
  refine n_if_eq (tgt := 20) hx hb dX6_setFlow_5 (by decide) (by decide) (fun c_5 => ?_) (fun c_5 => ?_)
  · skip
    exact absurd c_5 (by omega)
  · skip
    refine lv_aload_n hx hb dX6_setFlow_8 rfl (lv_at hl 0 rfl) ?_
    refine lv_iload_n hx hb dX6_setFlow_9 rfl (lv_at hl 2 rfl) ?_
    have f_5134 : F_5129 (ma 0) = .inl (G.2 0, 89, .inl zf) := (o_5133 (ma 0) ).trans fz
    have f_5135 : F_5129 b = mO ma mi hh := (o_5133 b ).trans fb
    refine q_calli hw (q_runV (As := [.int (y9)]) (c_X6_isPower l G L F_5129 b ma mi hh zf (y9) cu mb f_5135 hma f_5134 hz0) C0 hw vw_X6_93 mb f_5135 rfl rfl rfl hl.1 rfl (Nat.le_of_ble_eq_true rfl) dX6_setFlow_10 ⟨by decide, by decide⟩ ⟨by decide, by decide⟩) rfl rfl (fun r_5138 F_5136 H locs hw hp_5137 => ?_)
    obtain ⟨he_5139, o_5140⟩ := hp_5137
    rw [if_neg h9] at he_5139
    subst he_5139
    refine n_if_eq (tgt := 20) hx hb dX6_setFlow_13 (by decide) (by decide) (fun c_13 => ?_) (fun c_13 => ?_)
    · skip
      refine lv_iconst (v := nI 1) hx hb dX6_setFlow_20 (by decide) ?_
      have f_5141 : F_5136 b = mO ma mi hh := (o_5140 b ).trans f_5135
      refine q_put C0 hw mb f_5141 fw_X6_31 pw_X6_8 rfl rfl rfl (Nat.le_of_ble_eq_true rfl) dX6_setFlow_21 (fun F_5142 H locs hw f_5143 o_5144 => ?_)
      have f_5143 : F_5142 b = .inr (6, [.ref (ma 0), .int (mi 0), .ref (ma 1), .ref (ma 2), .ref (ma 3), .ref (ma 4), .int (mi 1), .ref (ma 5), .int (nI (1)), .ref (ma 6), .int (mi 3), .int (mi 4), .long (hh)]) := f_5143
      refine lv_aload_n hx hb dX6_setFlow_24 rfl (lv_at hl 0 rfl) ?_
      refine q_get C0 hw mb f_5143 fw_X6_31 rfl dX6_setFlow_25 ?_
      refine n_if_le (tgt := 35) hx hb dX6_setFlow_28 (by decide) (by decide) (fun c_28 => ?_) (fun c_28 => ?_)
      · skip
        exact absurd c_28 (by omega)
      · skip
        refine lv_iconst (v := nI 0) hx hb dX6_setFlow_31 (by decide) ?_
        refine lv_goto (tgt := 49) hx hb dX6_setFlow_32 (by decide) ?_
        exact r_i C0 hr hlk hw (v := nI 0) rfl ⟨rfl, f_5143, (fun q k0 => ((o_5144 q k0).trans ((o_5140 q ).trans (o_5133 q ))))⟩ (Nat.le_refl _) (Nat.le_refl _) dX6_setFlow_49 hQ
    · skip
      exact absurd c_13 (by omega)
set_option maxHeartbeats 4000000 in
set_option maxRecDepth 100000 in
theorem c_X6_setFlow (l : Launch) (G : Gl) (L : List Nat) (F : Nat → va_E) (b : Nat) (ma : Nat → Nat) (mi : Nat → Int32) (hh : Int64) (zf hf : Nat → Int32) (n9 : Nat) (f9 p9 cu : Nat) (z9 : Int32) (mb : b ∈ L) (fb : F b = mO ma mi hh) (hm0 : mi 0 = nI n9) (hn6 : n9 ≤ 6) (hma : ∀ i, i < 7 → ma i ∈ L) (fz : F (ma 0) = .inl (G.2 0, 89, .inl zf)) (fh : F (ma 1) = .inl (G.2 0, 534, .inl hf)) (hz0 : zf 0 = nI cu) (hf9 : f9 < 6) (hp9 : p9 ≤ 6) (h8 : inR (nI f9) 0 5) (h9 : inR (nI p9) 2 cu) : CI l yX6_setFlow cX6_setFlow 4 (some .int) rm_X6_setFlow G L F [.ref b, .int (nI (f9)), .int (nI (p9)), .int (z9)] (fun r F1 => r = zf (47 + 7 * f9 + p9) ∧ F1 b = mO ma (va_up (va_up mi 2 (nI 0)) 0 (nI (svM n9 hf zf).1)) hh ∧ F1 (ma 1) = .inl (G.2 0, 534, .inl (svM n9 hf zf).2) ∧ F1 (ma 0) = .inl (G.2 0, 89, .inl (upd zf (47 + 7 * f9 + p9) (nI (zi z9).val))) ∧ ∀ q, q ≠ b → q ≠ ma 1 → q ≠ ma 0 → F1 q = F q) := by
  refine CG_of (by decide) (Nat.le_of_ble_eq_true rfl) rfl ?_
  intro p e s m args below meth c Q C0 hr hlk hnm hQ hw ls hl
  have hx := C0.x
  have hb := C0.b
  refine lv_aload_n hx hb dX6_setFlow_0 rfl (lv_at hl 0 rfl) ?_
  refine lv_iload_n hx hb dX6_setFlow_1 rfl (lv_at hl 1 rfl) ?_
  refine q_calli hw (q_runS (As := [.int (nI (f9))]) (c_X6_isSlot l G L F (nI (f9))) C0 hw sw_X6_42 rfl hl.1 rfl (Nat.le_of_ble_eq_true rfl) dX6_setFlow_2 ⟨by decide, by decide⟩ ⟨by decide, by decide⟩) rfl rfl (fun r_5147 F_5145 H locs hw hp_5146 => ?_)
  obtain ⟨he_5148, o_5149⟩ := hp_5146
  rw [if_pos h8] at he_5148
  subst he_5148
  refine n_if_eq (tgt := 20) hx hb dX6_setFlow_5 (by decide) (by decide) (fun c_5 => ?_) (fun c_5 => ?_)
  · skip
    exact absurd c_5 (by omega)
  · skip
    refine lv_aload_n hx hb dX6_setFlow_8 rfl (lv_at hl 0 rfl) ?_
    refine lv_iload_n hx hb dX6_setFlow_9 rfl (lv_at hl 2 rfl) ?_
    have f_5150 : F_5145 (ma 0) = .inl (G.2 0, 89, .inl zf) := (o_5149 (ma 0) ).trans fz
    have f_5151 : F_5145 b = mO ma mi hh := (o_5149 b ).trans fb
    refine q_calli hw (q_runV (As := [.int (nI (p9))]) (c_X6_isPower l G L F_5145 b ma mi hh zf (nI (p9)) cu mb f_5151 hma f_5150 hz0) C0 hw vw_X6_93 mb f_5151 rfl rfl rfl hl.1 rfl (Nat.le_of_ble_eq_true rfl) dX6_setFlow_10 ⟨by decide, by decide⟩ ⟨by decide, by decide⟩) rfl rfl (fun r_5154 F_5152 H locs hw hp_5153 => ?_)
    obtain ⟨he_5155, o_5156⟩ := hp_5153
    rw [if_pos h9] at he_5155
    subst he_5155
    refine n_if_eq (tgt := 20) hx hb dX6_setFlow_13 (by decide) (by decide) (fun c_13 => ?_) (fun c_13 => ?_)
    · skip
      exact absurd c_13 (by omega)
    · skip
      refine lv_iconst (v := nI 0) hx hb dX6_setFlow_16 (by decide) ?_
      refine lv_goto (tgt := 21) hx hb dX6_setFlow_17 (by decide) ?_
      have f_5157 : F_5152 b = mO ma mi hh := (o_5156 b ).trans f_5151
      refine q_put C0 hw mb f_5157 fw_X6_31 pw_X6_8 rfl rfl rfl (Nat.le_of_ble_eq_true rfl) dX6_setFlow_21 (fun F_5158 H locs hw f_5159 o_5160 => ?_)
      have f_5159 : F_5158 b = .inr (6, [.ref (ma 0), .int (mi 0), .ref (ma 1), .ref (ma 2), .ref (ma 3), .ref (ma 4), .int (mi 1), .ref (ma 5), .int (nI (0)), .ref (ma 6), .int (mi 3), .int (mi 4), .long (hh)]) := f_5159
      refine lv_aload_n hx hb dX6_setFlow_24 rfl (lv_at hl 0 rfl) ?_
      refine q_get C0 hw mb f_5159 fw_X6_31 rfl dX6_setFlow_25 ?_
      refine n_if_le (tgt := 35) hx hb dX6_setFlow_28 (by decide) (by decide) (fun c_28 => ?_) (fun c_28 => ?_)
      · skip
        refine lv_aload_n hx hb dX6_setFlow_35 rfl (lv_at hl 0 rfl) ?_
        refine lv_bipush (v := nI 47) hx hb dX6_setFlow_36 (by decide) ?_
        refine lv_bipush (v := nI 7) hx hb dX6_setFlow_38 (by decide) ?_
        refine lv_iload_n hx hb dX6_setFlow_40 rfl (lv_at hl 1 rfl) ?_
        refine n_imul hx hb dX6_setFlow_41 ?_
        refine n_iadd hx hb dX6_setFlow_42 ?_
        refine lv_iload_n hx hb dX6_setFlow_43 rfl (lv_at hl 2 rfl) ?_
        refine n_iadd hx hb dX6_setFlow_44 ?_
        refine lv_iload_n hx hb dX6_setFlow_45 rfl (lv_at hl 3 rfl) ?_
        have hb_5161 : F_5158 b = mO ma (va_up mi 2 (nI 0)) hh := f_5159
        have f_5162 : F_5152 (ma 0) = .inl (G.2 0, 89, .inl zf) := (o_5156 (ma 0) ).trans f_5150
        have f_5163 : F_5158 (ma 0) = .inl (G.2 0, 89, .inl zf) := (o_5160 (ma 0) (ne_ao f_5162 f_5157)).trans f_5162
        have f_5164 : F_5145 (ma 1) = .inl (G.2 0, 534, .inl hf) := (o_5149 (ma 1) ).trans fh
        have f_5165 : F_5152 (ma 1) = .inl (G.2 0, 534, .inl hf) := (o_5156 (ma 1) ).trans f_5164
        have f_5166 : F_5158 (ma 1) = .inl (G.2 0, 534, .inl hf) := (o_5160 (ma 1) (ne_ao f_5165 f_5157)).trans f_5165
        refine q_calli hw (q_runV (As := [.int (nI (47 + (7 * f9) + p9)), .int (z9)]) (c_X6_setsCoefficient l G L F_5158 b ma (va_up mi 2 (nI 0)) hh zf hf n9 (47 + (7 * f9) + p9) (z9) mb hb_5161 hm0 hn6 hma f_5163 f_5166 (by omega)) C0 hw vw_X6_96 mb hb_5161 rfl rfl rfl hl.1 rfl (Nat.le_of_ble_eq_true rfl) dX6_setFlow_46 ⟨by decide, by decide⟩ ⟨by decide, by decide⟩) rfl rfl (fun r_5169 F_5167 H locs hw hp_5168 => ?_)
        obtain ⟨f_5170, f_5171, f_5172, f_5173, f_5174⟩ := hp_5168
        subst f_5170
        exact r_i C0 hr hlk hw (v := (zf (47 + (7 * f9) + p9))) rfl ⟨rfl, f_5171, f_5172, f_5173, (fun q k0 k1 k2 => ((f_5174 q k0 k1 k2).trans ((o_5160 q k0).trans ((o_5156 q ).trans (o_5149 q )))))⟩ (Nat.le_refl _) (Nat.le_refl _) dX6_setFlow_49 hQ
      · skip
        exact absurd c_28 (by omega)
