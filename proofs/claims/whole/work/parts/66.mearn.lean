abbrev rm_X6_earn : Room := { frames := 1, cells := 0, slots := 0, locals := 22 }
set_option maxHeartbeats 4000000 in
set_option maxRecDepth 100000 in
theorem c_X6_earn_x1 (l : Launch) (G : Gl) (L : List Nat) (F : Nat → va_E) (b : Nat) (ma : Nat → Nat) (mi : Nat → Int32) (hh : Int64) (zf hf : Nat → Int32) (n9 : Nat) (x9 : Int32) (mb : b ∈ L) (fb : F b = mO ma mi hh) (hm0 : mi 0 = nI n9) (hn6 : n9 ≤ 6) (hma : ∀ i, i < 7 → ma i ∈ L) (fz : F (ma 0) = .inl (G.2 0, 89, .inl zf)) (fh : F (ma 1) = .inl (G.2 0, 534, .inl hf)) (h9 : ¬ inR x9 1 1000) : CI l yX6_earn cX6_earn 2 (some .int) rm_X6_earn G L F [.ref b, .int (x9)] (fun r F1 => r = nI 0 ∧ F1 b = mO ma (va_up mi 2 (nI 1)) hh ∧ ∀ q, q ≠ b → F1 q = F q) := by
  refine CG_of (by decide) (Nat.le_of_ble_eq_true rfl) rfl ?_
  intro p e s m args below meth c Q C0 hr hlk hnm hQ hw ls hl
  have hx := C0.x
  have hb := C0.b
  refine lv_aload_n hx hb dX6_earn_0 rfl (lv_at hl 0 rfl) ?_
  refine lv_iload_n hx hb dX6_earn_1 rfl (lv_at hl 1 rfl) ?_
  refine lv_iconst (v := nI 1) hx hb dX6_earn_2 (by decide) ?_
  refine lv_sipush (v := nI 1000) hx hb dX6_earn_3 (by decide) ?_
  refine q_calli hw (q_runS (As := [.int (x9), .int (nI (1)), .int (nI (1000))]) (c_X6_within l G L F x9 1 1000) C0 hw sw_X6_38 rfl hl.1 rfl (Nat.le_of_ble_eq_true rfl) dX6_earn_6 ⟨by decide, by decide⟩ ⟨by decide, by decide⟩) rfl rfl (fun r_5177 F_5175 H locs hw hp_5176 => ?_)
  obtain ⟨he_5178, o_5179⟩ := hp_5176
  rw [if_neg h9] at he_5178
  subst he_5178
  refine n_if_ne (tgt := 16) hx hb dX6_earn_9 (by decide) (by decide) (fun c_9 => ?_) (fun c_9 => ?_)
  · skip
    exact absurd c_9 (by omega)
  · skip
    refine lv_iconst (v := nI 1) hx hb dX6_earn_12 (by decide) ?_
    refine lv_goto (tgt := 34) hx hb dX6_earn_13 (by decide) ?_
    have f_5180 : F_5175 b = mO ma mi hh := (o_5179 b ).trans fb
    refine q_put C0 hw mb f_5180 fw_X6_31 pw_X6_8 rfl rfl rfl (Nat.le_of_ble_eq_true rfl) dX6_earn_34 (fun F_5181 H locs hw f_5182 o_5183 => ?_)
    have f_5182 : F_5181 b = .inr (6, [.ref (ma 0), .int (mi 0), .ref (ma 1), .ref (ma 2), .ref (ma 3), .ref (ma 4), .int (mi 1), .ref (ma 5), .int (nI (1)), .ref (ma 6), .int (mi 3), .int (mi 4), .long (hh)]) := f_5182
    refine lv_aload_n hx hb dX6_earn_37 rfl (lv_at hl 0 rfl) ?_
    refine q_get C0 hw mb f_5182 fw_X6_31 rfl dX6_earn_38 ?_
    refine n_if_le (tgt := 46) hx hb dX6_earn_41 (by decide) (by decide) (fun c_41 => ?_) (fun c_41 => ?_)
    · skip
      exact absurd c_41 (by omega)
    · skip
      refine lv_iconst (v := nI 0) hx hb dX6_earn_44 (by decide) ?_
      exact r_i C0 hr hlk hw (v := nI 0) rfl ⟨rfl, f_5182, (fun q k0 => ((o_5183 q k0).trans (o_5179 q )))⟩ (Nat.le_refl _) (Nat.le_refl _) dX6_earn_45 hQ
set_option maxHeartbeats 4000000 in
set_option maxRecDepth 100000 in
theorem c_X6_earn_x2 (l : Launch) (G : Gl) (L : List Nat) (F : Nat → va_E) (b : Nat) (ma : Nat → Nat) (mi : Nat → Int32) (hh : Int64) (zf hf : Nat → Int32) (n9 : Nat) (m9 cu pu : Nat) (mb : b ∈ L) (fb : F b = mO ma mi hh) (hm0 : mi 0 = nI n9) (hn6 : n9 ≤ 6) (hma : ∀ i, i < 7 → ma i ∈ L) (fz : F (ma 0) = .inl (G.2 0, 89, .inl zf)) (fh : F (ma 1) = .inl (G.2 0, 534, .inl hf)) (hz1 : zf 1 = nI pu) (hpu : pu ≤ 100000) (hm9 : m9 ≤ 1000) (h9 : inR (nI m9) 1 1000) (hmore : 100000 < pu + m9) : CI l yX6_earn cX6_earn 2 (some .int) rm_X6_earn G L F [.ref b, .int (nI (m9))] (fun r F1 => r = nI 0 ∧ F1 b = mO ma (va_up mi 2 (nI 2)) hh ∧ ∀ q, q ≠ b → F1 q = F q) := by
  refine CG_of (by decide) (Nat.le_of_ble_eq_true rfl) rfl ?_
  intro p e s m args below meth c Q C0 hr hlk hnm hQ hw ls hl
  have hx := C0.x
  have hb := C0.b
  refine lv_aload_n hx hb dX6_earn_0 rfl (lv_at hl 0 rfl) ?_
  refine lv_iload_n hx hb dX6_earn_1 rfl (lv_at hl 1 rfl) ?_
  refine lv_iconst (v := nI 1) hx hb dX6_earn_2 (by decide) ?_
  refine lv_sipush (v := nI 1000) hx hb dX6_earn_3 (by decide) ?_
  refine q_calli hw (q_runS (As := [.int (nI (m9)), .int (nI (1)), .int (nI (1000))]) (c_X6_within l G L F (nI (m9)) 1 1000) C0 hw sw_X6_38 rfl hl.1 rfl (Nat.le_of_ble_eq_true rfl) dX6_earn_6 ⟨by decide, by decide⟩ ⟨by decide, by decide⟩) rfl rfl (fun r_5186 F_5184 H locs hw hp_5185 => ?_)
  obtain ⟨he_5187, o_5188⟩ := hp_5185
  rw [if_pos h9] at he_5187
  subst he_5187
  refine n_if_ne (tgt := 16) hx hb dX6_earn_9 (by decide) (by decide) (fun c_9 => ?_) (fun c_9 => ?_)
  · skip
    refine lv_aload_n hx hb dX6_earn_16 rfl (lv_at hl 0 rfl) ?_
    have f_5189 : F_5184 b = mO ma mi hh := (o_5188 b ).trans fb
    refine q_get C0 hw mb f_5189 fw_X6_7 rfl dX6_earn_17 ?_
    refine lv_iconst (v := nI 1) hx hb dX6_earn_20 (by decide) ?_
    have f_5190 : F_5184 (ma 0) = .inl (G.2 0, 89, .inl zf) := (o_5188 (ma 0) ).trans fz
    refine q_iald C0 hw ((hma 0 (by decide))) f_5190 (1) (by omega) (by decide) (v := nI (pu)) hz1 dX6_earn_21 ?_
    refine lv_iload_n hx hb dX6_earn_22 rfl (lv_at hl 1 rfl) ?_
    refine n_iadd hx hb dX6_earn_23 ?_
    refine lv_ldc (v := nI (100000)) hx hb C0.ow (C0.ts _ kw_X6_99) dX6_earn_24 ?_
    refine n_icmp_le (tgt := 33) hx hb dX6_earn_26 (by decide) (by omega) (by decide) (fun c_26 => ?_) (fun c_26 => ?_)
    · skip
      exact absurd c_26 (by omega)
    · skip
      refine lv_iconst (v := nI 2) hx hb dX6_earn_29 (by decide) ?_
      refine lv_goto (tgt := 34) hx hb dX6_earn_30 (by decide) ?_
      refine q_put C0 hw mb f_5189 fw_X6_31 pw_X6_8 rfl rfl rfl (Nat.le_of_ble_eq_true rfl) dX6_earn_34 (fun F_5191 H locs hw f_5192 o_5193 => ?_)
      have f_5192 : F_5191 b = .inr (6, [.ref (ma 0), .int (mi 0), .ref (ma 1), .ref (ma 2), .ref (ma 3), .ref (ma 4), .int (mi 1), .ref (ma 5), .int (nI (2)), .ref (ma 6), .int (mi 3), .int (mi 4), .long (hh)]) := f_5192
      refine lv_aload_n hx hb dX6_earn_37 rfl (lv_at hl 0 rfl) ?_
      refine q_get C0 hw mb f_5192 fw_X6_31 rfl dX6_earn_38 ?_
      refine n_if_le (tgt := 46) hx hb dX6_earn_41 (by decide) (by decide) (fun c_41 => ?_) (fun c_41 => ?_)
      · skip
        exact absurd c_41 (by omega)
      · skip
        refine lv_iconst (v := nI 0) hx hb dX6_earn_44 (by decide) ?_
        exact r_i C0 hr hlk hw (v := nI 0) rfl ⟨rfl, f_5192, (fun q k0 => ((o_5193 q k0).trans (o_5188 q )))⟩ (Nat.le_refl _) (Nat.le_refl _) dX6_earn_45 hQ
  · skip
    exact absurd c_9 (by omega)
set_option maxHeartbeats 4000000 in
set_option maxRecDepth 100000 in
theorem c_X6_earn (l : Launch) (G : Gl) (L : List Nat) (F : Nat → va_E) (b : Nat) (ma : Nat → Nat) (mi : Nat → Int32) (hh : Int64) (zf hf : Nat → Int32) (n9 : Nat) (m9 cu pu : Nat) (mb : b ∈ L) (fb : F b = mO ma mi hh) (hm0 : mi 0 = nI n9) (hn6 : n9 ≤ 6) (hma : ∀ i, i < 7 → ma i ∈ L) (fz : F (ma 0) = .inl (G.2 0, 89, .inl zf)) (fh : F (ma 1) = .inl (G.2 0, 534, .inl hf)) (hz1 : zf 1 = nI pu) (hpu : pu ≤ 100000) (hm9 : m9 ≤ 1000) (h9 : inR (nI m9) 1 1000) (hmore : pu + m9 ≤ 100000) : CI l yX6_earn cX6_earn 2 (some .int) rm_X6_earn G L F [.ref b, .int (nI (m9))] (fun r F1 => r = nI (pu + m9) ∧ F1 b = mO ma (va_up (va_up mi 2 (nI 0)) 0 (nI (svM n9 hf zf).1)) hh ∧ F1 (ma 1) = .inl (G.2 0, 534, .inl (svM n9 hf zf).2) ∧ F1 (ma 0) = .inl (G.2 0, 89, .inl (upd zf 1 (nI (pu + m9)))) ∧ ∀ q, q ≠ b → q ≠ ma 1 → q ≠ ma 0 → F1 q = F q) := by
  refine CG_of (by decide) (Nat.le_of_ble_eq_true rfl) rfl ?_
  intro p e s m args below meth c Q C0 hr hlk hnm hQ hw ls hl
  have hx := C0.x
  have hb := C0.b
  refine lv_aload_n hx hb dX6_earn_0 rfl (lv_at hl 0 rfl) ?_
  refine lv_iload_n hx hb dX6_earn_1 rfl (lv_at hl 1 rfl) ?_
  refine lv_iconst (v := nI 1) hx hb dX6_earn_2 (by decide) ?_
  refine lv_sipush (v := nI 1000) hx hb dX6_earn_3 (by decide) ?_
  refine q_calli hw (q_runS (As := [.int (nI (m9)), .int (nI (1)), .int (nI (1000))]) (c_X6_within l G L F (nI (m9)) 1 1000) C0 hw sw_X6_38 rfl hl.1 rfl (Nat.le_of_ble_eq_true rfl) dX6_earn_6 ⟨by decide, by decide⟩ ⟨by decide, by decide⟩) rfl rfl (fun r_5196 F_5194 H locs hw hp_5195 => ?_)
  obtain ⟨he_5197, o_5198⟩ := hp_5195
  rw [if_pos h9] at he_5197
  subst he_5197
  refine n_if_ne (tgt := 16) hx hb dX6_earn_9 (by decide) (by decide) (fun c_9 => ?_) (fun c_9 => ?_)
  · skip
    refine lv_aload_n hx hb dX6_earn_16 rfl (lv_at hl 0 rfl) ?_
    have f_5199 : F_5194 b = mO ma mi hh := (o_5198 b ).trans fb
    refine q_get C0 hw mb f_5199 fw_X6_7 rfl dX6_earn_17 ?_
    refine lv_iconst (v := nI 1) hx hb dX6_earn_20 (by decide) ?_
    have f_5200 : F_5194 (ma 0) = .inl (G.2 0, 89, .inl zf) := (o_5198 (ma 0) ).trans fz
    refine q_iald C0 hw ((hma 0 (by decide))) f_5200 (1) (by omega) (by decide) (v := nI (pu)) hz1 dX6_earn_21 ?_
    refine lv_iload_n hx hb dX6_earn_22 rfl (lv_at hl 1 rfl) ?_
    refine n_iadd hx hb dX6_earn_23 ?_
    refine lv_ldc (v := nI (100000)) hx hb C0.ow (C0.ts _ kw_X6_99) dX6_earn_24 ?_
    refine n_icmp_le (tgt := 33) hx hb dX6_earn_26 (by decide) (by omega) (by decide) (fun c_26 => ?_) (fun c_26 => ?_)
    · skip
      refine lv_iconst (v := nI 0) hx hb dX6_earn_33 (by decide) ?_
      refine q_put C0 hw mb f_5199 fw_X6_31 pw_X6_8 rfl rfl rfl (Nat.le_of_ble_eq_true rfl) dX6_earn_34 (fun F_5201 H locs hw f_5202 o_5203 => ?_)
      have f_5202 : F_5201 b = .inr (6, [.ref (ma 0), .int (mi 0), .ref (ma 1), .ref (ma 2), .ref (ma 3), .ref (ma 4), .int (mi 1), .ref (ma 5), .int (nI (0)), .ref (ma 6), .int (mi 3), .int (mi 4), .long (hh)]) := f_5202
      refine lv_aload_n hx hb dX6_earn_37 rfl (lv_at hl 0 rfl) ?_
      refine q_get C0 hw mb f_5202 fw_X6_31 rfl dX6_earn_38 ?_
      refine n_if_le (tgt := 46) hx hb dX6_earn_41 (by decide) (by decide) (fun c_41 => ?_) (fun c_41 => ?_)
      · skip
        refine lv_aload_n hx hb dX6_earn_46 rfl (lv_at hl 0 rfl) ?_
        have hb_5204 : F_5201 b = mO ma (va_up mi 2 (nI 0)) hh := f_5202
        have f_5205 : F_5201 (ma 0) = .inl (G.2 0, 89, .inl zf) := (o_5203 (ma 0) (ne_ao f_5200 f_5199)).trans f_5200
        have f_5206 : F_5194 (ma 1) = .inl (G.2 0, 534, .inl hf) := (o_5198 (ma 1) ).trans fh
        have f_5207 : F_5201 (ma 1) = .inl (G.2 0, 534, .inl hf) := (o_5203 (ma 1) (ne_ao f_5206 f_5199)).trans f_5206
        refine q_callv hw (q_runV (As := []) (c_X6_save l G L F_5201 b ma (va_up mi 2 (nI 0)) hh zf hf n9 mb hb_5204 hm0 hn6 hma f_5205 f_5207) C0 hw vw_X6_87 mb hb_5204 rfl rfl rfl hl.1 rfl (Nat.le_of_ble_eq_true rfl) dX6_earn_47 ⟨by decide, by decide⟩ ⟨by decide, by decide⟩) rfl rfl (fun F_5208 H locs hw hp_5209 => ?_)
        obtain ⟨f_5210, f_5211, o_5212⟩ := hp_5209
        refine lv_aload_n hx hb dX6_earn_50 rfl (lv_at hl 0 rfl) ?_
        refine q_get C0 hw mb f_5210 fw_X6_7 rfl dX6_earn_51 ?_
        refine lv_iconst (v := nI 1) hx hb dX6_earn_54 (by decide) ?_
        refine lv_dup2_11 hx hb dX6_earn_55 rfl rfl ?_
        have f_5213 : F_5208 (ma 0) = .inl (G.2 0, 89, .inl zf) := (o_5212 (ma 0) (ne_ao f_5205 hb_5204) (ne_aa (by decide) f_5205 f_5207)).trans f_5205
        refine q_iald C0 hw ((hma 0 (by decide))) f_5213 (1) (by omega) (by decide) (v := nI (pu)) hz1 dX6_earn_56 ?_
        refine lv_iload_n hx hb dX6_earn_57 rfl (lv_at hl 1 rfl) ?_
        refine n_iadd hx hb dX6_earn_58 ?_
        refine q_iast C0 hw ((hma 0 (by decide))) f_5213 (1) (by omega) (by decide) dX6_earn_59 (fun F_5214 H locs hw f_5215 o_5216 => ?_)
        refine lv_aload_n hx hb dX6_earn_60 rfl (lv_at hl 0 rfl) ?_
        have f_5217 : F_5214 b = mO ma ((va_up (va_up mi 2 (nI 0)) 0 (nI (svM n9 hf zf).1))) hh := (o_5216 b (ne_oa f_5210 f_5213)).trans f_5210
        refine q_get C0 hw mb f_5217 fw_X6_7 rfl dX6_earn_61 ?_
        refine lv_iconst (v := nI 1) hx hb dX6_earn_64 (by decide) ?_
        refine q_iald C0 hw ((hma 0 (by decide))) f_5215 (1) (by omega) (by decide) (v := nI (pu + m9)) rfl dX6_earn_65 ?_
        have f_5218 : F_5214 (ma 1) = .inl (G.2 0, 534, .inl ((svM n9 hf zf).2)) := (o_5216 (ma 1) (ne_aa (by decide) f_5211 f_5213)).trans f_5211
        exact r_i C0 hr hlk hw (v := nI (pu + m9)) rfl ⟨rfl, f_5217, f_5218, f_5215, (fun q k0 k1 k2 => ((o_5216 q k2).trans ((o_5212 q k0 k1).trans ((o_5203 q k0).trans (o_5198 q )))))⟩ (Nat.le_refl _) (Nat.le_refl _) dX6_earn_66 hQ
      · skip
        exact absurd c_41 (by omega)
    · skip
      exact absurd c_26 (by omega)
  · skip
    exact absurd c_9 (by omega)
