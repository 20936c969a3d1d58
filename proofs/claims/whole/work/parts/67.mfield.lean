abbrev rm_X6_isSeen : Room := { frames := 2, cells := 0, slots := 0, locals := 42 }
set_option maxHeartbeats 4000000 in
set_option maxRecDepth 100000 in
theorem c_X6_isSeen (l : Launch) (G : Gl) (L : List Nat) (F : Nat → va_E) (x9 y9 : Int32) : CI l yX6_isSeen cX6_isSeen 2 (some .boolean) rm_X6_isSeen G L F [.int (x9), .int (y9)] (fun r F1 => r = (if inR x9 0 5 ∧ inR y9 0 6 then nI 1 else nI 0) ∧ ∀ q, F1 q = F q) := by
  refine CG_of (by decide) (Nat.le_of_ble_eq_true rfl) rfl ?_
  intro p e s m args below meth c Q C0 hr hlk hnm hQ hw ls hl
  have hx := C0.x
  have hb := C0.b
  refine lv_iload_n hx hb dX6_isSeen_0 rfl (lv_at hl 0 rfl) ?_
  refine q_calli hw (q_runS (As := [.int (x9)]) (c_X6_isSlot l G L F x9) C0 hw sw_X6_42 rfl hl.1 rfl (Nat.le_of_ble_eq_true rfl) dX6_isSeen_1 ⟨by decide, by decide⟩ ⟨by decide, by decide⟩) rfl rfl (fun r_5221 F_5219 H locs hw hp_5220 => ?_)
  obtain ⟨he_5222, o_5223⟩ := hp_5220
  by_cases hb_5224 : inR x9 0 5
  · skip
    rw [if_pos hb_5224] at he_5222
    subst he_5222
    refine n_if_eq (tgt := 21) hx hb dX6_isSeen_4 (by decide) (by decide) (fun c_4 => ?_) (fun c_4 => ?_)
    · skip
      exact absurd c_4 (by omega)
    · skip
      refine lv_iload_n hx hb dX6_isSeen_7 rfl (lv_at hl 1 rfl) ?_
      refine lv_iconst (v := nI 0) hx hb dX6_isSeen_8 (by decide) ?_
      refine lv_bipush (v := nI 6) hx hb dX6_isSeen_9 (by decide) ?_
      refine q_calli hw (q_runS (As := [.int (y9), .int (nI (0)), .int (nI (6))]) (c_X6_within l G L F_5219 y9 0 6) C0 hw sw_X6_38 rfl hl.1 rfl (Nat.le_of_ble_eq_true rfl) dX6_isSeen_11 ⟨by decide, by decide⟩ ⟨by decide, by decide⟩) rfl rfl (fun r_5227 F_5225 H locs hw hp_5226 => ?_)
      obtain ⟨he_5228, o_5229⟩ := hp_5226
      by_cases hb_5230 : inR y9 0 6
      · skip
        rw [if_pos hb_5230] at he_5228
        subst he_5228
        refine n_if_eq (tgt := 21) hx hb dX6_isSeen_14 (by decide) (by decide) (fun c_14 => ?_) (fun c_14 => ?_)
        · skip
          exact absurd c_14 (by omega)
        · skip
          refine lv_iconst (v := nI 1) hx hb dX6_isSeen_17 (by decide) ?_
          refine lv_goto (tgt := 22) hx hb dX6_isSeen_18 (by decide) ?_
          exact r_i C0 hr hlk hw (v := nI 1) rfl ⟨bool_t ⟨hb_5224, hb_5230⟩, (fun q  => ((o_5229 q ).trans (o_5223 q )))⟩ (Nat.le_refl _) (Nat.le_refl _) dX6_isSeen_22 hQ
      · skip
        rw [if_neg hb_5230] at he_5228
        subst he_5228
        refine n_if_eq (tgt := 21) hx hb dX6_isSeen_14 (by decide) (by decide) (fun c_14 => ?_) (fun c_14 => ?_)
        · skip
          refine lv_iconst (v := nI 0) hx hb dX6_isSeen_21 (by decide) ?_
          exact r_i C0 hr hlk hw (v := nI 0) rfl ⟨bool_f (fun h9 => hb_5230 h9.2), (fun q  => ((o_5229 q ).trans (o_5223 q )))⟩ (Nat.le_refl _) (Nat.le_refl _) dX6_isSeen_22 hQ
        · skip
          exact absurd c_14 (by omega)
  · skip
    rw [if_neg hb_5224] at he_5222
    subst he_5222
    refine n_if_eq (tgt := 21) hx hb dX6_isSeen_4 (by decide) (by decide) (fun c_4 => ?_) (fun c_4 => ?_)
    · skip
      refine lv_iconst (v := nI 0) hx hb dX6_isSeen_21 (by decide) ?_
      exact r_i C0 hr hlk hw (v := nI 0) rfl ⟨bool_f (fun h9 => hb_5224 h9.1), (fun q  => (o_5223 q ))⟩ (Nat.le_refl _) (Nat.le_refl _) dX6_isSeen_22 hQ
    · skip
      exact absurd c_4 (by omega)
abbrev rm_X6_field : Room := { frames := 3, cells := 0, slots := 0, locals := 63 }
set_option maxHeartbeats 4000000 in
set_option maxRecDepth 100000 in
theorem c_X6_field_x (l : Launch) (G : Gl) (L : List Nat) (F : Nat → va_E) (b : Nat) (ma : Nat → Nat) (mi : Nat → Int32) (hh : Int64) (zf hf : Nat → Int32) (n9 : Nat) (x9 y9 : Int32) (mb : b ∈ L) (fb : F b = mO ma mi hh) (hm0 : mi 0 = nI n9) (hn6 : n9 ≤ 6) (hma : ∀ i, i < 7 → ma i ∈ L) (fz : F (ma 0) = .inl (G.2 0, 89, .inl zf)) (fh : F (ma 1) = .inl (G.2 0, 534, .inl hf)) (h9 : ¬ (inR x9 0 5 ∧ inR y9 0 6)) : CI l yX6_field cX6_field 3 (some .int) rm_X6_field G L F [.ref b, .int (x9), .int (y9)] (fun r F1 => r = nI 0 ∧ F1 b = mO ma (va_up mi 2 (nI 1)) hh ∧ ∀ q, q ≠ b → F1 q = F q) := by
  refine CG_of (by decide) (Nat.le_of_ble_eq_true rfl) rfl ?_
  intro p e s m args below meth c Q C0 hr hlk hnm hQ hw ls hl
  have hx := C0.x
  have hb := C0.b
  refine lv_aload_n hx hb dX6_field_0 rfl (lv_at hl 0 rfl) ?_
  refine lv_iload_n hx hb dX6_field_1 rfl (lv_at hl 1 rfl) ?_
  refine lv_iload_n hx hb dX6_field_2 rfl (lv_at hl 2 rfl) ?_
  refine q_calli hw (q_runS (As := [.int (x9), .int (y9)]) (c_X6_isSeen l G L F (x9) (y9)) C0 hw sw_X6_205 rfl hl.1 rfl (Nat.le_of_ble_eq_true rfl) dX6_field_3 ⟨by decide, by decide⟩ ⟨by decide, by decide⟩) rfl rfl (fun r_5233 F_5231 H locs hw hp_5232 => ?_)
  obtain ⟨he_5234, o_5235⟩ := hp_5232
  rw [if_neg h9] at he_5234
  subst he_5234
  refine n_if_eq (tgt := 13) hx hb dX6_field_6 (by decide) (by decide) (fun c_6 => ?_) (fun c_6 => ?_)
  · skip
    refine lv_iconst (v := nI 1) hx hb dX6_field_13 (by decide) ?_
    have f_5236 : F_5231 b = mO ma mi hh := (o_5235 b ).trans fb
    refine q_put C0 hw mb f_5236 fw_X6_31 pw_X6_8 rfl rfl rfl (Nat.le_of_ble_eq_true rfl) dX6_field_14 (fun F_5237 H locs hw f_5238 o_5239 => ?_)
    have f_5238 : F_5237 b = .inr (6, [.ref (ma 0), .int (mi 0), .ref (ma 1), .ref (ma 2), .ref (ma 3), .ref (ma 4), .int (mi 1), .ref (ma 5), .int (nI (1)), .ref (ma 6), .int (mi 3), .int (mi 4), .long (hh)]) := f_5238
    refine lv_aload_n hx hb dX6_field_17 rfl (lv_at hl 0 rfl) ?_
    refine q_get C0 hw mb f_5238 fw_X6_31 rfl dX6_field_18 ?_
    refine n_if_le (tgt := 28) hx hb dX6_field_21 (by decide) (by decide) (fun c_21 => ?_) (fun c_21 => ?_)
    · skip
      exact absurd c_21 (by omega)
    · skip
      refine lv_iconst (v := nI 0) hx hb dX6_field_24 (by decide) ?_
      refine lv_goto (tgt := 39) hx hb dX6_field_25 (by decide) ?_
      exact r_i C0 hr hlk hw (v := nI 0) rfl ⟨rfl, f_5238, (fun q k0 => ((o_5239 q k0).trans (o_5235 q )))⟩ (Nat.le_refl _) (Nat.le_refl _) dX6_field_39 hQ
  · skip
    exact absurd c_6 (by omega)
set_option maxHeartbeats 4000000 in
set_option maxRecDepth 100000 in
theorem c_X6_field (l : Launch) (G : Gl) (L : List Nat) (F : Nat → va_E) (b : Nat) (ma : Nat → Nat) (mi : Nat → Int32) (hh : Int64) (zf hf : Nat → Int32) (n9 : Nat) (f9 p9 : Nat) (mb : b ∈ L) (fb : F b = mO ma mi hh) (hm0 : mi 0 = nI n9) (hn6 : n9 ≤ 6) (hma : ∀ i, i < 7 → ma i ∈ L) (fz : F (ma 0) = .inl (G.2 0, 89, .inl zf)) (fh : F (ma 1) = .inl (G.2 0, 534, .inl hf)) (hf9 : f9 < 6) (hp9 : p9 ≤ 6) (h9 : inR (nI f9) 0 5 ∧ inR (nI p9) 0 6) : CI l yX6_field cX6_field 3 (some .int) rm_X6_field G L F [.ref b, .int (nI (f9)), .int (nI (p9))] (fun r F1 => r = zf (5 + 7 * f9 + p9) ∧ F1 b = mO ma (va_up mi 2 (nI 0)) hh ∧ ∀ q, q ≠ b → F1 q = F q) := by
  refine CG_of (by decide) (Nat.le_of_ble_eq_true rfl) rfl ?_
  intro p e s m args below meth c Q C0 hr hlk hnm hQ hw ls hl
  have hx := C0.x
  have hb := C0.b
  refine lv_aload_n hx hb dX6_field_0 rfl (lv_at hl 0 rfl) ?_
  refine lv_iload_n hx hb dX6_field_1 rfl (lv_at hl 1 rfl) ?_
  refine lv_iload_n hx hb dX6_field_2 rfl (lv_at hl 2 rfl) ?_
  refine q_calli hw (q_runS (As := [.int (nI (f9)), .int (nI (p9))]) (c_X6_isSeen l G L F (nI (f9)) (nI (p9))) C0 hw sw_X6_205 rfl hl.1 rfl (Nat.le_of_ble_eq_true rfl) dX6_field_3 ⟨by decide, by decide⟩ ⟨by decide, by decide⟩) rfl rfl (fun r_5242 F_5240 H locs hw hp_5241 => ?_)
  obtain ⟨he_5243, o_5244⟩ := hp_5241
  rw [if_pos h9] at he_5243
  subst he_5243
  refine n_if_eq (tgt := 13) hx hb dX6_field_6 (by decide) (by decide) (fun c_6 => ?_) (fun c_6 => ?_)
  · skip
    exact absurd c_6 (by omega)
  · skip
    refine lv_iconst (v := nI 0) hx hb dX6_field_9 (by decide) ?_
    refine lv_goto (tgt := 14) hx hb dX6_field_10 (by decide) ?_
    have f_5245 : F_5240 b = mO ma mi hh := (o_5244 b ).trans fb
    refine q_put C0 hw mb f_5245 fw_X6_31 pw_X6_8 rfl rfl rfl (Nat.le_of_ble_eq_true rfl) dX6_field_14 (fun F_5246 H locs hw f_5247 o_5248 => ?_)
    have f_5247 : F_5246 b = .inr (6, [.ref (ma 0), .int (mi 0), .ref (ma 1), .ref (ma 2), .ref (ma 3), .ref (ma 4), .int (mi 1), .ref (ma 5), .int (nI (0)), .ref (ma 6), .int (mi 3), .int (mi 4), .long (hh)]) := f_5247
    refine lv_aload_n hx hb dX6_field_17 rfl (lv_at hl 0 rfl) ?_
    refine q_get C0 hw mb f_5247 fw_X6_31 rfl dX6_field_18 ?_
    refine n_if_le (tgt := 28) hx hb dX6_field_21 (by decide) (by decide) (fun c_21 => ?_) (fun c_21 => ?_)
    · skip
      refine lv_aload_n hx hb dX6_field_28 rfl (lv_at hl 0 rfl) ?_
      refine q_get C0 hw mb f_5247 fw_X6_7 rfl dX6_field_29 ?_
      refine lv_iload_n hx hb dX6_field_32 rfl (lv_at hl 1 rfl) ?_
      refine q_calli hw (q_runS (As := [.int (nI (f9))]) (c_X6_fieldAt l G L F_5246 f9 (by omega)) C0 hw sw_X6_109 rfl hl.1 rfl (Nat.le_of_ble_eq_true rfl) dX6_field_33 ⟨by decide, by decide⟩ ⟨by decide, by decide⟩) rfl rfl (fun r_5251 F_5249 H locs hw hp_5250 => ?_)
      obtain ⟨he_5252, o_5253⟩ := hp_5250
      subst he_5252
      refine lv_iload_n hx hb dX6_field_36 rfl (lv_at hl 2 rfl) ?_
      refine n_iadd hx hb dX6_field_37 ?_
      have f_5254 : F_5240 (ma 0) = .inl (G.2 0, 89, .inl zf) := (o_5244 (ma 0) ).trans fz
      have f_5255 : F_5246 (ma 0) = .inl (G.2 0, 89, .inl zf) := (o_5248 (ma 0) (ne_ao f_5254 f_5245)).trans f_5254
      have f_5256 : F_5249 (ma 0) = .inl (G.2 0, 89, .inl zf) := (o_5253 (ma 0) ).trans f_5255
      refine q_iald C0 hw ((hma 0 (by decide))) f_5256 (5 + 7 * f9 + p9) (by omega) (by decide) (v := (zf (5 + 7 * f9 + p9))) rfl dX6_field_38 ?_
      have f_5257 : F_5249 b = .inr (6, [.ref (ma 0), .int (mi 0), .ref (ma 1), .ref (ma 2), .ref (ma 3), .ref (ma 4), .int (mi 1), .ref (ma 5), .int (nI (0)), .ref (ma 6), .int (mi 3), .int (mi 4), .long (hh)]) := (o_5253 b ).trans f_5247
      exact r_i C0 hr hlk hw (v := (zf (5 + 7 * f9 + p9))) rfl ⟨rfl, f_5257, (fun q k0 => ((o_5253 q ).trans ((o_5248 q k0).trans (o_5244 q ))))⟩ (Nat.le_refl _) (Nat.le_refl _) dX6_field_39 hQ
    · skip
      exact absurd c_21 (by omega)
abbrev rm_X6_flow : Room := { frames := 3, cells := 0, slots := 0, locals := 63 }
set_option maxHeartbeats 4000000 in
set_option maxRecDepth 100000 in
theorem c_X6_flow_x (l : Launch) (G : Gl) (L : List Nat) (F : Nat → va_E) (b : Nat) (ma : Nat → Nat) (mi : Nat → Int32) (hh : Int64) (zf hf : Nat → Int32) (n9 : Nat) (x9 y9 : Int32) (mb : b ∈ L) (fb : F b = mO ma mi hh) (hm0 : mi 0 = nI n9) (hn6 : n9 ≤ 6) (hma : ∀ i, i < 7 → ma i ∈ L) (fz : F (ma 0) = .inl (G.2 0, 89, .inl zf)) (fh : F (ma 1) = .inl (G.2 0, 534, .inl hf)) (h9 : ¬ (inR x9 0 5 ∧ inR y9 0 6)) : CI l yX6_flow cX6_flow 3 (some .int) rm_X6_flow G L F [.ref b, .int (x9), .int (y9)] (fun r F1 => r = nI 0 ∧ F1 b = mO ma (va_up mi 2 (nI 1)) hh ∧ ∀ q, q ≠ b → F1 q = F q) := by
  refine CG_of (by decide) (Nat.le_of_ble_eq_true rfl) rfl ?_
  intro p e s m args below meth c Q C0 hr hlk hnm hQ hw ls hl
  have hx := C0.x
  have hb := C0.b
  refine lv_aload_n hx hb dX6_flow_0 rfl (lv_at hl 0 rfl) ?_
  refine lv_iload_n hx hb dX6_flow_1 rfl (lv_at hl 1 rfl) ?_
  refine lv_iload_n hx hb dX6_flow_2 rfl (lv_at hl 2 rfl) ?_
  refine q_calli hw (q_runS (As := [.int (x9), .int (y9)]) (c_X6_isSeen l G L F (x9) (y9)) C0 hw sw_X6_205 rfl hl.1 rfl (Nat.le_of_ble_eq_true rfl) dX6_flow_3 ⟨by decide, by decide⟩ ⟨by decide, by decide⟩) rfl rfl (fun r_5260 F_5258 H locs hw hp_5259 => ?_)
  obtain ⟨he_5261, o_5262⟩ := hp_5259
  rw [if_neg h9] at he_5261
  subst he_5261
  refine n_if_eq (tgt := 13) hx hb dX6_flow_6 (by decide) (by decide) (fun c_6 => ?_) (fun c_6 => ?_)
  · skip
    refine lv_iconst (v := nI 1) hx hb dX6_flow_13 (by decide) ?_
    have f_5263 : F_5258 b = mO ma mi hh := (o_5262 b ).trans fb
    refine q_put C0 hw mb f_5263 fw_X6_31 pw_X6_8 rfl rfl rfl (Nat.le_of_ble_eq_true rfl) dX6_flow_14 (fun F_5264 H locs hw f_5265 o_5266 => ?_)
    have f_5265 : F_5264 b = .inr (6, [.ref (ma 0), .int (mi 0), .ref (ma 1), .ref (ma 2), .ref (ma 3), .ref (ma 4), .int (mi 1), .ref (ma 5), .int (nI (1)), .ref (ma 6), .int (mi 3), .int (mi 4), .long (hh)]) := f_5265
    refine lv_aload_n hx hb dX6_flow_17 rfl (lv_at hl 0 rfl) ?_
    refine q_get C0 hw mb f_5265 fw_X6_31 rfl dX6_flow_18 ?_
    refine n_if_le (tgt := 28) hx hb dX6_flow_21 (by decide) (by decide) (fun c_21 => ?_) (fun c_21 => ?_)
    · skip
      exact absurd c_21 (by omega)
    · skip
      refine lv_iconst (v := nI 0) hx hb dX6_flow_24 (by decide) ?_
      refine lv_goto (tgt := 39) hx hb dX6_flow_25 (by decide) ?_
      exact r_i C0 hr hlk hw (v := nI 0) rfl ⟨rfl, f_5265, (fun q k0 => ((o_5266 q k0).trans (o_5262 q )))⟩ (Nat.le_refl _) (Nat.le_refl _) dX6_flow_39 hQ
  · skip
    exact absurd c_6 (by omega)
set_option maxHeartbeats 4000000 in
set_option maxRecDepth 100000 in
theorem c_X6_flow (l : Launch) (G : Gl) (L : List Nat) (F : Nat → va_E) (b : Nat) (ma : Nat → Nat) (mi : Nat → Int32) (hh : Int64) (zf hf : Nat → Int32) (n9 : Nat) (f9 p9 : Nat) (mb : b ∈ L) (fb : F b = mO ma mi hh) (hm0 : mi 0 = nI n9) (hn6 : n9 ≤ 6) (hma : ∀ i, i < 7 → ma i ∈ L) (fz : F (ma 0) = .inl (G.2 0, 89, .inl zf)) (fh : F (ma 1) = .inl (G.2 0, 534, .inl hf)) (hf9 : f9 < 6) (hp9 : p9 ≤ 6) (h9 : inR (nI f9) 0 5 ∧ inR (nI p9) 0 6) : CI l yX6_flow cX6_flow 3 (some .int) rm_X6_flow G L F [.ref b, .int (nI (f9)), .int (nI (p9))] (fun r F1 => r = zf (47 + 7 * f9 + p9) ∧ F1 b = mO ma (va_up mi 2 (nI 0)) hh ∧ ∀ q, q ≠ b → F1 q = F q) := by
  refine CG_of (by decide) (Nat.le_of_ble_eq_true rfl) rfl ?_
  intro p e s m args below meth c Q C0 hr hlk hnm hQ hw ls hl
  have hx := C0.x
  have hb := C0.b
  refine lv_aload_n hx hb dX6_flow_0 rfl (lv_at hl 0 rfl) ?_
  refine lv_iload_n hx hb dX6_flow_1 rfl (lv_at hl 1 rfl) ?_
  refine lv_iload_n hx hb dX6_flow_2 rfl (lv_at hl 2 rfl) ?_
  refine q_calli hw (q_runS (As := [.int (nI (f9)), .int (nI (p9))]) (c_X6_isSeen l G L F (nI (f9)) (nI (p9))) C0 hw sw_X6_205 rfl hl.1 rfl (Nat.le_of_ble_eq_true rfl) dX6_flow_3 ⟨by decide, by decide⟩ ⟨by decide, by decide⟩) rfl rfl (fun r_5269 F_5267 H locs hw hp_5268 => ?_)
  obtain ⟨he_5270, o_5271⟩ := hp_5268
  rw [if_pos h9] at he_5270
  subst he_5270
  refine n_if_eq (tgt := 13) hx hb dX6_flow_6 (by decide) (by decide) (fun c_6 => ?_) (fun c_6 => ?_)
  · skip
    exact absurd c_6 (by omega)
  · skip
    refine lv_iconst (v := nI 0) hx hb dX6_flow_9 (by decide) ?_
    refine lv_goto (tgt := 14) hx hb dX6_flow_10 (by decide) ?_
    have f_5272 : F_5267 b = mO ma mi hh := (o_5271 b ).trans fb
    refine q_put C0 hw mb f_5272 fw_X6_31 pw_X6_8 rfl rfl rfl (Nat.le_of_ble_eq_true rfl) dX6_flow_14 (fun F_5273 H locs hw f_5274 o_5275 => ?_)
    have f_5274 : F_5273 b = .inr (6, [.ref (ma 0), .int (mi 0), .ref (ma 1), .ref (ma 2), .ref (ma 3), .ref (ma 4), .int (mi 1), .ref (ma 5), .int (nI (0)), .ref (ma 6), .int (mi 3), .int (mi 4), .long (hh)]) := f_5274
    refine lv_aload_n hx hb dX6_flow_17 rfl (lv_at hl 0 rfl) ?_
    refine q_get C0 hw mb f_5274 fw_X6_31 rfl dX6_flow_18 ?_
    refine n_if_le (tgt := 28) hx hb dX6_flow_21 (by decide) (by decide) (fun c_21 => ?_) (fun c_21 => ?_)
    · skip
      refine lv_aload_n hx hb dX6_flow_28 rfl (lv_at hl 0 rfl) ?_
      refine q_get C0 hw mb f_5274 fw_X6_7 rfl dX6_flow_29 ?_
      refine lv_iload_n hx hb dX6_flow_32 rfl (lv_at hl 1 rfl) ?_
      refine q_calli hw (q_runS (As := [.int (nI (f9))]) (c_X6_flowAt l G L F_5273 f9 (by omega)) C0 hw sw_X6_138 rfl hl.1 rfl (Nat.le_of_ble_eq_true rfl) dX6_flow_33 ⟨by decide, by decide⟩ ⟨by decide, by decide⟩) rfl rfl (fun r_5278 F_5276 H locs hw hp_5277 => ?_)
      obtain ⟨he_5279, o_5280⟩ := hp_5277
      subst he_5279
      refine lv_iload_n hx hb dX6_flow_36 rfl (lv_at hl 2 rfl) ?_
      refine n_iadd hx hb dX6_flow_37 ?_
      have f_5281 : F_5267 (ma 0) = .inl (G.2 0, 89, .inl zf) := (o_5271 (ma 0) ).trans fz
      have f_5282 : F_5273 (ma 0) = .inl (G.2 0, 89, .inl zf) := (o_5275 (ma 0) (ne_ao f_5281 f_5272)).trans f_5281
      have f_5283 : F_5276 (ma 0) = .inl (G.2 0, 89, .inl zf) := (o_5280 (ma 0) ).trans f_5282
      refine q_iald C0 hw ((hma 0 (by decide))) f_5283 (47 + 7 * f9 + p9) (by omega) (by decide) (v := (zf (47 + 7 * f9 + p9))) rfl dX6_flow_38 ?_
      have f_5284 : F_5276 b = .inr (6, [.ref (ma 0), .int (mi 0), .ref (ma 1), .ref (ma 2), .ref (ma 3), .ref (ma 4), .int (mi 1), .ref (ma 5), .int (nI (0)), .ref (ma 6), .int (mi 3), .int (mi 4), .long (hh)]) := (o_5280 b ).trans f_5274
      exact r_i C0 hr hlk hw (v := (zf (47 + 7 * f9 + p9))) rfl ⟨rfl, f_5284, (fun q k0 => ((o_5280 q ).trans ((o_5275 q k0).trans (o_5271 q ))))⟩ (Nat.le_refl _) (Nat.le_refl _) dX6_flow_39 hQ
    · skip
      exact absurd c_21 (by omega)
