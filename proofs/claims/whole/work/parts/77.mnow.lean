abbrev rm_X6_fieldsNotZero : Room := { frames := 2, cells := 0, slots := 0, locals := 46 }
set_option maxHeartbeats 4000000 in
set_option maxRecDepth 100000 in
theorem c_X6_fieldsNotZero (l : Launch) (G : Gl) (L : List Nat) (F : Nat → va_E) (b : Nat) (ma : Nat → Nat) (mi : Nat → Int32) (hh : Int64) (pl : Nat → Nat → ZP) (zf : Nat → Int32) (cu : Nat) (r9 : Rws) (mb : b ∈ L) (fb : F b = mO ma mi hh) (hma : ∀ i, i < 7 → ma i ∈ L) (fp : F (ma 4) = pcE G pl) (fz : F (ma 0) = .inl (G.2 0, 89, .inl zf)) (hz0 : zf 0 = nI cu) (hc : cu ≤ 6) (hc2 : 2 ≤ cu) (hrw : ∀ i k, i < 12 → k < 7 → zf (5 + 7 * i + k) = nI (r9 i k).val) : CI l yX6_fieldsNotZero cX6_fieldsNotZero 3 (some .int) rm_X6_fieldsNotZero G L F [.ref b] (fun r F1 => r = nI (cntR (fun i => r9 i) 6) ∧ (∃ P9, F1 (ma 4) = pcE G P9 ∧ ∀ q, q ≠ 0 → P9 q = pl q) ∧ ∀ q, q ≠ ma 4 → F1 q = F q) := by
  refine CG_of (by decide) (Nat.le_of_ble_eq_true rfl) rfl ?_
  intro p e s m args below meth c Q C0 hr hlk hnm hQ hw ls hl
  have hx := C0.x
  have hb := C0.b
  refine lv_iconst (v := nI 0) hx hb dX6_fieldsNotZero_0 (by decide) ?_
  refine lv_istore_n (lv' := [(1, .int (nI (0))), (0, .ref b)]) hx hb dX6_fieldsNotZero_1 rfl hl (by decide) rfl (fun ls hl => ?_)
  refine lv_iconst (v := nI 0) hx hb dX6_fieldsNotZero_2 (by decide) ?_
  refine lv_istore_n (lv' := [(2, .int (nI (0))), (1, .int (nI (0))), (0, .ref b)]) hx hb dX6_fieldsNotZero_3 rfl hl (by decide) rfl (fun ls hl => ?_)
  have lp4 : ∀ (n : Nat) (i9 : Nat) (P_9046 : Nat → Nat → ZP), 0 ≤ i9 → i9 ≤ 6 → (∀ q, q ≠ 0 → P_9046 q = pl q) → 6 + 1 - i9 < n → ∀ (F_9047 : Nat → va_E) (H : Heap) (locs : List Loc), wD G L F_9047 s H locs → F_9047 (ma 4) = pcE G P_9046 → (∀ q, q ≠ (ma 4) → F_9047 q = F q) → ∀ ls : Array Slot, lv_has ls 3 [(0, .ref b), (1, .int (nI (cntR (fun i => r9 i) i9))), (2, .int (nI (i9)))] → W p l e rm_X6_fieldsNotZero s m args below meth c H locs 0 0 Q (F0 m 4 ls []) := by
    intro n
    induction n with
    | zero => intro i9 P_9046 hlo hhi hfr_P_9046 hm; exact absurd hm (Nat.not_lt_zero _)
    | succ n ih_4 =>
      intro i9 P_9046 hlo hhi hfr_P_9046 hm F_9047 H locs hw f_9048 fr_9049 ls hl
      refine lv_iload_n hx hb dX6_fieldsNotZero_4 rfl (lv_at hl 2 rfl) ?_
      refine lv_bipush (v := nI 6) hx hb dX6_fieldsNotZero_5 (by decide) ?_
      refine n_icmp_ge (tgt := 42) hx hb dX6_fieldsNotZero_7 (by decide) (by omega) (by decide) (fun c_7 => ?_) (fun c_7 => ?_)
      · skip
        obtain rfl : i9 = 6 := by omega
        refine lv_iload_n hx hb dX6_fieldsNotZero_42 rfl (lv_at hl 1 rfl) ?_
        exact r_i C0 hr hlk hw (v := nI (cntR (fun i => r9 i) 6)) rfl ⟨rfl, ⟨_, f_9048, (fun q j0 => (hfr_P_9046 q j0))⟩, (fun q k0 => (fr_9049 q k0))⟩ (Nat.le_refl _) (Nat.le_refl _) dX6_fieldsNotZero_43 hQ
      · skip
        refine lv_aload_n hx hb dX6_fieldsNotZero_10 rfl (lv_at hl 0 rfl) ?_
        refine lv_iload_n hx hb dX6_fieldsNotZero_11 rfl (lv_at hl 2 rfl) ?_
        refine q_calli hw (q_runS (As := [.int (nI (i9))]) (c_X6_fieldAt l G L F_9047 i9 (by omega)) C0 hw sw_X6_109 rfl hl.1 rfl (Nat.le_of_ble_eq_true rfl) dX6_fieldsNotZero_12 ⟨by decide, by decide⟩ ⟨by decide, by decide⟩) rfl rfl (fun r_9052 F_9050 H locs hw hp_9051 => ?_)
        obtain ⟨he_9053, o_9054⟩ := hp_9051
        subst he_9053
        refine lv_iconst (v := nI 0) hx hb dX6_fieldsNotZero_15 (by decide) ?_
        have f_9055 : F_9047 b = mO ma mi hh := (fr_9049 b (ne_oa fb fp)).trans fb
        have f_9056 : F_9050 b = mO ma mi hh := (o_9054 b ).trans f_9055
        have f_9057 : F_9050 (ma 4) = pcE G P_9046 := (o_9054 (ma 4) ).trans f_9048
        have f_9058 : F_9047 (ma 0) = .inl (G.2 0, 89, .inl zf) := (fr_9049 (ma 0) (ne_aa (by decide) fz fp)).trans fz
        have f_9059 : F_9050 (ma 0) = .inl (G.2 0, 89, .inl zf) := (o_9054 (ma 0) ).trans f_9058
        refine q_callv hw (q_runV (As := [.int (nI (5 + 7 * i9)), .int (nI (0))]) (c_X6_load l G L F_9050 b ma mi hh P_9046 zf cu (5 + 7 * i9) 0 (r9 i9) mb f_9056 hma f_9057 f_9059 hz0 (by omega) (by omega) (by omega) (by omega) (fun k hk => hrw i9 k (by omega) hk)) C0 hw vw_X6_112 mb f_9056 rfl rfl rfl hl.1 rfl (Nat.le_of_ble_eq_true rfl) dX6_fieldsNotZero_16 ⟨by decide, by decide⟩ ⟨by decide, by decide⟩) rfl rfl (fun F_9060 H locs hw hp_9061 => ?_)
        obtain ⟨P_9062, eP_9062⟩ : ∃ P9, P9 = va_up P_9046 0 (r9 i9) := ⟨_, rfl⟩
        have f_9065 : F_9060 (ma 4) = pcE G P_9062 := by rw [eP_9062]; exact hp_9061.1
        have r_9063 : P_9062 0 = r9 i9 := by rw [eP_9062, va_up_self]
        have ro_9064 : ∀ q, q ≠ 0 → P_9062 q = P_9046 q := fun q hq => by rw [eP_9062]; exact va_up_ne _ _ hq
        refine lv_iload_n hx hb dX6_fieldsNotZero_19 rfl (lv_at hl 1 rfl) ?_
        refine lv_aload_n hx hb dX6_fieldsNotZero_20 rfl (lv_at hl 0 rfl) ?_
        refine lv_iconst (v := nI 0) hx hb dX6_fieldsNotZero_21 (by decide) ?_
        have f_9066 : F_9060 b = mO ma mi hh := (hp_9061.2 b (ne_oa f_9056 f_9057)).trans f_9056
        have f_9067 : F_9060 (ma 0) = .inl (G.2 0, 89, .inl zf) := (hp_9061.2 (ma 0) (ne_aa (by decide) f_9059 f_9057)).trans f_9059
        refine q_calli hw (q_runV (As := [.int (nI (0))]) (c_X6_lowest l G L F_9060 b ma mi hh P_9062 zf cu 0 mb f_9066 hma f_9065 f_9067 hz0 (by omega) (by omega) (by omega)) C0 hw vw_X6_100 mb f_9066 rfl rfl rfl hl.1 rfl (Nat.le_of_ble_eq_true rfl) dX6_fieldsNotZero_22 ⟨by decide, by decide⟩ ⟨by decide, by decide⟩) rfl rfl (fun r_9070 F_9068 H locs hw hp_9069 => ?_)
        obtain ⟨he_9071, o_9072⟩ := hp_9069
        rw [r_9063] at he_9071
        have he_9071 : r_9070 = m_low (fun k => decide ((r9 i9) k ≠ 0)) := he_9071
        subst he_9071
        refine lv_iconst (v := (-1)) hx hb dX6_fieldsNotZero_25 (by decide) ?_
        refine lv_icmp_ne (tgt := 33) hx hb dX6_fieldsNotZero_26 (by decide) (fun c_26 => ?_) (fun c_26 => ?_)
        · skip
          have hcl := cntR_le (fun i => r9 i) i9
          refine lv_iconst (v := nI 1) hx hb dX6_fieldsNotZero_33 (by decide) ?_
          refine n_iadd hx hb dX6_fieldsNotZero_34 ?_
          refine lv_istore_n (lv' := [(1, .int (nI (cntR (fun i => r9 i) i9 + 1))), (0, .ref b), (2, .int (nI (i9)))]) hx hb dX6_fieldsNotZero_35 rfl hl (by decide) rfl (fun ls hl => ?_)
          refine lv_iinc (v := nI (i9 + 1)) (lv' := [(2, .int (nI (i9 + 1))), (1, .int (nI (cntR (fun i => r9 i) i9 + 1))), (0, .ref b)]) hx hb dX6_fieldsNotZero_36 hl (k := 2) rfl (nI_add _ _) (by decide) rfl (fun ls hl => ?_)
          refine lv_goto (tgt := 4) hx hb dX6_fieldsNotZero_39 (by decide) ?_
          have hl : lv_has ls 3 [(2, .int (nI (i9 + 1))), (1, .int (nI (cntR (fun i => r9 i) (i9 + 1)))), (0, .ref b)] := (by rw [cntR_b (r := fun i => r9 i) c_26]; exact hl)
          have f_9073 : F_9068 (ma 4) = pcE G P_9062 := (o_9072 (ma 4) ).trans f_9065
          exact ih_4 (i9 + 1) (P_9062) ((by omega)) ((by omega)) ((fun q j0 => ((ro_9064 q j0).trans (hfr_P_9046 q j0)))) (by omega) F_9068 _ _ hw (f_9073) (fun q k0 => ((o_9072 q ).trans ((hp_9061.2 q k0).trans ((o_9054 q ).trans (fr_9049 q k0))))) ls (lv_sub hl [2, 1, 0] rfl)
        · skip
          have hcl := cntR_le (fun i => r9 i) i9
          refine lv_iconst (v := nI 0) hx hb dX6_fieldsNotZero_29 (by decide) ?_
          refine lv_goto (tgt := 34) hx hb dX6_fieldsNotZero_30 (by decide) ?_
          refine n_iadd hx hb dX6_fieldsNotZero_34 ?_
          refine lv_istore_n (lv' := [(1, .int (nI (cntR (fun i => r9 i) i9 + 0))), (0, .ref b), (2, .int (nI (i9)))]) hx hb dX6_fieldsNotZero_35 rfl hl (by decide) rfl (fun ls hl => ?_)
          refine lv_iinc (v := nI (i9 + 1)) (lv' := [(2, .int (nI (i9 + 1))), (1, .int (nI (cntR (fun i => r9 i) i9 + 0))), (0, .ref b)]) hx hb dX6_fieldsNotZero_36 hl (k := 2) rfl (nI_add _ _) (by decide) rfl (fun ls hl => ?_)
          refine lv_goto (tgt := 4) hx hb dX6_fieldsNotZero_39 (by decide) ?_
          have hl : lv_has ls 3 [(2, .int (nI (i9 + 1))), (1, .int (nI (cntR (fun i => r9 i) (i9 + 1)))), (0, .ref b)] := (by rw [cntR_a (r := fun i => r9 i) c_26]; exact hl)
          have f_9074 : F_9068 (ma 4) = pcE G P_9062 := (o_9072 (ma 4) ).trans f_9065
          exact ih_4 (i9 + 1) (P_9062) ((by omega)) ((by omega)) ((fun q j0 => ((ro_9064 q j0).trans (hfr_P_9046 q j0)))) (by omega) F_9068 _ _ hw (f_9074) (fun q k0 => ((o_9072 q ).trans ((hp_9061.2 q k0).trans ((o_9054 q ).trans (fr_9049 q k0))))) ls (lv_sub hl [2, 1, 0] rfl)
  exact lp4 _ (0) (pl) ((by omega)) ((by omega)) ((fun q j0 => rfl)) (Nat.lt_succ_self _) F _ _ hw (fp) (fun q k0 => rfl) ls (lv_sub hl [2, 1, 0] rfl)
abbrev rm_X6_flowsNotX : Room := { frames := 2, cells := 0, slots := 0, locals := 46 }
set_option maxHeartbeats 4000000 in
set_option maxRecDepth 100000 in
theorem c_X6_flowsNotX (l : Launch) (G : Gl) (L : List Nat) (F : Nat → va_E) (b : Nat) (ma : Nat → Nat) (mi : Nat → Int32) (hh : Int64) (pl : Nat → Nat → ZP) (zf : Nat → Int32) (cu : Nat) (r9 : Rws) (mb : b ∈ L) (fb : F b = mO ma mi hh) (hma : ∀ i, i < 7 → ma i ∈ L) (fp : F (ma 4) = pcE G pl) (fz : F (ma 0) = .inl (G.2 0, 89, .inl zf)) (hz0 : zf 0 = nI cu) (hc : cu ≤ 6) (hc2 : 2 ≤ cu) (hrw : ∀ i k, i < 12 → k < 7 → zf (5 + 7 * i + k) = nI (r9 i k).val) : CI l yX6_flowsNotX cX6_flowsNotX 3 (some .int) rm_X6_flowsNotX G L F [.ref b] (fun r F1 => r = nI (cntR (fun i => r9 (6 + i)) 6) ∧ (∃ P9, F1 (ma 4) = pcE G P9 ∧ ∀ q, q ≠ 0 → P9 q = pl q) ∧ ∀ q, q ≠ ma 4 → F1 q = F q) := by
  refine CG_of (by decide) (Nat.le_of_ble_eq_true rfl) rfl ?_
  intro p e s m args below meth c Q C0 hr hlk hnm hQ hw ls hl
  have hx := C0.x
  have hb := C0.b
  refine lv_iconst (v := nI 0) hx hb dX6_flowsNotX_0 (by decide) ?_
  refine lv_istore_n (lv' := [(1, .int (nI (0))), (0, .ref b)]) hx hb dX6_flowsNotX_1 rfl hl (by decide) rfl (fun ls hl => ?_)
  refine lv_iconst (v := nI 0) hx hb dX6_flowsNotX_2 (by decide) ?_
  refine lv_istore_n (lv' := [(2, .int (nI (0))), (1, .int (nI (0))), (0, .ref b)]) hx hb dX6_flowsNotX_3 rfl hl (by decide) rfl (fun ls hl => ?_)
  have lp4 : ∀ (n : Nat) (i9 : Nat) (P_9075 : Nat → Nat → ZP), 0 ≤ i9 → i9 ≤ 6 → (∀ q, q ≠ 0 → P_9075 q = pl q) → 6 + 1 - i9 < n → ∀ (F_9076 : Nat → va_E) (H : Heap) (locs : List Loc), wD G L F_9076 s H locs → F_9076 (ma 4) = pcE G P_9075 → (∀ q, q ≠ (ma 4) → F_9076 q = F q) → ∀ ls : Array Slot, lv_has ls 3 [(0, .ref b), (1, .int (nI (cntR (fun i => r9 (6 + i)) i9))), (2, .int (nI (i9)))] → W p l e rm_X6_flowsNotX s m args below meth c H locs 0 0 Q (F0 m 4 ls []) := by
    intro n
    induction n with
    | zero => intro i9 P_9075 hlo hhi hfr_P_9075 hm; exact absurd hm (Nat.not_lt_zero _)
    | succ n ih_4 =>
      intro i9 P_9075 hlo hhi hfr_P_9075 hm F_9076 H locs hw f_9077 fr_9078 ls hl
      refine lv_iload_n hx hb dX6_flowsNotX_4 rfl (lv_at hl 2 rfl) ?_
      refine lv_bipush (v := nI 6) hx hb dX6_flowsNotX_5 (by decide) ?_
      refine n_icmp_ge (tgt := 42) hx hb dX6_flowsNotX_7 (by decide) (by omega) (by decide) (fun c_7 => ?_) (fun c_7 => ?_)
      · skip
        obtain rfl : i9 = 6 := by omega
        refine lv_iload_n hx hb dX6_flowsNotX_42 rfl (lv_at hl 1 rfl) ?_
        exact r_i C0 hr hlk hw (v := nI (cntR (fun i => r9 (6 + i)) 6)) rfl ⟨rfl, ⟨_, f_9077, (fun q j0 => (hfr_P_9075 q j0))⟩, (fun q k0 => (fr_9078 q k0))⟩ (Nat.le_refl _) (Nat.le_refl _) dX6_flowsNotX_43 hQ
      · skip
        refine lv_aload_n hx hb dX6_flowsNotX_10 rfl (lv_at hl 0 rfl) ?_
        refine lv_iload_n hx hb dX6_flowsNotX_11 rfl (lv_at hl 2 rfl) ?_
        refine q_calli hw (q_runS (As := [.int (nI (i9))]) (c_X6_flowAt2 l G L F_9076 i9 (by omega)) C0 hw sw_X6_138 rfl hl.1 rfl (Nat.le_of_ble_eq_true rfl) dX6_flowsNotX_12 ⟨by decide, by decide⟩ ⟨by decide, by decide⟩) rfl rfl (fun r_9081 F_9079 H locs hw hp_9080 => ?_)
        obtain ⟨he_9082, o_9083⟩ := hp_9080
        subst he_9082
        refine lv_iconst (v := nI 0) hx hb dX6_flowsNotX_15 (by decide) ?_
        have f_9084 : F_9076 b = mO ma mi hh := (fr_9078 b (ne_oa fb fp)).trans fb
        have f_9085 : F_9079 b = mO ma mi hh := (o_9083 b ).trans f_9084
        have f_9086 : F_9079 (ma 4) = pcE G P_9075 := (o_9083 (ma 4) ).trans f_9077
        have f_9087 : F_9076 (ma 0) = .inl (G.2 0, 89, .inl zf) := (fr_9078 (ma 0) (ne_aa (by decide) fz fp)).trans fz
        have f_9088 : F_9079 (ma 0) = .inl (G.2 0, 89, .inl zf) := (o_9083 (ma 0) ).trans f_9087
        refine q_callv hw (q_runV (As := [.int (nI (5 + 7 * (6 + i9))), .int (nI (0))]) (c_X6_load l G L F_9079 b ma mi hh P_9075 zf cu (5 + 7 * (6 + i9)) 0 (r9 (6 + i9)) mb f_9085 hma f_9086 f_9088 hz0 (by omega) (by omega) (by omega) (by omega) (fun k hk => hrw (6 + i9) k (by omega) hk)) C0 hw vw_X6_112 mb f_9085 rfl rfl rfl hl.1 rfl (Nat.le_of_ble_eq_true rfl) dX6_flowsNotX_16 ⟨by decide, by decide⟩ ⟨by decide, by decide⟩) rfl rfl (fun F_9089 H locs hw hp_9090 => ?_)
        obtain ⟨P_9091, eP_9091⟩ : ∃ P9, P9 = va_up P_9075 0 (r9 (6 + i9)) := ⟨_, rfl⟩
        have f_9094 : F_9089 (ma 4) = pcE G P_9091 := by rw [eP_9091]; exact hp_9090.1
        have r_9092 : P_9091 0 = r9 (6 + i9) := by rw [eP_9091, va_up_self]
        have ro_9093 : ∀ q, q ≠ 0 → P_9091 q = P_9075 q := fun q hq => by rw [eP_9091]; exact va_up_ne _ _ hq
        refine lv_iload_n hx hb dX6_flowsNotX_19 rfl (lv_at hl 1 rfl) ?_
        refine lv_aload_n hx hb dX6_flowsNotX_20 rfl (lv_at hl 0 rfl) ?_
        refine lv_iconst (v := nI 0) hx hb dX6_flowsNotX_21 (by decide) ?_
        have f_9095 : F_9089 b = mO ma mi hh := (hp_9090.2 b (ne_oa f_9085 f_9086)).trans f_9085
        have f_9096 : F_9089 (ma 0) = .inl (G.2 0, 89, .inl zf) := (hp_9090.2 (ma 0) (ne_aa (by decide) f_9088 f_9086)).trans f_9088
        refine q_calli hw (q_runV (As := [.int (nI (0))]) (c_X6_lowest l G L F_9089 b ma mi hh P_9091 zf cu 0 mb f_9095 hma f_9094 f_9096 hz0 (by omega) (by omega) (by omega)) C0 hw vw_X6_100 mb f_9095 rfl rfl rfl hl.1 rfl (Nat.le_of_ble_eq_true rfl) dX6_flowsNotX_22 ⟨by decide, by decide⟩ ⟨by decide, by decide⟩) rfl rfl (fun r_9099 F_9097 H locs hw hp_9098 => ?_)
        obtain ⟨he_9100, o_9101⟩ := hp_9098
        rw [r_9092] at he_9100
        have he_9100 : r_9099 = m_low (fun k => decide ((r9 (6 + i9)) k ≠ 0)) := he_9100
        subst he_9100
        refine lv_iconst (v := (-1)) hx hb dX6_flowsNotX_25 (by decide) ?_
        refine lv_icmp_ne (tgt := 33) hx hb dX6_flowsNotX_26 (by decide) (fun c_26 => ?_) (fun c_26 => ?_)
        · skip
          have hcl := cntR_le (fun i => r9 (6 + i)) i9
          refine lv_iconst (v := nI 1) hx hb dX6_flowsNotX_33 (by decide) ?_
          refine n_iadd hx hb dX6_flowsNotX_34 ?_
          refine lv_istore_n (lv' := [(1, .int (nI (cntR (fun i => r9 (6 + i)) i9 + 1))), (0, .ref b), (2, .int (nI (i9)))]) hx hb dX6_flowsNotX_35 rfl hl (by decide) rfl (fun ls hl => ?_)
          refine lv_iinc (v := nI (i9 + 1)) (lv' := [(2, .int (nI (i9 + 1))), (1, .int (nI (cntR (fun i => r9 (6 + i)) i9 + 1))), (0, .ref b)]) hx hb dX6_flowsNotX_36 hl (k := 2) rfl (nI_add _ _) (by decide) rfl (fun ls hl => ?_)
          refine lv_goto (tgt := 4) hx hb dX6_flowsNotX_39 (by decide) ?_
          have hl : lv_has ls 3 [(2, .int (nI (i9 + 1))), (1, .int (nI (cntR (fun i => r9 (6 + i)) (i9 + 1)))), (0, .ref b)] := (by rw [cntR_b (r := fun i => r9 (6 + i)) c_26]; exact hl)
          have f_9102 : F_9097 (ma 4) = pcE G P_9091 := (o_9101 (ma 4) ).trans f_9094
          exact ih_4 (i9 + 1) (P_9091) ((by omega)) ((by omega)) ((fun q j0 => ((ro_9093 q j0).trans (hfr_P_9075 q j0)))) (by omega) F_9097 _ _ hw (f_9102) (fun q k0 => ((o_9101 q ).trans ((hp_9090.2 q k0).trans ((o_9083 q ).trans (fr_9078 q k0))))) ls (lv_sub hl [2, 1, 0] rfl)
        · skip
          have hcl := cntR_le (fun i => r9 (6 + i)) i9
          refine lv_iconst (v := nI 0) hx hb dX6_flowsNotX_29 (by decide) ?_
          refine lv_goto (tgt := 34) hx hb dX6_flowsNotX_30 (by decide) ?_
          refine n_iadd hx hb dX6_flowsNotX_34 ?_
          refine lv_istore_n (lv' := [(1, .int (nI (cntR (fun i => r9 (6 + i)) i9 + 0))), (0, .ref b), (2, .int (nI (i9)))]) hx hb dX6_flowsNotX_35 rfl hl (by decide) rfl (fun ls hl => ?_)
          refine lv_iinc (v := nI (i9 + 1)) (lv' := [(2, .int (nI (i9 + 1))), (1, .int (nI (cntR (fun i => r9 (6 + i)) i9 + 0))), (0, .ref b)]) hx hb dX6_flowsNotX_36 hl (k := 2) rfl (nI_add _ _) (by decide) rfl (fun ls hl => ?_)
          refine lv_goto (tgt := 4) hx hb dX6_flowsNotX_39 (by decide) ?_
          have hl : lv_has ls 3 [(2, .int (nI (i9 + 1))), (1, .int (nI (cntR (fun i => r9 (6 + i)) (i9 + 1)))), (0, .ref b)] := (by rw [cntR_a (r := fun i => r9 (6 + i)) c_26]; exact hl)
          have f_9103 : F_9097 (ma 4) = pcE G P_9091 := (o_9101 (ma 4) ).trans f_9094
          exact ih_4 (i9 + 1) (P_9091) ((by omega)) ((by omega)) ((fun q j0 => ((ro_9093 q j0).trans (hfr_P_9075 q j0)))) (by omega) F_9097 _ _ hw (f_9103) (fun q k0 => ((o_9101 q ).trans ((hp_9090.2 q k0).trans ((o_9083 q ).trans (fr_9078 q k0))))) ls (lv_sub hl [2, 1, 0] rfl)
  exact lp4 _ (0) (pl) ((by omega)) ((by omega)) ((fun q j0 => rfl)) (Nat.lt_succ_self _) F _ _ hw (fp) (fun q k0 => rfl) ls (lv_sub hl [2, 1, 0] rfl)
abbrev rm_X6_isKept : Room := { frames := 0, cells := 0, slots := 0, locals := 0 }
set_option maxHeartbeats 4000000 in
set_option maxRecDepth 100000 in
theorem c_X6_isKept (l : Launch) (G : Gl) (L : List Nat) (F : Nat → va_E) (k9 : Nat) (hk9 : k9 < 89) : CI l yX6_isKept cX6_isKept 1 (some .boolean) rm_X6_isKept G L F [.int (nI (k9))] (fun r F1 => r = (if k9 = 0 ∨ 5 ≤ k9 then nI 1 else nI 0) ∧ ∀ q, F1 q = F q) := by
  refine CG_of (by decide) (Nat.le_of_ble_eq_true rfl) rfl ?_
  intro p e s m args below meth c Q C0 hr hlk hnm hQ hw ls hl
  have hx := C0.x
  have hb := C0.b
  refine lv_iload_n hx hb dX6_isKept_0 rfl (lv_at hl 0 rfl) ?_
  refine n_if_eq (tgt := 9) hx hb dX6_isKept_1 (by decide) (by omega) (fun c_1 => ?_) (fun c_1 => ?_)
  · skip
    refine lv_iconst (v := nI 1) hx hb dX6_isKept_9 (by decide) ?_
    refine lv_goto (tgt := 14) hx hb dX6_isKept_10 (by decide) ?_
    exact r_i C0 hr hlk hw (v := nI 1) rfl ⟨bool_t (Or.inl (by omega)), (fun q  => rfl)⟩ (Nat.le_refl _) (Nat.le_refl _) dX6_isKept_14 hQ
  · skip
    refine lv_iload_n hx hb dX6_isKept_4 rfl (lv_at hl 0 rfl) ?_
    refine lv_iconst (v := nI 5) hx hb dX6_isKept_5 (by decide) ?_
    refine n_icmp_lt (tgt := 13) hx hb dX6_isKept_6 (by decide) (by omega) (by decide) (fun c_6 => ?_) (fun c_6 => ?_)
    · skip
      refine lv_iconst (v := nI 0) hx hb dX6_isKept_13 (by decide) ?_
      exact r_i C0 hr hlk hw (v := nI 0) rfl ⟨bool_f (by omega), (fun q  => rfl)⟩ (Nat.le_refl _) (Nat.le_refl _) dX6_isKept_14 hQ
    · skip
      refine lv_iconst (v := nI 1) hx hb dX6_isKept_9 (by decide) ?_
      refine lv_goto (tgt := 14) hx hb dX6_isKept_10 (by decide) ?_
      exact r_i C0 hr hlk hw (v := nI 1) rfl ⟨bool_t (by omega), (fun q  => rfl)⟩ (Nat.le_refl _) (Nat.le_refl _) dX6_isKept_14 hQ
abbrev rm_X6_valueAt : Room := { frames := 0, cells := 0, slots := 0, locals := 0 }
set_option maxHeartbeats 4000000 in
set_option maxRecDepth 100000 in
theorem c_X6_valueAt (l : Launch) (G : Gl) (L : List Nat) (F : Nat → va_E) (b : Nat) (ma : Nat → Nat) (mi : Nat → Int32) (hh : Int64) (pl : Nat → Nat → ZP) (zf : Nat → Int32) (cu : Nat) (r9 : Rws) (s9 : Nat) (x : ZP) (mb : b ∈ L) (fb : F b = mO ma mi hh) (hma : ∀ i, i < 7 → ma i ∈ L) (fp : F (ma 4) = pcE G pl) (fz : F (ma 0) = .inl (G.2 0, 89, .inl zf)) (hz0 : zf 0 = nI cu) (hc : cu ≤ 6) (hc2 : 2 ≤ cu) (hs9 : s9 < 12) (hrw : ∀ i k, i < 12 → k < 7 → zf (5 + 7 * i + k) = nI (r9 i k).val) : CI l yX6_valueAt cX6_valueAt 5 (some .int) rm_X6_valueAt G L F [.ref b, .int (nI (5 + 7 * s9)), .int (nI (x.val))] (fun r F1 => r = nI (m_val (r9 s9) x).val ∧ ∀ q, F1 q = F q) := by
  refine CG_of (by decide) (Nat.le_of_ble_eq_true rfl) rfl ?_
  intro p e s m args below meth c Q C0 hr hlk hnm hQ hw ls hl
  have hx := C0.x
  have hb := C0.b
  have hxx := x.isLt
  refine lv_iconst (v := nI 0) hx hb dX6_valueAt_0 (by decide) ?_
  refine lv_istore_n (lv' := [(3, .int (nI (0))), (0, .ref b), (1, .int (nI (5 + 7 * s9))), (2, .int (nI (x.val)))]) hx hb dX6_valueAt_1 rfl hl (by decide) rfl (fun ls hl => ?_)
  refine lv_bipush (v := nI 6) hx hb dX6_valueAt_2 (by decide) ?_
  refine lv_istore (lv' := [(4, .int (nI (6))), (3, .int (nI (0))), (0, .ref b), (1, .int (nI (5 + 7 * s9))), (2, .int (nI (x.val)))]) hx hb dX6_valueAt_4 hl (by decide) rfl (fun ls hl => ?_)
  have lp6 : ∀ (n : Nat) (r : Nat) (t : ZP), r ≤ 7 → t = m_hv (r9 s9) x (7 - r) → r < n → ∀ (F_9104 : Nat → va_E) (H : Heap) (locs : List Loc), wD G L F_9104 s H locs → (∀ q, F_9104 q = F q) → ∀ ls : Array Slot, lv_has ls 5 [(0, .ref b), (1, .int (nI (5 + 7 * s9))), (2, .int (nI (x.val))), (3, .int (nI (t.val))), (4, .int (nI (r) + (-1)))] → W p l e rm_X6_valueAt s m args below meth c H locs 0 0 Q (F0 m 6 ls []) := by
    intro n
    induction n with
    | zero => intro r t h7 ht hm; exact absurd hm (Nat.not_lt_zero _)
    | succ n ih_6 =>
      intro r t h7 ht hm F_9104 H locs hw  fr_9105 ls hl
      rcases r with _ | r
      · skip
        have hl : lv_has ls 5 [(0, .ref b), (1, .int (nI (5 + 7 * s9))), (2, .int (nI (x.val))), (3, .int (nI (t.val))), (4, .int ((-1)))] := hl
        refine lv_iload hx hb dX6_valueAt_6 (lv_at hl 4 rfl) ?_
        refine lv_if_lt (tgt := 35) hx hb dX6_valueAt_8 (by decide) (fun c_8 => ?_) (fun c_8 => ?_)
        · skip
          refine lv_iload_n hx hb dX6_valueAt_35 rfl (lv_at hl 3 rfl) ?_
          exact r_i C0 hr hlk hw (v := nI (t.val)) rfl ⟨by rw [ht]; rfl, (fun q  => (fr_9105 q ))⟩ (Nat.le_refl _) (Nat.le_refl _) dX6_valueAt_36 hQ
        · skip
          exact absurd (by decide) c_8
      · skip
        have hl : lv_has ls 5 [(0, .ref b), (1, .int (nI (5 + 7 * s9))), (2, .int (nI (x.val))), (3, .int (nI (t.val))), (4, .int (nI (r)))] := (by rw [pk_m1] at hl; exact hl)
        refine lv_iload hx hb dX6_valueAt_6 (lv_at hl 4 rfl) ?_
        refine n_if_lt (tgt := 35) hx hb dX6_valueAt_8 (by decide) (by omega) ?_
        refine lv_iload_n hx hb dX6_valueAt_11 rfl (lv_at hl 3 rfl) ?_
        refine lv_iload_n hx hb dX6_valueAt_12 rfl (lv_at hl 2 rfl) ?_
        refine n_imul hx hb dX6_valueAt_13 ?_
        have m_9106 := mul2_le (a := t.val) (b := x.val) (by omega) (by omega)
        refine lv_aload_n hx hb dX6_valueAt_14 rfl (lv_at hl 0 rfl) ?_
        have f_9107 : F_9104 b = .inr (6, [.ref (ma 0), .int (mi 0), .ref (ma 1), .ref (ma 2), .ref (ma 3), .ref (ma 4), .int (mi 1), .ref (ma 5), .int (mi 2), .ref (ma 6), .int (mi 3), .int (mi 4), .long (hh)]) := (fr_9105 b ).trans fb
        refine q_get C0 hw mb f_9107 fw_X6_7 rfl dX6_valueAt_15 ?_
        refine lv_iload_n hx hb dX6_valueAt_18 rfl (lv_at hl 1 rfl) ?_
        refine lv_iload hx hb dX6_valueAt_19 (lv_at hl 4 rfl) ?_
        refine n_iadd hx hb dX6_valueAt_21 ?_
        have f_9108 : F_9104 (ma 0) = .inl (G.2 0, 89, .inl zf) := (fr_9105 (ma 0) ).trans fz
        refine q_iald C0 hw ((hma 0 (by decide))) f_9108 (5 + 7 * s9 + r) (by omega) (by decide) (v := nI ((r9 s9 r).val)) (hrw s9 r (by omega) (by omega)) dX6_valueAt_22 ?_
        have := (r9 s9 r).isLt
        refine n_iadd hx hb dX6_valueAt_23 ?_
        refine lv_sipush (v := nI 10007) hx hb dX6_valueAt_24 (by decide) ?_
        refine n_iremP hx hb (by omega) dX6_valueAt_27 ?_
        refine lv_istore_n (lv' := [(3, .int (nI ((zc (t.val * x.val + (r9 s9 r).val)).val))), (0, .ref b), (1, .int (nI (5 + 7 * s9))), (2, .int (nI (x.val))), (4, .int (nI (r)))]) hx hb dX6_valueAt_28 rfl hl (by decide) rfl (fun ls hl => ?_)
        refine lv_iinc (v := nI (r) + (-1)) (lv' := [(4, .int (nI (r) + (-1))), (3, .int (nI ((zc (t.val * x.val + (r9 s9 r).val)).val))), (0, .ref b), (1, .int (nI (5 + 7 * s9))), (2, .int (nI (x.val)))]) hx hb dX6_valueAt_29 hl (k := 4) rfl rfl (by decide) rfl (fun ls hl => ?_)
        refine lv_goto (tgt := 6) hx hb dX6_valueAt_32 (by decide) ?_
        exact ih_6 (r) (zc (t.val * x.val + (r9 s9 r).val)) ((by omega)) ((by rw [ht]; exact m_hv_s (r9 s9) x h7)) (by omega) F_9104 _ _ hw  (fun q  => (fr_9105 q )) ls (lv_sub hl [2, 3, 4, 1, 0] rfl)
  exact lp6 _ (7) (0) ((by omega)) (rfl) (Nat.lt_succ_self _) F _ _ hw  (fun q  => rfl) ls (lv_sub hl [2, 3, 4, 1, 0] rfl)
abbrev rm_X6_clashNow : Room := { frames := 5, cells := 0, slots := 0, locals := 115 }
set_option maxHeartbeats 4000000 in
set_option maxRecDepth 100000 in
theorem c_X6_clashNow (l : Launch) (G : Gl) (L : List Nat) (F : Nat → va_E) (b : Nat) (ma : Nat → Nat) (mi : Nat → Int32) (hh : Int64) (pl : Nat → Nat → ZP) (zf : Nat → Int32) (cu : Nat) (r9 : Rws) (f9 g9 : Nat) (mb : b ∈ L) (fb : F b = mO ma mi hh) (hma : ∀ i, i < 7 → ma i ∈ L) (fp : F (ma 4) = pcE G pl) (fz : F (ma 0) = .inl (G.2 0, 89, .inl zf)) (hz0 : zf 0 = nI cu) (hc : cu ≤ 6) (hc2 : 2 ≤ cu) (hf9 : f9 < 6) (hg9 : g9 < 6) (hrw : ∀ i k, i < 12 → k < 7 → zf (5 + 7 * i + k) = nI (r9 i k).val) (hR : okR r9) : CI l yX6_clashNow cX6_clashNow 3 (some .int) rm_X6_clashNow G L F [.ref b, .int (nI (f9)), .int (nI (g9))] (fun r F1 => r = lowR (m_br (r9 f9) (r9 g9) cu) ∧ (∃ P9, F1 (ma 4) = pcE G P9) ∧ ∀ q, q ≠ ma 4 → F1 q = F q) := by
  refine CG_of (by decide) (Nat.le_of_ble_eq_true rfl) rfl ?_
  intro p e s m args below meth c Q C0 hr hlk hnm hQ hw ls hl
  have hx := C0.x
  have hb := C0.b
  refine lv_aload_n hx hb dX6_clashNow_0 rfl (lv_at hl 0 rfl) ?_
  refine lv_iload_n hx hb dX6_clashNow_1 rfl (lv_at hl 1 rfl) ?_
  refine lv_iload_n hx hb dX6_clashNow_2 rfl (lv_at hl 2 rfl) ?_
  refine q_callv hw (q_runV (As := [.int (nI (f9)), .int (nI (g9))]) (c_X6_layBracket l G L F b ma mi hh pl zf cu r9 f9 g9 mb fb hma fp fz hz0 (by omega) (by omega) (by omega) (by omega) hrw) C0 hw vw_X6_123 mb fb rfl rfl rfl hl.1 rfl (Nat.le_of_ble_eq_true rfl) dX6_clashNow_3 ⟨by decide, by decide⟩ ⟨by decide, by decide⟩) rfl rfl (fun F_9109 H locs hw hp_9110 => ?_)
  obtain ⟨⟨P_9111, f_9114, r_9112, ro_9113⟩, o_9115⟩ := hp_9110
  refine lv_aload_n hx hb dX6_clashNow_6 rfl (lv_at hl 0 rfl) ?_
  refine lv_iconst (v := nI 2) hx hb dX6_clashNow_7 (by decide) ?_
  have f_9116 : F_9109 b = mO ma mi hh := (o_9115 b (ne_oa fb fp)).trans fb
  have f_9117 : F_9109 (ma 0) = .inl (G.2 0, 89, .inl zf) := (o_9115 (ma 0) (ne_aa (by decide) fz fp)).trans fz
  refine q_calli hw (q_runV (As := [.int (nI (2))]) (c_X6_lowest l G L F_9109 b ma mi hh P_9111 zf cu 2 mb f_9116 hma f_9114 f_9117 hz0 (by omega) (by omega) (by omega)) C0 hw vw_X6_100 mb f_9116 rfl rfl rfl hl.1 rfl (Nat.le_of_ble_eq_true rfl) dX6_clashNow_8 ⟨by decide, by decide⟩ ⟨by decide, by decide⟩) rfl rfl (fun r_9120 F_9118 H locs hw hp_9119 => ?_)
  obtain ⟨he_9121, o_9122⟩ := hp_9119
  rw [r_9112] at he_9121
  have he_9121 : r_9120 = m_low (fun k => decide ((m_brM (r9 f9) (r9 g9) cu) k ≠ 0)) := he_9121
  subst he_9121
  have f_9123 : F_9118 (ma 4) = pcE G P_9111 := (o_9122 (ma 4) ).trans f_9114
  exact r_i C0 hr hlk hw (v := (m_low (fun k => decide ((m_brM (r9 f9) (r9 g9) cu) k ≠ 0)))) rfl ⟨by rw [br_eq (hR f9 (by omega)).1 (hR f9 (by omega)).2 (hR g9 (by omega)).1 (hR g9 (by omega)).2 hc]; rfl, ⟨_, f_9123⟩, (fun q k0 => ((o_9122 q ).trans (o_9115 q k0)))⟩ (Nat.le_refl _) (Nat.le_refl _) dX6_clashNow_11 hQ
abbrev rm_X6_apartNow : Room := { frames := 5, cells := 0, slots := 0, locals := 116 }
set_option maxHeartbeats 4000000 in
set_option maxRecDepth 100000 in
theorem c_X6_apartNow (l : Launch) (G : Gl) (L : List Nat) (F : Nat → va_E) (b : Nat) (ma : Nat → Nat) (mi : Nat → Int32) (hh : Int64) (pl : Nat → Nat → ZP) (zf : Nat → Int32) (cu : Nat) (r9 : Rws) (f9 g9 : Nat) (mb : b ∈ L) (fb : F b = mO ma mi hh) (hma : ∀ i, i < 7 → ma i ∈ L) (fp : F (ma 4) = pcE G pl) (fz : F (ma 0) = .inl (G.2 0, 89, .inl zf)) (hz0 : zf 0 = nI cu) (hc : cu ≤ 6) (hc2 : 2 ≤ cu) (hf9 : f9 < 6) (hg9 : g9 < 6) (hrw : ∀ i k, i < 12 → k < 7 → zf (5 + 7 * i + k) = nI (r9 i k).val) : CI l yX6_apartNow cX6_apartNow 3 (some .int) rm_X6_apartNow G L F [.ref b, .int (nI (f9)), .int (nI (g9))] (fun r F1 => r = m_low (fun k => decide ((m_sub (r9 (6 + f9)) (r9 (6 + g9)) cu) k ≠ (m_sub (r9 (6 + g9)) (r9 (6 + f9)) cu) k)) ∧ (∃ P9, F1 (ma 4) = pcE G P9) ∧ ∀ q, q ≠ ma 4 → F1 q = F q) := by
  refine CG_of (by decide) (Nat.le_of_ble_eq_true rfl) rfl ?_
  intro p e s m args below meth c Q C0 hr hlk hnm hQ hw ls hl
  have hx := C0.x
  have hb := C0.b
  refine lv_aload_n hx hb dX6_apartNow_0 rfl (lv_at hl 0 rfl) ?_
  refine lv_iload_n hx hb dX6_apartNow_1 rfl (lv_at hl 2 rfl) ?_
  refine lv_iload_n hx hb dX6_apartNow_2 rfl (lv_at hl 1 rfl) ?_
  refine q_callv hw (q_runV (As := [.int (nI (g9)), .int (nI (f9))]) (c_X6_layCompose l G L F b ma mi hh pl zf cu r9 g9 f9 mb fb hma fp fz hz0 (by omega) (by omega) (by omega) (by omega) hrw) C0 hw vw_X6_156 mb fb rfl rfl rfl hl.1 rfl (Nat.le_of_ble_eq_true rfl) dX6_apartNow_3 ⟨by decide, by decide⟩ ⟨by decide, by decide⟩) rfl rfl (fun F_9124 H locs hw hp_9125 => ?_)
  obtain ⟨⟨P_9126, f_9129, r_9127, ro_9128⟩, o_9130⟩ := hp_9125
  refine lv_aload_n hx hb dX6_apartNow_6 rfl (lv_at hl 0 rfl) ?_
  refine lv_iconst (v := nI 2) hx hb dX6_apartNow_7 (by decide) ?_
  refine lv_iconst (v := nI 4) hx hb dX6_apartNow_8 (by decide) ?_
  have f_9131 : F_9124 b = mO ma mi hh := (o_9130 b (ne_oa fb fp)).trans fb
  have f_9132 : F_9124 (ma 0) = .inl (G.2 0, 89, .inl zf) := (o_9130 (ma 0) (ne_aa (by decide) fz fp)).trans fz
  refine q_callv hw (q_runV (As := [.int (nI (2)), .int (nI (4))]) (c_X6_copy l G L F_9124 b ma mi hh P_9126 zf cu 2 4 mb f_9131 hma f_9129 f_9132 hz0 (by omega) (by omega) (by omega) (by omega) (by omega)) C0 hw vw_X6_64 mb f_9131 rfl rfl rfl hl.1 rfl (Nat.le_of_ble_eq_true rfl) dX6_apartNow_9 ⟨by decide, by decide⟩ ⟨by decide, by decide⟩) rfl rfl (fun F_9133 H locs hw hp_9134 => ?_)
  obtain ⟨P_9135, eP_9135⟩ : ∃ P9, P9 = va_up P_9126 4 (P_9126 2) := ⟨_, rfl⟩
  have f_9138 : F_9133 (ma 4) = pcE G P_9135 := by rw [eP_9135]; exact hp_9134.1
  have r_9136 : P_9135 4 = m_pi (r9 (6 + g9)) (r9 (6 + f9)) cu := by rw [eP_9135, va_up_self]; rw [r_9127]
  have ro_9137 : ∀ q, q ≠ 4 → P_9135 q = P_9126 q := fun q hq => by rw [eP_9135]; exact va_up_ne _ _ hq
  refine lv_aload_n hx hb dX6_apartNow_12 rfl (lv_at hl 0 rfl) ?_
  refine lv_iload_n hx hb dX6_apartNow_13 rfl (lv_at hl 1 rfl) ?_
  refine lv_iload_n hx hb dX6_apartNow_14 rfl (lv_at hl 2 rfl) ?_
  have f_9139 : F_9133 b = mO ma mi hh := (hp_9134.2 b (ne_oa f_9131 f_9129)).trans f_9131
  have f_9140 : F_9133 (ma 0) = .inl (G.2 0, 89, .inl zf) := (hp_9134.2 (ma 0) (ne_aa (by decide) f_9132 f_9129)).trans f_9132
  refine q_callv hw (q_runV (As := [.int (nI (f9)), .int (nI (g9))]) (c_X6_layCompose l G L F_9133 b ma mi hh P_9135 zf cu r9 f9 g9 mb f_9139 hma f_9138 f_9140 hz0 (by omega) (by omega) (by omega) (by omega) hrw) C0 hw vw_X6_156 mb f_9139 rfl rfl rfl hl.1 rfl (Nat.le_of_ble_eq_true rfl) dX6_apartNow_15 ⟨by decide, by decide⟩ ⟨by decide, by decide⟩) rfl rfl (fun F_9141 H locs hw hp_9142 => ?_)
  obtain ⟨⟨P_9143, f_9146, r_9144, ro_9145⟩, o_9147⟩ := hp_9142
  refine lv_aload_n hx hb dX6_apartNow_18 rfl (lv_at hl 0 rfl) ?_
  refine lv_iconst (v := nI 2) hx hb dX6_apartNow_19 (by decide) ?_
  refine lv_iconst (v := nI 4) hx hb dX6_apartNow_20 (by decide) ?_
  have r_9148 : P_9143 4 = m_pi (r9 (6 + g9)) (r9 (6 + f9)) cu := (ro_9145 4 (by omega) (by omega) (by omega) (by omega) (by omega)).trans r_9136
  have f_9149 : F_9141 b = mO ma mi hh := (o_9147 b (ne_oa f_9139 f_9138)).trans f_9139
  have f_9150 : F_9141 (ma 0) = .inl (G.2 0, 89, .inl zf) := (o_9147 (ma 0) (ne_aa (by decide) f_9140 f_9138)).trans f_9140
  refine q_calli hw (q_runV (As := [.int (nI (2)), .int (nI (4))]) (c_X6_lowestApart l G L F_9141 b ma mi hh P_9143 zf cu 2 4 mb f_9149 hma f_9146 f_9150 hz0 (by omega) (by omega) (by omega) (by omega)) C0 hw vw_X6_214 mb f_9149 rfl rfl rfl hl.1 rfl (Nat.le_of_ble_eq_true rfl) dX6_apartNow_21 ⟨by decide, by decide⟩ ⟨by decide, by decide⟩) rfl rfl (fun r_9153 F_9151 H locs hw hp_9152 => ?_)
  obtain ⟨he_9154, o_9155⟩ := hp_9152
  rw [r_9144, r_9148] at he_9154
  have he_9154 : r_9153 = m_low (fun k => decide ((m_pi (r9 (6 + f9)) (r9 (6 + g9)) cu) k ≠ (m_pi (r9 (6 + g9)) (r9 (6 + f9)) cu) k)) := he_9154
  subst he_9154
  have f_9156 : F_9151 (ma 4) = pcE G P_9143 := (o_9155 (ma 4) ).trans f_9146
  exact r_i C0 hr hlk hw (v := (m_low (fun k => decide ((m_pi (r9 (6 + f9)) (r9 (6 + g9)) cu) k ≠ (m_pi (r9 (6 + g9)) (r9 (6 + f9)) cu) k)))) rfl ⟨by rw [pi_eq, pi_eq], ⟨_, f_9156⟩, (fun q k0 => ((o_9155 q ).trans ((o_9147 q k0).trans ((hp_9134.2 q k0).trans (o_9130 q k0)))))⟩ (Nat.le_refl _) (Nat.le_refl _) dX6_apartNow_24 hQ
theorem low_sy (u v : Nat → ZP) : m_low (fun k => decide (u k ≠ v k)) = m_low (fun k => decide (v k ≠ u k)) := by
  congr 1
  funext k
  exact decide_eq_decide.mpr ⟨Ne.symm, Ne.symm⟩
abbrev rm_X6_differsNow : Room := { frames := 6, cells := 0, slots := 0, locals := 138 }
set_option maxHeartbeats 4000000 in
set_option maxRecDepth 100000 in
theorem c_X6_differsNow (l : Launch) (G : Gl) (L : List Nat) (F : Nat → va_E) (b : Nat) (ma : Nat → Nat) (mi : Nat → Int32) (hh : Int64) (pl : Nat → Nat → ZP) (zf : Nat → Int32) (cu : Nat) (r9 : Rws) (f9 g9 y9 : Nat) (mb : b ∈ L) (fb : F b = mO ma mi hh) (hma : ∀ i, i < 7 → ma i ∈ L) (fp : F (ma 4) = pcE G pl) (fz : F (ma 0) = .inl (G.2 0, 89, .inl zf)) (hz0 : zf 0 = nI cu) (hc : cu ≤ 6) (hc2 : 2 ≤ cu) (hf9 : f9 < 6) (hg9 : g9 < 6) (hy1 : 2 ≤ y9) (hy2 : y9 ≤ 5) (hrw : ∀ i k, i < 12 → k < 7 → zf (5 + 7 * i + k) = nI (r9 i k).val) (hR : okR r9) : CI l yX6_differsNow cX6_differsNow 4 (some .int) rm_X6_differsNow G L F [.ref b, .int (nI (f9)), .int (nI (g9)), .int (nI (y9))] (fun r F1 => r = m_low (fun k => decide ((m_way (r9 f9) (r9 g9) y9 cu) k ≠ (m_cf (r9 f9) (r9 g9) cu) k)) ∧ (∃ P9, F1 (ma 4) = pcE G P9) ∧ ∀ q, q ≠ ma 4 → F1 q = F q) := by
  refine CG_of (by decide) (Nat.le_of_ble_eq_true rfl) rfl ?_
  intro p e s m args below meth c Q C0 hr hlk hnm hQ hw ls hl
  have hx := C0.x
  have hb := C0.b
  refine lv_aload_n hx hb dX6_differsNow_0 rfl (lv_at hl 0 rfl) ?_
  refine lv_iload_n hx hb dX6_differsNow_1 rfl (lv_at hl 1 rfl) ?_
  refine lv_iload_n hx hb dX6_differsNow_2 rfl (lv_at hl 2 rfl) ?_
  refine lv_iload_n hx hb dX6_differsNow_3 rfl (lv_at hl 3 rfl) ?_
  refine q_callv hw (q_runV (As := [.int (nI (f9)), .int (nI (g9)), .int (nI (y9))]) (c_X6_layWay l G L F b ma mi hh pl zf cu r9 f9 g9 y9 mb fb hma fp fz hz0 (by omega) (by omega) (by omega) (by omega) (by omega) (by omega) hrw) C0 hw vw_X6_135 mb fb rfl rfl rfl hl.1 rfl (Nat.le_of_ble_eq_true rfl) dX6_differsNow_4 ⟨by decide, by decide⟩ ⟨by decide, by decide⟩) rfl rfl (fun F_9157 H locs hw hp_9158 => ?_)
  obtain ⟨⟨P_9159, f_9162, r_9160, r_9164, r_9165, ro_9161⟩, o_9163⟩ := hp_9158
  refine lv_aload_n hx hb dX6_differsNow_7 rfl (lv_at hl 0 rfl) ?_
  refine lv_iconst (v := nI 2) hx hb dX6_differsNow_8 (by decide) ?_
  refine lv_bipush (v := nI 15) hx hb dX6_differsNow_9 (by decide) ?_
  have f_9166 : F_9157 b = mO ma mi hh := (o_9163 b (ne_oa fb fp)).trans fb
  have f_9167 : F_9157 (ma 0) = .inl (G.2 0, 89, .inl zf) := (o_9163 (ma 0) (ne_aa (by decide) fz fp)).trans fz
  refine q_callv hw (q_runV (As := [.int (nI (2)), .int (nI (15))]) (c_X6_copy l G L F_9157 b ma mi hh P_9159 zf cu 2 15 mb f_9166 hma f_9162 f_9167 hz0 (by omega) (by omega) (by omega) (by omega) (by omega)) C0 hw vw_X6_64 mb f_9166 rfl rfl rfl hl.1 rfl (Nat.le_of_ble_eq_true rfl) dX6_differsNow_11 ⟨by decide, by decide⟩ ⟨by decide, by decide⟩) rfl rfl (fun F_9168 H locs hw hp_9169 => ?_)
  obtain ⟨P_9170, eP_9170⟩ : ∃ P9, P9 = va_up P_9159 15 (P_9159 2) := ⟨_, rfl⟩
  have f_9173 : F_9168 (ma 4) = pcE G P_9170 := by rw [eP_9170]; exact hp_9169.1
  have r_9171 : P_9170 15 = m_wayM (r9 f9) (r9 g9) y9 cu := by rw [eP_9170, va_up_self]; rw [r_9160]
  have ro_9172 : ∀ q, q ≠ 15 → P_9170 q = P_9159 q := fun q hq => by rw [eP_9170]; exact va_up_ne _ _ hq
  refine lv_aload_n hx hb dX6_differsNow_14 rfl (lv_at hl 0 rfl) ?_
  refine lv_iconst (v := nI 0) hx hb dX6_differsNow_15 (by decide) ?_
  refine lv_iconst (v := nI 3) hx hb dX6_differsNow_16 (by decide) ?_
  have r_9174 : P_9170 0 = r9 f9 := (ro_9172 0 (by omega)).trans r_9164
  have f_9175 : F_9168 b = mO ma mi hh := (hp_9169.2 b (ne_oa f_9166 f_9162)).trans f_9166
  have f_9176 : F_9168 (ma 0) = .inl (G.2 0, 89, .inl zf) := (hp_9169.2 (ma 0) (ne_aa (by decide) f_9167 f_9162)).trans f_9167
  refine q_callv hw (q_runV (As := [.int (nI (0)), .int (nI (3))]) (c_X6_expTo l G L F_9168 b ma mi hh P_9170 zf cu 0 3 mb f_9175 hma f_9173 f_9176 hz0 (by omega) (by omega) (by omega) (by omega) (by omega)) C0 hw vw_X6_81 mb f_9175 rfl rfl rfl hl.1 rfl (Nat.le_of_ble_eq_true rfl) dX6_differsNow_17 ⟨by decide, by decide⟩ ⟨by decide, by decide⟩) rfl rfl (fun F_9177 H locs hw hp_9178 => ?_)
  obtain ⟨⟨P_9179, f_9182, r_9180, ro_9181⟩, o_9183⟩ := hp_9178
  rw [r_9174] at r_9180
  have r_9184 : P_9170 2 = m_wayM (r9 f9) (r9 g9) y9 cu := (ro_9172 2 (by omega)).trans r_9160
  have r_9185 : P_9170 1 = r9 g9 := (ro_9172 1 (by omega)).trans r_9165
  refine lv_aload_n hx hb dX6_differsNow_20 rfl (lv_at hl 0 rfl) ?_
  refine lv_iconst (v := nI 1) hx hb dX6_differsNow_21 (by decide) ?_
  refine lv_iconst (v := nI 4) hx hb dX6_differsNow_22 (by decide) ?_
  have r_9186 : P_9179 1 = r9 g9 := (ro_9181 1 (by omega) (by omega) (by omega) (by omega)).trans r_9185
  have f_9187 : F_9177 b = mO ma mi hh := (o_9183 b (ne_oa f_9175 f_9173)).trans f_9175
  have f_9188 : F_9177 (ma 0) = .inl (G.2 0, 89, .inl zf) := (o_9183 (ma 0) (ne_aa (by decide) f_9176 f_9173)).trans f_9176
  refine q_callv hw (q_runV (As := [.int (nI (1)), .int (nI (4))]) (c_X6_expTo l G L F_9177 b ma mi hh P_9179 zf cu 1 4 mb f_9187 hma f_9182 f_9188 hz0 (by omega) (by omega) (by omega) (by omega) (by omega)) C0 hw vw_X6_81 mb f_9187 rfl rfl rfl hl.1 rfl (Nat.le_of_ble_eq_true rfl) dX6_differsNow_23 ⟨by decide, by decide⟩ ⟨by decide, by decide⟩) rfl rfl (fun F_9189 H locs hw hp_9190 => ?_)
  obtain ⟨⟨P_9191, f_9194, r_9192, ro_9193⟩, o_9195⟩ := hp_9190
  rw [r_9186] at r_9192
  have r_9196 : P_9179 2 = m_wayM (r9 f9) (r9 g9) y9 cu := (ro_9181 2 (by omega) (by omega) (by omega) (by omega)).trans r_9184
  have r_9197 : P_9179 0 = r9 f9 := (ro_9181 0 (by omega) (by omega) (by omega) (by omega)).trans r_9174
  have r_9198 : P_9179 15 = m_wayM (r9 f9) (r9 g9) y9 cu := (ro_9181 15 (by omega) (by omega) (by omega) (by omega)).trans r_9171
  refine lv_aload_n hx hb dX6_differsNow_26 rfl (lv_at hl 0 rfl) ?_
  refine lv_iconst (v := nI 3) hx hb dX6_differsNow_27 (by decide) ?_
  refine lv_iconst (v := nI 4) hx hb dX6_differsNow_28 (by decide) ?_
  refine lv_iconst (v := nI 2) hx hb dX6_differsNow_29 (by decide) ?_
  have r_9199 : P_9191 3 = m_expM (r9 f9) cu := (ro_9193 3 (by omega) (by omega) (by omega) (by omega)).trans r_9180
  have f_9200 : F_9189 b = mO ma mi hh := (o_9195 b (ne_oa f_9187 f_9182)).trans f_9187
  have f_9201 : F_9189 (ma 0) = .inl (G.2 0, 89, .inl zf) := (o_9195 (ma 0) (ne_aa (by decide) f_9188 f_9182)).trans f_9188
  refine q_callv hw (q_runV (As := [.int (nI (3)), .int (nI (4)), .int (nI (2))]) (c_X6_putIn l G L F_9189 b ma mi hh P_9191 zf cu 3 4 2 mb f_9200 hma f_9194 f_9201 hz0 (by omega) (by omega) (by omega) (by omega) (by omega) (by omega) (by omega)) C0 hw vw_X6_71 mb f_9200 rfl rfl rfl hl.1 rfl (Nat.le_of_ble_eq_true rfl) dX6_differsNow_30 ⟨by decide, by decide⟩ ⟨by decide, by decide⟩) rfl rfl (fun F_9202 H locs hw hp_9203 => ?_)
  obtain ⟨⟨P_9204, f_9207, r_9205, ro_9206⟩, o_9208⟩ := hp_9203
  rw [r_9199, r_9192] at r_9205
  have r_9209 : P_9191 0 = r9 f9 := (ro_9193 0 (by omega) (by omega) (by omega) (by omega)).trans r_9197
  have r_9210 : P_9191 1 = r9 g9 := (ro_9193 1 (by omega) (by omega) (by omega) (by omega)).trans r_9186
  have r_9211 : P_9191 15 = m_wayM (r9 f9) (r9 g9) y9 cu := (ro_9193 15 (by omega) (by omega) (by omega) (by omega)).trans r_9198
  refine lv_aload_n hx hb dX6_differsNow_33 rfl (lv_at hl 0 rfl) ?_
  refine lv_iconst (v := nI 2) hx hb dX6_differsNow_34 (by decide) ?_
  refine lv_iconst (v := nI 3) hx hb dX6_differsNow_35 (by decide) ?_
  have f_9212 : F_9202 b = mO ma mi hh := (o_9208 b (ne_oa f_9200 f_9194)).trans f_9200
  have f_9213 : F_9202 (ma 0) = .inl (G.2 0, 89, .inl zf) := (o_9208 (ma 0) (ne_aa (by decide) f_9201 f_9194)).trans f_9201
  refine q_callv hw (q_runV (As := [.int (nI (2)), .int (nI (3))]) (c_X6_logTo l G L F_9202 b ma mi hh P_9204 zf cu 2 3 mb f_9212 hma f_9207 f_9213 hz0 (by omega) (by omega) (by omega) (by omega) (by omega)) C0 hw vw_X6_147 mb f_9212 rfl rfl rfl hl.1 rfl (Nat.le_of_ble_eq_true rfl) dX6_differsNow_36 ⟨by decide, by decide⟩ ⟨by decide, by decide⟩) rfl rfl (fun F_9214 H locs hw hp_9215 => ?_)
  obtain ⟨⟨P_9216, f_9219, r_9217, ro_9218⟩, o_9220⟩ := hp_9215
  rw [r_9205] at r_9217
  have r_9221 : P_9204 0 = r9 f9 := (ro_9206 0 (by omega) (by omega) (by omega)).trans r_9209
  have r_9222 : P_9204 1 = r9 g9 := (ro_9206 1 (by omega) (by omega) (by omega)).trans r_9210
  have r_9223 : P_9204 15 = m_wayM (r9 f9) (r9 g9) y9 cu := (ro_9206 15 (by omega) (by omega) (by omega)).trans r_9211
  have r_9224 : P_9204 4 = m_expM (r9 g9) cu := (ro_9206 4 (by omega) (by omega) (by omega)).trans r_9192
  refine lv_aload_n hx hb dX6_differsNow_39 rfl (lv_at hl 0 rfl) ?_
  refine lv_iconst (v := nI 3) hx hb dX6_differsNow_40 (by decide) ?_
  refine lv_bipush (v := nI 15) hx hb dX6_differsNow_41 (by decide) ?_
  have r_9225 : P_9216 15 = m_wayM (r9 f9) (r9 g9) y9 cu := (ro_9218 15 (by omega) (by omega) (by omega) (by omega) (by omega)).trans r_9223
  have f_9226 : F_9214 b = mO ma mi hh := (o_9220 b (ne_oa f_9212 f_9207)).trans f_9212
  have f_9227 : F_9214 (ma 0) = .inl (G.2 0, 89, .inl zf) := (o_9220 (ma 0) (ne_aa (by decide) f_9213 f_9207)).trans f_9213
  refine q_calli hw (q_runV (As := [.int (nI (3)), .int (nI (15))]) (c_X6_lowestApart l G L F_9214 b ma mi hh P_9216 zf cu 3 15 mb f_9226 hma f_9219 f_9227 hz0 (by omega) (by omega) (by omega) (by omega)) C0 hw vw_X6_214 mb f_9226 rfl rfl rfl hl.1 rfl (Nat.le_of_ble_eq_true rfl) dX6_differsNow_43 ⟨by decide, by decide⟩ ⟨by decide, by decide⟩) rfl rfl (fun r_9230 F_9228 H locs hw hp_9229 => ?_)
  obtain ⟨he_9231, o_9232⟩ := hp_9229
  rw [r_9217, r_9225] at he_9231
  have he_9231 : r_9230 = m_low (fun k => decide ((m_logM (m_pi (m_expM (r9 f9) cu) (m_expM (r9 g9) cu) cu) cu) k ≠ (m_wayM (r9 f9) (r9 g9) y9 cu) k)) := he_9231
  subst he_9231
  have f_9233 : F_9228 (ma 4) = pcE G P_9216 := (o_9232 (ma 4) ).trans f_9219
  exact r_i C0 hr hlk hw (v := (m_low (fun k => decide ((m_logM (m_pi (m_expM (r9 f9) cu) (m_expM (r9 g9) cu) cu) cu) k ≠ (m_wayM (r9 f9) (r9 g9) y9 cu) k)))) rfl ⟨by rw [way_eq (hR f9 (by omega)).1 (hR f9 (by omega)).2 (hR g9 (by omega)).1 (hR g9 (by omega)).2 hc, cf_eq (hR f9 (by omega)).1 (hR f9 (by omega)).2 (hR g9 (by omega)).1 (hR g9 (by omega)).2 (by omega) hc, low_sy], ⟨_, f_9233⟩, (fun q k0 => ((o_9232 q ).trans ((o_9220 q k0).trans ((o_9208 q k0).trans ((o_9195 q k0).trans ((o_9183 q k0).trans ((hp_9169.2 q k0).trans (o_9163 q k0))))))))⟩ (Nat.le_refl _) (Nat.le_refl _) dX6_differsNow_46 hQ
