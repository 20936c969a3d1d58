theorem c_X6_flowAt2 (l : Launch) (G : Gl) (L : List Nat) (F : Nat → va_E) (s9 : Nat) (hs9 : s9 < 100) : CI l yX6_flowAt cX6_flowAt 1 (some .int) rm_X6_flowAt G L F [.int (nI (s9))] (fun r F1 => r = nI (5 + 7 * (6 + s9)) ∧ ∀ q, F1 q = F q) := CI_imp (fun r F1 h => ⟨h.1.trans (congrArg nI (by omega)), h.2⟩) (c_X6_flowAt l G L F s9 hs9)
abbrev rm_X6_refused : Room := { frames := 1, cells := 0, slots := 0, locals := 21 }
set_option maxHeartbeats 4000000 in
set_option maxRecDepth 100000 in
theorem c_X6_refused_1 (l : Launch) (G : Gl) (L : List Nat) (F : Nat → va_E) (b : Nat) (ma : Nat → Nat) (mi : Nat → Int32) (hh : Int64) (zf : Nat → Int32) (mb : b ∈ L) (fb : F b = mO ma mi hh) (hma : ∀ i, i < 7 → ma i ∈ L) (fz : F (ma 0) = .inl (G.2 0, 89, .inl zf)) (x9 : Int32) : CI l yX6_refused cX6_refused 3 (some .int) rm_X6_refused G L F [.ref b, .int (nI (0)), .int (x9)] (fun r F1 => r = nI 1 ∧ ∀ q, F1 q = F q) := by
  refine CG_of (by decide) (Nat.le_of_ble_eq_true rfl) rfl ?_
  intro p e s m args below meth c Q C0 hr hlk hnm hQ hw ls hl
  have hx := C0.x
  have hb := C0.b
  refine lv_iload_n hx hb dX6_refused_0 rfl (lv_at hl 1 rfl) ?_
  refine n_if_ne (tgt := 8) hx hb dX6_refused_1 (by decide) (by decide) (fun c_1 => ?_) (fun c_1 => ?_)
  · skip
    exact absurd c_1 (by omega)
  · skip
    refine lv_iconst (v := nI 1) hx hb dX6_refused_4 (by decide) ?_
    refine lv_goto (tgt := 21) hx hb dX6_refused_5 (by decide) ?_
    exact r_i C0 hr hlk hw (v := nI 1) rfl ⟨rfl, (fun q  => rfl)⟩ (Nat.le_refl _) (Nat.le_refl _) dX6_refused_21 hQ
set_option maxHeartbeats 4000000 in
set_option maxRecDepth 100000 in
theorem c_X6_refused_2 (l : Launch) (G : Gl) (L : List Nat) (F : Nat → va_E) (b : Nat) (ma : Nat → Nat) (mi : Nat → Int32) (hh : Int64) (zf : Nat → Int32) (un cu pu : Nat) (mb : b ∈ L) (fb : F b = mO ma mi hh) (hma : ∀ i, i < 7 → ma i ∈ L) (fz : F (ma 0) = .inl (G.2 0, 89, .inl zf)) (hz0 : zf 0 = nI cu) (hz1 : zf 1 = nI pu) (hcu : cu ≤ 6) (hun : un ≤ 100) (hpu : pu ≤ 100000) (hm : ¬ cu * un ≤ pu) : CI l yX6_refused cX6_refused 3 (some .int) rm_X6_refused G L F [.ref b, .int (nI (1)), .int (nI (un))] (fun r F1 => r = nI 2 ∧ ∀ q, F1 q = F q) := by
  refine CG_of (by decide) (Nat.le_of_ble_eq_true rfl) rfl ?_
  intro p e s m args below meth c Q C0 hr hlk hnm hQ hw ls hl
  have hx := C0.x
  have hb := C0.b
  refine lv_iload_n hx hb dX6_refused_0 rfl (lv_at hl 1 rfl) ?_
  refine n_if_ne (tgt := 8) hx hb dX6_refused_1 (by decide) (by decide) (fun c_1 => ?_) (fun c_1 => ?_)
  · skip
    refine lv_aload_n hx hb dX6_refused_8 rfl (lv_at hl 0 rfl) ?_
    refine lv_iload_n hx hb dX6_refused_9 rfl (lv_at hl 2 rfl) ?_
    refine q_calli hw (q_runV (As := [.int (nI (un))]) (c_X6_canPay l G L F b ma mi hh zf un cu pu mb fb hma fz hz0 hz1 hcu (by omega) hpu (by have := Nat.mul_le_mul hcu hun; omega)) C0 hw vw_X6_106 mb fb rfl rfl rfl hl.1 rfl (Nat.le_of_ble_eq_true rfl) dX6_refused_10 ⟨by decide, by decide⟩ ⟨by decide, by decide⟩) rfl rfl (fun r_5287 F_5285 H locs hw hp_5286 => ?_)
    obtain ⟨he_5288, o_5289⟩ := hp_5286
    rw [if_neg hm] at he_5288
    subst he_5288
    refine n_if_eq (tgt := 20) hx hb dX6_refused_13 (by decide) (by decide) (fun c_13 => ?_) (fun c_13 => ?_)
    · skip
      refine lv_iconst (v := nI 2) hx hb dX6_refused_20 (by decide) ?_
      exact r_i C0 hr hlk hw (v := nI 2) rfl ⟨rfl, (fun q  => (o_5289 q ))⟩ (Nat.le_refl _) (Nat.le_refl _) dX6_refused_21 hQ
    · skip
      exact absurd c_13 (by omega)
  · skip
    exact absurd c_1 (by omega)
set_option maxHeartbeats 4000000 in
set_option maxRecDepth 100000 in
theorem c_X6_refused (l : Launch) (G : Gl) (L : List Nat) (F : Nat → va_E) (b : Nat) (ma : Nat → Nat) (mi : Nat → Int32) (hh : Int64) (zf : Nat → Int32) (un cu pu : Nat) (mb : b ∈ L) (fb : F b = mO ma mi hh) (hma : ∀ i, i < 7 → ma i ∈ L) (fz : F (ma 0) = .inl (G.2 0, 89, .inl zf)) (hz0 : zf 0 = nI cu) (hz1 : zf 1 = nI pu) (hcu : cu ≤ 6) (hun : un ≤ 100) (hpu : pu ≤ 100000) (hm : cu * un ≤ pu) : CI l yX6_refused cX6_refused 3 (some .int) rm_X6_refused G L F [.ref b, .int (nI (1)), .int (nI (un))] (fun r F1 => r = nI 0 ∧ ∀ q, F1 q = F q) := by
  refine CG_of (by decide) (Nat.le_of_ble_eq_true rfl) rfl ?_
  intro p e s m args below meth c Q C0 hr hlk hnm hQ hw ls hl
  have hx := C0.x
  have hb := C0.b
  refine lv_iload_n hx hb dX6_refused_0 rfl (lv_at hl 1 rfl) ?_
  refine n_if_ne (tgt := 8) hx hb dX6_refused_1 (by decide) (by decide) (fun c_1 => ?_) (fun c_1 => ?_)
  · skip
    refine lv_aload_n hx hb dX6_refused_8 rfl (lv_at hl 0 rfl) ?_
    refine lv_iload_n hx hb dX6_refused_9 rfl (lv_at hl 2 rfl) ?_
    refine q_calli hw (q_runV (As := [.int (nI (un))]) (c_X6_canPay l G L F b ma mi hh zf un cu pu mb fb hma fz hz0 hz1 hcu (by omega) hpu (by have := Nat.mul_le_mul hcu hun; omega)) C0 hw vw_X6_106 mb fb rfl rfl rfl hl.1 rfl (Nat.le_of_ble_eq_true rfl) dX6_refused_10 ⟨by decide, by decide⟩ ⟨by decide, by decide⟩) rfl rfl (fun r_5292 F_5290 H locs hw hp_5291 => ?_)
    obtain ⟨he_5293, o_5294⟩ := hp_5291
    rw [if_pos hm] at he_5293
    subst he_5293
    refine n_if_eq (tgt := 20) hx hb dX6_refused_13 (by decide) (by decide) (fun c_13 => ?_) (fun c_13 => ?_)
    · skip
      exact absurd c_13 (by omega)
    · skip
      refine lv_iconst (v := nI 0) hx hb dX6_refused_16 (by decide) ?_
      refine lv_goto (tgt := 21) hx hb dX6_refused_17 (by decide) ?_
      exact r_i C0 hr hlk hw (v := nI 0) rfl ⟨rfl, (fun q  => (o_5294 q ))⟩ (Nat.le_refl _) (Nat.le_refl _) dX6_refused_21 hQ
  · skip
    exact absurd c_1 (by omega)
abbrev rm_X6_pays : Room := { frames := 2, cells := 0, slots := 0, locals := 44 }
set_option maxHeartbeats 4000000 in
set_option maxRecDepth 100000 in
theorem c_X6_pays (l : Launch) (G : Gl) (L : List Nat) (F : Nat → va_E) (b : Nat) (ma : Nat → Nat) (mi : Nat → Int32) (hh : Int64) (pl : Nat → Nat → ZP) (zf : Nat → Int32) (cu : Nat) (un pp pu pd dn : Nat) (mb : b ∈ L) (fb : F b = mO ma mi hh) (hma : ∀ i, i < 7 → ma i ∈ L) (fp : F (ma 4) = pcE G pl) (fz : F (ma 0) = .inl (G.2 0, 89, .inl zf)) (hz0 : zf 0 = nI cu) (hc : cu ≤ 6) (hc2 : 2 ≤ cu) (hz1 : zf 1 = nI pu) (hz2 : zf 2 = nI pd) (hz3 : zf 3 = nI dn) (hpp : 5 ≤ pp) (hp7 : pp + 7 ≤ 89) (hm : cu * un ≤ pu) : CI l yX6_pays cX6_pays 4 (some .int) rm_X6_pays G L F [.ref b, .int (nI (un)), .int (nI (pp))] (fun r F1 => r = lowR (pl 2) ∧ F1 (ma 0) = .inl (G.2 0, 89, .inl (pyM zf (pu - cu * un) (pd + cu * un) (dn + 1) pp (pl 2) 7)) ∧ ∀ q, q ≠ ma 0 → F1 q = F q) := by
  refine CG_of (by decide) (Nat.le_of_ble_eq_true rfl) rfl ?_
  intro p e s m args below meth c Q C0 hr hlk hnm hQ hw ls hl
  have hx := C0.x
  have hb := C0.b
  refine lv_aload_n hx hb dX6_pays_0 rfl (lv_at hl 0 rfl) ?_
  refine q_get C0 hw mb fb fw_X6_7 rfl dX6_pays_1 ?_
  refine lv_iconst (v := nI 1) hx hb dX6_pays_4 (by decide) ?_
  refine lv_dup2_11 hx hb dX6_pays_5 rfl rfl ?_
  refine q_iald C0 hw ((hma 0 (by decide))) fz (1) (by omega) (by decide) (v := nI (pu)) hz1 dX6_pays_6 ?_
  refine lv_aload_n hx hb dX6_pays_7 rfl (lv_at hl 0 rfl) ?_
  refine q_get C0 hw mb fb fw_X6_7 rfl dX6_pays_8 ?_
  refine lv_iconst (v := nI 0) hx hb dX6_pays_11 (by decide) ?_
  refine q_iald C0 hw ((hma 0 (by decide))) fz (0) (by omega) (by decide) (v := nI (cu)) hz0 dX6_pays_12 ?_
  refine lv_iload_n hx hb dX6_pays_13 rfl (lv_at hl 1 rfl) ?_
  refine n_imul hx hb dX6_pays_14 ?_
  refine n_isub hx hb (by omega) dX6_pays_15 ?_
  refine q_iast C0 hw ((hma 0 (by decide))) fz (1) (by omega) (by decide) dX6_pays_16 (fun F_5295 H locs hw f_5296 o_5297 => ?_)
  refine lv_aload_n hx hb dX6_pays_17 rfl (lv_at hl 0 rfl) ?_
  have f_5298 : F_5295 b = mO ma mi hh := (o_5297 b (ne_oa fb fz)).trans fb
  refine q_get C0 hw mb f_5298 fw_X6_7 rfl dX6_pays_18 ?_
  refine lv_iconst (v := nI 2) hx hb dX6_pays_21 (by decide) ?_
  refine lv_dup2_11 hx hb dX6_pays_22 rfl rfl ?_
  refine q_iald C0 hw ((hma 0 (by decide))) f_5296 (2) (by omega) (by decide) (v := nI (pd)) hz2 dX6_pays_23 ?_
  refine lv_aload_n hx hb dX6_pays_24 rfl (lv_at hl 0 rfl) ?_
  refine q_get C0 hw mb f_5298 fw_X6_7 rfl dX6_pays_25 ?_
  refine lv_iconst (v := nI 0) hx hb dX6_pays_28 (by decide) ?_
  refine q_iald C0 hw ((hma 0 (by decide))) f_5296 (0) (by omega) (by decide) (v := nI (cu)) hz0 dX6_pays_29 ?_
  refine lv_iload_n hx hb dX6_pays_30 rfl (lv_at hl 1 rfl) ?_
  refine n_imul hx hb dX6_pays_31 ?_
  refine n_iadd hx hb dX6_pays_32 ?_
  refine q_iast C0 hw ((hma 0 (by decide))) f_5296 (2) (by omega) (by decide) dX6_pays_33 (fun F_5299 H locs hw f_5300 o_5301 => ?_)
  refine lv_aload_n hx hb dX6_pays_34 rfl (lv_at hl 0 rfl) ?_
  have f_5302 : F_5299 b = mO ma mi hh := (o_5301 b (ne_oa f_5298 f_5296)).trans f_5298
  refine q_get C0 hw mb f_5302 fw_X6_7 rfl dX6_pays_35 ?_
  refine lv_iconst (v := nI 3) hx hb dX6_pays_38 (by decide) ?_
  refine lv_dup2_11 hx hb dX6_pays_39 rfl rfl ?_
  refine q_iald C0 hw ((hma 0 (by decide))) f_5300 (3) (by omega) (by decide) (v := nI (dn)) hz3 dX6_pays_40 ?_
  refine lv_iconst (v := nI 1) hx hb dX6_pays_41 (by decide) ?_
  refine n_iadd hx hb dX6_pays_42 ?_
  refine q_iast C0 hw ((hma 0 (by decide))) f_5300 (3) (by omega) (by decide) dX6_pays_43 (fun F_5303 H locs hw f_5304 o_5305 => ?_)
  refine lv_iconst (v := nI 0) hx hb dX6_pays_44 (by decide) ?_
  refine lv_istore_n (lv' := [(3, .int (nI (0))), (0, .ref b), (1, .int (nI (un))), (2, .int (nI (pp)))]) hx hb dX6_pays_45 rfl hl (by decide) rfl (fun ls hl => ?_)
  have lp46 : ∀ (n : Nat) (k9 : Nat), 0 ≤ k9 → k9 ≤ 7 → 7 + 1 - k9 < n → ∀ (F_5306 : Nat → va_E) (H : Heap) (locs : List Loc), wD G L F_5306 s H locs → F_5306 (ma 0) = .inl (G.2 0, 89, .inl ((pyM zf (pu - cu * un) (pd + cu * un) (dn + 1) pp (pl 2) k9))) → (∀ q, q ≠ (ma 0) → F_5306 q = F q) → ∀ ls : Array Slot, lv_has ls 4 [(0, .ref b), (1, .int (nI (un))), (2, .int (nI (pp))), (3, .int (nI (k9)))] → W p l e rm_X6_pays s m args below meth c H locs 0 0 Q (F0 m 46 ls []) := by
    intro n
    induction n with
    | zero => intro k9 hlo hhi hm; exact absurd hm (Nat.not_lt_zero _)
    | succ n ih_46 =>
      intro k9 hlo hhi hm F_5306 H locs hw f_5307 fr_5308 ls hl
      have hzp : (pyM zf (pu - cu * un) (pd + cu * un) (dn + 1) pp (pl 2) k9) 0 = nI cu := (pyM_c _ _ _ _ _ _ _ hpp).trans hz0
      refine lv_iload_n hx hb dX6_pays_46 rfl (lv_at hl 3 rfl) ?_
      refine lv_bipush (v := nI 7) hx hb dX6_pays_47 (by decide) ?_
      refine n_icmp_ge (tgt := 72) hx hb dX6_pays_49 (by decide) (by omega) (by decide) (fun c_49 => ?_) (fun c_49 => ?_)
      · skip
        obtain rfl : k9 = 7 := by omega
        have hzq : (pyM zf (pu - cu * un) (pd + cu * un) (dn + 1) pp (pl 2) 7) 0 = nI cu := (pyM_c _ _ _ _ _ _ _ hpp).trans hz0
        refine lv_aload_n hx hb dX6_pays_72 rfl (lv_at hl 0 rfl) ?_
        refine lv_iconst (v := nI 2) hx hb dX6_pays_73 (by decide) ?_
        have f_5309 : F_5306 b = .inr (6, [.ref (ma 0), .int (mi 0), .ref (ma 1), .ref (ma 2), .ref (ma 3), .ref (ma 4), .int (mi 1), .ref (ma 5), .int (mi 2), .ref (ma 6), .int (mi 3), .int (mi 4), .long (hh)]) := (fr_5308 b (ne_oa fb fz)).trans fb
        have f_5310 : F_5306 (ma 4) = pcE G pl := (fr_5308 (ma 4) (ne_aa (by decide) fp fz)).trans fp
        refine q_calli hw (q_runV (As := [.int (nI (2))]) (c_X6_lowest l G L F_5306 b ma mi hh pl ((pyM zf (pu - cu * un) (pd + cu * un) (dn + 1) pp (pl 2) 7)) cu 2 mb f_5309 hma f_5310 f_5307 hzq (by omega) (by omega) (by omega)) C0 hw vw_X6_100 mb f_5309 rfl rfl rfl hl.1 rfl (Nat.le_of_ble_eq_true rfl) dX6_pays_74 ⟨by decide, by decide⟩ ⟨by decide, by decide⟩) rfl rfl (fun r_5313 F_5311 H locs hw hp_5312 => ?_)
        obtain ⟨he_5314, o_5315⟩ := hp_5312
        have he_5314 : r_5313 = m_low (fun k => decide ((pl 2) k ≠ 0)) := he_5314
        subst he_5314
        have f_5316 : F_5311 (ma 0) = .inl (G.2 0, 89, .inl ((pyM zf (pu - cu * un) (pd + cu * un) (dn + 1) pp (pl 2) 7))) := (o_5315 (ma 0) ).trans f_5307
        exact r_i C0 hr hlk hw (v := (m_low (fun k => decide ((pl 2) k ≠ 0)))) rfl ⟨rfl, f_5316, (fun q k0 => ((o_5315 q ).trans (fr_5308 q k0)))⟩ (Nat.le_refl _) (Nat.le_refl _) dX6_pays_77 hQ
      · skip
        refine lv_aload_n hx hb dX6_pays_52 rfl (lv_at hl 0 rfl) ?_
        have f_5317 : F_5306 b = mO ma mi hh := (fr_5308 b (ne_oa fb fz)).trans fb
        refine q_get C0 hw mb f_5317 fw_X6_7 rfl dX6_pays_53 ?_
        refine lv_iload_n hx hb dX6_pays_56 rfl (lv_at hl 2 rfl) ?_
        refine lv_iload_n hx hb dX6_pays_57 rfl (lv_at hl 3 rfl) ?_
        refine n_iadd hx hb dX6_pays_58 ?_
        refine lv_aload_n hx hb dX6_pays_59 rfl (lv_at hl 0 rfl) ?_
        refine lv_iconst (v := nI 2) hx hb dX6_pays_60 (by decide) ?_
        refine lv_iload_n hx hb dX6_pays_61 rfl (lv_at hl 3 rfl) ?_
        have f_5318 : F_5306 (ma 4) = pcE G pl := (fr_5308 (ma 4) (ne_aa (by decide) fp fz)).trans fp
        refine q_calli hw (q_runV (As := [.int (nI (2)), .int (nI (k9))]) (c_X6_at l G L F_5306 b ma mi hh pl ((pyM zf (pu - cu * un) (pd + cu * un) (dn + 1) pp (pl 2) k9)) cu 2 k9 mb f_5317 hma f_5318 f_5307 hzp (by omega) (by omega) (by omega) (by omega)) C0 hw vw_X6_50 mb f_5317 rfl rfl rfl hl.1 rfl (Nat.le_of_ble_eq_true rfl) dX6_pays_62 ⟨by decide, by decide⟩ ⟨by decide, by decide⟩) rfl rfl (fun r_5321 F_5319 H locs hw hp_5320 => ?_)
        obtain ⟨he_5322, o_5323⟩ := hp_5320
        have he_5322 : r_5321 = nI (((pl 2) k9).val) := he_5322
        subst he_5322
        have z_5324 := ((pl 2) k9).isLt
        have f_5325 : F_5319 (ma 0) = .inl (G.2 0, 89, .inl ((pyM zf (pu - cu * un) (pd + cu * un) (dn + 1) pp (pl 2) k9))) := (o_5323 (ma 0) ).trans f_5307
        refine q_iast C0 hw ((hma 0 (by decide))) f_5325 (pp + k9) (by omega) (by decide) dX6_pays_65 (fun F_5326 H locs hw f_5327 o_5328 => ?_)
        refine lv_iinc (v := nI (k9 + 1)) (lv' := [(3, .int (nI (k9 + 1))), (0, .ref b), (1, .int (nI (un))), (2, .int (nI (pp)))]) hx hb dX6_pays_66 hl (k := 3) rfl (nI_add _ _) (by decide) rfl (fun ls hl => ?_)
        refine lv_goto (tgt := 46) hx hb dX6_pays_69 (by decide) ?_
        exact ih_46 (k9 + 1) ((by omega)) ((by omega)) (by omega) F_5326 _ _ hw (f_5327.trans (by rw [pyM_s])) (fun q k0 => ((o_5328 q k0).trans ((o_5323 q ).trans (fr_5308 q k0)))) ls (lv_sub hl [1, 2, 3, 0] rfl)
  exact lp46 _ (0) ((by omega)) ((by omega)) (Nat.lt_succ_self _) F_5303 _ _ hw (f_5304.trans (by rw [pyM_0])) (fun q k0 => ((o_5305 q k0).trans ((o_5301 q k0).trans (o_5297 q k0)))) ls (lv_sub hl [1, 2, 3, 0] rfl)
abbrev rm_X6_ended : Room := { frames := 3, cells := 0, slots := 0, locals := 67 }
set_option maxHeartbeats 4000000 in
set_option maxRecDepth 100000 in
theorem c_X6_ended (l : Launch) (G : Gl) (L : List Nat) (F : Nat → va_E) (b : Nat) (ma : Nat → Nat) (mi : Nat → Int32) (hh : Int64) (zf hf : Nat → Int32) (pl : Nat → Nat → ZP) (n9 un pp cu pu pd dn : Nat) (mb : b ∈ L) (fb : F b = mO ma mi hh) (hm0 : mi 0 = nI n9) (hn6 : n9 ≤ 6) (hma : ∀ i, i < 7 → ma i ∈ L) (fz : F (ma 0) = .inl (G.2 0, 89, .inl zf)) (fh : F (ma 1) = .inl (G.2 0, 534, .inl hf)) (fp : F (ma 4) = pcE G pl) (hz0 : zf 0 = nI cu) (hc : cu ≤ 6) (hc2 : 2 ≤ cu) (hz1 : zf 1 = nI pu) (hz2 : zf 2 = nI pd) (hz3 : zf 3 = nI dn) (hpp : 5 ≤ pp) (hp7 : pp + 7 ≤ 89) (hm : cu * un ≤ pu) : CI l yX6_ended cX6_ended 3 (some .int) rm_X6_ended G L F [.ref b, .int (nI (un)), .int (nI (pp))] (fun r F1 => r = lowR (pl 2) ∧ F1 b = mO ma (va_up mi 0 (nI (svM n9 hf zf).1)) hh ∧ F1 (ma 1) = .inl (G.2 0, 534, .inl (svM n9 hf zf).2) ∧ F1 (ma 0) = .inl (G.2 0, 89, .inl (pyM zf (pu - cu * un) (pd + cu * un) (dn + 1) pp (pl 2) 7)) ∧ ∀ q, q ≠ b → q ≠ ma 1 → q ≠ ma 0 → F1 q = F q) := by
  refine CG_of (by decide) (Nat.le_of_ble_eq_true rfl) rfl ?_
  intro p e s m args below meth c Q C0 hr hlk hnm hQ hw ls hl
  have hx := C0.x
  have hb := C0.b
  refine lv_aload_n hx hb dX6_ended_0 rfl (lv_at hl 0 rfl) ?_
  refine q_callv hw (q_runV (As := []) (c_X6_save l G L F b ma mi hh zf hf n9 mb fb hm0 hn6 hma fz fh) C0 hw vw_X6_87 mb fb rfl rfl rfl hl.1 rfl (Nat.le_of_ble_eq_true rfl) dX6_ended_1 ⟨by decide, by decide⟩ ⟨by decide, by decide⟩) rfl rfl (fun F_5329 H locs hw hp_5330 => ?_)
  obtain ⟨f_5331, f_5332, o_5333⟩ := hp_5330
  refine lv_aload_n hx hb dX6_ended_4 rfl (lv_at hl 0 rfl) ?_
  refine lv_iload_n hx hb dX6_ended_5 rfl (lv_at hl 1 rfl) ?_
  refine lv_iload_n hx hb dX6_ended_6 rfl (lv_at hl 2 rfl) ?_
  have f_5334 : F_5329 (ma 0) = .inl (G.2 0, 89, .inl zf) := (o_5333 (ma 0) (ne_ao fz fb) (ne_aa (by decide) fz fh)).trans fz
  have f_5335 : F_5329 (ma 4) = pcE G pl := (o_5333 (ma 4) (ne_ao fp fb) (ne_aa (by decide) fp fh)).trans fp
  refine q_calli hw (q_runV (As := [.int (nI (un)), .int (nI (pp))]) (c_X6_pays l G L F_5329 b ma (va_up mi 0 (nI (svM n9 hf zf).1)) hh pl zf cu un pp pu pd dn mb f_5331 hma f_5335 f_5334 hz0 (by omega) (by omega) hz1 hz2 hz3 (by omega) (by omega) hm) C0 hw vw_X6_103 mb f_5331 rfl rfl rfl hl.1 rfl (Nat.le_of_ble_eq_true rfl) dX6_ended_7 ⟨by decide, by decide⟩ ⟨by decide, by decide⟩) rfl rfl (fun r_5338 F_5336 H locs hw hp_5337 => ?_)
  obtain ⟨he_5339, f_5340, o_5341⟩ := hp_5337
  subst he_5339
  have f_5342 : F_5336 b = mO ma ((va_up mi 0 (nI (svM n9 hf zf).1))) hh := (o_5341 b (ne_oa f_5331 f_5334)).trans f_5331
  have f_5343 : F_5336 (ma 1) = .inl (G.2 0, 534, .inl ((svM n9 hf zf).2)) := (o_5341 (ma 1) (ne_aa (by decide) f_5332 f_5334)).trans f_5332
  exact r_i C0 hr hlk hw (v := (lowR (pl 2))) rfl ⟨rfl, f_5342, f_5343, f_5340, (fun q k0 k1 k2 => ((o_5341 q k2).trans (o_5333 q k0 k1)))⟩ (Nat.le_refl _) (Nat.le_refl _) dX6_ended_10 hQ
abbrev rm_X6_layBracket : Room := { frames := 4, cells := 0, slots := 0, locals := 93 }
set_option maxHeartbeats 4000000 in
set_option maxRecDepth 100000 in
theorem c_X6_layBracket (l : Launch) (G : Gl) (L : List Nat) (F : Nat → va_E) (b : Nat) (ma : Nat → Nat) (mi : Nat → Int32) (hh : Int64) (pl : Nat → Nat → ZP) (zf : Nat → Int32) (cu : Nat) (r9 : Rws) (f9 g9 : Nat) (mb : b ∈ L) (fb : F b = mO ma mi hh) (hma : ∀ i, i < 7 → ma i ∈ L) (fp : F (ma 4) = pcE G pl) (fz : F (ma 0) = .inl (G.2 0, 89, .inl zf)) (hz0 : zf 0 = nI cu) (hc : cu ≤ 6) (hc2 : 2 ≤ cu) (hf9 : f9 < 6) (hg9 : g9 < 6) (hrw : ∀ i k, i < 12 → k < 7 → zf (5 + 7 * i + k) = nI (r9 i k).val) : CV l yX6_layBracket cX6_layBracket 3 none rm_X6_layBracket G L F [.ref b, .int (nI (f9)), .int (nI (g9))] (fun F1 => (∃ P9, F1 (ma 4) = pcE G P9 ∧ P9 2 = m_brM (r9 f9) (r9 g9) cu ∧ ∀ q, q ≠ 2 → q ≠ 0 → q ≠ 1 → q ≠ 10 → q ≠ 13 → q ≠ 14 → P9 q = pl q) ∧ ∀ q, q ≠ ma 4 → F1 q = F q) := by
  refine CG_of (by decide) (Nat.le_of_ble_eq_true rfl) rfl ?_
  intro p e s m args below meth c Q C0 hr hlk hnm hQ hw ls hl
  have hx := C0.x
  have hb := C0.b
  refine lv_aload_n hx hb dX6_layBracket_0 rfl (lv_at hl 0 rfl) ?_
  refine lv_iload_n hx hb dX6_layBracket_1 rfl (lv_at hl 1 rfl) ?_
  refine q_calli hw (q_runS (As := [.int (nI (f9))]) (c_X6_fieldAt l G L F f9 (by omega)) C0 hw sw_X6_109 rfl hl.1 rfl (Nat.le_of_ble_eq_true rfl) dX6_layBracket_2 ⟨by decide, by decide⟩ ⟨by decide, by decide⟩) rfl rfl (fun r_5346 F_5344 H locs hw hp_5345 => ?_)
  obtain ⟨he_5347, o_5348⟩ := hp_5345
  subst he_5347
  refine lv_iconst (v := nI 0) hx hb dX6_layBracket_5 (by decide) ?_
  have f_5349 : F_5344 b = mO ma mi hh := (o_5348 b ).trans fb
  have f_5350 : F_5344 (ma 4) = pcE G pl := (o_5348 (ma 4) ).trans fp
  have f_5351 : F_5344 (ma 0) = .inl (G.2 0, 89, .inl zf) := (o_5348 (ma 0) ).trans fz
  refine q_callv hw (q_runV (As := [.int (nI (5 + 7 * f9)), .int (nI (0))]) (c_X6_load l G L F_5344 b ma mi hh pl zf cu (5 + 7 * f9) 0 (r9 f9) mb f_5349 hma f_5350 f_5351 hz0 (by omega) (by omega) (by omega) (by omega) (fun k hk => hrw f9 k (by omega) hk)) C0 hw vw_X6_112 mb f_5349 rfl rfl rfl hl.1 rfl (Nat.le_of_ble_eq_true rfl) dX6_layBracket_6 ⟨by decide, by decide⟩ ⟨by decide, by decide⟩) rfl rfl (fun F_5352 H locs hw hp_5353 => ?_)
  obtain ⟨P_5354, eP_5354⟩ : ∃ P9, P9 = va_up pl 0 (r9 f9) := ⟨_, rfl⟩
  have f_5357 : F_5352 (ma 4) = pcE G P_5354 := by rw [eP_5354]; exact hp_5353.1
  have r_5355 : P_5354 0 = r9 f9 := by rw [eP_5354, va_up_self]
  have ro_5356 : ∀ q, q ≠ 0 → P_5354 q = pl q := fun q hq => by rw [eP_5354]; exact va_up_ne _ _ hq
  refine lv_aload_n hx hb dX6_layBracket_9 rfl (lv_at hl 0 rfl) ?_
  refine lv_iload_n hx hb dX6_layBracket_10 rfl (lv_at hl 2 rfl) ?_
  refine q_calli hw (q_runS (As := [.int (nI (g9))]) (c_X6_fieldAt l G L F_5352 g9 (by omega)) C0 hw sw_X6_109 rfl hl.1 rfl (Nat.le_of_ble_eq_true rfl) dX6_layBracket_11 ⟨by decide, by decide⟩ ⟨by decide, by decide⟩) rfl rfl (fun r_5360 F_5358 H locs hw hp_5359 => ?_)
  obtain ⟨he_5361, o_5362⟩ := hp_5359
  subst he_5361
  refine lv_iconst (v := nI 1) hx hb dX6_layBracket_14 (by decide) ?_
  have f_5363 : F_5352 b = mO ma mi hh := (hp_5353.2 b (ne_oa f_5349 f_5350)).trans f_5349
  have f_5364 : F_5358 b = mO ma mi hh := (o_5362 b ).trans f_5363
  have f_5365 : F_5358 (ma 4) = pcE G P_5354 := (o_5362 (ma 4) ).trans f_5357
  have f_5366 : F_5352 (ma 0) = .inl (G.2 0, 89, .inl zf) := (hp_5353.2 (ma 0) (ne_aa (by decide) f_5351 f_5350)).trans f_5351
  have f_5367 : F_5358 (ma 0) = .inl (G.2 0, 89, .inl zf) := (o_5362 (ma 0) ).trans f_5366
  refine q_callv hw (q_runV (As := [.int (nI (5 + 7 * g9)), .int (nI (1))]) (c_X6_load l G L F_5358 b ma mi hh P_5354 zf cu (5 + 7 * g9) 1 (r9 g9) mb f_5364 hma f_5365 f_5367 hz0 (by omega) (by omega) (by omega) (by omega) (fun k hk => hrw g9 k (by omega) hk)) C0 hw vw_X6_112 mb f_5364 rfl rfl rfl hl.1 rfl (Nat.le_of_ble_eq_true rfl) dX6_layBracket_15 ⟨by decide, by decide⟩ ⟨by decide, by decide⟩) rfl rfl (fun F_5368 H locs hw hp_5369 => ?_)
  obtain ⟨P_5370, eP_5370⟩ : ∃ P9, P9 = va_up P_5354 1 (r9 g9) := ⟨_, rfl⟩
  have f_5373 : F_5368 (ma 4) = pcE G P_5370 := by rw [eP_5370]; exact hp_5369.1
  have r_5371 : P_5370 1 = r9 g9 := by rw [eP_5370, va_up_self]
  have ro_5372 : ∀ q, q ≠ 1 → P_5370 q = P_5354 q := fun q hq => by rw [eP_5370]; exact va_up_ne _ _ hq
  refine lv_aload_n hx hb dX6_layBracket_18 rfl (lv_at hl 0 rfl) ?_
  refine lv_iconst (v := nI 0) hx hb dX6_layBracket_19 (by decide) ?_
  refine lv_iconst (v := nI 1) hx hb dX6_layBracket_20 (by decide) ?_
  refine lv_iconst (v := nI 2) hx hb dX6_layBracket_21 (by decide) ?_
  have r_5374 : P_5370 0 = r9 f9 := (ro_5372 0 (by omega)).trans r_5355
  have f_5375 : F_5368 b = mO ma mi hh := (hp_5369.2 b (ne_oa f_5364 f_5365)).trans f_5364
  have f_5376 : F_5368 (ma 0) = .inl (G.2 0, 89, .inl zf) := (hp_5369.2 (ma 0) (ne_aa (by decide) f_5367 f_5365)).trans f_5367
  refine q_callv hw (q_runV (As := [.int (nI (0)), .int (nI (1)), .int (nI (2))]) (c_X6_bracketTo l G L F_5368 b ma mi hh P_5370 zf cu 0 1 2 mb f_5375 hma f_5373 f_5376 hz0 (by omega) (by omega) (by omega) (by omega) (by omega) (by omega) (by omega) (by omega) (by omega) (by omega)) C0 hw vw_X6_84 mb f_5375 rfl rfl rfl hl.1 rfl (Nat.le_of_ble_eq_true rfl) dX6_layBracket_22 ⟨by decide, by decide⟩ ⟨by decide, by decide⟩) rfl rfl (fun F_5377 H locs hw hp_5378 => ?_)
  obtain ⟨⟨P_5379, f_5382, r_5380, ro_5381⟩, o_5383⟩ := hp_5378
  rw [r_5374, r_5371] at r_5380
  exact r_v C0 hr hlk hw ⟨⟨_, f_5382, r_5380, (fun q j0 j1 j2 j3 j4 j5 => ((ro_5381 q j0 j3 j4 j5).trans ((ro_5372 q j2).trans (ro_5356 q j1))))⟩, (fun q k0 => ((o_5383 q k0).trans ((hp_5369.2 q k0).trans ((o_5362 q ).trans ((hp_5353.2 q k0).trans (o_5348 q ))))))⟩ (Nat.le_refl _) (Nat.le_refl _) dX6_layBracket_25 hQ
abbrev rm_X6_laySum : Room := { frames := 2, cells := 0, slots := 0, locals := 47 }
set_option maxHeartbeats 4000000 in
set_option maxRecDepth 100000 in
theorem c_X6_laySum (l : Launch) (G : Gl) (L : List Nat) (F : Nat → va_E) (b : Nat) (ma : Nat → Nat) (mi : Nat → Int32) (hh : Int64) (pl : Nat → Nat → ZP) (zf : Nat → Int32) (cu : Nat) (r9 : Rws) (f9 g9 : Nat) (mb : b ∈ L) (fb : F b = mO ma mi hh) (hma : ∀ i, i < 7 → ma i ∈ L) (fp : F (ma 4) = pcE G pl) (fz : F (ma 0) = .inl (G.2 0, 89, .inl zf)) (hz0 : zf 0 = nI cu) (hc : cu ≤ 6) (hc2 : 2 ≤ cu) (hf9 : f9 < 6) (hg9 : g9 < 6) (hrw : ∀ i k, i < 12 → k < 7 → zf (5 + 7 * i + k) = nI (r9 i k).val) : CV l yX6_laySum cX6_laySum 3 none rm_X6_laySum G L F [.ref b, .int (nI (f9)), .int (nI (g9))] (fun F1 => (∃ P9, F1 (ma 4) = pcE G P9 ∧ P9 2 = m_am (r9 f9) (r9 g9) (zc 1) ∧ ∀ q, q ≠ 2 → q ≠ 1 → P9 q = pl q) ∧ ∀ q, q ≠ ma 4 → F1 q = F q) := by
  refine CG_of (by decide) (Nat.le_of_ble_eq_true rfl) rfl ?_
  intro p e s m args below meth c Q C0 hr hlk hnm hQ hw ls hl
  have hx := C0.x
  have hb := C0.b
  refine lv_aload_n hx hb dX6_laySum_0 rfl (lv_at hl 0 rfl) ?_
  refine lv_iload_n hx hb dX6_laySum_1 rfl (lv_at hl 1 rfl) ?_
  refine q_calli hw (q_runS (As := [.int (nI (f9))]) (c_X6_fieldAt l G L F f9 (by omega)) C0 hw sw_X6_109 rfl hl.1 rfl (Nat.le_of_ble_eq_true rfl) dX6_laySum_2 ⟨by decide, by decide⟩ ⟨by decide, by decide⟩) rfl rfl (fun r_5386 F_5384 H locs hw hp_5385 => ?_)
  obtain ⟨he_5387, o_5388⟩ := hp_5385
  subst he_5387
  refine lv_iconst (v := nI 2) hx hb dX6_laySum_5 (by decide) ?_
  have f_5389 : F_5384 b = mO ma mi hh := (o_5388 b ).trans fb
  have f_5390 : F_5384 (ma 4) = pcE G pl := (o_5388 (ma 4) ).trans fp
  have f_5391 : F_5384 (ma 0) = .inl (G.2 0, 89, .inl zf) := (o_5388 (ma 0) ).trans fz
  refine q_callv hw (q_runV (As := [.int (nI (5 + 7 * f9)), .int (nI (2))]) (c_X6_load l G L F_5384 b ma mi hh pl zf cu (5 + 7 * f9) 2 (r9 f9) mb f_5389 hma f_5390 f_5391 hz0 (by omega) (by omega) (by omega) (by omega) (fun k hk => hrw f9 k (by omega) hk)) C0 hw vw_X6_112 mb f_5389 rfl rfl rfl hl.1 rfl (Nat.le_of_ble_eq_true rfl) dX6_laySum_6 ⟨by decide, by decide⟩ ⟨by decide, by decide⟩) rfl rfl (fun F_5392 H locs hw hp_5393 => ?_)
  obtain ⟨P_5394, eP_5394⟩ : ∃ P9, P9 = va_up pl 2 (r9 f9) := ⟨_, rfl⟩
  have f_5397 : F_5392 (ma 4) = pcE G P_5394 := by rw [eP_5394]; exact hp_5393.1
  have r_5395 : P_5394 2 = r9 f9 := by rw [eP_5394, va_up_self]
  have ro_5396 : ∀ q, q ≠ 2 → P_5394 q = pl q := fun q hq => by rw [eP_5394]; exact va_up_ne _ _ hq
  refine lv_aload_n hx hb dX6_laySum_9 rfl (lv_at hl 0 rfl) ?_
  refine lv_iload_n hx hb dX6_laySum_10 rfl (lv_at hl 2 rfl) ?_
  refine q_calli hw (q_runS (As := [.int (nI (g9))]) (c_X6_fieldAt l G L F_5392 g9 (by omega)) C0 hw sw_X6_109 rfl hl.1 rfl (Nat.le_of_ble_eq_true rfl) dX6_laySum_11 ⟨by decide, by decide⟩ ⟨by decide, by decide⟩) rfl rfl (fun r_5400 F_5398 H locs hw hp_5399 => ?_)
  obtain ⟨he_5401, o_5402⟩ := hp_5399
  subst he_5401
  refine lv_iconst (v := nI 1) hx hb dX6_laySum_14 (by decide) ?_
  have f_5403 : F_5392 b = mO ma mi hh := (hp_5393.2 b (ne_oa f_5389 f_5390)).trans f_5389
  have f_5404 : F_5398 b = mO ma mi hh := (o_5402 b ).trans f_5403
  have f_5405 : F_5398 (ma 4) = pcE G P_5394 := (o_5402 (ma 4) ).trans f_5397
  have f_5406 : F_5392 (ma 0) = .inl (G.2 0, 89, .inl zf) := (hp_5393.2 (ma 0) (ne_aa (by decide) f_5391 f_5390)).trans f_5391
  have f_5407 : F_5398 (ma 0) = .inl (G.2 0, 89, .inl zf) := (o_5402 (ma 0) ).trans f_5406
  refine q_callv hw (q_runV (As := [.int (nI (5 + 7 * g9)), .int (nI (1))]) (c_X6_load l G L F_5398 b ma mi hh P_5394 zf cu (5 + 7 * g9) 1 (r9 g9) mb f_5404 hma f_5405 f_5407 hz0 (by omega) (by omega) (by omega) (by omega) (fun k hk => hrw g9 k (by omega) hk)) C0 hw vw_X6_112 mb f_5404 rfl rfl rfl hl.1 rfl (Nat.le_of_ble_eq_true rfl) dX6_laySum_15 ⟨by decide, by decide⟩ ⟨by decide, by decide⟩) rfl rfl (fun F_5408 H locs hw hp_5409 => ?_)
  obtain ⟨P_5410, eP_5410⟩ : ∃ P9, P9 = va_up P_5394 1 (r9 g9) := ⟨_, rfl⟩
  have f_5413 : F_5408 (ma 4) = pcE G P_5410 := by rw [eP_5410]; exact hp_5409.1
  have r_5411 : P_5410 1 = r9 g9 := by rw [eP_5410, va_up_self]
  have ro_5412 : ∀ q, q ≠ 1 → P_5410 q = P_5394 q := fun q hq => by rw [eP_5410]; exact va_up_ne _ _ hq
  refine lv_aload_n hx hb dX6_laySum_18 rfl (lv_at hl 0 rfl) ?_
  refine lv_iconst (v := nI 1) hx hb dX6_laySum_19 (by decide) ?_
  refine lv_iconst (v := nI 1) hx hb dX6_laySum_20 (by decide) ?_
  refine lv_iconst (v := nI 2) hx hb dX6_laySum_21 (by decide) ?_
  have r_5414 : P_5410 2 = r9 f9 := (ro_5412 2 (by omega)).trans r_5395
  have f_5415 : F_5408 b = mO ma mi hh := (hp_5409.2 b (ne_oa f_5404 f_5405)).trans f_5404
  have f_5416 : F_5408 (ma 0) = .inl (G.2 0, 89, .inl zf) := (hp_5409.2 (ma 0) (ne_aa (by decide) f_5407 f_5405)).trans f_5407
  refine q_callv hw (q_runV (As := [.int (nI (1)), .int (nI (1)), .int (nI (2))]) (c_X6_addTimes l G L F_5408 b ma mi hh P_5410 zf cu 1 1 2 mb f_5415 hma f_5413 f_5416 hz0 (by omega) (by omega) (by omega) (by omega) (by omega) (by omega)) C0 hw vw_X6_58 mb f_5415 rfl rfl rfl hl.1 rfl (Nat.le_of_ble_eq_true rfl) dX6_laySum_22 ⟨by decide, by decide⟩ ⟨by decide, by decide⟩) rfl rfl (fun F_5417 H locs hw hp_5418 => ?_)
  obtain ⟨P_5419, eP_5419⟩ : ∃ P9, P9 = va_up P_5410 2 (m_am (P_5410 2) (P_5410 1) (zc 1)) := ⟨_, rfl⟩
  have f_5422 : F_5417 (ma 4) = pcE G P_5419 := by rw [eP_5419]; exact hp_5418.1
  have r_5420 : P_5419 2 = m_am (r9 f9) (r9 g9) (zc 1) := by rw [eP_5419, va_up_self]; rw [r_5411, r_5414]
  have ro_5421 : ∀ q, q ≠ 2 → P_5419 q = P_5410 q := fun q hq => by rw [eP_5419]; exact va_up_ne _ _ hq
  exact r_v C0 hr hlk hw ⟨⟨_, f_5422, r_5420, (fun q j0 j1 => ((ro_5421 q j0).trans ((ro_5412 q j1).trans (ro_5396 q j0))))⟩, (fun q k0 => ((hp_5418.2 q k0).trans ((hp_5409.2 q k0).trans ((o_5402 q ).trans ((hp_5393.2 q k0).trans (o_5388 q ))))))⟩ (Nat.le_refl _) (Nat.le_refl _) dX6_laySum_25 hQ
abbrev rm_X6_layWay : Room := { frames := 5, cells := 0, slots := 0, locals := 115 }
set_option maxHeartbeats 4000000 in
set_option maxRecDepth 100000 in
theorem c_X6_layWay (l : Launch) (G : Gl) (L : List Nat) (F : Nat → va_E) (b : Nat) (ma : Nat → Nat) (mi : Nat → Int32) (hh : Int64) (pl : Nat → Nat → ZP) (zf : Nat → Int32) (cu : Nat) (r9 : Rws) (f9 g9 y9 : Nat) (mb : b ∈ L) (fb : F b = mO ma mi hh) (hma : ∀ i, i < 7 → ma i ∈ L) (fp : F (ma 4) = pcE G pl) (fz : F (ma 0) = .inl (G.2 0, 89, .inl zf)) (hz0 : zf 0 = nI cu) (hc : cu ≤ 6) (hc2 : 2 ≤ cu) (hf9 : f9 < 6) (hg9 : g9 < 6) (hy1 : 2 ≤ y9) (hy2 : y9 ≤ 5) (hrw : ∀ i k, i < 12 → k < 7 → zf (5 + 7 * i + k) = nI (r9 i k).val) : CV l yX6_layWay cX6_layWay 4 none rm_X6_layWay G L F [.ref b, .int (nI (f9)), .int (nI (g9)), .int (nI (y9))] (fun F1 => (∃ P9, F1 (ma 4) = pcE G P9 ∧ P9 2 = m_wayM (r9 f9) (r9 g9) y9 cu ∧ P9 0 = r9 f9 ∧ P9 1 = r9 g9 ∧ ∀ q, q ≠ 2 → q ≠ 0 → q ≠ 1 → q ≠ 10 → q ≠ 13 → q ≠ 14 → q ≠ 16 → q ≠ 17 → q ≠ 18 → q ≠ 19 → P9 q = pl q) ∧ ∀ q, q ≠ ma 4 → F1 q = F q) := by
  refine CG_of (by decide) (Nat.le_of_ble_eq_true rfl) rfl ?_
  intro p e s m args below meth c Q C0 hr hlk hnm hQ hw ls hl
  have hx := C0.x
  have hb := C0.b
  refine lv_aload_n hx hb dX6_layWay_0 rfl (lv_at hl 0 rfl) ?_
  refine lv_iload_n hx hb dX6_layWay_1 rfl (lv_at hl 1 rfl) ?_
  refine q_calli hw (q_runS (As := [.int (nI (f9))]) (c_X6_fieldAt l G L F f9 (by omega)) C0 hw sw_X6_109 rfl hl.1 rfl (Nat.le_of_ble_eq_true rfl) dX6_layWay_2 ⟨by decide, by decide⟩ ⟨by decide, by decide⟩) rfl rfl (fun r_5425 F_5423 H locs hw hp_5424 => ?_)
  obtain ⟨he_5426, o_5427⟩ := hp_5424
  subst he_5426
  refine lv_iconst (v := nI 0) hx hb dX6_layWay_5 (by decide) ?_
  have f_5428 : F_5423 b = mO ma mi hh := (o_5427 b ).trans fb
  have f_5429 : F_5423 (ma 4) = pcE G pl := (o_5427 (ma 4) ).trans fp
  have f_5430 : F_5423 (ma 0) = .inl (G.2 0, 89, .inl zf) := (o_5427 (ma 0) ).trans fz
  refine q_callv hw (q_runV (As := [.int (nI (5 + 7 * f9)), .int (nI (0))]) (c_X6_load l G L F_5423 b ma mi hh pl zf cu (5 + 7 * f9) 0 (r9 f9) mb f_5428 hma f_5429 f_5430 hz0 (by omega) (by omega) (by omega) (by omega) (fun k hk => hrw f9 k (by omega) hk)) C0 hw vw_X6_112 mb f_5428 rfl rfl rfl hl.1 rfl (Nat.le_of_ble_eq_true rfl) dX6_layWay_6 ⟨by decide, by decide⟩ ⟨by decide, by decide⟩) rfl rfl (fun F_5431 H locs hw hp_5432 => ?_)
  obtain ⟨P_5433, eP_5433⟩ : ∃ P9, P9 = va_up pl 0 (r9 f9) := ⟨_, rfl⟩
  have f_5436 : F_5431 (ma 4) = pcE G P_5433 := by rw [eP_5433]; exact hp_5432.1
  have r_5434 : P_5433 0 = r9 f9 := by rw [eP_5433, va_up_self]
  have ro_5435 : ∀ q, q ≠ 0 → P_5433 q = pl q := fun q hq => by rw [eP_5433]; exact va_up_ne _ _ hq
  refine lv_aload_n hx hb dX6_layWay_9 rfl (lv_at hl 0 rfl) ?_
  refine lv_iload_n hx hb dX6_layWay_10 rfl (lv_at hl 2 rfl) ?_
  refine q_calli hw (q_runS (As := [.int (nI (g9))]) (c_X6_fieldAt l G L F_5431 g9 (by omega)) C0 hw sw_X6_109 rfl hl.1 rfl (Nat.le_of_ble_eq_true rfl) dX6_layWay_11 ⟨by decide, by decide⟩ ⟨by decide, by decide⟩) rfl rfl (fun r_5439 F_5437 H locs hw hp_5438 => ?_)
  obtain ⟨he_5440, o_5441⟩ := hp_5438
  subst he_5440
  refine lv_iconst (v := nI 1) hx hb dX6_layWay_14 (by decide) ?_
  have f_5442 : F_5431 b = mO ma mi hh := (hp_5432.2 b (ne_oa f_5428 f_5429)).trans f_5428
  have f_5443 : F_5437 b = mO ma mi hh := (o_5441 b ).trans f_5442
  have f_5444 : F_5437 (ma 4) = pcE G P_5433 := (o_5441 (ma 4) ).trans f_5436
  have f_5445 : F_5431 (ma 0) = .inl (G.2 0, 89, .inl zf) := (hp_5432.2 (ma 0) (ne_aa (by decide) f_5430 f_5429)).trans f_5430
  have f_5446 : F_5437 (ma 0) = .inl (G.2 0, 89, .inl zf) := (o_5441 (ma 0) ).trans f_5445
  refine q_callv hw (q_runV (As := [.int (nI (5 + 7 * g9)), .int (nI (1))]) (c_X6_load l G L F_5437 b ma mi hh P_5433 zf cu (5 + 7 * g9) 1 (r9 g9) mb f_5443 hma f_5444 f_5446 hz0 (by omega) (by omega) (by omega) (by omega) (fun k hk => hrw g9 k (by omega) hk)) C0 hw vw_X6_112 mb f_5443 rfl rfl rfl hl.1 rfl (Nat.le_of_ble_eq_true rfl) dX6_layWay_15 ⟨by decide, by decide⟩ ⟨by decide, by decide⟩) rfl rfl (fun F_5447 H locs hw hp_5448 => ?_)
  obtain ⟨P_5449, eP_5449⟩ : ∃ P9, P9 = va_up P_5433 1 (r9 g9) := ⟨_, rfl⟩
  have f_5452 : F_5447 (ma 4) = pcE G P_5449 := by rw [eP_5449]; exact hp_5448.1
  have r_5450 : P_5449 1 = r9 g9 := by rw [eP_5449, va_up_self]
  have ro_5451 : ∀ q, q ≠ 1 → P_5449 q = P_5433 q := fun q hq => by rw [eP_5449]; exact va_up_ne _ _ hq
  refine lv_aload_n hx hb dX6_layWay_18 rfl (lv_at hl 0 rfl) ?_
  refine lv_iload_n hx hb dX6_layWay_19 rfl (lv_at hl 3 rfl) ?_
  refine lv_iconst (v := nI 2) hx hb dX6_layWay_20 (by decide) ?_
  have r_5453 : P_5449 0 = r9 f9 := (ro_5451 0 (by omega)).trans r_5434
  have f_5454 : F_5447 b = mO ma mi hh := (hp_5448.2 b (ne_oa f_5443 f_5444)).trans f_5443
  have f_5455 : F_5447 (ma 0) = .inl (G.2 0, 89, .inl zf) := (hp_5448.2 (ma 0) (ne_aa (by decide) f_5446 f_5444)).trans f_5446
  refine q_callv hw (q_runV (As := [.int (nI (y9)), .int (nI (2))]) (c_X6_wayTo l G L F_5447 b ma mi hh P_5449 zf cu y9 2 mb f_5454 hma f_5452 f_5455 hz0 (by omega) (by omega) (by omega) (by omega) (by omega)) C0 hw vw_X6_132 mb f_5454 rfl rfl rfl hl.1 rfl (Nat.le_of_ble_eq_true rfl) dX6_layWay_21 ⟨by decide, by decide⟩ ⟨by decide, by decide⟩) rfl rfl (fun F_5456 H locs hw hp_5457 => ?_)
  obtain ⟨⟨P_5458, f_5461, r_5459, ro_5460⟩, o_5462⟩ := hp_5457
  rw [r_5453, r_5450] at r_5459
  have r_5463 : P_5458 0 = r9 f9 := (ro_5460 0 (by omega) (by omega) (by omega) (by omega) (by omega) (by omega) (by omega) (by omega)).trans r_5453
  have r_5464 : P_5458 1 = r9 g9 := (ro_5460 1 (by omega) (by omega) (by omega) (by omega) (by omega) (by omega) (by omega) (by omega)).trans r_5450
  exact r_v C0 hr hlk hw ⟨⟨_, f_5461, r_5459, r_5463, r_5464, (fun q j0 j1 j2 j3 j4 j5 j6 j7 j8 j9 => ((ro_5460 q j0 j3 j4 j5 j6 j7 j8 j9).trans ((ro_5451 q j2).trans (ro_5435 q j1))))⟩, (fun q k0 => ((o_5462 q k0).trans ((hp_5448.2 q k0).trans ((o_5441 q ).trans ((hp_5432.2 q k0).trans (o_5427 q ))))))⟩ (Nat.le_refl _) (Nat.le_refl _) dX6_layWay_24 hQ
abbrev rm_X6_layPush : Room := { frames := 5, cells := 0, slots := 0, locals := 117 }
set_option maxHeartbeats 4000000 in
set_option maxRecDepth 100000 in
theorem c_X6_layPush (l : Launch) (G : Gl) (L : List Nat) (F : Nat → va_E) (b : Nat) (ma : Nat → Nat) (mi : Nat → Int32) (hh : Int64) (pl : Nat → Nat → ZP) (zf : Nat → Int32) (cu : Nat) (r9 : Rws) (f9 g9 : Nat) (mb : b ∈ L) (fb : F b = mO ma mi hh) (hma : ∀ i, i < 7 → ma i ∈ L) (fp : F (ma 4) = pcE G pl) (fz : F (ma 0) = .inl (G.2 0, 89, .inl zf)) (hz0 : zf 0 = nI cu) (hc : cu ≤ 6) (hc2 : 2 ≤ cu) (hf9 : f9 < 6) (hg9 : g9 < 6) (hrw : ∀ i k, i < 12 → k < 7 → zf (5 + 7 * i + k) = nI (r9 i k).val) : CV l yX6_layPush cX6_layPush 3 none rm_X6_layPush G L F [.ref b, .int (nI (f9)), .int (nI (g9))] (fun F1 => (∃ P9, F1 (ma 4) = pcE G P9 ∧ P9 2 = m_pi (m_invM (r9 (6 + f9)) cu) (m_mulT (m_der (r9 (6 + f9))) (r9 g9) cu) cu ∧ ∀ q, q ≠ 2 → q ≠ 0 → q ≠ 1 → q ≠ 3 → q ≠ 8 → q ≠ 6 → q ≠ 7 → q ≠ 10 → q ≠ 4 → P9 q = pl q) ∧ ∀ q, q ≠ ma 4 → F1 q = F q) := by
  refine CG_of (by decide) (Nat.le_of_ble_eq_true rfl) rfl ?_
  intro p e s m args below meth c Q C0 hr hlk hnm hQ hw ls hl
  have hx := C0.x
  have hb := C0.b
  refine lv_aload_n hx hb dX6_layPush_0 rfl (lv_at hl 0 rfl) ?_
  refine lv_iload_n hx hb dX6_layPush_1 rfl (lv_at hl 1 rfl) ?_
  refine q_calli hw (q_runS (As := [.int (nI (f9))]) (c_X6_flowAt2 l G L F f9 (by omega)) C0 hw sw_X6_138 rfl hl.1 rfl (Nat.le_of_ble_eq_true rfl) dX6_layPush_2 ⟨by decide, by decide⟩ ⟨by decide, by decide⟩) rfl rfl (fun r_5467 F_5465 H locs hw hp_5466 => ?_)
  obtain ⟨he_5468, o_5469⟩ := hp_5466
  subst he_5468
  refine lv_iconst (v := nI 0) hx hb dX6_layPush_5 (by decide) ?_
  have f_5470 : F_5465 b = mO ma mi hh := (o_5469 b ).trans fb
  have f_5471 : F_5465 (ma 4) = pcE G pl := (o_5469 (ma 4) ).trans fp
  have f_5472 : F_5465 (ma 0) = .inl (G.2 0, 89, .inl zf) := (o_5469 (ma 0) ).trans fz
  refine q_callv hw (q_runV (As := [.int (nI (5 + 7 * (6 + f9))), .int (nI (0))]) (c_X6_load l G L F_5465 b ma mi hh pl zf cu (5 + 7 * (6 + f9)) 0 (r9 (6 + f9)) mb f_5470 hma f_5471 f_5472 hz0 (by omega) (by omega) (by omega) (by omega) (fun k hk => hrw (6 + f9) k (by omega) hk)) C0 hw vw_X6_112 mb f_5470 rfl rfl rfl hl.1 rfl (Nat.le_of_ble_eq_true rfl) dX6_layPush_6 ⟨by decide, by decide⟩ ⟨by decide, by decide⟩) rfl rfl (fun F_5473 H locs hw hp_5474 => ?_)
  obtain ⟨P_5475, eP_5475⟩ : ∃ P9, P9 = va_up pl 0 (r9 (6 + f9)) := ⟨_, rfl⟩
  have f_5478 : F_5473 (ma 4) = pcE G P_5475 := by rw [eP_5475]; exact hp_5474.1
  have r_5476 : P_5475 0 = r9 (6 + f9) := by rw [eP_5475, va_up_self]
  have ro_5477 : ∀ q, q ≠ 0 → P_5475 q = pl q := fun q hq => by rw [eP_5475]; exact va_up_ne _ _ hq
  refine lv_aload_n hx hb dX6_layPush_9 rfl (lv_at hl 0 rfl) ?_
  refine lv_iload_n hx hb dX6_layPush_10 rfl (lv_at hl 2 rfl) ?_
  refine q_calli hw (q_runS (As := [.int (nI (g9))]) (c_X6_fieldAt l G L F_5473 g9 (by omega)) C0 hw sw_X6_109 rfl hl.1 rfl (Nat.le_of_ble_eq_true rfl) dX6_layPush_11 ⟨by decide, by decide⟩ ⟨by decide, by decide⟩) rfl rfl (fun r_5481 F_5479 H locs hw hp_5480 => ?_)
  obtain ⟨he_5482, o_5483⟩ := hp_5480
  subst he_5482
  refine lv_iconst (v := nI 1) hx hb dX6_layPush_14 (by decide) ?_
  have f_5484 : F_5473 b = mO ma mi hh := (hp_5474.2 b (ne_oa f_5470 f_5471)).trans f_5470
  have f_5485 : F_5479 b = mO ma mi hh := (o_5483 b ).trans f_5484
  have f_5486 : F_5479 (ma 4) = pcE G P_5475 := (o_5483 (ma 4) ).trans f_5478
  have f_5487 : F_5473 (ma 0) = .inl (G.2 0, 89, .inl zf) := (hp_5474.2 (ma 0) (ne_aa (by decide) f_5472 f_5471)).trans f_5472
  have f_5488 : F_5479 (ma 0) = .inl (G.2 0, 89, .inl zf) := (o_5483 (ma 0) ).trans f_5487
  refine q_callv hw (q_runV (As := [.int (nI (5 + 7 * g9)), .int (nI (1))]) (c_X6_load l G L F_5479 b ma mi hh P_5475 zf cu (5 + 7 * g9) 1 (r9 g9) mb f_5485 hma f_5486 f_5488 hz0 (by omega) (by omega) (by omega) (by omega) (fun k hk => hrw g9 k (by omega) hk)) C0 hw vw_X6_112 mb f_5485 rfl rfl rfl hl.1 rfl (Nat.le_of_ble_eq_true rfl) dX6_layPush_15 ⟨by decide, by decide⟩ ⟨by decide, by decide⟩) rfl rfl (fun F_5489 H locs hw hp_5490 => ?_)
  obtain ⟨P_5491, eP_5491⟩ : ∃ P9, P9 = va_up P_5475 1 (r9 g9) := ⟨_, rfl⟩
  have f_5494 : F_5489 (ma 4) = pcE G P_5491 := by rw [eP_5491]; exact hp_5490.1
  have r_5492 : P_5491 1 = r9 g9 := by rw [eP_5491, va_up_self]
  have ro_5493 : ∀ q, q ≠ 1 → P_5491 q = P_5475 q := fun q hq => by rw [eP_5491]; exact va_up_ne _ _ hq
  refine lv_aload_n hx hb dX6_layPush_18 rfl (lv_at hl 0 rfl) ?_
  refine lv_iconst (v := nI 0) hx hb dX6_layPush_19 (by decide) ?_
  refine lv_iconst (v := nI 3) hx hb dX6_layPush_20 (by decide) ?_
  have r_5495 : P_5491 0 = r9 (6 + f9) := (ro_5493 0 (by omega)).trans r_5476
  have f_5496 : F_5489 b = mO ma mi hh := (hp_5490.2 b (ne_oa f_5485 f_5486)).trans f_5485
  have f_5497 : F_5489 (ma 0) = .inl (G.2 0, 89, .inl zf) := (hp_5490.2 (ma 0) (ne_aa (by decide) f_5488 f_5486)).trans f_5488
  refine q_callv hw (q_runV (As := [.int (nI (0)), .int (nI (3))]) (c_X6_invertTo l G L F_5489 b ma mi hh P_5491 zf cu 0 3 mb f_5496 hma f_5494 f_5497 hz0 (by omega) (by omega) (by omega) (by omega) (by omega)) C0 hw vw_X6_141 mb f_5496 rfl rfl rfl hl.1 rfl (Nat.le_of_ble_eq_true rfl) dX6_layPush_21 ⟨by decide, by decide⟩ ⟨by decide, by decide⟩) rfl rfl (fun F_5498 H locs hw hp_5499 => ?_)
  obtain ⟨⟨P_5500, f_5503, r_5501, ro_5502⟩, o_5504⟩ := hp_5499
  rw [r_5495] at r_5501
  refine lv_aload_n hx hb dX6_layPush_24 rfl (lv_at hl 0 rfl) ?_
  refine lv_iconst (v := nI 0) hx hb dX6_layPush_25 (by decide) ?_
  refine lv_bipush (v := nI 10) hx hb dX6_layPush_26 (by decide) ?_
  have r_5505 : P_5500 0 = r9 (6 + f9) := (ro_5502 0 (by omega) (by omega) (by omega) (by omega)).trans r_5495
  have f_5506 : F_5498 b = mO ma mi hh := (o_5504 b (ne_oa f_5496 f_5494)).trans f_5496
  have f_5507 : F_5498 (ma 0) = .inl (G.2 0, 89, .inl zf) := (o_5504 (ma 0) (ne_aa (by decide) f_5497 f_5494)).trans f_5497
  refine q_callv hw (q_runV (As := [.int (nI (0)), .int (nI (10))]) (c_X6_derive l G L F_5498 b ma mi hh P_5500 zf cu 0 10 mb f_5506 hma f_5503 f_5507 hz0 (by omega) (by omega) (by omega) (by omega) (by omega)) C0 hw vw_X6_74 mb f_5506 rfl rfl rfl hl.1 rfl (Nat.le_of_ble_eq_true rfl) dX6_layPush_28 ⟨by decide, by decide⟩ ⟨by decide, by decide⟩) rfl rfl (fun F_5508 H locs hw hp_5509 => ?_)
  obtain ⟨P_5510, eP_5510⟩ : ∃ P9, P9 = va_up P_5500 10 (m_der (P_5500 0)) := ⟨_, rfl⟩
  have f_5513 : F_5508 (ma 4) = pcE G P_5510 := by rw [eP_5510]; exact hp_5509.1
  have r_5511 : P_5510 10 = m_der (r9 (6 + f9)) := by rw [eP_5510, va_up_self]; rw [r_5505]
  have ro_5512 : ∀ q, q ≠ 10 → P_5510 q = P_5500 q := fun q hq => by rw [eP_5510]; exact va_up_ne _ _ hq
  have r_5514 : P_5500 1 = r9 g9 := (ro_5502 1 (by omega) (by omega) (by omega) (by omega)).trans r_5492
  refine lv_aload_n hx hb dX6_layPush_31 rfl (lv_at hl 0 rfl) ?_
  refine lv_bipush (v := nI 10) hx hb dX6_layPush_32 (by decide) ?_
  refine lv_iconst (v := nI 1) hx hb dX6_layPush_34 (by decide) ?_
  refine lv_iconst (v := nI 4) hx hb dX6_layPush_35 (by decide) ?_
  have r_5515 : P_5510 1 = r9 g9 := (ro_5512 1 (by omega)).trans r_5514
  have f_5516 : F_5508 b = mO ma mi hh := (hp_5509.2 b (ne_oa f_5506 f_5503)).trans f_5506
  have f_5517 : F_5508 (ma 0) = .inl (G.2 0, 89, .inl zf) := (hp_5509.2 (ma 0) (ne_aa (by decide) f_5507 f_5503)).trans f_5507
  refine q_callv hw (q_runV (As := [.int (nI (10)), .int (nI (1)), .int (nI (4))]) (c_X6_multiply l G L F_5508 b ma mi hh P_5510 zf cu 10 1 4 mb f_5516 hma f_5513 f_5517 hz0 (by omega) (by omega) (by omega) (by omega) (by omega) (by omega) (by omega)) C0 hw vw_X6_61 mb f_5516 rfl rfl rfl hl.1 rfl (Nat.le_of_ble_eq_true rfl) dX6_layPush_36 ⟨by decide, by decide⟩ ⟨by decide, by decide⟩) rfl rfl (fun F_5518 H locs hw hp_5519 => ?_)
  obtain ⟨P_5520, eP_5520⟩ : ∃ P9, P9 = va_up P_5510 4 (m_mulT (P_5510 10) (P_5510 1) cu) := ⟨_, rfl⟩
  have f_5523 : F_5518 (ma 4) = pcE G P_5520 := by rw [eP_5520]; exact hp_5519.1
  have r_5521 : P_5520 4 = m_mulT (m_der (r9 (6 + f9))) (r9 g9) cu := by rw [eP_5520, va_up_self]; rw [r_5511, r_5515]
  have ro_5522 : ∀ q, q ≠ 4 → P_5520 q = P_5510 q := fun q hq => by rw [eP_5520]; exact va_up_ne _ _ hq
  have r_5524 : P_5510 0 = r9 (6 + f9) := (ro_5512 0 (by omega)).trans r_5505
  have r_5525 : P_5510 3 = m_invM (r9 (6 + f9)) cu := (ro_5512 3 (by omega)).trans r_5501
  refine lv_aload_n hx hb dX6_layPush_39 rfl (lv_at hl 0 rfl) ?_
  refine lv_iconst (v := nI 3) hx hb dX6_layPush_40 (by decide) ?_
  refine lv_iconst (v := nI 4) hx hb dX6_layPush_41 (by decide) ?_
  refine lv_iconst (v := nI 2) hx hb dX6_layPush_42 (by decide) ?_
  have r_5526 : P_5520 3 = m_invM (r9 (6 + f9)) cu := (ro_5522 3 (by omega)).trans r_5525
  have f_5527 : F_5518 b = mO ma mi hh := (hp_5519.2 b (ne_oa f_5516 f_5513)).trans f_5516
  have f_5528 : F_5518 (ma 0) = .inl (G.2 0, 89, .inl zf) := (hp_5519.2 (ma 0) (ne_aa (by decide) f_5517 f_5513)).trans f_5517
  refine q_callv hw (q_runV (As := [.int (nI (3)), .int (nI (4)), .int (nI (2))]) (c_X6_putIn l G L F_5518 b ma mi hh P_5520 zf cu 3 4 2 mb f_5527 hma f_5523 f_5528 hz0 (by omega) (by omega) (by omega) (by omega) (by omega) (by omega) (by omega)) C0 hw vw_X6_71 mb f_5527 rfl rfl rfl hl.1 rfl (Nat.le_of_ble_eq_true rfl) dX6_layPush_43 ⟨by decide, by decide⟩ ⟨by decide, by decide⟩) rfl rfl (fun F_5529 H locs hw hp_5530 => ?_)
  obtain ⟨⟨P_5531, f_5534, r_5532, ro_5533⟩, o_5535⟩ := hp_5530
  rw [r_5526, r_5521] at r_5532
  have r_5536 : P_5520 0 = r9 (6 + f9) := (ro_5522 0 (by omega)).trans r_5524
  have r_5537 : P_5520 1 = r9 g9 := (ro_5522 1 (by omega)).trans r_5515
  have r_5538 : P_5520 10 = m_der (r9 (6 + f9)) := (ro_5522 10 (by omega)).trans r_5511
  exact r_v C0 hr hlk hw ⟨⟨_, f_5534, r_5532, (fun q j0 j1 j2 j3 j4 j5 j6 j7 j8 => ((ro_5533 q j0 j5 j6).trans ((ro_5522 q j8).trans ((ro_5512 q j7).trans ((ro_5502 q j3 j4 j5 j6).trans ((ro_5493 q j2).trans (ro_5477 q j1)))))))⟩, (fun q k0 => ((o_5535 q k0).trans ((hp_5519.2 q k0).trans ((hp_5509.2 q k0).trans ((o_5504 q k0).trans ((hp_5490.2 q k0).trans ((o_5483 q ).trans ((hp_5474.2 q k0).trans (o_5469 q )))))))))⟩ (Nat.le_refl _) (Nat.le_refl _) dX6_layPush_46 hQ
abbrev rm_X6_layLog : Room := { frames := 5, cells := 0, slots := 0, locals := 116 }
set_option maxHeartbeats 4000000 in
set_option maxRecDepth 100000 in
theorem c_X6_layLog (l : Launch) (G : Gl) (L : List Nat) (F : Nat → va_E) (b : Nat) (ma : Nat → Nat) (mi : Nat → Int32) (hh : Int64) (pl : Nat → Nat → ZP) (zf : Nat → Int32) (cu : Nat) (r9 : Rws) (f9 : Nat) (mb : b ∈ L) (fb : F b = mO ma mi hh) (hma : ∀ i, i < 7 → ma i ∈ L) (fp : F (ma 4) = pcE G pl) (fz : F (ma 0) = .inl (G.2 0, 89, .inl zf)) (hz0 : zf 0 = nI cu) (hc : cu ≤ 6) (hc2 : 2 ≤ cu) (hf9 : f9 < 6) (hrw : ∀ i k, i < 12 → k < 7 → zf (5 + 7 * i + k) = nI (r9 i k).val) : CV l yX6_layLog cX6_layLog 2 none rm_X6_layLog G L F [.ref b, .int (nI (f9))] (fun F1 => (∃ P9, F1 (ma 4) = pcE G P9 ∧ P9 2 = m_logM (r9 (6 + f9)) cu ∧ ∀ q, q ≠ 2 → q ≠ 0 → q ≠ 12 → q ≠ 9 → q ≠ 10 → q ≠ 11 → P9 q = pl q) ∧ ∀ q, q ≠ ma 4 → F1 q = F q) := by
  refine CG_of (by decide) (Nat.le_of_ble_eq_true rfl) rfl ?_
  intro p e s m args below meth c Q C0 hr hlk hnm hQ hw ls hl
  have hx := C0.x
  have hb := C0.b
  refine lv_aload_n hx hb dX6_layLog_0 rfl (lv_at hl 0 rfl) ?_
  refine lv_iload_n hx hb dX6_layLog_1 rfl (lv_at hl 1 rfl) ?_
  refine q_calli hw (q_runS (As := [.int (nI (f9))]) (c_X6_flowAt2 l G L F f9 (by omega)) C0 hw sw_X6_138 rfl hl.1 rfl (Nat.le_of_ble_eq_true rfl) dX6_layLog_2 ⟨by decide, by decide⟩ ⟨by decide, by decide⟩) rfl rfl (fun r_5541 F_5539 H locs hw hp_5540 => ?_)
  obtain ⟨he_5542, o_5543⟩ := hp_5540
  subst he_5542
  refine lv_iconst (v := nI 0) hx hb dX6_layLog_5 (by decide) ?_
  have f_5544 : F_5539 b = mO ma mi hh := (o_5543 b ).trans fb
  have f_5545 : F_5539 (ma 4) = pcE G pl := (o_5543 (ma 4) ).trans fp
  have f_5546 : F_5539 (ma 0) = .inl (G.2 0, 89, .inl zf) := (o_5543 (ma 0) ).trans fz
  refine q_callv hw (q_runV (As := [.int (nI (5 + 7 * (6 + f9))), .int (nI (0))]) (c_X6_load l G L F_5539 b ma mi hh pl zf cu (5 + 7 * (6 + f9)) 0 (r9 (6 + f9)) mb f_5544 hma f_5545 f_5546 hz0 (by omega) (by omega) (by omega) (by omega) (fun k hk => hrw (6 + f9) k (by omega) hk)) C0 hw vw_X6_112 mb f_5544 rfl rfl rfl hl.1 rfl (Nat.le_of_ble_eq_true rfl) dX6_layLog_6 ⟨by decide, by decide⟩ ⟨by decide, by decide⟩) rfl rfl (fun F_5547 H locs hw hp_5548 => ?_)
  obtain ⟨P_5549, eP_5549⟩ : ∃ P9, P9 = va_up pl 0 (r9 (6 + f9)) := ⟨_, rfl⟩
  have f_5552 : F_5547 (ma 4) = pcE G P_5549 := by rw [eP_5549]; exact hp_5548.1
  have r_5550 : P_5549 0 = r9 (6 + f9) := by rw [eP_5549, va_up_self]
  have ro_5551 : ∀ q, q ≠ 0 → P_5549 q = pl q := fun q hq => by rw [eP_5549]; exact va_up_ne _ _ hq
  refine lv_aload_n hx hb dX6_layLog_9 rfl (lv_at hl 0 rfl) ?_
  refine lv_iconst (v := nI 0) hx hb dX6_layLog_10 (by decide) ?_
  refine lv_iconst (v := nI 2) hx hb dX6_layLog_11 (by decide) ?_
  have f_5553 : F_5547 b = mO ma mi hh := (hp_5548.2 b (ne_oa f_5544 f_5545)).trans f_5544
  have f_5554 : F_5547 (ma 0) = .inl (G.2 0, 89, .inl zf) := (hp_5548.2 (ma 0) (ne_aa (by decide) f_5546 f_5545)).trans f_5546
  refine q_callv hw (q_runV (As := [.int (nI (0)), .int (nI (2))]) (c_X6_logTo l G L F_5547 b ma mi hh P_5549 zf cu 0 2 mb f_5553 hma f_5552 f_5554 hz0 (by omega) (by omega) (by omega) (by omega) (by omega)) C0 hw vw_X6_147 mb f_5553 rfl rfl rfl hl.1 rfl (Nat.le_of_ble_eq_true rfl) dX6_layLog_12 ⟨by decide, by decide⟩ ⟨by decide, by decide⟩) rfl rfl (fun F_5555 H locs hw hp_5556 => ?_)
  obtain ⟨⟨P_5557, f_5560, r_5558, ro_5559⟩, o_5561⟩ := hp_5556
  rw [r_5550] at r_5558
  exact r_v C0 hr hlk hw ⟨⟨_, f_5560, r_5558, (fun q j0 j1 j2 j3 j4 j5 => ((ro_5559 q j0 j2 j3 j4 j5).trans (ro_5551 q j1)))⟩, (fun q k0 => ((o_5561 q k0).trans ((hp_5548.2 q k0).trans (o_5543 q ))))⟩ (Nat.le_refl _) (Nat.le_refl _) dX6_layLog_15 hQ
abbrev rm_X6_layExp : Room := { frames := 4, cells := 0, slots := 0, locals := 93 }
set_option maxHeartbeats 4000000 in
set_option maxRecDepth 100000 in
theorem c_X6_layExp (l : Launch) (G : Gl) (L : List Nat) (F : Nat → va_E) (b : Nat) (ma : Nat → Nat) (mi : Nat → Int32) (hh : Int64) (pl : Nat → Nat → ZP) (zf : Nat → Int32) (cu : Nat) (r9 : Rws) (f9 : Nat) (mb : b ∈ L) (fb : F b = mO ma mi hh) (hma : ∀ i, i < 7 → ma i ∈ L) (fp : F (ma 4) = pcE G pl) (fz : F (ma 0) = .inl (G.2 0, 89, .inl zf)) (hz0 : zf 0 = nI cu) (hc : cu ≤ 6) (hc2 : 2 ≤ cu) (hf9 : f9 < 6) (hrw : ∀ i k, i < 12 → k < 7 → zf (5 + 7 * i + k) = nI (r9 i k).val) : CV l yX6_layExp cX6_layExp 2 none rm_X6_layExp G L F [.ref b, .int (nI (f9))] (fun F1 => (∃ P9, F1 (ma 4) = pcE G P9 ∧ P9 2 = m_expM (r9 f9) cu ∧ ∀ q, q ≠ 2 → q ≠ 0 → q ≠ 9 → q ≠ 10 → q ≠ 11 → P9 q = pl q) ∧ ∀ q, q ≠ ma 4 → F1 q = F q) := by
  refine CG_of (by decide) (Nat.le_of_ble_eq_true rfl) rfl ?_
  intro p e s m args below meth c Q C0 hr hlk hnm hQ hw ls hl
  have hx := C0.x
  have hb := C0.b
  refine lv_aload_n hx hb dX6_layExp_0 rfl (lv_at hl 0 rfl) ?_
  refine lv_iload_n hx hb dX6_layExp_1 rfl (lv_at hl 1 rfl) ?_
  refine q_calli hw (q_runS (As := [.int (nI (f9))]) (c_X6_fieldAt l G L F f9 (by omega)) C0 hw sw_X6_109 rfl hl.1 rfl (Nat.le_of_ble_eq_true rfl) dX6_layExp_2 ⟨by decide, by decide⟩ ⟨by decide, by decide⟩) rfl rfl (fun r_5564 F_5562 H locs hw hp_5563 => ?_)
  obtain ⟨he_5565, o_5566⟩ := hp_5563
  subst he_5565
  refine lv_iconst (v := nI 0) hx hb dX6_layExp_5 (by decide) ?_
  have f_5567 : F_5562 b = mO ma mi hh := (o_5566 b ).trans fb
  have f_5568 : F_5562 (ma 4) = pcE G pl := (o_5566 (ma 4) ).trans fp
  have f_5569 : F_5562 (ma 0) = .inl (G.2 0, 89, .inl zf) := (o_5566 (ma 0) ).trans fz
  refine q_callv hw (q_runV (As := [.int (nI (5 + 7 * f9)), .int (nI (0))]) (c_X6_load l G L F_5562 b ma mi hh pl zf cu (5 + 7 * f9) 0 (r9 f9) mb f_5567 hma f_5568 f_5569 hz0 (by omega) (by omega) (by omega) (by omega) (fun k hk => hrw f9 k (by omega) hk)) C0 hw vw_X6_112 mb f_5567 rfl rfl rfl hl.1 rfl (Nat.le_of_ble_eq_true rfl) dX6_layExp_6 ⟨by decide, by decide⟩ ⟨by decide, by decide⟩) rfl rfl (fun F_5570 H locs hw hp_5571 => ?_)
  obtain ⟨P_5572, eP_5572⟩ : ∃ P9, P9 = va_up pl 0 (r9 f9) := ⟨_, rfl⟩
  have f_5575 : F_5570 (ma 4) = pcE G P_5572 := by rw [eP_5572]; exact hp_5571.1
  have r_5573 : P_5572 0 = r9 f9 := by rw [eP_5572, va_up_self]
  have ro_5574 : ∀ q, q ≠ 0 → P_5572 q = pl q := fun q hq => by rw [eP_5572]; exact va_up_ne _ _ hq
  refine lv_aload_n hx hb dX6_layExp_9 rfl (lv_at hl 0 rfl) ?_
  refine lv_iconst (v := nI 0) hx hb dX6_layExp_10 (by decide) ?_
  refine lv_iconst (v := nI 2) hx hb dX6_layExp_11 (by decide) ?_
  have f_5576 : F_5570 b = mO ma mi hh := (hp_5571.2 b (ne_oa f_5567 f_5568)).trans f_5567
  have f_5577 : F_5570 (ma 0) = .inl (G.2 0, 89, .inl zf) := (hp_5571.2 (ma 0) (ne_aa (by decide) f_5569 f_5568)).trans f_5569
  refine q_callv hw (q_runV (As := [.int (nI (0)), .int (nI (2))]) (c_X6_expTo l G L F_5570 b ma mi hh P_5572 zf cu 0 2 mb f_5576 hma f_5575 f_5577 hz0 (by omega) (by omega) (by omega) (by omega) (by omega)) C0 hw vw_X6_81 mb f_5576 rfl rfl rfl hl.1 rfl (Nat.le_of_ble_eq_true rfl) dX6_layExp_12 ⟨by decide, by decide⟩ ⟨by decide, by decide⟩) rfl rfl (fun F_5578 H locs hw hp_5579 => ?_)
  obtain ⟨⟨P_5580, f_5583, r_5581, ro_5582⟩, o_5584⟩ := hp_5579
  rw [r_5573] at r_5581
  exact r_v C0 hr hlk hw ⟨⟨_, f_5583, r_5581, (fun q j0 j1 j2 j3 j4 => ((ro_5582 q j0 j2 j3 j4).trans (ro_5574 q j1)))⟩, (fun q k0 => ((o_5584 q k0).trans ((hp_5571.2 q k0).trans (o_5566 q ))))⟩ (Nat.le_refl _) (Nat.le_refl _) dX6_layExp_15 hQ
abbrev rm_X6_layCompose : Room := { frames := 4, cells := 0, slots := 0, locals := 94 }
set_option maxHeartbeats 4000000 in
set_option maxRecDepth 100000 in
theorem c_X6_layCompose (l : Launch) (G : Gl) (L : List Nat) (F : Nat → va_E) (b : Nat) (ma : Nat → Nat) (mi : Nat → Int32) (hh : Int64) (pl : Nat → Nat → ZP) (zf : Nat → Int32) (cu : Nat) (r9 : Rws) (f9 g9 : Nat) (mb : b ∈ L) (fb : F b = mO ma mi hh) (hma : ∀ i, i < 7 → ma i ∈ L) (fp : F (ma 4) = pcE G pl) (fz : F (ma 0) = .inl (G.2 0, 89, .inl zf)) (hz0 : zf 0 = nI cu) (hc : cu ≤ 6) (hc2 : 2 ≤ cu) (hf9 : f9 < 6) (hg9 : g9 < 6) (hrw : ∀ i k, i < 12 → k < 7 → zf (5 + 7 * i + k) = nI (r9 i k).val) : CV l yX6_layCompose cX6_layCompose 3 none rm_X6_layCompose G L F [.ref b, .int (nI (f9)), .int (nI (g9))] (fun F1 => (∃ P9, F1 (ma 4) = pcE G P9 ∧ P9 2 = m_pi (r9 (6 + f9)) (r9 (6 + g9)) cu ∧ ∀ q, q ≠ 2 → q ≠ 0 → q ≠ 1 → q ≠ 6 → q ≠ 7 → P9 q = pl q) ∧ ∀ q, q ≠ ma 4 → F1 q = F q) := by
  refine CG_of (by decide) (Nat.le_of_ble_eq_true rfl) rfl ?_
  intro p e s m args below meth c Q C0 hr hlk hnm hQ hw ls hl
  have hx := C0.x
  have hb := C0.b
  refine lv_aload_n hx hb dX6_layCompose_0 rfl (lv_at hl 0 rfl) ?_
  refine lv_iload_n hx hb dX6_layCompose_1 rfl (lv_at hl 1 rfl) ?_
  refine q_calli hw (q_runS (As := [.int (nI (f9))]) (c_X6_flowAt2 l G L F f9 (by omega)) C0 hw sw_X6_138 rfl hl.1 rfl (Nat.le_of_ble_eq_true rfl) dX6_layCompose_2 ⟨by decide, by decide⟩ ⟨by decide, by decide⟩) rfl rfl (fun r_5587 F_5585 H locs hw hp_5586 => ?_)
  obtain ⟨he_5588, o_5589⟩ := hp_5586
  subst he_5588
  refine lv_iconst (v := nI 0) hx hb dX6_layCompose_5 (by decide) ?_
  have f_5590 : F_5585 b = mO ma mi hh := (o_5589 b ).trans fb
  have f_5591 : F_5585 (ma 4) = pcE G pl := (o_5589 (ma 4) ).trans fp
  have f_5592 : F_5585 (ma 0) = .inl (G.2 0, 89, .inl zf) := (o_5589 (ma 0) ).trans fz
  refine q_callv hw (q_runV (As := [.int (nI (5 + 7 * (6 + f9))), .int (nI (0))]) (c_X6_load l G L F_5585 b ma mi hh pl zf cu (5 + 7 * (6 + f9)) 0 (r9 (6 + f9)) mb f_5590 hma f_5591 f_5592 hz0 (by omega) (by omega) (by omega) (by omega) (fun k hk => hrw (6 + f9) k (by omega) hk)) C0 hw vw_X6_112 mb f_5590 rfl rfl rfl hl.1 rfl (Nat.le_of_ble_eq_true rfl) dX6_layCompose_6 ⟨by decide, by decide⟩ ⟨by decide, by decide⟩) rfl rfl (fun F_5593 H locs hw hp_5594 => ?_)
  obtain ⟨P_5595, eP_5595⟩ : ∃ P9, P9 = va_up pl 0 (r9 (6 + f9)) := ⟨_, rfl⟩
  have f_5598 : F_5593 (ma 4) = pcE G P_5595 := by rw [eP_5595]; exact hp_5594.1
  have r_5596 : P_5595 0 = r9 (6 + f9) := by rw [eP_5595, va_up_self]
  have ro_5597 : ∀ q, q ≠ 0 → P_5595 q = pl q := fun q hq => by rw [eP_5595]; exact va_up_ne _ _ hq
  refine lv_aload_n hx hb dX6_layCompose_9 rfl (lv_at hl 0 rfl) ?_
  refine lv_iload_n hx hb dX6_layCompose_10 rfl (lv_at hl 2 rfl) ?_
  refine q_calli hw (q_runS (As := [.int (nI (g9))]) (c_X6_flowAt2 l G L F_5593 g9 (by omega)) C0 hw sw_X6_138 rfl hl.1 rfl (Nat.le_of_ble_eq_true rfl) dX6_layCompose_11 ⟨by decide, by decide⟩ ⟨by decide, by decide⟩) rfl rfl (fun r_5601 F_5599 H locs hw hp_5600 => ?_)
  obtain ⟨he_5602, o_5603⟩ := hp_5600
  subst he_5602
  refine lv_iconst (v := nI 1) hx hb dX6_layCompose_14 (by decide) ?_
  have f_5604 : F_5593 b = mO ma mi hh := (hp_5594.2 b (ne_oa f_5590 f_5591)).trans f_5590
  have f_5605 : F_5599 b = mO ma mi hh := (o_5603 b ).trans f_5604
  have f_5606 : F_5599 (ma 4) = pcE G P_5595 := (o_5603 (ma 4) ).trans f_5598
  have f_5607 : F_5593 (ma 0) = .inl (G.2 0, 89, .inl zf) := (hp_5594.2 (ma 0) (ne_aa (by decide) f_5592 f_5591)).trans f_5592
  have f_5608 : F_5599 (ma 0) = .inl (G.2 0, 89, .inl zf) := (o_5603 (ma 0) ).trans f_5607
  refine q_callv hw (q_runV (As := [.int (nI (5 + 7 * (6 + g9))), .int (nI (1))]) (c_X6_load l G L F_5599 b ma mi hh P_5595 zf cu (5 + 7 * (6 + g9)) 1 (r9 (6 + g9)) mb f_5605 hma f_5606 f_5608 hz0 (by omega) (by omega) (by omega) (by omega) (fun k hk => hrw (6 + g9) k (by omega) hk)) C0 hw vw_X6_112 mb f_5605 rfl rfl rfl hl.1 rfl (Nat.le_of_ble_eq_true rfl) dX6_layCompose_15 ⟨by decide, by decide⟩ ⟨by decide, by decide⟩) rfl rfl (fun F_5609 H locs hw hp_5610 => ?_)
  obtain ⟨P_5611, eP_5611⟩ : ∃ P9, P9 = va_up P_5595 1 (r9 (6 + g9)) := ⟨_, rfl⟩
  have f_5614 : F_5609 (ma 4) = pcE G P_5611 := by rw [eP_5611]; exact hp_5610.1
  have r_5612 : P_5611 1 = r9 (6 + g9) := by rw [eP_5611, va_up_self]
  have ro_5613 : ∀ q, q ≠ 1 → P_5611 q = P_5595 q := fun q hq => by rw [eP_5611]; exact va_up_ne _ _ hq
  refine lv_aload_n hx hb dX6_layCompose_18 rfl (lv_at hl 0 rfl) ?_
  refine lv_iconst (v := nI 0) hx hb dX6_layCompose_19 (by decide) ?_
  refine lv_iconst (v := nI 1) hx hb dX6_layCompose_20 (by decide) ?_
  refine lv_iconst (v := nI 2) hx hb dX6_layCompose_21 (by decide) ?_
  have r_5615 : P_5611 0 = r9 (6 + f9) := (ro_5613 0 (by omega)).trans r_5596
  have f_5616 : F_5609 b = mO ma mi hh := (hp_5610.2 b (ne_oa f_5605 f_5606)).trans f_5605
  have f_5617 : F_5609 (ma 0) = .inl (G.2 0, 89, .inl zf) := (hp_5610.2 (ma 0) (ne_aa (by decide) f_5608 f_5606)).trans f_5608
  refine q_callv hw (q_runV (As := [.int (nI (0)), .int (nI (1)), .int (nI (2))]) (c_X6_putIn l G L F_5609 b ma mi hh P_5611 zf cu 0 1 2 mb f_5616 hma f_5614 f_5617 hz0 (by omega) (by omega) (by omega) (by omega) (by omega) (by omega) (by omega)) C0 hw vw_X6_71 mb f_5616 rfl rfl rfl hl.1 rfl (Nat.le_of_ble_eq_true rfl) dX6_layCompose_22 ⟨by decide, by decide⟩ ⟨by decide, by decide⟩) rfl rfl (fun F_5618 H locs hw hp_5619 => ?_)
  obtain ⟨⟨P_5620, f_5623, r_5621, ro_5622⟩, o_5624⟩ := hp_5619
  rw [r_5615, r_5612] at r_5621
  exact r_v C0 hr hlk hw ⟨⟨_, f_5623, r_5621, (fun q j0 j1 j2 j3 j4 => ((ro_5622 q j0 j3 j4).trans ((ro_5613 q j2).trans (ro_5597 q j1))))⟩, (fun q k0 => ((o_5624 q k0).trans ((hp_5610.2 q k0).trans ((o_5603 q ).trans ((hp_5594.2 q k0).trans (o_5589 q ))))))⟩ (Nat.le_refl _) (Nat.le_refl _) dX6_layCompose_25 hQ
abbrev rm_X6_layInverse : Room := { frames := 5, cells := 0, slots := 0, locals := 117 }
set_option maxHeartbeats 4000000 in
set_option maxRecDepth 100000 in
theorem c_X6_layInverse (l : Launch) (G : Gl) (L : List Nat) (F : Nat → va_E) (b : Nat) (ma : Nat → Nat) (mi : Nat → Int32) (hh : Int64) (pl : Nat → Nat → ZP) (zf : Nat → Int32) (cu : Nat) (r9 : Rws) (f9 : Nat) (mb : b ∈ L) (fb : F b = mO ma mi hh) (hma : ∀ i, i < 7 → ma i ∈ L) (fp : F (ma 4) = pcE G pl) (fz : F (ma 0) = .inl (G.2 0, 89, .inl zf)) (hz0 : zf 0 = nI cu) (hc : cu ≤ 6) (hc2 : 2 ≤ cu) (hf9 : f9 < 6) (hrw : ∀ i k, i < 12 → k < 7 → zf (5 + 7 * i + k) = nI (r9 i k).val) : CV l yX6_layInverse cX6_layInverse 2 none rm_X6_layInverse G L F [.ref b, .int (nI (f9))] (fun F1 => (∃ P9, F1 (ma 4) = pcE G P9 ∧ P9 2 = m_invM (r9 (6 + f9)) cu ∧ ∀ q, q ≠ 2 → q ≠ 0 → q ≠ 8 → q ≠ 6 → q ≠ 7 → P9 q = pl q) ∧ ∀ q, q ≠ ma 4 → F1 q = F q) := by
  refine CG_of (by decide) (Nat.le_of_ble_eq_true rfl) rfl ?_
  intro p e s m args below meth c Q C0 hr hlk hnm hQ hw ls hl
  have hx := C0.x
  have hb := C0.b
  refine lv_aload_n hx hb dX6_layInverse_0 rfl (lv_at hl 0 rfl) ?_
  refine lv_iload_n hx hb dX6_layInverse_1 rfl (lv_at hl 1 rfl) ?_
  refine q_calli hw (q_runS (As := [.int (nI (f9))]) (c_X6_flowAt2 l G L F f9 (by omega)) C0 hw sw_X6_138 rfl hl.1 rfl (Nat.le_of_ble_eq_true rfl) dX6_layInverse_2 ⟨by decide, by decide⟩ ⟨by decide, by decide⟩) rfl rfl (fun r_5627 F_5625 H locs hw hp_5626 => ?_)
  obtain ⟨he_5628, o_5629⟩ := hp_5626
  subst he_5628
  refine lv_iconst (v := nI 0) hx hb dX6_layInverse_5 (by decide) ?_
  have f_5630 : F_5625 b = mO ma mi hh := (o_5629 b ).trans fb
  have f_5631 : F_5625 (ma 4) = pcE G pl := (o_5629 (ma 4) ).trans fp
  have f_5632 : F_5625 (ma 0) = .inl (G.2 0, 89, .inl zf) := (o_5629 (ma 0) ).trans fz
  refine q_callv hw (q_runV (As := [.int (nI (5 + 7 * (6 + f9))), .int (nI (0))]) (c_X6_load l G L F_5625 b ma mi hh pl zf cu (5 + 7 * (6 + f9)) 0 (r9 (6 + f9)) mb f_5630 hma f_5631 f_5632 hz0 (by omega) (by omega) (by omega) (by omega) (fun k hk => hrw (6 + f9) k (by omega) hk)) C0 hw vw_X6_112 mb f_5630 rfl rfl rfl hl.1 rfl (Nat.le_of_ble_eq_true rfl) dX6_layInverse_6 ⟨by decide, by decide⟩ ⟨by decide, by decide⟩) rfl rfl (fun F_5633 H locs hw hp_5634 => ?_)
  obtain ⟨P_5635, eP_5635⟩ : ∃ P9, P9 = va_up pl 0 (r9 (6 + f9)) := ⟨_, rfl⟩
  have f_5638 : F_5633 (ma 4) = pcE G P_5635 := by rw [eP_5635]; exact hp_5634.1
  have r_5636 : P_5635 0 = r9 (6 + f9) := by rw [eP_5635, va_up_self]
  have ro_5637 : ∀ q, q ≠ 0 → P_5635 q = pl q := fun q hq => by rw [eP_5635]; exact va_up_ne _ _ hq
  refine lv_aload_n hx hb dX6_layInverse_9 rfl (lv_at hl 0 rfl) ?_
  refine lv_iconst (v := nI 0) hx hb dX6_layInverse_10 (by decide) ?_
  refine lv_iconst (v := nI 2) hx hb dX6_layInverse_11 (by decide) ?_
  have f_5639 : F_5633 b = mO ma mi hh := (hp_5634.2 b (ne_oa f_5630 f_5631)).trans f_5630
  have f_5640 : F_5633 (ma 0) = .inl (G.2 0, 89, .inl zf) := (hp_5634.2 (ma 0) (ne_aa (by decide) f_5632 f_5631)).trans f_5632
  refine q_callv hw (q_runV (As := [.int (nI (0)), .int (nI (2))]) (c_X6_invertTo l G L F_5633 b ma mi hh P_5635 zf cu 0 2 mb f_5639 hma f_5638 f_5640 hz0 (by omega) (by omega) (by omega) (by omega) (by omega)) C0 hw vw_X6_141 mb f_5639 rfl rfl rfl hl.1 rfl (Nat.le_of_ble_eq_true rfl) dX6_layInverse_12 ⟨by decide, by decide⟩ ⟨by decide, by decide⟩) rfl rfl (fun F_5641 H locs hw hp_5642 => ?_)
  obtain ⟨⟨P_5643, f_5646, r_5644, ro_5645⟩, o_5647⟩ := hp_5642
  rw [r_5636] at r_5644
  exact r_v C0 hr hlk hw ⟨⟨_, f_5646, r_5644, (fun q j0 j1 j2 j3 j4 => ((ro_5645 q j0 j2 j3 j4).trans (ro_5637 q j1)))⟩, (fun q k0 => ((o_5647 q k0).trans ((hp_5634.2 q k0).trans (o_5629 q ))))⟩ (Nat.le_refl _) (Nat.le_refl _) dX6_layInverse_15 hQ
abbrev rm_X6_layTimes : Room := { frames := 5, cells := 0, slots := 0, locals := 116 }
set_option maxHeartbeats 4000000 in
set_option maxRecDepth 100000 in
theorem c_X6_layTimes (l : Launch) (G : Gl) (L : List Nat) (F : Nat → va_E) (b : Nat) (ma : Nat → Nat) (mi : Nat → Int32) (hh : Int64) (pl : Nat → Nat → ZP) (zf : Nat → Int32) (cu : Nat) (r9 : Rws) (f9 y9 : Nat) (mb : b ∈ L) (fb : F b = mO ma mi hh) (hma : ∀ i, i < 7 → ma i ∈ L) (fp : F (ma 4) = pcE G pl) (fz : F (ma 0) = .inl (G.2 0, 89, .inl zf)) (hz0 : zf 0 = nI cu) (hc : cu ≤ 6) (hc2 : 2 ≤ cu) (hf9 : f9 < 6) (hy9 : y9 ≤ 10007) (hrw : ∀ i k, i < 12 → k < 7 → zf (5 + 7 * i + k) = nI (r9 i k).val) : CV l yX6_layTimes cX6_layTimes 3 none rm_X6_layTimes G L F [.ref b, .int (nI (f9)), .int (nI (y9))] (fun F1 => (∃ P9, F1 (ma 4) = pcE G P9 ∧ P9 2 = m_expM (m_am (fun _ => zc 0) (m_logM (r9 (6 + f9)) cu) (zc y9)) cu ∧ ∀ q, q ≠ 2 → q ≠ 0 → q ≠ 1 → q ≠ 3 → q ≠ 12 → q ≠ 9 → q ≠ 10 → q ≠ 11 → P9 q = pl q) ∧ ∀ q, q ≠ ma 4 → F1 q = F q) := by
  refine CG_of (by decide) (Nat.le_of_ble_eq_true rfl) rfl ?_
  intro p e s m args below meth c Q C0 hr hlk hnm hQ hw ls hl
  have hx := C0.x
  have hb := C0.b
  refine lv_aload_n hx hb dX6_layTimes_0 rfl (lv_at hl 0 rfl) ?_
  refine lv_iload_n hx hb dX6_layTimes_1 rfl (lv_at hl 1 rfl) ?_
  refine q_calli hw (q_runS (As := [.int (nI (f9))]) (c_X6_flowAt2 l G L F f9 (by omega)) C0 hw sw_X6_138 rfl hl.1 rfl (Nat.le_of_ble_eq_true rfl) dX6_layTimes_2 ⟨by decide, by decide⟩ ⟨by decide, by decide⟩) rfl rfl (fun r_5650 F_5648 H locs hw hp_5649 => ?_)
  obtain ⟨he_5651, o_5652⟩ := hp_5649
  subst he_5651
  refine lv_iconst (v := nI 0) hx hb dX6_layTimes_5 (by decide) ?_
  have f_5653 : F_5648 b = mO ma mi hh := (o_5652 b ).trans fb
  have f_5654 : F_5648 (ma 4) = pcE G pl := (o_5652 (ma 4) ).trans fp
  have f_5655 : F_5648 (ma 0) = .inl (G.2 0, 89, .inl zf) := (o_5652 (ma 0) ).trans fz
  refine q_callv hw (q_runV (As := [.int (nI (5 + 7 * (6 + f9))), .int (nI (0))]) (c_X6_load l G L F_5648 b ma mi hh pl zf cu (5 + 7 * (6 + f9)) 0 (r9 (6 + f9)) mb f_5653 hma f_5654 f_5655 hz0 (by omega) (by omega) (by omega) (by omega) (fun k hk => hrw (6 + f9) k (by omega) hk)) C0 hw vw_X6_112 mb f_5653 rfl rfl rfl hl.1 rfl (Nat.le_of_ble_eq_true rfl) dX6_layTimes_6 ⟨by decide, by decide⟩ ⟨by decide, by decide⟩) rfl rfl (fun F_5656 H locs hw hp_5657 => ?_)
  obtain ⟨P_5658, eP_5658⟩ : ∃ P9, P9 = va_up pl 0 (r9 (6 + f9)) := ⟨_, rfl⟩
  have f_5661 : F_5656 (ma 4) = pcE G P_5658 := by rw [eP_5658]; exact hp_5657.1
  have r_5659 : P_5658 0 = r9 (6 + f9) := by rw [eP_5658, va_up_self]
  have ro_5660 : ∀ q, q ≠ 0 → P_5658 q = pl q := fun q hq => by rw [eP_5658]; exact va_up_ne _ _ hq
  refine lv_aload_n hx hb dX6_layTimes_9 rfl (lv_at hl 0 rfl) ?_
  refine lv_iconst (v := nI 0) hx hb dX6_layTimes_10 (by decide) ?_
  refine lv_iconst (v := nI 1) hx hb dX6_layTimes_11 (by decide) ?_
  have f_5662 : F_5656 b = mO ma mi hh := (hp_5657.2 b (ne_oa f_5653 f_5654)).trans f_5653
  have f_5663 : F_5656 (ma 0) = .inl (G.2 0, 89, .inl zf) := (hp_5657.2 (ma 0) (ne_aa (by decide) f_5655 f_5654)).trans f_5655
  refine q_callv hw (q_runV (As := [.int (nI (0)), .int (nI (1))]) (c_X6_logTo l G L F_5656 b ma mi hh P_5658 zf cu 0 1 mb f_5662 hma f_5661 f_5663 hz0 (by omega) (by omega) (by omega) (by omega) (by omega)) C0 hw vw_X6_147 mb f_5662 rfl rfl rfl hl.1 rfl (Nat.le_of_ble_eq_true rfl) dX6_layTimes_12 ⟨by decide, by decide⟩ ⟨by decide, by decide⟩) rfl rfl (fun F_5664 H locs hw hp_5665 => ?_)
  obtain ⟨⟨P_5666, f_5669, r_5667, ro_5668⟩, o_5670⟩ := hp_5665
  rw [r_5659] at r_5667
  refine lv_aload_n hx hb dX6_layTimes_15 rfl (lv_at hl 0 rfl) ?_
  refine lv_iconst (v := nI 3) hx hb dX6_layTimes_16 (by decide) ?_
  have f_5671 : F_5664 b = mO ma mi hh := (o_5670 b (ne_oa f_5662 f_5661)).trans f_5662
  have f_5672 : F_5664 (ma 0) = .inl (G.2 0, 89, .inl zf) := (o_5670 (ma 0) (ne_aa (by decide) f_5663 f_5661)).trans f_5663
  refine q_callv hw (q_runV (As := [.int (nI (3))]) (c_X6_clear l G L F_5664 b ma mi hh P_5666 zf cu 3 mb f_5671 hma f_5669 f_5672 hz0 (by omega) (by omega) (by omega)) C0 hw vw_X6_54 mb f_5671 rfl rfl rfl hl.1 rfl (Nat.le_of_ble_eq_true rfl) dX6_layTimes_17 ⟨by decide, by decide⟩ ⟨by decide, by decide⟩) rfl rfl (fun F_5673 H locs hw hp_5674 => ?_)
  obtain ⟨P_5675, eP_5675⟩ : ∃ P9, P9 = va_up P_5666 3 ((fun _ => zc 0)) := ⟨_, rfl⟩
  have f_5678 : F_5673 (ma 4) = pcE G P_5675 := by rw [eP_5675]; exact hp_5674.1
  have r_5676 : P_5675 3 = (fun _ => zc 0) := by rw [eP_5675, va_up_self]
  have ro_5677 : ∀ q, q ≠ 3 → P_5675 q = P_5666 q := fun q hq => by rw [eP_5675]; exact va_up_ne _ _ hq
  have r_5679 : P_5666 0 = r9 (6 + f9) := (ro_5668 0 (by omega) (by omega) (by omega) (by omega) (by omega)).trans r_5659
  refine lv_aload_n hx hb dX6_layTimes_20 rfl (lv_at hl 0 rfl) ?_
  refine lv_iconst (v := nI 1) hx hb dX6_layTimes_21 (by decide) ?_
  refine lv_iload_n hx hb dX6_layTimes_22 rfl (lv_at hl 2 rfl) ?_
  refine lv_iconst (v := nI 3) hx hb dX6_layTimes_23 (by decide) ?_
  have r_5680 : P_5675 1 = m_logM (r9 (6 + f9)) cu := (ro_5677 1 (by omega)).trans r_5667
  have f_5681 : F_5673 b = mO ma mi hh := (hp_5674.2 b (ne_oa f_5671 f_5669)).trans f_5671
  have f_5682 : F_5673 (ma 0) = .inl (G.2 0, 89, .inl zf) := (hp_5674.2 (ma 0) (ne_aa (by decide) f_5672 f_5669)).trans f_5672
  refine q_callv hw (q_runV (As := [.int (nI (1)), .int (nI (y9)), .int (nI (3))]) (c_X6_addTimes l G L F_5673 b ma mi hh P_5675 zf cu 1 y9 3 mb f_5681 hma f_5678 f_5682 hz0 (by omega) (by omega) (by omega) (by omega) (by omega) (by omega)) C0 hw vw_X6_58 mb f_5681 rfl rfl rfl hl.1 rfl (Nat.le_of_ble_eq_true rfl) dX6_layTimes_24 ⟨by decide, by decide⟩ ⟨by decide, by decide⟩) rfl rfl (fun F_5683 H locs hw hp_5684 => ?_)
  obtain ⟨P_5685, eP_5685⟩ : ∃ P9, P9 = va_up P_5675 3 (m_am (P_5675 3) (P_5675 1) (zc y9)) := ⟨_, rfl⟩
  have f_5688 : F_5683 (ma 4) = pcE G P_5685 := by rw [eP_5685]; exact hp_5684.1
  have r_5686 : P_5685 3 = m_am (fun _ => zc 0) (m_logM (r9 (6 + f9)) cu) (zc y9) := by rw [eP_5685, va_up_self]; rw [r_5680, r_5676]
  have ro_5687 : ∀ q, q ≠ 3 → P_5685 q = P_5675 q := fun q hq => by rw [eP_5685]; exact va_up_ne _ _ hq
  have r_5689 : P_5675 0 = r9 (6 + f9) := (ro_5677 0 (by omega)).trans r_5679
  refine lv_aload_n hx hb dX6_layTimes_27 rfl (lv_at hl 0 rfl) ?_
  refine lv_iconst (v := nI 3) hx hb dX6_layTimes_28 (by decide) ?_
  refine lv_iconst (v := nI 2) hx hb dX6_layTimes_29 (by decide) ?_
  have f_5690 : F_5683 b = mO ma mi hh := (hp_5684.2 b (ne_oa f_5681 f_5678)).trans f_5681
  have f_5691 : F_5683 (ma 0) = .inl (G.2 0, 89, .inl zf) := (hp_5684.2 (ma 0) (ne_aa (by decide) f_5682 f_5678)).trans f_5682
  refine q_callv hw (q_runV (As := [.int (nI (3)), .int (nI (2))]) (c_X6_expTo l G L F_5683 b ma mi hh P_5685 zf cu 3 2 mb f_5690 hma f_5688 f_5691 hz0 (by omega) (by omega) (by omega) (by omega) (by omega)) C0 hw vw_X6_81 mb f_5690 rfl rfl rfl hl.1 rfl (Nat.le_of_ble_eq_true rfl) dX6_layTimes_30 ⟨by decide, by decide⟩ ⟨by decide, by decide⟩) rfl rfl (fun F_5692 H locs hw hp_5693 => ?_)
  obtain ⟨⟨P_5694, f_5697, r_5695, ro_5696⟩, o_5698⟩ := hp_5693
  rw [r_5686] at r_5695
  have r_5699 : P_5685 0 = r9 (6 + f9) := (ro_5687 0 (by omega)).trans r_5689
  have r_5700 : P_5685 1 = m_logM (r9 (6 + f9)) cu := (ro_5687 1 (by omega)).trans r_5680
  exact r_v C0 hr hlk hw ⟨⟨_, f_5697, r_5695, (fun q j0 j1 j2 j3 j4 j5 j6 j7 => ((ro_5696 q j0 j5 j6 j7).trans ((ro_5687 q j3).trans ((ro_5677 q j3).trans ((ro_5668 q j2 j4 j5 j6 j7).trans (ro_5660 q j1))))))⟩, (fun q k0 => ((o_5698 q k0).trans ((hp_5684.2 q k0).trans ((hp_5674.2 q k0).trans ((o_5670 q k0).trans ((hp_5657.2 q k0).trans (o_5652 q )))))))⟩ (Nat.le_refl _) (Nat.le_refl _) dX6_layTimes_33 hQ
