abbrev rm_X6_clear : Room := { frames := 1, cells := 0, slots := 0, locals := 23 }
set_option maxHeartbeats 4000000 in
set_option maxRecDepth 100000 in
theorem c_X6_clear (l : Launch) (G : Gl) (L : List Nat) (F : Nat → va_E) (b : Nat) (ma : Nat → Nat) (mi : Nat → Int32) (hh : Int64) (pl : Nat → Nat → ZP) (zf : Nat → Int32) (cu : Nat) (r : Nat) (mb : b ∈ L) (fb : F b = mO ma mi hh) (hma : ∀ i, i < 7 → ma i ∈ L) (fp : F (ma 4) = pcE G pl) (fz : F (ma 0) = .inl (G.2 0, 89, .inl zf)) (hz0 : zf 0 = nI cu) (hc : cu ≤ 6) (hc2 : 2 ≤ cu) (hr9 : r < 20) : CV l yX6_clear cX6_clear 3 none rm_X6_clear G L F [.ref b, .int (nI (r))] (fun F1 => F1 (ma 4) = pcE G (va_up pl r ((fun _ => zc 0))) ∧ ∀ q, q ≠ ma 4 → F1 q = F q) := by
  refine CG_of (by decide) (Nat.le_of_ble_eq_true rfl) rfl ?_
  intro p e s m args below meth c Q C0 hr hlk hnm hQ hw ls hl
  have hx := C0.x
  have hb := C0.b
  refine lv_iconst (v := nI 0) hx hb dX6_clear_0 (by decide) ?_
  refine lv_istore_n (lv' := [(2, .int (nI (0))), (0, .ref b), (1, .int (nI (r)))]) hx hb dX6_clear_1 rfl hl (by decide) rfl (fun ls hl => ?_)
  have lp2 : ∀ (n : Nat) (i : Nat), 0 ≤ i → i ≤ 7 → 7 + 1 - i < n → ∀ (F_494 : Nat → va_E) (H : Heap) (locs : List Loc), wD G L F_494 s H locs → F_494 (ma 4) = pcE G (va_up pl r (m_upto ((fun _ => zc 0)) (pl r) i)) → (∀ q, q ≠ (ma 4) → F_494 q = F q) → ∀ ls : Array Slot, lv_has ls 3 [(0, .ref b), (1, .int (nI (r))), (2, .int (nI (i)))] → W p l e rm_X6_clear s m args below meth c H locs 0 0 Q (F0 m 2 ls []) := by
    intro n
    induction n with
    | zero => intro i hlo hhi hm; exact absurd hm (Nat.not_lt_zero _)
    | succ n ih_2 =>
      intro i hlo hhi hm F_494 H locs hw f_495 fr_496 ls hl
      refine lv_iload_n hx hb dX6_clear_2 rfl (lv_at hl 2 rfl) ?_
      refine lv_bipush (v := nI 7) hx hb dX6_clear_3 (by decide) ?_
      refine n_icmp_ge (tgt := 21) hx hb dX6_clear_5 (by decide) (by omega) (by decide) (fun c_5 => ?_) (fun c_5 => ?_)
      · skip
        obtain rfl : i = 7 := by omega
        exact r_v C0 hr hlk hw ⟨f_495.trans (pst_7 pl r ((fun _ => zc 0)) (pl r)), (fun q k0 => (fr_496 q k0))⟩ (Nat.le_refl _) (Nat.le_refl _) dX6_clear_21 hQ
      · skip
        refine lv_aload_n hx hb dX6_clear_8 rfl (lv_at hl 0 rfl) ?_
        refine lv_iload_n hx hb dX6_clear_9 rfl (lv_at hl 1 rfl) ?_
        refine lv_iload_n hx hb dX6_clear_10 rfl (lv_at hl 2 rfl) ?_
        refine lv_iconst (v := nI 0) hx hb dX6_clear_11 (by decide) ?_
        have f_497 : F_494 b = mO ma mi hh := (fr_496 b (ne_oa fb fp)).trans fb
        have f_498 : F_494 (ma 0) = .inl (G.2 0, 89, .inl zf) := (fr_496 (ma 0) (ne_aa (by decide) fz fp)).trans fz
        refine q_callv hw (q_runV (As := [.int (nI (r)), .int (nI (i)), .int (nI (0))]) (c_X6_setAt l G L F_494 b ma mi hh (va_up pl r (m_upto ((fun _ => zc 0)) (pl r) i)) zf cu r i 0 mb f_497 hma f_495 f_498 hz0 (by omega) (by omega) (by omega) (by omega) (by omega)) C0 hw vw_X6_46 mb f_497 rfl rfl rfl hl.1 rfl (Nat.le_of_ble_eq_true rfl) dX6_clear_12 ⟨by decide, by decide⟩ ⟨by decide, by decide⟩) rfl rfl (fun F_499 H locs hw hp_500 => ?_)
        obtain ⟨P_501, eP_501⟩ : ∃ P9, P9 = va_up (va_up pl r (m_upto ((fun _ => zc 0)) (pl r) i)) r (va_up ((va_up pl r (m_upto ((fun _ => zc 0)) (pl r) i)) r) i (zc 0)) := ⟨_, rfl⟩
        have f_504 : F_499 (ma 4) = pcE G P_501 := by rw [eP_501]; exact hp_500.1
        have r_502 : P_501 r = va_up (m_upto ((fun _ => zc 0)) (pl r) i) i (zc 0) := by rw [eP_501, va_up_self]; rw [(va_up_self _ _ _)]
        have ro_503 : ∀ q, q ≠ r → P_501 q = (va_up pl r (m_upto ((fun _ => zc 0)) (pl r) i)) q := fun q hq => by rw [eP_501]; exact va_up_ne _ _ hq
        refine lv_iinc (v := nI (i + 1)) (lv' := [(2, .int (nI (i + 1))), (0, .ref b), (1, .int (nI (r)))]) hx hb dX6_clear_15 hl (k := 2) rfl (nI_add _ _) (by decide) rfl (fun ls hl => ?_)
        refine lv_goto (tgt := 2) hx hb dX6_clear_18 (by decide) ?_
        exact ih_2 (i + 1) ((by omega)) ((by omega)) (by omega) F_499 _ _ hw (f_504.trans (congrArg (pcE G) (eP_501.trans (pst_s pl r ((fun _ => zc 0)) (pl r) i (rfl))))) (fun q k0 => ((hp_500.2 q k0).trans (fr_496 q k0))) ls (lv_sub hl [1, 2, 0] rfl)
  exact lp2 _ (0) ((by omega)) ((by omega)) (Nat.lt_succ_self _) F _ _ hw (fp.trans (congrArg (pcE G) (pst_0 pl r ((fun _ => zc 0))))) (fun q k0 => rfl) ls (lv_sub hl [1, 2, 0] rfl)
abbrev rm_X6_copy : Room := { frames := 1, cells := 0, slots := 0, locals := 23 }
set_option maxHeartbeats 4000000 in
set_option maxRecDepth 100000 in
theorem c_X6_copy (l : Launch) (G : Gl) (L : List Nat) (F : Nat → va_E) (b : Nat) (ma : Nat → Nat) (mi : Nat → Int32) (hh : Int64) (pl : Nat → Nat → ZP) (zf : Nat → Int32) (cu : Nat) (r t : Nat) (mb : b ∈ L) (fb : F b = mO ma mi hh) (hma : ∀ i, i < 7 → ma i ∈ L) (fp : F (ma 4) = pcE G pl) (fz : F (ma 0) = .inl (G.2 0, 89, .inl zf)) (hz0 : zf 0 = nI cu) (hc : cu ≤ 6) (hc2 : 2 ≤ cu) (hr9 : r < 20) (ht9 : t < 20) (hrt : r ≠ t) : CV l yX6_copy cX6_copy 4 none rm_X6_copy G L F [.ref b, .int (nI (r)), .int (nI (t))] (fun F1 => F1 (ma 4) = pcE G (va_up pl t ((pl r))) ∧ ∀ q, q ≠ ma 4 → F1 q = F q) := by
  refine CG_of (by decide) (Nat.le_of_ble_eq_true rfl) rfl ?_
  intro p e s m args below meth c Q C0 hr hlk hnm hQ hw ls hl
  have hx := C0.x
  have hb := C0.b
  refine lv_iconst (v := nI 0) hx hb dX6_copy_0 (by decide) ?_
  refine lv_istore_n (lv' := [(3, .int (nI (0))), (0, .ref b), (1, .int (nI (r))), (2, .int (nI (t)))]) hx hb dX6_copy_1 rfl hl (by decide) rfl (fun ls hl => ?_)
  have lp2 : ∀ (n : Nat) (i : Nat), 0 ≤ i → i ≤ 7 → 7 + 1 - i < n → ∀ (F_505 : Nat → va_E) (H : Heap) (locs : List Loc), wD G L F_505 s H locs → F_505 (ma 4) = pcE G (va_up pl t (m_upto ((pl r)) (pl t) i)) → (∀ q, q ≠ (ma 4) → F_505 q = F q) → ∀ ls : Array Slot, lv_has ls 4 [(0, .ref b), (1, .int (nI (r))), (2, .int (nI (t))), (3, .int (nI (i)))] → W p l e rm_X6_copy s m args below meth c H locs 0 0 Q (F0 m 2 ls []) := by
    intro n
    induction n with
    | zero => intro i hlo hhi hm; exact absurd hm (Nat.not_lt_zero _)
    | succ n ih_2 =>
      intro i hlo hhi hm F_505 H locs hw f_506 fr_507 ls hl
      refine lv_iload_n hx hb dX6_copy_2 rfl (lv_at hl 3 rfl) ?_
      refine lv_bipush (v := nI 7) hx hb dX6_copy_3 (by decide) ?_
      refine n_icmp_ge (tgt := 26) hx hb dX6_copy_5 (by decide) (by omega) (by decide) (fun c_5 => ?_) (fun c_5 => ?_)
      · skip
        obtain rfl : i = 7 := by omega
        exact r_v C0 hr hlk hw ⟨f_506.trans (pst_7 pl t ((pl r)) (pl t)), (fun q k0 => (fr_507 q k0))⟩ (Nat.le_refl _) (Nat.le_refl _) dX6_copy_26 hQ
      · skip
        refine lv_aload_n hx hb dX6_copy_8 rfl (lv_at hl 0 rfl) ?_
        refine lv_iload_n hx hb dX6_copy_9 rfl (lv_at hl 2 rfl) ?_
        refine lv_iload_n hx hb dX6_copy_10 rfl (lv_at hl 3 rfl) ?_
        refine lv_aload_n hx hb dX6_copy_11 rfl (lv_at hl 0 rfl) ?_
        refine lv_iload_n hx hb dX6_copy_12 rfl (lv_at hl 1 rfl) ?_
        refine lv_iload_n hx hb dX6_copy_13 rfl (lv_at hl 3 rfl) ?_
        have f_508 : F_505 b = mO ma mi hh := (fr_507 b (ne_oa fb fp)).trans fb
        have f_509 : F_505 (ma 0) = .inl (G.2 0, 89, .inl zf) := (fr_507 (ma 0) (ne_aa (by decide) fz fp)).trans fz
        refine q_calli hw (q_runV (As := [.int (nI (r)), .int (nI (i))]) (c_X6_at l G L F_505 b ma mi hh (va_up pl t (m_upto ((pl r)) (pl t) i)) zf cu r i mb f_508 hma f_506 f_509 hz0 (by omega) (by omega) (by omega) (by omega)) C0 hw vw_X6_50 mb f_508 rfl rfl rfl hl.1 rfl (Nat.le_of_ble_eq_true rfl) dX6_copy_14 ⟨by decide, by decide⟩ ⟨by decide, by decide⟩) rfl rfl (fun r_512 F_510 H locs hw hp_511 => ?_)
        obtain ⟨he_513, o_514⟩ := hp_511
        rw [(va_up_ne _ _ (by omega))] at he_513
        have he_513 : r_512 = nI (((pl r) i).val) := he_513
        subst he_513
        have z_515 := ((pl r) i).isLt
        have f_516 : F_510 b = mO ma mi hh := (o_514 b ).trans f_508
        have f_517 : F_510 (ma 4) = pcE G (va_up pl t (m_upto ((pl r)) (pl t) i)) := (o_514 (ma 4) ).trans f_506
        have f_518 : F_510 (ma 0) = .inl (G.2 0, 89, .inl zf) := (o_514 (ma 0) ).trans f_509
        refine q_callv hw (q_runV (As := [.int (nI (t)), .int (nI (i)), .int (nI (((pl r) i).val))]) (c_X6_setAt l G L F_510 b ma mi hh (va_up pl t (m_upto ((pl r)) (pl t) i)) zf cu t i (((pl r) i).val) mb f_516 hma f_517 f_518 hz0 (by omega) (by omega) (by omega) (by omega) (by omega)) C0 hw vw_X6_46 mb f_516 rfl rfl rfl hl.1 rfl (Nat.le_of_ble_eq_true rfl) dX6_copy_17 ⟨by decide, by decide⟩ ⟨by decide, by decide⟩) rfl rfl (fun F_519 H locs hw hp_520 => ?_)
        obtain ⟨P_521, eP_521⟩ : ∃ P9, P9 = va_up (va_up pl t (m_upto ((pl r)) (pl t) i)) t (va_up ((va_up pl t (m_upto ((pl r)) (pl t) i)) t) i (zc (((pl r) i).val))) := ⟨_, rfl⟩
        have f_524 : F_519 (ma 4) = pcE G P_521 := by rw [eP_521]; exact hp_520.1
        have r_522 : P_521 t = va_up (m_upto ((pl r)) (pl t) i) i (zc (((pl r) i).val)) := by rw [eP_521, va_up_self]; rw [(va_up_self _ _ _)]
        have ro_523 : ∀ q, q ≠ t → P_521 q = (va_up pl t (m_upto ((pl r)) (pl t) i)) q := fun q hq => by rw [eP_521]; exact va_up_ne _ _ hq
        refine lv_iinc (v := nI (i + 1)) (lv' := [(3, .int (nI (i + 1))), (0, .ref b), (1, .int (nI (r))), (2, .int (nI (t)))]) hx hb dX6_copy_20 hl (k := 3) rfl (nI_add _ _) (by decide) rfl (fun ls hl => ?_)
        refine lv_goto (tgt := 2) hx hb dX6_copy_23 (by decide) ?_
        exact ih_2 (i + 1) ((by omega)) ((by omega)) (by omega) F_519 _ _ hw (f_524.trans (congrArg (pcE G) (eP_521.trans (pst_s pl t ((pl r)) (pl t) i (zc_z _))))) (fun q k0 => ((hp_520.2 q k0).trans ((o_514 q ).trans (fr_507 q k0)))) ls (lv_sub hl [1, 2, 3, 0] rfl)
  exact lp2 _ (0) ((by omega)) ((by omega)) (Nat.lt_succ_self _) F _ _ hw (fp.trans (congrArg (pcE G) (pst_0 pl t ((pl r))))) (fun q k0 => rfl) ls (lv_sub hl [1, 2, 3, 0] rfl)
abbrev rm_X6_load : Room := { frames := 1, cells := 0, slots := 0, locals := 23 }
set_option maxHeartbeats 4000000 in
set_option maxRecDepth 100000 in
theorem c_X6_load (l : Launch) (G : Gl) (L : List Nat) (F : Nat → va_E) (b : Nat) (ma : Nat → Nat) (mi : Nat → Int32) (hh : Int64) (pl : Nat → Nat → ZP) (zf : Nat → Int32) (cu : Nat) (pp t : Nat) (u9 : Nat → ZP) (mb : b ∈ L) (fb : F b = mO ma mi hh) (hma : ∀ i, i < 7 → ma i ∈ L) (fp : F (ma 4) = pcE G pl) (fz : F (ma 0) = .inl (G.2 0, 89, .inl zf)) (hz0 : zf 0 = nI cu) (hc : cu ≤ 6) (hc2 : 2 ≤ cu) (hpp : pp + 7 ≤ 89) (ht9 : t < 20) (hu9 : ∀ k, k < 7 → zf (pp + k) = nI (u9 k).val) : CV l yX6_load cX6_load 4 none rm_X6_load G L F [.ref b, .int (nI (pp)), .int (nI (t))] (fun F1 => F1 (ma 4) = pcE G (va_up pl t u9) ∧ ∀ q, q ≠ ma 4 → F1 q = F q) := by
  refine CG_of (by decide) (Nat.le_of_ble_eq_true rfl) rfl ?_
  intro p e s m args below meth c Q C0 hr hlk hnm hQ hw ls hl
  have hx := C0.x
  have hb := C0.b
  refine lv_iconst (v := nI 0) hx hb dX6_load_0 (by decide) ?_
  refine lv_istore_n (lv' := [(3, .int (nI (0))), (0, .ref b), (1, .int (nI (pp))), (2, .int (nI (t)))]) hx hb dX6_load_1 rfl hl (by decide) rfl (fun ls hl => ?_)
  have lp2 : ∀ (n : Nat) (i : Nat), 0 ≤ i → i ≤ 7 → 7 + 1 - i < n → ∀ (F_525 : Nat → va_E) (H : Heap) (locs : List Loc), wD G L F_525 s H locs → F_525 (ma 4) = pcE G (va_up pl t (m_upto u9 (pl t) i)) → (∀ q, q ≠ (ma 4) → F_525 q = F q) → ∀ ls : Array Slot, lv_has ls 4 [(0, .ref b), (1, .int (nI (pp))), (2, .int (nI (t))), (3, .int (nI (i)))] → W p l e rm_X6_load s m args below meth c H locs 0 0 Q (F0 m 2 ls []) := by
    intro n
    induction n with
    | zero => intro i hlo hhi hm; exact absurd hm (Nat.not_lt_zero _)
    | succ n ih_2 =>
      intro i hlo hhi hm F_525 H locs hw f_526 fr_527 ls hl
      refine lv_iload_n hx hb dX6_load_2 rfl (lv_at hl 3 rfl) ?_
      refine lv_bipush (v := nI 7) hx hb dX6_load_3 (by decide) ?_
      refine n_icmp_ge (tgt := 28) hx hb dX6_load_5 (by decide) (by omega) (by decide) (fun c_5 => ?_) (fun c_5 => ?_)
      · skip
        obtain rfl : i = 7 := by omega
        exact r_v C0 hr hlk hw ⟨f_526.trans (pst_7 pl t u9 (pl t)), (fun q k0 => (fr_527 q k0))⟩ (Nat.le_refl _) (Nat.le_refl _) dX6_load_28 hQ
      · skip
        refine lv_aload_n hx hb dX6_load_8 rfl (lv_at hl 0 rfl) ?_
        refine lv_iload_n hx hb dX6_load_9 rfl (lv_at hl 2 rfl) ?_
        refine lv_iload_n hx hb dX6_load_10 rfl (lv_at hl 3 rfl) ?_
        refine lv_aload_n hx hb dX6_load_11 rfl (lv_at hl 0 rfl) ?_
        have f_528 : F_525 b = mO ma mi hh := (fr_527 b (ne_oa fb fp)).trans fb
        refine q_get C0 hw mb f_528 fw_X6_7 rfl dX6_load_12 ?_
        refine lv_iload_n hx hb dX6_load_15 rfl (lv_at hl 1 rfl) ?_
        refine lv_iload_n hx hb dX6_load_16 rfl (lv_at hl 3 rfl) ?_
        refine n_iadd hx hb dX6_load_17 ?_
        have f_529 : F_525 (ma 0) = .inl (G.2 0, 89, .inl zf) := (fr_527 (ma 0) (ne_aa (by decide) fz fp)).trans fz
        refine q_iald C0 hw ((hma 0 (by decide))) f_529 (pp + i) (by omega) (by decide) (v := nI ((u9 i).val)) (hu9 i (by omega)) dX6_load_18 ?_
        have z_530 := (u9 i).isLt
        refine q_callv hw (q_runV (As := [.int (nI (t)), .int (nI (i)), .int (nI ((u9 i).val))]) (c_X6_setAt l G L F_525 b ma mi hh (va_up pl t (m_upto u9 (pl t) i)) zf cu t i (u9 i).val mb f_528 hma f_526 f_529 hz0 (by omega) (by omega) (by omega) (by omega) (by omega)) C0 hw vw_X6_46 mb f_528 rfl rfl rfl hl.1 rfl (Nat.le_of_ble_eq_true rfl) dX6_load_19 ⟨by decide, by decide⟩ ⟨by decide, by decide⟩) rfl rfl (fun F_531 H locs hw hp_532 => ?_)
        obtain ⟨P_533, eP_533⟩ : ∃ P9, P9 = va_up (va_up pl t (m_upto u9 (pl t) i)) t (va_up ((va_up pl t (m_upto u9 (pl t) i)) t) i (zc (u9 i).val)) := ⟨_, rfl⟩
        have f_536 : F_531 (ma 4) = pcE G P_533 := by rw [eP_533]; exact hp_532.1
        have r_534 : P_533 t = va_up (m_upto u9 (pl t) i) i (zc (u9 i).val) := by rw [eP_533, va_up_self]; rw [(va_up_self _ _ _)]
        have ro_535 : ∀ q, q ≠ t → P_533 q = (va_up pl t (m_upto u9 (pl t) i)) q := fun q hq => by rw [eP_533]; exact va_up_ne _ _ hq
        refine lv_iinc (v := nI (i + 1)) (lv' := [(3, .int (nI (i + 1))), (0, .ref b), (1, .int (nI (pp))), (2, .int (nI (t)))]) hx hb dX6_load_22 hl (k := 3) rfl (nI_add _ _) (by decide) rfl (fun ls hl => ?_)
        refine lv_goto (tgt := 2) hx hb dX6_load_25 (by decide) ?_
        exact ih_2 (i + 1) ((by omega)) ((by omega)) (by omega) F_531 _ _ hw (f_536.trans (congrArg (pcE G) (eP_533.trans (pst_s pl t u9 (pl t) i (zc_z _))))) (fun q k0 => ((hp_532.2 q k0).trans (fr_527 q k0))) ls (lv_sub hl [1, 2, 3, 0] rfl)
  exact lp2 _ (0) ((by omega)) ((by omega)) (Nat.lt_succ_self _) F _ _ hw (fp.trans (congrArg (pcE G) (pst_0 pl t u9))) (fun q k0 => rfl) ls (lv_sub hl [1, 2, 3, 0] rfl)
abbrev rm_X6_addTimes : Room := { frames := 1, cells := 0, slots := 0, locals := 23 }
set_option maxHeartbeats 4000000 in
set_option maxRecDepth 100000 in
theorem c_X6_addTimes (l : Launch) (G : Gl) (L : List Nat) (F : Nat → va_E) (b : Nat) (ma : Nat → Nat) (mi : Nat → Int32) (hh : Int64) (pl : Nat → Nat → ZP) (zf : Nat → Int32) (cu : Nat) (r nn t : Nat) (mb : b ∈ L) (fb : F b = mO ma mi hh) (hma : ∀ i, i < 7 → ma i ∈ L) (fp : F (ma 4) = pcE G pl) (fz : F (ma 0) = .inl (G.2 0, 89, .inl zf)) (hz0 : zf 0 = nI cu) (hc : cu ≤ 6) (hc2 : 2 ≤ cu) (hr9 : r < 20) (ht9 : t < 20) (hrt : r ≠ t) (hn : nn ≤ 10007) : CV l yX6_addTimes cX6_addTimes 5 none rm_X6_addTimes G L F [.ref b, .int (nI (r)), .int (nI (nn)), .int (nI (t))] (fun F1 => F1 (ma 4) = pcE G (va_up pl t ((m_am (pl t) (pl r) (zc nn)))) ∧ ∀ q, q ≠ ma 4 → F1 q = F q) := by
  refine CG_of (by decide) (Nat.le_of_ble_eq_true rfl) rfl ?_
  intro p e s m args below meth c Q C0 hr hlk hnm hQ hw ls hl
  have hx := C0.x
  have hb := C0.b
  refine lv_iconst (v := nI 0) hx hb dX6_addTimes_0 (by decide) ?_
  refine lv_istore (lv' := [(4, .int (nI (0))), (0, .ref b), (1, .int (nI (r))), (2, .int (nI (nn))), (3, .int (nI (t)))]) hx hb dX6_addTimes_1 hl (by decide) rfl (fun ls hl => ?_)
  have lp3 : ∀ (n : Nat) (i : Nat), 0 ≤ i → i ≤ 7 → 7 + 1 - i < n → ∀ (F_537 : Nat → va_E) (H : Heap) (locs : List Loc), wD G L F_537 s H locs → F_537 (ma 4) = pcE G (va_up pl t (m_upto ((m_am (pl t) (pl r) (zc nn))) (pl t) i)) → (∀ q, q ≠ (ma 4) → F_537 q = F q) → ∀ ls : Array Slot, lv_has ls 5 [(0, .ref b), (1, .int (nI (r))), (2, .int (nI (nn))), (3, .int (nI (t))), (4, .int (nI (i)))] → W p l e rm_X6_addTimes s m args below meth c H locs 0 0 Q (F0 m 3 ls []) := by
    intro n
    induction n with
    | zero => intro i hlo hhi hm; exact absurd hm (Nat.not_lt_zero _)
    | succ n ih_3 =>
      intro i hlo hhi hm F_537 H locs hw f_538 fr_539 ls hl
      refine lv_iload hx hb dX6_addTimes_3 (lv_at hl 4 rfl) ?_
      refine lv_bipush (v := nI 7) hx hb dX6_addTimes_5 (by decide) ?_
      refine n_icmp_ge (tgt := 40) hx hb dX6_addTimes_7 (by decide) (by omega) (by decide) (fun c_7 => ?_) (fun c_7 => ?_)
      · skip
        obtain rfl : i = 7 := by omega
        exact r_v C0 hr hlk hw ⟨f_538.trans (pst_7 pl t ((m_am (pl t) (pl r) (zc nn))) (pl t)), (fun q k0 => (fr_539 q k0))⟩ (Nat.le_refl _) (Nat.le_refl _) dX6_addTimes_40 hQ
      · skip
        refine lv_aload_n hx hb dX6_addTimes_10 rfl (lv_at hl 0 rfl) ?_
        refine lv_iload_n hx hb dX6_addTimes_11 rfl (lv_at hl 3 rfl) ?_
        refine lv_iload hx hb dX6_addTimes_12 (lv_at hl 4 rfl) ?_
        refine lv_aload_n hx hb dX6_addTimes_14 rfl (lv_at hl 0 rfl) ?_
        refine lv_iload_n hx hb dX6_addTimes_15 rfl (lv_at hl 3 rfl) ?_
        refine lv_iload hx hb dX6_addTimes_16 (lv_at hl 4 rfl) ?_
        have f_540 : F_537 b = mO ma mi hh := (fr_539 b (ne_oa fb fp)).trans fb
        have f_541 : F_537 (ma 0) = .inl (G.2 0, 89, .inl zf) := (fr_539 (ma 0) (ne_aa (by decide) fz fp)).trans fz
        refine q_calli hw (q_runV (As := [.int (nI (t)), .int (nI (i))]) (c_X6_at l G L F_537 b ma mi hh (va_up pl t (m_upto ((m_am (pl t) (pl r) (zc nn))) (pl t) i)) zf cu t i mb f_540 hma f_538 f_541 hz0 (by omega) (by omega) (by omega) (by omega)) C0 hw vw_X6_50 mb f_540 rfl rfl rfl hl.1 rfl (Nat.le_of_ble_eq_true rfl) dX6_addTimes_18 ⟨by decide, by decide⟩ ⟨by decide, by decide⟩) rfl rfl (fun r_544 F_542 H locs hw hp_543 => ?_)
        obtain ⟨he_545, o_546⟩ := hp_543
        rw [(va_up_self _ _ _)] at he_545
        have he_545 : r_544 = nI (((m_upto ((m_am (pl t) (pl r) (zc nn))) (pl t) i) i).val) := he_545
        subst he_545
        have z_547 := ((m_upto ((m_am (pl t) (pl r) (zc nn))) (pl t) i) i).isLt
        refine lv_aload_n hx hb dX6_addTimes_21 rfl (lv_at hl 0 rfl) ?_
        refine lv_iload_n hx hb dX6_addTimes_22 rfl (lv_at hl 1 rfl) ?_
        refine lv_iload hx hb dX6_addTimes_23 (lv_at hl 4 rfl) ?_
        have f_548 : F_542 b = mO ma mi hh := (o_546 b ).trans f_540
        have f_549 : F_542 (ma 4) = pcE G (va_up pl t (m_upto ((m_am (pl t) (pl r) (zc nn))) (pl t) i)) := (o_546 (ma 4) ).trans f_538
        have f_550 : F_542 (ma 0) = .inl (G.2 0, 89, .inl zf) := (o_546 (ma 0) ).trans f_541
        refine q_calli hw (q_runV (As := [.int (nI (r)), .int (nI (i))]) (c_X6_at l G L F_542 b ma mi hh (va_up pl t (m_upto ((m_am (pl t) (pl r) (zc nn))) (pl t) i)) zf cu r i mb f_548 hma f_549 f_550 hz0 (by omega) (by omega) (by omega) (by omega)) C0 hw vw_X6_50 mb f_548 rfl rfl rfl hl.1 rfl (Nat.le_of_ble_eq_true rfl) dX6_addTimes_25 ⟨by decide, by decide⟩ ⟨by decide, by decide⟩) rfl rfl (fun r_553 F_551 H locs hw hp_552 => ?_)
        obtain ⟨he_554, o_555⟩ := hp_552
        rw [(va_up_ne _ _ (by omega))] at he_554
        have he_554 : r_553 = nI (((pl r) i).val) := he_554
        subst he_554
        have z_556 := ((pl r) i).isLt
        refine lv_iload_n hx hb dX6_addTimes_28 rfl (lv_at hl 2 rfl) ?_
        have m_557 : (((pl r) i).val) * nn ≤ 10006 * 10007 := Nat.mul_le_mul (by omega) (by omega)
        refine n_imul hx hb dX6_addTimes_29 ?_
        refine n_iadd hx hb dX6_addTimes_30 ?_
        have f_558 : F_551 b = mO ma mi hh := (o_555 b ).trans f_548
        have f_559 : F_551 (ma 4) = pcE G (va_up pl t (m_upto ((m_am (pl t) (pl r) (zc nn))) (pl t) i)) := (o_555 (ma 4) ).trans f_549
        have f_560 : F_551 (ma 0) = .inl (G.2 0, 89, .inl zf) := (o_555 (ma 0) ).trans f_550
        refine q_callv hw (q_runV (As := [.int (nI (t)), .int (nI (i)), .int (nI (((m_upto ((m_am (pl t) (pl r) (zc nn))) (pl t) i) i).val + ((((pl r) i).val) * nn)))]) (c_X6_setAt l G L F_551 b ma mi hh (va_up pl t (m_upto ((m_am (pl t) (pl r) (zc nn))) (pl t) i)) zf cu t i (((m_upto ((m_am (pl t) (pl r) (zc nn))) (pl t) i) i).val + ((((pl r) i).val) * nn)) mb f_558 hma f_559 f_560 hz0 (by omega) (by omega) (by omega) (by omega) (by omega)) C0 hw vw_X6_46 mb f_558 rfl rfl rfl hl.1 rfl (Nat.le_of_ble_eq_true rfl) dX6_addTimes_31 ⟨by decide, by decide⟩ ⟨by decide, by decide⟩) rfl rfl (fun F_561 H locs hw hp_562 => ?_)
        obtain ⟨P_563, eP_563⟩ : ∃ P9, P9 = va_up (va_up pl t (m_upto ((m_am (pl t) (pl r) (zc nn))) (pl t) i)) t (va_up ((va_up pl t (m_upto ((m_am (pl t) (pl r) (zc nn))) (pl t) i)) t) i (zc (((m_upto ((m_am (pl t) (pl r) (zc nn))) (pl t) i) i).val + ((((pl r) i).val) * nn)))) := ⟨_, rfl⟩
        have f_566 : F_561 (ma 4) = pcE G P_563 := by rw [eP_563]; exact hp_562.1
        have r_564 : P_563 t = va_up (m_upto ((m_am (pl t) (pl r) (zc nn))) (pl t) i) i (zc (((m_upto ((m_am (pl t) (pl r) (zc nn))) (pl t) i) i).val + ((((pl r) i).val) * nn))) := by rw [eP_563, va_up_self]; rw [(va_up_self _ _ _)]
        have ro_565 : ∀ q, q ≠ t → P_563 q = (va_up pl t (m_upto ((m_am (pl t) (pl r) (zc nn))) (pl t) i)) q := fun q hq => by rw [eP_563]; exact va_up_ne _ _ hq
        refine lv_iinc (v := nI (i + 1)) (lv' := [(4, .int (nI (i + 1))), (0, .ref b), (1, .int (nI (r))), (2, .int (nI (nn))), (3, .int (nI (t)))]) hx hb dX6_addTimes_34 hl (k := 4) rfl (nI_add _ _) (by decide) rfl (fun ls hl => ?_)
        refine lv_goto (tgt := 3) hx hb dX6_addTimes_37 (by decide) ?_
        exact ih_3 (i + 1) ((by omega)) ((by omega)) (by omega) F_561 _ _ hw (f_566.trans (congrArg (pcE G) (eP_563.trans (pst_s pl t ((m_am (pl t) (pl r) (zc nn))) (pl t) i (by rw [zc_add, zc_mul, zc_z, zc_z, m_upto_at]; rfl))))) (fun q k0 => ((hp_562.2 q k0).trans ((o_555 q ).trans ((o_546 q ).trans (fr_539 q k0))))) ls (lv_sub hl [1, 2, 3, 4, 0] rfl)
  exact lp3 _ (0) ((by omega)) ((by omega)) (Nat.lt_succ_self _) F _ _ hw (fp.trans (congrArg (pcE G) (pst_0 pl t ((m_am (pl t) (pl r) (zc nn)))))) (fun q k0 => rfl) ls (lv_sub hl [1, 2, 3, 4, 0] rfl)
theorem sx_e (pl : Nat → Nat → ZP) (r : Nat) {P Q : Nat → Nat → ZP} (h1 : P = va_up pl r (fun _ => zc 0)) (h2 : Q = va_up P r (va_up (P r) 1 (zc 1))) : Q = va_up pl r m_x := by
  rw [h2, h1, bx_uu, va_up_self]
  congr 1
abbrev rm_X6_setX : Room := { frames := 2, cells := 0, slots := 0, locals := 45 }
set_option maxHeartbeats 4000000 in
set_option maxRecDepth 100000 in
theorem c_X6_setX (l : Launch) (G : Gl) (L : List Nat) (F : Nat → va_E) (b : Nat) (ma : Nat → Nat) (mi : Nat → Int32) (hh : Int64) (pl : Nat → Nat → ZP) (zf : Nat → Int32) (cu : Nat) (r : Nat) (mb : b ∈ L) (fb : F b = mO ma mi hh) (hma : ∀ i, i < 7 → ma i ∈ L) (fp : F (ma 4) = pcE G pl) (fz : F (ma 0) = .inl (G.2 0, 89, .inl zf)) (hz0 : zf 0 = nI cu) (hc : cu ≤ 6) (hc2 : 2 ≤ cu) (hr9 : r < 20) : CV l yX6_setX cX6_setX 2 none rm_X6_setX G L F [.ref b, .int (nI (r))] (fun F1 => F1 (ma 4) = pcE G (va_up pl r m_x) ∧ ∀ q, q ≠ ma 4 → F1 q = F q) := by
  refine CG_of (by decide) (Nat.le_of_ble_eq_true rfl) rfl ?_
  intro p e s m args below meth c Q C0 hr hlk hnm hQ hw ls hl
  have hx := C0.x
  have hb := C0.b
  refine lv_aload_n hx hb dX6_setX_0 rfl (lv_at hl 0 rfl) ?_
  refine lv_iload_n hx hb dX6_setX_1 rfl (lv_at hl 1 rfl) ?_
  refine q_callv hw (q_runV (As := [.int (nI (r))]) (c_X6_clear l G L F b ma mi hh pl zf cu r mb fb hma fp fz hz0 (by omega) (by omega) (by omega)) C0 hw vw_X6_54 mb fb rfl rfl rfl hl.1 rfl (Nat.le_of_ble_eq_true rfl) dX6_setX_2 ⟨by decide, by decide⟩ ⟨by decide, by decide⟩) rfl rfl (fun F_567 H locs hw hp_568 => ?_)
  obtain ⟨P_569, eP_569⟩ : ∃ P9, P9 = va_up pl r ((fun _ => zc 0)) := ⟨_, rfl⟩
  have f_572 : F_567 (ma 4) = pcE G P_569 := by rw [eP_569]; exact hp_568.1
  have r_570 : P_569 r = (fun _ => zc 0) := by rw [eP_569, va_up_self]
  have ro_571 : ∀ q, q ≠ r → P_569 q = pl q := fun q hq => by rw [eP_569]; exact va_up_ne _ _ hq
  refine lv_aload_n hx hb dX6_setX_5 rfl (lv_at hl 0 rfl) ?_
  refine lv_iload_n hx hb dX6_setX_6 rfl (lv_at hl 1 rfl) ?_
  refine lv_iconst (v := nI 1) hx hb dX6_setX_7 (by decide) ?_
  refine lv_iconst (v := nI 1) hx hb dX6_setX_8 (by decide) ?_
  have f_573 : F_567 b = mO ma mi hh := (hp_568.2 b (ne_oa fb fp)).trans fb
  have f_574 : F_567 (ma 0) = .inl (G.2 0, 89, .inl zf) := (hp_568.2 (ma 0) (ne_aa (by decide) fz fp)).trans fz
  refine q_callv hw (q_runV (As := [.int (nI (r)), .int (nI (1)), .int (nI (1))]) (c_X6_setAt l G L F_567 b ma mi hh P_569 zf cu r 1 1 mb f_573 hma f_572 f_574 hz0 (by omega) (by omega) (by omega) (by omega) (by omega)) C0 hw vw_X6_46 mb f_573 rfl rfl rfl hl.1 rfl (Nat.le_of_ble_eq_true rfl) dX6_setX_9 ⟨by decide, by decide⟩ ⟨by decide, by decide⟩) rfl rfl (fun F_575 H locs hw hp_576 => ?_)
  obtain ⟨P_577, eP_577⟩ : ∃ P9, P9 = va_up P_569 r (va_up (P_569 r) 1 (zc 1)) := ⟨_, rfl⟩
  have f_580 : F_575 (ma 4) = pcE G P_577 := by rw [eP_577]; exact hp_576.1
  have r_578 : P_577 r = va_up (fun _ => zc 0) 1 (zc 1) := by rw [eP_577, va_up_self]; rw [r_570]
  have ro_579 : ∀ q, q ≠ r → P_577 q = P_569 q := fun q hq => by rw [eP_577]; exact va_up_ne _ _ hq
  exact r_v C0 hr hlk hw ⟨f_580.trans (congrArg (pcE G) (sx_e pl r eP_569 eP_577)), (fun q k0 => ((hp_576.2 q k0).trans (hp_568.2 q k0)))⟩ (Nat.le_refl _) (Nat.le_refl _) dX6_setX_12 hQ
