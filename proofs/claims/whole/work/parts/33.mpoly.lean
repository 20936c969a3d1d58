theorem mxs (pl : Nat → Nat → ZP) (t : Nat) (u v : Nat → ZP) {cu a b : Nat} (h : a + b ≤ cu) {z : ZP} (hz : z = m_mx u v cu a b (a + b) + u a * v b) : va_up (va_up pl t (m_mx u v cu a b)) t (va_up ((va_up pl t (m_mx u v cu a b)) t) (a + b) z) = va_up pl t (m_mx u v cu a (b + 1)) := by
  rw [bx_uu, va_up_self, hz, m_mx_in u v h]
theorem zrow : (fun _ : Nat => zc 0) = (fun _ : Nat => (0 : ZP)) := by
  funext q
  exact zc_0
abbrev rm_X6_multiply : Room := { frames := 2, cells := 0, slots := 0, locals := 45 }
set_option maxHeartbeats 4000000 in
set_option maxRecDepth 100000 in
theorem c_X6_multiply (l : Launch) (G : Gl) (L : List Nat) (F : Nat → va_E) (b : Nat) (ma : Nat → Nat) (mi : Nat → Int32) (hh : Int64) (pl : Nat → Nat → ZP) (zf : Nat → Int32) (cu : Nat) (r1 r2 t : Nat) (mb : b ∈ L) (fb : F b = mO ma mi hh) (hma : ∀ i, i < 7 → ma i ∈ L) (fp : F (ma 4) = pcE G pl) (fz : F (ma 0) = .inl (G.2 0, 89, .inl zf)) (hz0 : zf 0 = nI cu) (hc : cu ≤ 6) (hc2 : 2 ≤ cu) (h19 : r1 < 20) (h29 : r2 < 20) (ht9 : t < 20) (h1t : r1 ≠ t) (h2t : r2 ≠ t) : CV l yX6_multiply cX6_multiply 6 none rm_X6_multiply G L F [.ref b, .int (nI (r1)), .int (nI (r2)), .int (nI (t))] (fun F1 => F1 (ma 4) = pcE G (va_up pl t ((m_mulT (pl r1) (pl r2) cu))) ∧ ∀ q, q ≠ ma 4 → F1 q = F q) := by
  refine CG_of (by decide) (Nat.le_of_ble_eq_true rfl) rfl ?_
  intro p e s m args below meth c Q C0 hr hlk hnm hQ hw ls hl
  have hx := C0.x
  have hb := C0.b
  refine lv_aload_n hx hb dX6_multiply_0 rfl (lv_at hl 0 rfl) ?_
  refine lv_iload_n hx hb dX6_multiply_1 rfl (lv_at hl 3 rfl) ?_
  refine q_callv hw (q_runV (As := [.int (nI (t))]) (c_X6_clear l G L F b ma mi hh pl zf cu t mb fb hma fp fz hz0 (by omega) (by omega) (by omega)) C0 hw vw_X6_54 mb fb rfl rfl rfl hl.1 rfl (Nat.le_of_ble_eq_true rfl) dX6_multiply_2 ⟨by decide, by decide⟩ ⟨by decide, by decide⟩) rfl rfl (fun F_581 H locs hw hp_582 => ?_)
  obtain ⟨P_583, eP_583⟩ : ∃ P9, P9 = va_up pl t ((fun _ => zc 0)) := ⟨_, rfl⟩
  have f_586 : F_581 (ma 4) = pcE G P_583 := by rw [eP_583]; exact hp_582.1
  have r_584 : P_583 t = (fun _ => zc 0) := by rw [eP_583, va_up_self]
  have ro_585 : ∀ q, q ≠ t → P_583 q = pl q := fun q hq => by rw [eP_583]; exact va_up_ne _ _ hq
  refine lv_iconst (v := nI 0) hx hb dX6_multiply_5 (by decide) ?_
  refine lv_istore (lv' := [(4, .int (nI (0))), (0, .ref b), (1, .int (nI (r1))), (2, .int (nI (r2))), (3, .int (nI (t)))]) hx hb dX6_multiply_6 hl (by decide) rfl (fun ls hl => ?_)
  have lp8 : ∀ (n : Nat) (a : Nat), 0 ≤ a → a ≤ cu + 1 → (cu + 1) + 1 - a < n → ∀ (F_587 : Nat → va_E) (H : Heap) (locs : List Loc), wD G L F_587 s H locs → F_587 (ma 4) = pcE G (va_up pl t (m_mx (pl r1) (pl r2) cu a 0)) → (∀ q, q ≠ (ma 4) → F_587 q = F q) → ∀ ls : Array Slot, lv_has ls 6 [(0, .ref b), (1, .int (nI (r1))), (2, .int (nI (r2))), (3, .int (nI (t))), (4, .int (nI (a)))] → W p l e rm_X6_multiply s m args below meth c H locs 0 0 Q (F0 m 8 ls []) := by
    intro n
    induction n with
    | zero => intro a hlo hhi hm; exact absurd hm (Nat.not_lt_zero _)
    | succ n ih_8 =>
      intro a hlo hhi hm F_587 H locs hw f_588 fr_589 ls hl
      refine lv_iload hx hb dX6_multiply_8 (lv_at hl 4 rfl) ?_
      refine lv_aload_n hx hb dX6_multiply_10 rfl (lv_at hl 0 rfl) ?_
      have f_590 : F_587 b = mO ma mi hh := (fr_589 b (ne_oa fb fp)).trans fb
      refine q_get C0 hw mb f_590 fw_X6_7 rfl dX6_multiply_11 ?_
      refine lv_iconst (v := nI 0) hx hb dX6_multiply_14 (by decide) ?_
      have f_591 : F_587 (ma 0) = .inl (G.2 0, 89, .inl zf) := (fr_589 (ma 0) (ne_aa (by decide) fz fp)).trans fz
      refine q_iald C0 hw ((hma 0 (by decide))) f_591 (0) (by omega) (by decide) (v := nI (cu)) hz0 dX6_multiply_15 ?_
      refine n_icmp_gt (tgt := 84) hx hb dX6_multiply_16 (by decide) (by omega) (by omega) (fun c_16 => ?_) (fun c_16 => ?_)
      · skip
        obtain rfl : a = cu + 1 := by omega
        exact r_v C0 hr hlk hw ⟨f_588.trans (congrArg (fun z9 => pcE G (va_up pl t z9)) (m_mx_e _ _ _)), (fun q k0 => (fr_589 q k0))⟩ (Nat.le_refl _) (Nat.le_refl _) dX6_multiply_84 hQ
      · skip
        refine lv_iconst (v := nI 0) hx hb dX6_multiply_19 (by decide) ?_
        refine lv_istore (lv' := [(5, .int (nI (0))), (0, .ref b), (1, .int (nI (r1))), (2, .int (nI (r2))), (3, .int (nI (t))), (4, .int (nI (a)))]) hx hb dX6_multiply_20 hl (by decide) rfl (fun ls hl => ?_)
        have lp22 : ∀ (n : Nat) (d : Nat), 0 ≤ d → d ≤ cu + 1 - a → (cu + 1 - a) + 1 - d < n → ∀ (F_592 : Nat → va_E) (H : Heap) (locs : List Loc), wD G L F_592 s H locs → F_592 (ma 4) = pcE G (va_up pl t (m_mx (pl r1) (pl r2) cu a d)) → (∀ q, q ≠ (ma 4) → F_592 q = F q) → ∀ ls : Array Slot, lv_has ls 6 [(0, .ref b), (1, .int (nI (r1))), (2, .int (nI (r2))), (3, .int (nI (t))), (4, .int (nI (a))), (5, .int (nI (d)))] → W p l e rm_X6_multiply s m args below meth c H locs 0 0 Q (F0 m 22 ls []) := by
          intro n
          induction n with
          | zero => intro d hlo hhi hm; exact absurd hm (Nat.not_lt_zero _)
          | succ n ih_22 =>
            intro d hlo hhi hm F_592 H locs hw f_593 fr_594 ls hl
            refine lv_iload hx hb dX6_multiply_22 (lv_at hl 4 rfl) ?_
            refine lv_iload hx hb dX6_multiply_24 (lv_at hl 5 rfl) ?_
            refine n_iadd hx hb dX6_multiply_26 ?_
            refine lv_aload_n hx hb dX6_multiply_27 rfl (lv_at hl 0 rfl) ?_
            have f_595 : F_592 b = mO ma mi hh := (fr_594 b (ne_oa fb fp)).trans fb
            refine q_get C0 hw mb f_595 fw_X6_7 rfl dX6_multiply_28 ?_
            refine lv_iconst (v := nI 0) hx hb dX6_multiply_31 (by decide) ?_
            have f_596 : F_592 (ma 0) = .inl (G.2 0, 89, .inl zf) := (fr_594 (ma 0) (ne_aa (by decide) fz fp)).trans fz
            refine q_iald C0 hw ((hma 0 (by decide))) f_596 (0) (by omega) (by decide) (v := nI (cu)) hz0 dX6_multiply_32 ?_
            refine n_icmp_gt (tgt := 78) hx hb dX6_multiply_33 (by decide) (by omega) (by omega) (fun c_33 => ?_) (fun c_33 => ?_)
            · skip
              obtain rfl : d = cu + 1 - a := by omega
              refine lv_iinc (v := nI (a + 1)) (lv' := [(4, .int (nI (a + 1))), (0, .ref b), (1, .int (nI (r1))), (2, .int (nI (r2))), (3, .int (nI (t))), (5, .int (nI ((cu + 1 - a))))]) hx hb dX6_multiply_78 hl (k := 4) rfl (nI_add _ _) (by decide) rfl (fun ls hl => ?_)
              refine lv_goto (tgt := 8) hx hb dX6_multiply_81 (by decide) ?_
              exact ih_8 (a + 1) ((by omega)) ((by omega)) (by omega) F_592 _ _ hw (f_593.trans (congrArg (fun z9 => pcE G (va_up pl t z9)) (m_mx_out _ _ (by omega)))) (fun q k0 => (fr_594 q k0)) ls (lv_sub hl [1, 2, 3, 4, 0] rfl)
            · skip
              refine lv_aload_n hx hb dX6_multiply_36 rfl (lv_at hl 0 rfl) ?_
              refine lv_iload_n hx hb dX6_multiply_37 rfl (lv_at hl 3 rfl) ?_
              refine lv_iload hx hb dX6_multiply_38 (lv_at hl 4 rfl) ?_
              refine lv_iload hx hb dX6_multiply_40 (lv_at hl 5 rfl) ?_
              refine n_iadd hx hb dX6_multiply_42 ?_
              refine lv_aload_n hx hb dX6_multiply_43 rfl (lv_at hl 0 rfl) ?_
              refine lv_iload_n hx hb dX6_multiply_44 rfl (lv_at hl 3 rfl) ?_
              refine lv_iload hx hb dX6_multiply_45 (lv_at hl 4 rfl) ?_
              refine lv_iload hx hb dX6_multiply_47 (lv_at hl 5 rfl) ?_
              refine n_iadd hx hb dX6_multiply_49 ?_
              refine q_calli hw (q_runV (As := [.int (nI (t)), .int (nI (a + d))]) (c_X6_at l G L F_592 b ma mi hh (va_up pl t (m_mx (pl r1) (pl r2) cu a d)) zf cu t (a + d) mb f_595 hma f_593 f_596 hz0 (by omega) (by omega) (by omega) (by omega)) C0 hw vw_X6_50 mb f_595 rfl rfl rfl hl.1 rfl (Nat.le_of_ble_eq_true rfl) dX6_multiply_50 ⟨by decide, by decide⟩ ⟨by decide, by decide⟩) rfl rfl (fun r_599 F_597 H locs hw hp_598 => ?_)
              obtain ⟨he_600, o_601⟩ := hp_598
              rw [(va_up_self _ _ _)] at he_600
              have he_600 : r_599 = nI (((m_mx (pl r1) (pl r2) cu a d) (a + d)).val) := he_600
              subst he_600
              have z_602 := ((m_mx (pl r1) (pl r2) cu a d) (a + d)).isLt
              refine lv_aload_n hx hb dX6_multiply_53 rfl (lv_at hl 0 rfl) ?_
              refine lv_iload_n hx hb dX6_multiply_54 rfl (lv_at hl 1 rfl) ?_
              refine lv_iload hx hb dX6_multiply_55 (lv_at hl 4 rfl) ?_
              have f_603 : F_597 b = mO ma mi hh := (o_601 b ).trans f_595
              have f_604 : F_597 (ma 4) = pcE G (va_up pl t (m_mx (pl r1) (pl r2) cu a d)) := (o_601 (ma 4) ).trans f_593
              have f_605 : F_597 (ma 0) = .inl (G.2 0, 89, .inl zf) := (o_601 (ma 0) ).trans f_596
              refine q_calli hw (q_runV (As := [.int (nI (r1)), .int (nI (a))]) (c_X6_at l G L F_597 b ma mi hh (va_up pl t (m_mx (pl r1) (pl r2) cu a d)) zf cu r1 a mb f_603 hma f_604 f_605 hz0 (by omega) (by omega) (by omega) (by omega)) C0 hw vw_X6_50 mb f_603 rfl rfl rfl hl.1 rfl (Nat.le_of_ble_eq_true rfl) dX6_multiply_57 ⟨by decide, by decide⟩ ⟨by decide, by decide⟩) rfl rfl (fun r_608 F_606 H locs hw hp_607 => ?_)
              obtain ⟨he_609, o_610⟩ := hp_607
              rw [(va_up_ne _ _ (by omega))] at he_609
              have he_609 : r_608 = nI (((pl r1) a).val) := he_609
              subst he_609
              have z_611 := ((pl r1) a).isLt
              refine lv_aload_n hx hb dX6_multiply_60 rfl (lv_at hl 0 rfl) ?_
              refine lv_iload_n hx hb dX6_multiply_61 rfl (lv_at hl 2 rfl) ?_
              refine lv_iload hx hb dX6_multiply_62 (lv_at hl 5 rfl) ?_
              have f_612 : F_606 b = mO ma mi hh := (o_610 b ).trans f_603
              have f_613 : F_606 (ma 4) = pcE G (va_up pl t (m_mx (pl r1) (pl r2) cu a d)) := (o_610 (ma 4) ).trans f_604
              have f_614 : F_606 (ma 0) = .inl (G.2 0, 89, .inl zf) := (o_610 (ma 0) ).trans f_605
              refine q_calli hw (q_runV (As := [.int (nI (r2)), .int (nI (d))]) (c_X6_at l G L F_606 b ma mi hh (va_up pl t (m_mx (pl r1) (pl r2) cu a d)) zf cu r2 d mb f_612 hma f_613 f_614 hz0 (by omega) (by omega) (by omega) (by omega)) C0 hw vw_X6_50 mb f_612 rfl rfl rfl hl.1 rfl (Nat.le_of_ble_eq_true rfl) dX6_multiply_64 ⟨by decide, by decide⟩ ⟨by decide, by decide⟩) rfl rfl (fun r_617 F_615 H locs hw hp_616 => ?_)
              obtain ⟨he_618, o_619⟩ := hp_616
              rw [(va_up_ne _ _ (by omega))] at he_618
              have he_618 : r_617 = nI (((pl r2) d).val) := he_618
              subst he_618
              have z_620 := ((pl r2) d).isLt
              refine n_imul hx hb dX6_multiply_67 ?_
              have m_621 := mul2_le (a := ((pl r1) a).val) (b := ((pl r2) d).val) (by omega) (by omega)
              refine n_iadd hx hb dX6_multiply_68 ?_
              have f_622 : F_615 b = mO ma mi hh := (o_619 b ).trans f_612
              have f_623 : F_615 (ma 4) = pcE G (va_up pl t (m_mx (pl r1) (pl r2) cu a d)) := (o_619 (ma 4) ).trans f_613
              have f_624 : F_615 (ma 0) = .inl (G.2 0, 89, .inl zf) := (o_619 (ma 0) ).trans f_614
              refine q_callv hw (q_runV (As := [.int (nI (t)), .int (nI (a + d)), .int (nI (((m_mx (pl r1) (pl r2) cu a d) (a + d)).val + ((((pl r1) a).val) * (((pl r2) d).val))))]) (c_X6_setAt l G L F_615 b ma mi hh (va_up pl t (m_mx (pl r1) (pl r2) cu a d)) zf cu t (a + d) (((m_mx (pl r1) (pl r2) cu a d) (a + d)).val + ((((pl r1) a).val) * (((pl r2) d).val))) mb f_622 hma f_623 f_624 hz0 (by omega) (by omega) (by omega) (by omega) (by omega)) C0 hw vw_X6_46 mb f_622 rfl rfl rfl hl.1 rfl (Nat.le_of_ble_eq_true rfl) dX6_multiply_69 ⟨by decide, by decide⟩ ⟨by decide, by decide⟩) rfl rfl (fun F_625 H locs hw hp_626 => ?_)
              obtain ⟨P_627, eP_627⟩ : ∃ P9, P9 = va_up (va_up pl t (m_mx (pl r1) (pl r2) cu a d)) t (va_up ((va_up pl t (m_mx (pl r1) (pl r2) cu a d)) t) (a + d) (zc (((m_mx (pl r1) (pl r2) cu a d) (a + d)).val + ((((pl r1) a).val) * (((pl r2) d).val))))) := ⟨_, rfl⟩
              have f_630 : F_625 (ma 4) = pcE G P_627 := by rw [eP_627]; exact hp_626.1
              have r_628 : P_627 t = va_up (m_mx (pl r1) (pl r2) cu a d) (a + d) (zc (((m_mx (pl r1) (pl r2) cu a d) (a + d)).val + ((((pl r1) a).val) * (((pl r2) d).val)))) := by rw [eP_627, va_up_self]; rw [(va_up_self _ _ _)]
              have ro_629 : ∀ q, q ≠ t → P_627 q = (va_up pl t (m_mx (pl r1) (pl r2) cu a d)) q := fun q hq => by rw [eP_627]; exact va_up_ne _ _ hq
              refine lv_iinc (v := nI (d + 1)) (lv' := [(5, .int (nI (d + 1))), (0, .ref b), (1, .int (nI (r1))), (2, .int (nI (r2))), (3, .int (nI (t))), (4, .int (nI (a)))]) hx hb dX6_multiply_72 hl (k := 5) rfl (nI_add _ _) (by decide) rfl (fun ls hl => ?_)
              refine lv_goto (tgt := 22) hx hb dX6_multiply_75 (by decide) ?_
              exact ih_22 (d + 1) ((by omega)) ((by omega)) (by omega) F_625 _ _ hw (f_630.trans (congrArg (pcE G) (eP_627.trans (mxs pl t (pl r1) (pl r2) (by omega) (by rw [zc_add, zc_mul, zc_z, zc_z, zc_z]))))) (fun q k0 => ((hp_626.2 q k0).trans ((o_619 q ).trans ((o_610 q ).trans ((o_601 q ).trans (fr_594 q k0)))))) ls (lv_sub hl [1, 2, 3, 4, 5, 0] rfl)
        exact lp22 _ (0) ((by omega)) ((by omega)) (Nat.lt_succ_self _) F_587 _ _ hw (f_588) (fun q k0 => (fr_589 q k0)) ls (lv_sub hl [1, 2, 3, 4, 5, 0] rfl)
  exact lp8 _ (0) ((by omega)) ((by omega)) (Nat.lt_succ_self _) F_581 _ _ hw (f_586.trans (congrArg (pcE G) (by rw [eP_583, zrow, m_mx_0 (pl r1) (pl r2) cu]))) (fun q k0 => (hp_582.2 q k0)) ls (lv_sub hl [1, 2, 3, 4, 0] rfl)
abbrev rm_X6_derive : Room := { frames := 1, cells := 0, slots := 0, locals := 23 }
theorem der_z (u : Nat → ZP) {i : Nat} (h : i < 6) : zc ((u (i + 1)).val * (i + 1)) = m_der u i := by
  rw [zc_mul, zc_z]
  simp [m_der, h]
set_option maxHeartbeats 4000000 in
set_option maxRecDepth 100000 in
theorem c_X6_derive (l : Launch) (G : Gl) (L : List Nat) (F : Nat → va_E) (b : Nat) (ma : Nat → Nat) (mi : Nat → Int32) (hh : Int64) (pl : Nat → Nat → ZP) (zf : Nat → Int32) (cu : Nat) (r t : Nat) (mb : b ∈ L) (fb : F b = mO ma mi hh) (hma : ∀ i, i < 7 → ma i ∈ L) (fp : F (ma 4) = pcE G pl) (fz : F (ma 0) = .inl (G.2 0, 89, .inl zf)) (hz0 : zf 0 = nI cu) (hc : cu ≤ 6) (hc2 : 2 ≤ cu) (hr9 : r < 20) (ht9 : t < 20) (hrt : r ≠ t) : CV l yX6_derive cX6_derive 4 none rm_X6_derive G L F [.ref b, .int (nI (r)), .int (nI (t))] (fun F1 => F1 (ma 4) = pcE G (va_up pl t ((m_der (pl r)))) ∧ ∀ q, q ≠ ma 4 → F1 q = F q) := by
  refine CG_of (by decide) (Nat.le_of_ble_eq_true rfl) rfl ?_
  intro p e s m args below meth c Q C0 hr hlk hnm hQ hw ls hl
  have hx := C0.x
  have hb := C0.b
  refine lv_iconst (v := nI 0) hx hb dX6_derive_0 (by decide) ?_
  refine lv_istore_n (lv' := [(3, .int (nI (0))), (0, .ref b), (1, .int (nI (r))), (2, .int (nI (t)))]) hx hb dX6_derive_1 rfl hl (by decide) rfl (fun ls hl => ?_)
  have lp2 : ∀ (n : Nat) (i : Nat), 0 ≤ i → i ≤ 6 → 6 + 1 - i < n → ∀ (F_631 : Nat → va_E) (H : Heap) (locs : List Loc), wD G L F_631 s H locs → F_631 (ma 4) = pcE G (va_up pl t (m_upto ((m_der (pl r))) (pl t) i)) → (∀ q, q ≠ (ma 4) → F_631 q = F q) → ∀ ls : Array Slot, lv_has ls 4 [(0, .ref b), (1, .int (nI (r))), (2, .int (nI (t))), (3, .int (nI (i)))] → W p l e rm_X6_derive s m args below meth c H locs 0 0 Q (F0 m 2 ls []) := by
    intro n
    induction n with
    | zero => intro i hlo hhi hm; exact absurd hm (Nat.not_lt_zero _)
    | succ n ih_2 =>
      intro i hlo hhi hm F_631 H locs hw f_632 fr_633 ls hl
      refine lv_iload_n hx hb dX6_derive_2 rfl (lv_at hl 3 rfl) ?_
      refine lv_bipush (v := nI 6) hx hb dX6_derive_3 (by decide) ?_
      refine n_icmp_ge (tgt := 32) hx hb dX6_derive_5 (by decide) (by omega) (by decide) (fun c_5 => ?_) (fun c_5 => ?_)
      · skip
        obtain rfl : i = 6 := by omega
        refine lv_aload_n hx hb dX6_derive_32 rfl (lv_at hl 0 rfl) ?_
        refine lv_iload_n hx hb dX6_derive_33 rfl (lv_at hl 2 rfl) ?_
        refine lv_bipush (v := nI 6) hx hb dX6_derive_34 (by decide) ?_
        refine lv_iconst (v := nI 0) hx hb dX6_derive_36 (by decide) ?_
        have f_634 : F_631 b = .inr (6, [.ref (ma 0), .int (mi 0), .ref (ma 1), .ref (ma 2), .ref (ma 3), .ref (ma 4), .int (mi 1), .ref (ma 5), .int (mi 2), .ref (ma 6), .int (mi 3), .int (mi 4), .long (hh)]) := (fr_633 b (ne_oa fb fp)).trans fb
        have f_635 : F_631 (ma 0) = .inl (G.2 0, 89, .inl zf) := (fr_633 (ma 0) (ne_aa (by decide) fz fp)).trans fz
        refine q_callv hw (q_runV (As := [.int (nI (t)), .int (nI (6)), .int (nI (0))]) (c_X6_setAt l G L F_631 b ma mi hh (va_up pl t (m_upto ((m_der (pl r))) (pl t) 6)) zf cu t 6 0 mb f_634 hma f_632 f_635 hz0 (by omega) (by omega) (by omega) (by omega) (by omega)) C0 hw vw_X6_46 mb f_634 rfl rfl rfl hl.1 rfl (Nat.le_of_ble_eq_true rfl) dX6_derive_37 ⟨by decide, by decide⟩ ⟨by decide, by decide⟩) rfl rfl (fun F_636 H locs hw hp_637 => ?_)
        obtain ⟨P_638, eP_638⟩ : ∃ P9, P9 = va_up (va_up pl t (m_upto ((m_der (pl r))) (pl t) 6)) t (va_up ((va_up pl t (m_upto ((m_der (pl r))) (pl t) 6)) t) 6 (zc 0)) := ⟨_, rfl⟩
        have f_641 : F_636 (ma 4) = pcE G P_638 := by rw [eP_638]; exact hp_637.1
        have r_639 : P_638 t = va_up (m_upto ((m_der (pl r))) (pl t) 6) 6 (zc 0) := by rw [eP_638, va_up_self]; rw [(va_up_self _ _ _)]
        have ro_640 : ∀ q, q ≠ t → P_638 q = (va_up pl t (m_upto ((m_der (pl r))) (pl t) 6)) q := fun q hq => by rw [eP_638]; exact va_up_ne _ _ hq
        exact r_v C0 hr hlk hw ⟨(f_641.trans (congrArg (pcE G) (eP_638.trans (pst_s pl t (m_der (pl r)) (pl t) 6 (by rw [zc_0]; rfl))))).trans (pst_7 pl t (m_der (pl r)) (pl t)), (fun q k0 => ((hp_637.2 q k0).trans (fr_633 q k0)))⟩ (Nat.le_refl _) (Nat.le_refl _) dX6_derive_40 hQ
      · skip
        refine lv_aload_n hx hb dX6_derive_8 rfl (lv_at hl 0 rfl) ?_
        refine lv_iload_n hx hb dX6_derive_9 rfl (lv_at hl 2 rfl) ?_
        refine lv_iload_n hx hb dX6_derive_10 rfl (lv_at hl 3 rfl) ?_
        refine lv_aload_n hx hb dX6_derive_11 rfl (lv_at hl 0 rfl) ?_
        refine lv_iload_n hx hb dX6_derive_12 rfl (lv_at hl 1 rfl) ?_
        refine lv_iload_n hx hb dX6_derive_13 rfl (lv_at hl 3 rfl) ?_
        refine lv_iconst (v := nI 1) hx hb dX6_derive_14 (by decide) ?_
        refine n_iadd hx hb dX6_derive_15 ?_
        have f_642 : F_631 b = mO ma mi hh := (fr_633 b (ne_oa fb fp)).trans fb
        have f_643 : F_631 (ma 0) = .inl (G.2 0, 89, .inl zf) := (fr_633 (ma 0) (ne_aa (by decide) fz fp)).trans fz
        refine q_calli hw (q_runV (As := [.int (nI (r)), .int (nI (i + 1))]) (c_X6_at l G L F_631 b ma mi hh (va_up pl t (m_upto ((m_der (pl r))) (pl t) i)) zf cu r (i + 1) mb f_642 hma f_632 f_643 hz0 (by omega) (by omega) (by omega) (by omega)) C0 hw vw_X6_50 mb f_642 rfl rfl rfl hl.1 rfl (Nat.le_of_ble_eq_true rfl) dX6_derive_16 ⟨by decide, by decide⟩ ⟨by decide, by decide⟩) rfl rfl (fun r_646 F_644 H locs hw hp_645 => ?_)
        obtain ⟨he_647, o_648⟩ := hp_645
        rw [(va_up_ne _ _ (by omega))] at he_647
        have he_647 : r_646 = nI (((pl r) (i + 1)).val) := he_647
        subst he_647
        have z_649 := ((pl r) (i + 1)).isLt
        refine lv_iload_n hx hb dX6_derive_19 rfl (lv_at hl 3 rfl) ?_
        refine lv_iconst (v := nI 1) hx hb dX6_derive_20 (by decide) ?_
        refine n_iadd hx hb dX6_derive_21 ?_
        have m_650 : (((pl r) (i + 1)).val) * (i + 1) ≤ 10006 * 7 := Nat.mul_le_mul (by omega) (by omega)
        refine n_imul hx hb dX6_derive_22 ?_
        have f_651 : F_644 b = mO ma mi hh := (o_648 b ).trans f_642
        have f_652 : F_644 (ma 4) = pcE G (va_up pl t (m_upto ((m_der (pl r))) (pl t) i)) := (o_648 (ma 4) ).trans f_632
        have f_653 : F_644 (ma 0) = .inl (G.2 0, 89, .inl zf) := (o_648 (ma 0) ).trans f_643
        refine q_callv hw (q_runV (As := [.int (nI (t)), .int (nI (i)), .int (nI ((((pl r) (i + 1)).val) * (i + 1)))]) (c_X6_setAt l G L F_644 b ma mi hh (va_up pl t (m_upto ((m_der (pl r))) (pl t) i)) zf cu t i ((((pl r) (i + 1)).val) * (i + 1)) mb f_651 hma f_652 f_653 hz0 (by omega) (by omega) (by omega) (by omega) (by omega)) C0 hw vw_X6_46 mb f_651 rfl rfl rfl hl.1 rfl (Nat.le_of_ble_eq_true rfl) dX6_derive_23 ⟨by decide, by decide⟩ ⟨by decide, by decide⟩) rfl rfl (fun F_654 H locs hw hp_655 => ?_)
        obtain ⟨P_656, eP_656⟩ : ∃ P9, P9 = va_up (va_up pl t (m_upto ((m_der (pl r))) (pl t) i)) t (va_up ((va_up pl t (m_upto ((m_der (pl r))) (pl t) i)) t) i (zc ((((pl r) (i + 1)).val) * (i + 1)))) := ⟨_, rfl⟩
        have f_659 : F_654 (ma 4) = pcE G P_656 := by rw [eP_656]; exact hp_655.1
        have r_657 : P_656 t = va_up (m_upto ((m_der (pl r))) (pl t) i) i (zc ((((pl r) (i + 1)).val) * (i + 1))) := by rw [eP_656, va_up_self]; rw [(va_up_self _ _ _)]
        have ro_658 : ∀ q, q ≠ t → P_656 q = (va_up pl t (m_upto ((m_der (pl r))) (pl t) i)) q := fun q hq => by rw [eP_656]; exact va_up_ne _ _ hq
        refine lv_iinc (v := nI (i + 1)) (lv' := [(3, .int (nI (i + 1))), (0, .ref b), (1, .int (nI (r))), (2, .int (nI (t)))]) hx hb dX6_derive_26 hl (k := 3) rfl (nI_add _ _) (by decide) rfl (fun ls hl => ?_)
        refine lv_goto (tgt := 2) hx hb dX6_derive_29 (by decide) ?_
        exact ih_2 (i + 1) ((by omega)) ((by omega)) (by omega) F_654 _ _ hw (f_659.trans (congrArg (pcE G) (eP_656.trans (pst_s pl t ((m_der (pl r))) (pl t) i (der_z _ (by omega)))))) (fun q k0 => ((hp_655.2 q k0).trans ((o_648 q ).trans (fr_633 q k0)))) ls (lv_sub hl [1, 2, 3, 0] rfl)
  exact lp2 _ (0) ((by omega)) ((by omega)) (Nat.lt_succ_self _) F _ _ hw (fp.trans (congrArg (pcE G) (pst_0 pl t ((m_der (pl r)))))) (fun q k0 => rfl) ls (lv_sub hl [1, 2, 3, 0] rfl)
abbrev rm_X6_putIn : Room := { frames := 3, cells := 0, slots := 0, locals := 70 }
theorem one_e : va_up (fun _ => zc 0) 0 (zc 1) = m_one := by
  rw [zrow]
  funext j
  by_cases h : j = 0 <;> simp [va_up, m_one, h, zc_1]
set_option maxHeartbeats 4000000 in
set_option maxRecDepth 100000 in
theorem c_X6_putIn (l : Launch) (G : Gl) (L : List Nat) (F : Nat → va_E) (b : Nat) (ma : Nat → Nat) (mi : Nat → Int32) (hh : Int64) (pl : Nat → Nat → ZP) (zf : Nat → Int32) (cu : Nat) (r1 r2 t : Nat) (mb : b ∈ L) (fb : F b = mO ma mi hh) (hma : ∀ i, i < 7 → ma i ∈ L) (fp : F (ma 4) = pcE G pl) (fz : F (ma 0) = .inl (G.2 0, 89, .inl zf)) (hz0 : zf 0 = nI cu) (hc : cu ≤ 6) (hc2 : 2 ≤ cu) (h19 : r1 ≤ 4) (h29 : r2 ≤ 4) (ht9 : t ≤ 4 ∨ t = 8) (h1t : r1 ≠ t) (h2t : r2 ≠ t) : CV l yX6_putIn cX6_putIn 5 none rm_X6_putIn G L F [.ref b, .int (nI (r1)), .int (nI (r2)), .int (nI (t))] (fun F1 => (∃ P9, F1 (ma 4) = pcE G P9 ∧ P9 t = m_pi (pl r1) (pl r2) cu ∧ ∀ q, q ≠ t → q ≠ 6 → q ≠ 7 → P9 q = pl q) ∧ ∀ q, q ≠ ma 4 → F1 q = F q) := by
  refine CG_of (by decide) (Nat.le_of_ble_eq_true rfl) rfl ?_
  intro p e s m args below meth c Q C0 hr hlk hnm hQ hw ls hl
  have hx := C0.x
  have hb := C0.b
  refine lv_aload_n hx hb dX6_putIn_0 rfl (lv_at hl 0 rfl) ?_
  refine lv_iload_n hx hb dX6_putIn_1 rfl (lv_at hl 3 rfl) ?_
  refine q_callv hw (q_runV (As := [.int (nI (t))]) (c_X6_clear l G L F b ma mi hh pl zf cu t mb fb hma fp fz hz0 (by omega) (by omega) (by omega)) C0 hw vw_X6_54 mb fb rfl rfl rfl hl.1 rfl (Nat.le_of_ble_eq_true rfl) dX6_putIn_2 ⟨by decide, by decide⟩ ⟨by decide, by decide⟩) rfl rfl (fun F_660 H locs hw hp_661 => ?_)
  obtain ⟨P_662, eP_662⟩ : ∃ P9, P9 = va_up pl t ((fun _ => zc 0)) := ⟨_, rfl⟩
  have f_665 : F_660 (ma 4) = pcE G P_662 := by rw [eP_662]; exact hp_661.1
  have r_663 : P_662 t = (fun _ => zc 0) := by rw [eP_662, va_up_self]
  have ro_664 : ∀ q, q ≠ t → P_662 q = pl q := fun q hq => by rw [eP_662]; exact va_up_ne _ _ hq
  refine lv_aload_n hx hb dX6_putIn_5 rfl (lv_at hl 0 rfl) ?_
  refine lv_bipush (v := nI 6) hx hb dX6_putIn_6 (by decide) ?_
  have f_666 : F_660 b = mO ma mi hh := (hp_661.2 b (ne_oa fb fp)).trans fb
  have f_667 : F_660 (ma 0) = .inl (G.2 0, 89, .inl zf) := (hp_661.2 (ma 0) (ne_aa (by decide) fz fp)).trans fz
  refine q_callv hw (q_runV (As := [.int (nI (6))]) (c_X6_clear l G L F_660 b ma mi hh P_662 zf cu 6 mb f_666 hma f_665 f_667 hz0 (by omega) (by omega) (by omega)) C0 hw vw_X6_54 mb f_666 rfl rfl rfl hl.1 rfl (Nat.le_of_ble_eq_true rfl) dX6_putIn_8 ⟨by decide, by decide⟩ ⟨by decide, by decide⟩) rfl rfl (fun F_668 H locs hw hp_669 => ?_)
  obtain ⟨P_670, eP_670⟩ : ∃ P9, P9 = va_up P_662 6 ((fun _ => zc 0)) := ⟨_, rfl⟩
  have f_673 : F_668 (ma 4) = pcE G P_670 := by rw [eP_670]; exact hp_669.1
  have r_671 : P_670 6 = (fun _ => zc 0) := by rw [eP_670, va_up_self]
  have ro_672 : ∀ q, q ≠ 6 → P_670 q = P_662 q := fun q hq => by rw [eP_670]; exact va_up_ne _ _ hq
  have r_674 : P_662 r1 = pl r1 := (ro_664 r1 (by omega)).trans rfl
  have r_675 : P_662 r2 = pl r2 := (ro_664 r2 (by omega)).trans rfl
  refine lv_aload_n hx hb dX6_putIn_11 rfl (lv_at hl 0 rfl) ?_
  refine lv_bipush (v := nI 6) hx hb dX6_putIn_12 (by decide) ?_
  refine lv_iconst (v := nI 0) hx hb dX6_putIn_14 (by decide) ?_
  refine lv_iconst (v := nI 1) hx hb dX6_putIn_15 (by decide) ?_
  have f_676 : F_668 b = mO ma mi hh := (hp_669.2 b (ne_oa f_666 f_665)).trans f_666
  have f_677 : F_668 (ma 0) = .inl (G.2 0, 89, .inl zf) := (hp_669.2 (ma 0) (ne_aa (by decide) f_667 f_665)).trans f_667
  refine q_callv hw (q_runV (As := [.int (nI (6)), .int (nI (0)), .int (nI (1))]) (c_X6_setAt l G L F_668 b ma mi hh P_670 zf cu 6 0 1 mb f_676 hma f_673 f_677 hz0 (by omega) (by omega) (by omega) (by omega) (by omega)) C0 hw vw_X6_46 mb f_676 rfl rfl rfl hl.1 rfl (Nat.le_of_ble_eq_true rfl) dX6_putIn_16 ⟨by decide, by decide⟩ ⟨by decide, by decide⟩) rfl rfl (fun F_678 H locs hw hp_679 => ?_)
  obtain ⟨P_680, eP_680⟩ : ∃ P9, P9 = va_up P_670 6 (va_up (P_670 6) 0 (zc 1)) := ⟨_, rfl⟩
  have f_683 : F_678 (ma 4) = pcE G P_680 := by rw [eP_680]; exact hp_679.1
  have r_681 : P_680 6 = va_up (fun _ => zc 0) 0 (zc 1) := by rw [eP_680, va_up_self]; rw [r_671]
  have ro_682 : ∀ q, q ≠ 6 → P_680 q = P_670 q := fun q hq => by rw [eP_680]; exact va_up_ne _ _ hq
  have r_684 : P_670 r1 = pl r1 := (ro_672 r1 (by omega)).trans r_674
  have r_685 : P_670 r2 = pl r2 := (ro_672 r2 (by omega)).trans r_675
  have r_686 : P_670 t = (fun _ => zc 0) := (ro_672 t (by omega)).trans r_663
  refine lv_iconst (v := nI 0) hx hb dX6_putIn_19 (by decide) ?_
  refine lv_istore (lv' := [(4, .int (nI (0))), (0, .ref b), (1, .int (nI (r1))), (2, .int (nI (r2))), (3, .int (nI (t)))]) hx hb dX6_putIn_20 hl (by decide) rfl (fun ls hl => ?_)
  have r_688 : P_680 t = (fun _ => zc 0) := (ro_682 t (by omega)).trans r_686
  have lp22 : ∀ (n : Nat) (i : Nat) (P_687 : Nat → Nat → ZP), 0 ≤ i → i ≤ cu + 1 → P_687 t = m_pn (pl r1) (pl r2) cu i → P_687 6 = m_pw (pl r1) cu i → (∀ q, q ≠ t → q ≠ 6 → q ≠ 7 → P_687 q = pl q) → (cu + 1) + 1 - i < n → ∀ (F_689 : Nat → va_E) (H : Heap) (locs : List Loc), wD G L F_689 s H locs → F_689 (ma 4) = pcE G P_687 → (∀ q, q ≠ (ma 4) → F_689 q = F q) → ∀ ls : Array Slot, lv_has ls 5 [(0, .ref b), (1, .int (nI (r1))), (2, .int (nI (r2))), (3, .int (nI (t))), (4, .int (nI (i)))] → W p l e rm_X6_putIn s m args below meth c H locs 0 0 Q (F0 m 22 ls []) := by
    intro n
    induction n with
    | zero => intro i P_687 hlo hhi hr_0_P_687 hr_1_P_687 hfr_P_687 hm; exact absurd hm (Nat.not_lt_zero _)
    | succ n ih_22 =>
      intro i P_687 hlo hhi hr_0_P_687 hr_1_P_687 hfr_P_687 hm F_689 H locs hw f_690 fr_691 ls hl
      refine lv_iload hx hb dX6_putIn_22 (lv_at hl 4 rfl) ?_
      refine lv_aload_n hx hb dX6_putIn_24 rfl (lv_at hl 0 rfl) ?_
      have f_692 : F_689 b = mO ma mi hh := (fr_691 b (ne_oa fb fp)).trans fb
      refine q_get C0 hw mb f_692 fw_X6_7 rfl dX6_putIn_25 ?_
      refine lv_iconst (v := nI 0) hx hb dX6_putIn_28 (by decide) ?_
      have f_693 : F_689 (ma 0) = .inl (G.2 0, 89, .inl zf) := (fr_691 (ma 0) (ne_aa (by decide) fz fp)).trans fz
      refine q_iald C0 hw ((hma 0 (by decide))) f_693 (0) (by omega) (by decide) (v := nI (cu)) hz0 dX6_putIn_29 ?_
      refine n_icmp_gt (tgt := 70) hx hb dX6_putIn_30 (by decide) (by omega) (by omega) (fun c_30 => ?_) (fun c_30 => ?_)
      · skip
        obtain rfl : i = cu + 1 := by omega
        exact r_v C0 hr hlk hw ⟨⟨_, f_690, hr_0_P_687, (fun q j0 j1 j2 => (hfr_P_687 q j0 j1 j2))⟩, (fun q k0 => (fr_691 q k0))⟩ (Nat.le_refl _) (Nat.le_refl _) dX6_putIn_70 hQ
      · skip
        refine lv_aload_n hx hb dX6_putIn_33 rfl (lv_at hl 0 rfl) ?_
        refine lv_bipush (v := nI 6) hx hb dX6_putIn_34 (by decide) ?_
        refine lv_aload_n hx hb dX6_putIn_36 rfl (lv_at hl 0 rfl) ?_
        refine lv_iload_n hx hb dX6_putIn_37 rfl (lv_at hl 2 rfl) ?_
        refine lv_iload hx hb dX6_putIn_38 (lv_at hl 4 rfl) ?_
        have r_694 : P_687 r2 = pl r2 := (hfr_P_687 r2 (by omega) (by omega) (by omega)).trans rfl
        refine q_calli hw (q_runV (As := [.int (nI (r2)), .int (nI (i))]) (c_X6_at l G L F_689 b ma mi hh P_687 zf cu r2 i mb f_692 hma f_690 f_693 hz0 (by omega) (by omega) (by omega) (by omega)) C0 hw vw_X6_50 mb f_692 rfl rfl rfl hl.1 rfl (Nat.le_of_ble_eq_true rfl) dX6_putIn_40 ⟨by decide, by decide⟩ ⟨by decide, by decide⟩) rfl rfl (fun r_697 F_695 H locs hw hp_696 => ?_)
        obtain ⟨he_698, o_699⟩ := hp_696
        rw [r_694] at he_698
        have he_698 : r_697 = nI (((pl r2) i).val) := he_698
        subst he_698
        have z_700 := ((pl r2) i).isLt
        refine lv_iload_n hx hb dX6_putIn_43 rfl (lv_at hl 3 rfl) ?_
        have f_701 : F_695 b = mO ma mi hh := (o_699 b ).trans f_692
        have f_702 : F_695 (ma 4) = pcE G P_687 := (o_699 (ma 4) ).trans f_690
        have f_703 : F_695 (ma 0) = .inl (G.2 0, 89, .inl zf) := (o_699 (ma 0) ).trans f_693
        refine q_callv hw (q_runV (As := [.int (nI (6)), .int (nI (((pl r2) i).val)), .int (nI (t))]) (c_X6_addTimes l G L F_695 b ma mi hh P_687 zf cu 6 (((pl r2) i).val) t mb f_701 hma f_702 f_703 hz0 (by omega) (by omega) (by omega) (by omega) (by omega) (by omega)) C0 hw vw_X6_58 mb f_701 rfl rfl rfl hl.1 rfl (Nat.le_of_ble_eq_true rfl) dX6_putIn_44 ⟨by decide, by decide⟩ ⟨by decide, by decide⟩) rfl rfl (fun F_704 H locs hw hp_705 => ?_)
        obtain ⟨P_706, eP_706⟩ : ∃ P9, P9 = va_up P_687 t (m_am (P_687 t) (P_687 6) (zc (((pl r2) i).val))) := ⟨_, rfl⟩
        have f_709 : F_704 (ma 4) = pcE G P_706 := by rw [eP_706]; exact hp_705.1
        have r_707 : P_706 t = m_am (m_pn (pl r1) (pl r2) cu i) (m_pw (pl r1) cu i) (zc (((pl r2) i).val)) := by rw [eP_706, va_up_self]; rw [hr_1_P_687, hr_0_P_687]
        have ro_708 : ∀ q, q ≠ t → P_706 q = P_687 q := fun q hq => by rw [eP_706]; exact va_up_ne _ _ hq
        have r_710 : P_687 r1 = pl r1 := (hfr_P_687 r1 (by omega) (by omega) (by omega)).trans rfl
        refine lv_aload_n hx hb dX6_putIn_47 rfl (lv_at hl 0 rfl) ?_
        refine lv_bipush (v := nI 6) hx hb dX6_putIn_48 (by decide) ?_
        refine lv_iload_n hx hb dX6_putIn_50 rfl (lv_at hl 1 rfl) ?_
        refine lv_bipush (v := nI 7) hx hb dX6_putIn_51 (by decide) ?_
        have r_711 : P_706 6 = m_pw (pl r1) cu i := (ro_708 6 (by omega)).trans hr_1_P_687
        have r_712 : P_706 r1 = pl r1 := (ro_708 r1 (by omega)).trans r_710
        have f_713 : F_704 b = mO ma mi hh := (hp_705.2 b (ne_oa f_701 f_702)).trans f_701
        have f_714 : F_704 (ma 0) = .inl (G.2 0, 89, .inl zf) := (hp_705.2 (ma 0) (ne_aa (by decide) f_703 f_702)).trans f_703
        refine q_callv hw (q_runV (As := [.int (nI (6)), .int (nI (r1)), .int (nI (7))]) (c_X6_multiply l G L F_704 b ma mi hh P_706 zf cu 6 r1 7 mb f_713 hma f_709 f_714 hz0 (by omega) (by omega) (by omega) (by omega) (by omega) (by omega) (by omega)) C0 hw vw_X6_61 mb f_713 rfl rfl rfl hl.1 rfl (Nat.le_of_ble_eq_true rfl) dX6_putIn_53 ⟨by decide, by decide⟩ ⟨by decide, by decide⟩) rfl rfl (fun F_715 H locs hw hp_716 => ?_)
        obtain ⟨P_717, eP_717⟩ : ∃ P9, P9 = va_up P_706 7 (m_mulT (P_706 6) (P_706 r1) cu) := ⟨_, rfl⟩
        have f_720 : F_715 (ma 4) = pcE G P_717 := by rw [eP_717]; exact hp_716.1
        have r_718 : P_717 7 = m_mulT (m_pw (pl r1) cu i) (pl r1) cu := by rw [eP_717, va_up_self]; rw [r_711, r_712]
        have ro_719 : ∀ q, q ≠ 7 → P_717 q = P_706 q := fun q hq => by rw [eP_717]; exact va_up_ne _ _ hq
        have r_721 : P_706 r2 = pl r2 := (ro_708 r2 (by omega)).trans r_694
        refine lv_aload_n hx hb dX6_putIn_56 rfl (lv_at hl 0 rfl) ?_
        refine lv_bipush (v := nI 7) hx hb dX6_putIn_57 (by decide) ?_
        refine lv_bipush (v := nI 6) hx hb dX6_putIn_59 (by decide) ?_
        have f_722 : F_715 b = mO ma mi hh := (hp_716.2 b (ne_oa f_713 f_709)).trans f_713
        have f_723 : F_715 (ma 0) = .inl (G.2 0, 89, .inl zf) := (hp_716.2 (ma 0) (ne_aa (by decide) f_714 f_709)).trans f_714
        refine q_callv hw (q_runV (As := [.int (nI (7)), .int (nI (6))]) (c_X6_copy l G L F_715 b ma mi hh P_717 zf cu 7 6 mb f_722 hma f_720 f_723 hz0 (by omega) (by omega) (by omega) (by omega) (by omega)) C0 hw vw_X6_64 mb f_722 rfl rfl rfl hl.1 rfl (Nat.le_of_ble_eq_true rfl) dX6_putIn_61 ⟨by decide, by decide⟩ ⟨by decide, by decide⟩) rfl rfl (fun F_724 H locs hw hp_725 => ?_)
        obtain ⟨P_726, eP_726⟩ : ∃ P9, P9 = va_up P_717 6 (P_717 7) := ⟨_, rfl⟩
        have f_729 : F_724 (ma 4) = pcE G P_726 := by rw [eP_726]; exact hp_725.1
        have r_727 : P_726 6 = m_mulT (m_pw (pl r1) cu i) (pl r1) cu := by rw [eP_726, va_up_self]; rw [r_718]
        have ro_728 : ∀ q, q ≠ 6 → P_726 q = P_717 q := fun q hq => by rw [eP_726]; exact va_up_ne _ _ hq
        have r_730 : P_717 r1 = pl r1 := (ro_719 r1 (by omega)).trans r_712
        have r_731 : P_717 r2 = pl r2 := (ro_719 r2 (by omega)).trans r_721
        have r_732 : P_717 t = m_am (m_pn (pl r1) (pl r2) cu i) (m_pw (pl r1) cu i) (zc (((pl r2) i).val)) := (ro_719 t (by omega)).trans r_707
        refine lv_iinc (v := nI (i + 1)) (lv' := [(4, .int (nI (i + 1))), (0, .ref b), (1, .int (nI (r1))), (2, .int (nI (r2))), (3, .int (nI (t)))]) hx hb dX6_putIn_64 hl (k := 4) rfl (nI_add _ _) (by decide) rfl (fun ls hl => ?_)
        refine lv_goto (tgt := 22) hx hb dX6_putIn_67 (by decide) ?_
        have r_733 : P_726 t = m_am (m_pn (pl r1) (pl r2) cu i) (m_pw (pl r1) cu i) (zc (((pl r2) i).val)) := (ro_728 t (by omega)).trans r_732
        exact ih_22 (i + 1) (P_726) ((by omega)) ((by omega)) ((r_733.trans (by rw [zc_z]; rfl))) ((r_727)) ((fun q j0 j1 j2 => ((ro_728 q j1).trans ((ro_719 q j2).trans ((ro_708 q j0).trans (hfr_P_687 q j0 j1 j2)))))) (by omega) F_724 _ _ hw (f_729) (fun q k0 => ((hp_725.2 q k0).trans ((hp_716.2 q k0).trans ((hp_705.2 q k0).trans ((o_699 q ).trans (fr_691 q k0)))))) ls (lv_sub hl [1, 2, 3, 4, 0] rfl)
  exact lp22 _ (0) (P_680) ((by omega)) ((by omega)) ((r_688.trans zrow)) ((r_681.trans one_e)) ((fun q j0 j1 j2 => ((ro_682 q j1).trans ((ro_672 q j1).trans (ro_664 q j0))))) (Nat.lt_succ_self _) F_678 _ _ hw (f_683) (fun q k0 => ((hp_679.2 q k0).trans ((hp_669.2 q k0).trans (hp_661.2 q k0)))) ls (lv_sub hl [1, 2, 3, 4, 0] rfl)
abbrev rm_X6_invertTo : Room := { frames := 4, cells := 0, slots := 0, locals := 94 }
set_option maxHeartbeats 4000000 in
set_option maxRecDepth 100000 in
theorem c_X6_invertTo (l : Launch) (G : Gl) (L : List Nat) (F : Nat → va_E) (b : Nat) (ma : Nat → Nat) (mi : Nat → Int32) (hh : Int64) (pl : Nat → Nat → ZP) (zf : Nat → Int32) (cu : Nat) (r t : Nat) (mb : b ∈ L) (fb : F b = mO ma mi hh) (hma : ∀ i, i < 7 → ma i ∈ L) (fp : F (ma 4) = pcE G pl) (fz : F (ma 0) = .inl (G.2 0, 89, .inl zf)) (hz0 : zf 0 = nI cu) (hc : cu ≤ 6) (hc2 : 2 ≤ cu) (hr9 : r ≤ 4) (ht9 : t ≤ 4) (hrt : r ≠ t) : CV l yX6_invertTo cX6_invertTo 4 none rm_X6_invertTo G L F [.ref b, .int (nI (r)), .int (nI (t))] (fun F1 => (∃ P9, F1 (ma 4) = pcE G P9 ∧ P9 t = m_invM (pl r) cu ∧ ∀ q, q ≠ t → q ≠ 8 → q ≠ 6 → q ≠ 7 → P9 q = pl q) ∧ ∀ q, q ≠ ma 4 → F1 q = F q) := by
  refine CG_of (by decide) (Nat.le_of_ble_eq_true rfl) rfl ?_
  intro p e s m args below meth c Q C0 hr hlk hnm hQ hw ls hl
  have hx := C0.x
  have hb := C0.b
  refine lv_aload_n hx hb dX6_invertTo_0 rfl (lv_at hl 0 rfl) ?_
  refine lv_iload_n hx hb dX6_invertTo_1 rfl (lv_at hl 2 rfl) ?_
  refine q_callv hw (q_runV (As := [.int (nI (t))]) (c_X6_setX l G L F b ma mi hh pl zf cu t mb fb hma fp fz hz0 (by omega) (by omega) (by omega)) C0 hw vw_X6_68 mb fb rfl rfl rfl hl.1 rfl (Nat.le_of_ble_eq_true rfl) dX6_invertTo_2 ⟨by decide, by decide⟩ ⟨by decide, by decide⟩) rfl rfl (fun F_734 H locs hw hp_735 => ?_)
  obtain ⟨P_736, eP_736⟩ : ∃ P9, P9 = va_up pl t (m_x) := ⟨_, rfl⟩
  have f_739 : F_734 (ma 4) = pcE G P_736 := by rw [eP_736]; exact hp_735.1
  have r_737 : P_736 t = m_x := by rw [eP_736, va_up_self]
  have ro_738 : ∀ q, q ≠ t → P_736 q = pl q := fun q hq => by rw [eP_736]; exact va_up_ne _ _ hq
  refine lv_iconst (v := nI 2) hx hb dX6_invertTo_5 (by decide) ?_
  refine lv_istore_n (lv' := [(3, .int (nI (2))), (0, .ref b), (1, .int (nI (r))), (2, .int (nI (t)))]) hx hb dX6_invertTo_6 rfl hl (by decide) rfl (fun ls hl => ?_)
  have lp7 : ∀ (n : Nat) (j : Nat) (P_740 : Nat → Nat → ZP), 0 ≤ j → j ≤ cu - 1 → P_740 t = m_ivn (pl r) cu j → (∀ q, q ≠ t → q ≠ 8 → q ≠ 6 → q ≠ 7 → P_740 q = pl q) → (cu - 1) + 1 - j < n → ∀ (F_741 : Nat → va_E) (H : Heap) (locs : List Loc), wD G L F_741 s H locs → F_741 (ma 4) = pcE G P_740 → (∀ q, q ≠ (ma 4) → F_741 q = F q) → ∀ ls : Array Slot, lv_has ls 4 [(0, .ref b), (1, .int (nI (r))), (2, .int (nI (t))), (3, .int (nI (j + 2)))] → W p l e rm_X6_invertTo s m args below meth c H locs 0 0 Q (F0 m 7 ls []) := by
    intro n
    induction n with
    | zero => intro j P_740 hlo hhi hr_0_P_740 hfr_P_740 hm; exact absurd hm (Nat.not_lt_zero _)
    | succ n ih_7 =>
      intro j P_740 hlo hhi hr_0_P_740 hfr_P_740 hm F_741 H locs hw f_742 fr_743 ls hl
      refine lv_iload_n hx hb dX6_invertTo_7 rfl (lv_at hl 3 rfl) ?_
      refine lv_aload_n hx hb dX6_invertTo_8 rfl (lv_at hl 0 rfl) ?_
      have f_744 : F_741 b = mO ma mi hh := (fr_743 b (ne_oa fb fp)).trans fb
      refine q_get C0 hw mb f_744 fw_X6_7 rfl dX6_invertTo_9 ?_
      refine lv_iconst (v := nI 0) hx hb dX6_invertTo_12 (by decide) ?_
      have f_745 : F_741 (ma 0) = .inl (G.2 0, 89, .inl zf) := (fr_743 (ma 0) (ne_aa (by decide) fz fp)).trans fz
      refine q_iald C0 hw ((hma 0 (by decide))) f_745 (0) (by omega) (by decide) (v := nI (cu)) hz0 dX6_invertTo_13 ?_
      refine n_icmp_gt (tgt := 55) hx hb dX6_invertTo_14 (by decide) (by omega) (by omega) (fun c_14 => ?_) (fun c_14 => ?_)
      · skip
        obtain rfl : j = cu - 1 := by omega
        exact r_v C0 hr hlk hw ⟨⟨_, f_742, hr_0_P_740, (fun q j0 j1 j2 j3 => (hfr_P_740 q j0 j1 j2 j3))⟩, (fun q k0 => (fr_743 q k0))⟩ (Nat.le_refl _) (Nat.le_refl _) dX6_invertTo_55 hQ
      · skip
        refine lv_aload_n hx hb dX6_invertTo_17 rfl (lv_at hl 0 rfl) ?_
        refine lv_iload_n hx hb dX6_invertTo_18 rfl (lv_at hl 1 rfl) ?_
        refine lv_iload_n hx hb dX6_invertTo_19 rfl (lv_at hl 2 rfl) ?_
        refine lv_bipush (v := nI 8) hx hb dX6_invertTo_20 (by decide) ?_
        have r_746 : P_740 r = pl r := (hfr_P_740 r (by omega) (by omega) (by omega) (by omega)).trans rfl
        refine q_callv hw (q_runV (As := [.int (nI (r)), .int (nI (t)), .int (nI (8))]) (c_X6_putIn l G L F_741 b ma mi hh P_740 zf cu r t 8 mb f_744 hma f_742 f_745 hz0 (by omega) (by omega) (by omega) (by omega) (by omega) (by omega) (by omega)) C0 hw vw_X6_71 mb f_744 rfl rfl rfl hl.1 rfl (Nat.le_of_ble_eq_true rfl) dX6_invertTo_22 ⟨by decide, by decide⟩ ⟨by decide, by decide⟩) rfl rfl (fun F_747 H locs hw hp_748 => ?_)
        obtain ⟨⟨P_749, f_752, r_750, ro_751⟩, o_753⟩ := hp_748
        rw [r_746, hr_0_P_740] at r_750
        refine lv_aload_n hx hb dX6_invertTo_25 rfl (lv_at hl 0 rfl) ?_
        refine lv_iload_n hx hb dX6_invertTo_26 rfl (lv_at hl 2 rfl) ?_
        refine lv_iload_n hx hb dX6_invertTo_27 rfl (lv_at hl 3 rfl) ?_
        refine lv_aload_n hx hb dX6_invertTo_28 rfl (lv_at hl 0 rfl) ?_
        refine lv_iload_n hx hb dX6_invertTo_29 rfl (lv_at hl 2 rfl) ?_
        refine lv_iload_n hx hb dX6_invertTo_30 rfl (lv_at hl 3 rfl) ?_
        have r_754 : P_749 t = m_ivn (pl r) cu j := (ro_751 t (by omega) (by omega) (by omega)).trans hr_0_P_740
        have f_755 : F_747 b = mO ma mi hh := (o_753 b (ne_oa f_744 f_742)).trans f_744
        have f_756 : F_747 (ma 0) = .inl (G.2 0, 89, .inl zf) := (o_753 (ma 0) (ne_aa (by decide) f_745 f_742)).trans f_745
        refine q_calli hw (q_runV (As := [.int (nI (t)), .int (nI (j + 2))]) (c_X6_at l G L F_747 b ma mi hh P_749 zf cu t (j + 2) mb f_755 hma f_752 f_756 hz0 (by omega) (by omega) (by omega) (by omega)) C0 hw vw_X6_50 mb f_755 rfl rfl rfl hl.1 rfl (Nat.le_of_ble_eq_true rfl) dX6_invertTo_31 ⟨by decide, by decide⟩ ⟨by decide, by decide⟩) rfl rfl (fun r_759 F_757 H locs hw hp_758 => ?_)
        obtain ⟨he_760, o_761⟩ := hp_758
        rw [r_754] at he_760
        have he_760 : r_759 = nI (((m_ivn (pl r) cu j) (j + 2)).val) := he_760
        subst he_760
        have z_762 := ((m_ivn (pl r) cu j) (j + 2)).isLt
        refine lv_sipush (v := nI 10007) hx hb dX6_invertTo_34 (by decide) ?_
        refine n_iadd hx hb dX6_invertTo_37 ?_
        refine lv_aload_n hx hb dX6_invertTo_38 rfl (lv_at hl 0 rfl) ?_
        refine lv_bipush (v := nI 8) hx hb dX6_invertTo_39 (by decide) ?_
        refine lv_iload_n hx hb dX6_invertTo_41 rfl (lv_at hl 3 rfl) ?_
        have f_763 : F_757 b = mO ma mi hh := (o_761 b ).trans f_755
        have f_764 : F_757 (ma 4) = pcE G P_749 := (o_761 (ma 4) ).trans f_752
        have f_765 : F_757 (ma 0) = .inl (G.2 0, 89, .inl zf) := (o_761 (ma 0) ).trans f_756
        refine q_calli hw (q_runV (As := [.int (nI (8)), .int (nI (j + 2))]) (c_X6_at l G L F_757 b ma mi hh P_749 zf cu 8 (j + 2) mb f_763 hma f_764 f_765 hz0 (by omega) (by omega) (by omega) (by omega)) C0 hw vw_X6_50 mb f_763 rfl rfl rfl hl.1 rfl (Nat.le_of_ble_eq_true rfl) dX6_invertTo_42 ⟨by decide, by decide⟩ ⟨by decide, by decide⟩) rfl rfl (fun r_768 F_766 H locs hw hp_767 => ?_)
        obtain ⟨he_769, o_770⟩ := hp_767
        rw [r_750] at he_769
        have he_769 : r_768 = nI (((m_pi (pl r) (m_ivn (pl r) cu j) cu) (j + 2)).val) := he_769
        subst he_769
        have z_771 := ((m_pi (pl r) (m_ivn (pl r) cu j) cu) (j + 2)).isLt
        refine n_isub hx hb (by omega) dX6_invertTo_45 ?_
        have f_772 : F_766 b = mO ma mi hh := (o_770 b ).trans f_763
        have f_773 : F_766 (ma 4) = pcE G P_749 := (o_770 (ma 4) ).trans f_764
        have f_774 : F_766 (ma 0) = .inl (G.2 0, 89, .inl zf) := (o_770 (ma 0) ).trans f_765
        refine q_callv hw (q_runV (As := [.int (nI (t)), .int (nI (j + 2)), .int (nI (((m_ivn (pl r) cu j) (j + 2)).val + 10007 - (((m_pi (pl r) (m_ivn (pl r) cu j) cu) (j + 2)).val)))]) (c_X6_setAt l G L F_766 b ma mi hh P_749 zf cu t (j + 2) (((m_ivn (pl r) cu j) (j + 2)).val + 10007 - (((m_pi (pl r) (m_ivn (pl r) cu j) cu) (j + 2)).val)) mb f_772 hma f_773 f_774 hz0 (by omega) (by omega) (by omega) (by omega) (by omega)) C0 hw vw_X6_46 mb f_772 rfl rfl rfl hl.1 rfl (Nat.le_of_ble_eq_true rfl) dX6_invertTo_46 ⟨by decide, by decide⟩ ⟨by decide, by decide⟩) rfl rfl (fun F_775 H locs hw hp_776 => ?_)
        obtain ⟨P_777, eP_777⟩ : ∃ P9, P9 = va_up P_749 t (va_up (P_749 t) (j + 2) (zc (((m_ivn (pl r) cu j) (j + 2)).val + 10007 - (((m_pi (pl r) (m_ivn (pl r) cu j) cu) (j + 2)).val)))) := ⟨_, rfl⟩
        have f_780 : F_775 (ma 4) = pcE G P_777 := by rw [eP_777]; exact hp_776.1
        have r_778 : P_777 t = va_up (m_ivn (pl r) cu j) (j + 2) (zc (((m_ivn (pl r) cu j) (j + 2)).val + 10007 - (((m_pi (pl r) (m_ivn (pl r) cu j) cu) (j + 2)).val))) := by rw [eP_777, va_up_self]; rw [r_754]
        have ro_779 : ∀ q, q ≠ t → P_777 q = P_749 q := fun q hq => by rw [eP_777]; exact va_up_ne _ _ hq
        have r_781 : P_749 r = pl r := (ro_751 r (by omega) (by omega) (by omega)).trans r_746
        refine lv_iinc (v := nI (j + 2 + 1)) (lv' := [(3, .int (nI (j + 2 + 1))), (0, .ref b), (1, .int (nI (r))), (2, .int (nI (t)))]) hx hb dX6_invertTo_49 hl (k := 3) rfl (nI_add _ _) (by decide) rfl (fun ls hl => ?_)
        refine lv_goto (tgt := 7) hx hb dX6_invertTo_52 (by decide) ?_
        exact ih_7 (j + 1) (P_777) ((by omega)) ((by omega)) ((r_778.trans (by rw [zc_sub, zc_z]; rfl))) ((fun q j0 j1 j2 j3 => ((ro_779 q j0).trans ((ro_751 q j1 j2 j3).trans (hfr_P_740 q j0 j1 j2 j3))))) (by omega) F_775 _ _ hw (f_780) (fun q k0 => ((hp_776.2 q k0).trans ((o_770 q ).trans ((o_761 q ).trans ((o_753 q k0).trans (fr_743 q k0)))))) ls (lv_sub hl [1, 2, 3, 0] rfl)
  exact lp7 _ (0) (P_736) ((by omega)) ((by omega)) ((r_737)) ((fun q j0 j1 j2 j3 => (ro_738 q j0))) (Nat.lt_succ_self _) F_734 _ _ hw (f_739) (fun q k0 => (hp_735.2 q k0)) ls (lv_sub hl [1, 2, 3, 0] rfl)
abbrev rm_X6_expTo : Room := { frames := 3, cells := 0, slots := 0, locals := 70 }
theorem xO_s (f : Nat → ZP) (cu j : Nat) : m_am (m_xO f cu j) (m_am (fun _ => zc 0) (m_mulT f (m_der (m_xT f cu j)) cu) (zc (m_finv (zc (j + 1))).val)) (zc 1) = m_xO f cu (j + 1) := by
  rw [zc_z, zrow, zc_1]
  rfl
theorem xT_s (f : Nat → ZP) (cu j : Nat) : m_am (fun _ => zc 0) (m_mulT f (m_der (m_xT f cu j)) cu) (zc (m_finv (zc (j + 1))).val) = m_xT f cu (j + 1) := by
  rw [zc_z, zrow]
  rfl
set_option maxHeartbeats 4000000 in
set_option maxRecDepth 100000 in
theorem c_X6_expTo (l : Launch) (G : Gl) (L : List Nat) (F : Nat → va_E) (b : Nat) (ma : Nat → Nat) (mi : Nat → Int32) (hh : Int64) (pl : Nat → Nat → ZP) (zf : Nat → Int32) (cu : Nat) (r t : Nat) (mb : b ∈ L) (fb : F b = mO ma mi hh) (hma : ∀ i, i < 7 → ma i ∈ L) (fp : F (ma 4) = pcE G pl) (fz : F (ma 0) = .inl (G.2 0, 89, .inl zf)) (hz0 : zf 0 = nI cu) (hc : cu ≤ 6) (hc2 : 2 ≤ cu) (hr9 : r ≤ 4) (ht9 : t ≤ 4 ∨ t = 12) (hrt : r ≠ t) : CV l yX6_expTo cX6_expTo 4 none rm_X6_expTo G L F [.ref b, .int (nI (r)), .int (nI (t))] (fun F1 => (∃ P9, F1 (ma 4) = pcE G P9 ∧ P9 t = m_expM (pl r) cu ∧ ∀ q, q ≠ t → q ≠ 9 → q ≠ 10 → q ≠ 11 → P9 q = pl q) ∧ ∀ q, q ≠ ma 4 → F1 q = F q) := by
  refine CG_of (by decide) (Nat.le_of_ble_eq_true rfl) rfl ?_
  intro p e s m args below meth c Q C0 hr hlk hnm hQ hw ls hl
  have hx := C0.x
  have hb := C0.b
  refine lv_aload_n hx hb dX6_expTo_0 rfl (lv_at hl 0 rfl) ?_
  refine lv_bipush (v := nI 9) hx hb dX6_expTo_1 (by decide) ?_
  refine q_callv hw (q_runV (As := [.int (nI (9))]) (c_X6_setX l G L F b ma mi hh pl zf cu 9 mb fb hma fp fz hz0 (by omega) (by omega) (by omega)) C0 hw vw_X6_68 mb fb rfl rfl rfl hl.1 rfl (Nat.le_of_ble_eq_true rfl) dX6_expTo_3 ⟨by decide, by decide⟩ ⟨by decide, by decide⟩) rfl rfl (fun F_782 H locs hw hp_783 => ?_)
  obtain ⟨P_784, eP_784⟩ : ∃ P9, P9 = va_up pl 9 (m_x) := ⟨_, rfl⟩
  have f_787 : F_782 (ma 4) = pcE G P_784 := by rw [eP_784]; exact hp_783.1
  have r_785 : P_784 9 = m_x := by rw [eP_784, va_up_self]
  have ro_786 : ∀ q, q ≠ 9 → P_784 q = pl q := fun q hq => by rw [eP_784]; exact va_up_ne _ _ hq
  refine lv_aload_n hx hb dX6_expTo_6 rfl (lv_at hl 0 rfl) ?_
  refine lv_bipush (v := nI 9) hx hb dX6_expTo_7 (by decide) ?_
  refine lv_iload_n hx hb dX6_expTo_9 rfl (lv_at hl 2 rfl) ?_
  have f_788 : F_782 b = mO ma mi hh := (hp_783.2 b (ne_oa fb fp)).trans fb
  have f_789 : F_782 (ma 0) = .inl (G.2 0, 89, .inl zf) := (hp_783.2 (ma 0) (ne_aa (by decide) fz fp)).trans fz
  refine q_callv hw (q_runV (As := [.int (nI (9)), .int (nI (t))]) (c_X6_copy l G L F_782 b ma mi hh P_784 zf cu 9 t mb f_788 hma f_787 f_789 hz0 (by omega) (by omega) (by omega) (by omega) (by omega)) C0 hw vw_X6_64 mb f_788 rfl rfl rfl hl.1 rfl (Nat.le_of_ble_eq_true rfl) dX6_expTo_10 ⟨by decide, by decide⟩ ⟨by decide, by decide⟩) rfl rfl (fun F_790 H locs hw hp_791 => ?_)
  obtain ⟨P_792, eP_792⟩ : ∃ P9, P9 = va_up P_784 t (P_784 9) := ⟨_, rfl⟩
  have f_795 : F_790 (ma 4) = pcE G P_792 := by rw [eP_792]; exact hp_791.1
  have r_793 : P_792 t = m_x := by rw [eP_792, va_up_self]; rw [r_785]
  have ro_794 : ∀ q, q ≠ t → P_792 q = P_784 q := fun q hq => by rw [eP_792]; exact va_up_ne _ _ hq
  have r_796 : P_784 r = pl r := (ro_786 r (by omega)).trans rfl
  refine lv_iconst (v := nI 1) hx hb dX6_expTo_13 (by decide) ?_
  refine lv_istore_n (lv' := [(3, .int (nI (1))), (0, .ref b), (1, .int (nI (r))), (2, .int (nI (t)))]) hx hb dX6_expTo_14 rfl hl (by decide) rfl (fun ls hl => ?_)
  have r_798 : P_792 9 = m_x := (ro_794 9 (by omega)).trans r_785
  have lp15 : ∀ (n : Nat) (j : Nat) (P_797 : Nat → Nat → ZP), 0 ≤ j → j ≤ cu - 1 → P_797 t = m_xO (pl r) cu j → P_797 9 = m_xT (pl r) cu j → (∀ q, q ≠ t → q ≠ 9 → q ≠ 10 → q ≠ 11 → P_797 q = pl q) → (cu - 1) + 1 - j < n → ∀ (F_799 : Nat → va_E) (H : Heap) (locs : List Loc), wD G L F_799 s H locs → F_799 (ma 4) = pcE G P_797 → (∀ q, q ≠ (ma 4) → F_799 q = F q) → ∀ ls : Array Slot, lv_has ls 4 [(0, .ref b), (1, .int (nI (r))), (2, .int (nI (t))), (3, .int (nI (j + 1)))] → W p l e rm_X6_expTo s m args below meth c H locs 0 0 Q (F0 m 15 ls []) := by
    intro n
    induction n with
    | zero => intro j P_797 hlo hhi hr_0_P_797 hr_1_P_797 hfr_P_797 hm; exact absurd hm (Nat.not_lt_zero _)
    | succ n ih_15 =>
      intro j P_797 hlo hhi hr_0_P_797 hr_1_P_797 hfr_P_797 hm F_799 H locs hw f_800 fr_801 ls hl
      refine lv_iload_n hx hb dX6_expTo_15 rfl (lv_at hl 3 rfl) ?_
      refine lv_aload_n hx hb dX6_expTo_16 rfl (lv_at hl 0 rfl) ?_
      have f_802 : F_799 b = mO ma mi hh := (fr_801 b (ne_oa fb fp)).trans fb
      refine q_get C0 hw mb f_802 fw_X6_7 rfl dX6_expTo_17 ?_
      refine lv_iconst (v := nI 0) hx hb dX6_expTo_20 (by decide) ?_
      have f_803 : F_799 (ma 0) = .inl (G.2 0, 89, .inl zf) := (fr_801 (ma 0) (ne_aa (by decide) fz fp)).trans fz
      refine q_iald C0 hw ((hma 0 (by decide))) f_803 (0) (by omega) (by decide) (v := nI (cu)) hz0 dX6_expTo_21 ?_
      refine n_icmp_ge (tgt := 74) hx hb dX6_expTo_22 (by decide) (by omega) (by omega) (fun c_22 => ?_) (fun c_22 => ?_)
      · skip
        obtain rfl : j = cu - 1 := by omega
        exact r_v C0 hr hlk hw ⟨⟨_, f_800, hr_0_P_797, (fun q j0 j1 j2 j3 => (hfr_P_797 q j0 j1 j2 j3))⟩, (fun q k0 => (fr_801 q k0))⟩ (Nat.le_refl _) (Nat.le_refl _) dX6_expTo_74 hQ
      · skip
        refine lv_aload_n hx hb dX6_expTo_25 rfl (lv_at hl 0 rfl) ?_
        refine lv_bipush (v := nI 9) hx hb dX6_expTo_26 (by decide) ?_
        refine lv_bipush (v := nI 10) hx hb dX6_expTo_28 (by decide) ?_
        refine q_callv hw (q_runV (As := [.int (nI (9)), .int (nI (10))]) (c_X6_derive l G L F_799 b ma mi hh P_797 zf cu 9 10 mb f_802 hma f_800 f_803 hz0 (by omega) (by omega) (by omega) (by omega) (by omega)) C0 hw vw_X6_74 mb f_802 rfl rfl rfl hl.1 rfl (Nat.le_of_ble_eq_true rfl) dX6_expTo_30 ⟨by decide, by decide⟩ ⟨by decide, by decide⟩) rfl rfl (fun F_804 H locs hw hp_805 => ?_)
        obtain ⟨P_806, eP_806⟩ : ∃ P9, P9 = va_up P_797 10 (m_der (P_797 9)) := ⟨_, rfl⟩
        have f_809 : F_804 (ma 4) = pcE G P_806 := by rw [eP_806]; exact hp_805.1
        have r_807 : P_806 10 = m_der (m_xT (pl r) cu j) := by rw [eP_806, va_up_self]; rw [hr_1_P_797]
        have ro_808 : ∀ q, q ≠ 10 → P_806 q = P_797 q := fun q hq => by rw [eP_806]; exact va_up_ne _ _ hq
        have r_810 : P_797 r = pl r := (hfr_P_797 r (by omega) (by omega) (by omega) (by omega)).trans rfl
        refine lv_aload_n hx hb dX6_expTo_33 rfl (lv_at hl 0 rfl) ?_
        refine lv_iload_n hx hb dX6_expTo_34 rfl (lv_at hl 1 rfl) ?_
        refine lv_bipush (v := nI 10) hx hb dX6_expTo_35 (by decide) ?_
        refine lv_bipush (v := nI 11) hx hb dX6_expTo_37 (by decide) ?_
        have r_811 : P_806 r = pl r := (ro_808 r (by omega)).trans r_810
        have f_812 : F_804 b = mO ma mi hh := (hp_805.2 b (ne_oa f_802 f_800)).trans f_802
        have f_813 : F_804 (ma 0) = .inl (G.2 0, 89, .inl zf) := (hp_805.2 (ma 0) (ne_aa (by decide) f_803 f_800)).trans f_803
        refine q_callv hw (q_runV (As := [.int (nI (r)), .int (nI (10)), .int (nI (11))]) (c_X6_multiply l G L F_804 b ma mi hh P_806 zf cu r 10 11 mb f_812 hma f_809 f_813 hz0 (by omega) (by omega) (by omega) (by omega) (by omega) (by omega) (by omega)) C0 hw vw_X6_61 mb f_812 rfl rfl rfl hl.1 rfl (Nat.le_of_ble_eq_true rfl) dX6_expTo_39 ⟨by decide, by decide⟩ ⟨by decide, by decide⟩) rfl rfl (fun F_814 H locs hw hp_815 => ?_)
        obtain ⟨P_816, eP_816⟩ : ∃ P9, P9 = va_up P_806 11 (m_mulT (P_806 r) (P_806 10) cu) := ⟨_, rfl⟩
        have f_819 : F_814 (ma 4) = pcE G P_816 := by rw [eP_816]; exact hp_815.1
        have r_817 : P_816 11 = m_mulT (pl r) (m_der (m_xT (pl r) cu j)) cu := by rw [eP_816, va_up_self]; rw [r_811, r_807]
        have ro_818 : ∀ q, q ≠ 11 → P_816 q = P_806 q := fun q hq => by rw [eP_816]; exact va_up_ne _ _ hq
        have r_820 : P_806 t = m_xO (pl r) cu j := (ro_808 t (by omega)).trans hr_0_P_797
        have r_821 : P_806 9 = m_xT (pl r) cu j := (ro_808 9 (by omega)).trans hr_1_P_797
        refine lv_aload_n hx hb dX6_expTo_42 rfl (lv_at hl 0 rfl) ?_
        refine lv_bipush (v := nI 9) hx hb dX6_expTo_43 (by decide) ?_
        have f_822 : F_814 b = mO ma mi hh := (hp_815.2 b (ne_oa f_812 f_809)).trans f_812
        have f_823 : F_814 (ma 0) = .inl (G.2 0, 89, .inl zf) := (hp_815.2 (ma 0) (ne_aa (by decide) f_813 f_809)).trans f_813
        refine q_callv hw (q_runV (As := [.int (nI (9))]) (c_X6_clear l G L F_814 b ma mi hh P_816 zf cu 9 mb f_822 hma f_819 f_823 hz0 (by omega) (by omega) (by omega)) C0 hw vw_X6_54 mb f_822 rfl rfl rfl hl.1 rfl (Nat.le_of_ble_eq_true rfl) dX6_expTo_45 ⟨by decide, by decide⟩ ⟨by decide, by decide⟩) rfl rfl (fun F_824 H locs hw hp_825 => ?_)
        obtain ⟨P_826, eP_826⟩ : ∃ P9, P9 = va_up P_816 9 ((fun _ => zc 0)) := ⟨_, rfl⟩
        have f_829 : F_824 (ma 4) = pcE G P_826 := by rw [eP_826]; exact hp_825.1
        have r_827 : P_826 9 = (fun _ => zc 0) := by rw [eP_826, va_up_self]
        have ro_828 : ∀ q, q ≠ 9 → P_826 q = P_816 q := fun q hq => by rw [eP_826]; exact va_up_ne _ _ hq
        have r_830 : P_816 r = pl r := (ro_818 r (by omega)).trans r_811
        have r_831 : P_816 t = m_xO (pl r) cu j := (ro_818 t (by omega)).trans r_820
        have r_832 : P_816 10 = m_der (m_xT (pl r) cu j) := (ro_818 10 (by omega)).trans r_807
        refine lv_aload_n hx hb dX6_expTo_48 rfl (lv_at hl 0 rfl) ?_
        refine lv_bipush (v := nI 11) hx hb dX6_expTo_49 (by decide) ?_
        refine lv_iload_n hx hb dX6_expTo_51 rfl (lv_at hl 3 rfl) ?_
        refine q_calli hw (q_runS (As := [.int (nI (j + 1))]) (c_X6_inverse l G L F_824 (j + 1) (by omega)) C0 hw sw_X6_77 rfl hl.1 rfl (Nat.le_of_ble_eq_true rfl) dX6_expTo_52 ⟨by decide, by decide⟩ ⟨by decide, by decide⟩) rfl rfl (fun r_835 F_833 H locs hw hp_834 => ?_)
        obtain ⟨he_836, o_837⟩ := hp_834
        subst he_836
        refine lv_bipush (v := nI 9) hx hb dX6_expTo_55 (by decide) ?_
        have r_838 : P_826 11 = m_mulT (pl r) (m_der (m_xT (pl r) cu j)) cu := (ro_828 11 (by omega)).trans r_817
        have f_839 : F_824 b = mO ma mi hh := (hp_825.2 b (ne_oa f_822 f_819)).trans f_822
        have f_840 : F_833 b = mO ma mi hh := (o_837 b ).trans f_839
        have f_841 : F_833 (ma 4) = pcE G P_826 := (o_837 (ma 4) ).trans f_829
        have f_842 : F_824 (ma 0) = .inl (G.2 0, 89, .inl zf) := (hp_825.2 (ma 0) (ne_aa (by decide) f_823 f_819)).trans f_823
        have f_843 : F_833 (ma 0) = .inl (G.2 0, 89, .inl zf) := (o_837 (ma 0) ).trans f_842
        refine q_callv hw (q_runV (As := [.int (nI (11)), .int (nI ((m_finv (zc (j + 1))).val)), .int (nI (9))]) (c_X6_addTimes l G L F_833 b ma mi hh P_826 zf cu 11 ((m_finv (zc (j + 1))).val) 9 mb f_840 hma f_841 f_843 hz0 (by omega) (by omega) (by omega) (by omega) (by omega) (by omega)) C0 hw vw_X6_58 mb f_840 rfl rfl rfl hl.1 rfl (Nat.le_of_ble_eq_true rfl) dX6_expTo_57 ⟨by decide, by decide⟩ ⟨by decide, by decide⟩) rfl rfl (fun F_844 H locs hw hp_845 => ?_)
        obtain ⟨P_846, eP_846⟩ : ∃ P9, P9 = va_up P_826 9 (m_am (P_826 9) (P_826 11) (zc ((m_finv (zc (j + 1))).val))) := ⟨_, rfl⟩
        have f_849 : F_844 (ma 4) = pcE G P_846 := by rw [eP_846]; exact hp_845.1
        have r_847 : P_846 9 = m_am (fun _ => zc 0) (m_mulT (pl r) (m_der (m_xT (pl r) cu j)) cu) (zc ((m_finv (zc (j + 1))).val)) := by rw [eP_846, va_up_self]; rw [r_838, r_827]
        have ro_848 : ∀ q, q ≠ 9 → P_846 q = P_826 q := fun q hq => by rw [eP_846]; exact va_up_ne _ _ hq
        have r_850 : P_826 r = pl r := (ro_828 r (by omega)).trans r_830
        have r_851 : P_826 t = m_xO (pl r) cu j := (ro_828 t (by omega)).trans r_831
        have r_852 : P_826 10 = m_der (m_xT (pl r) cu j) := (ro_828 10 (by omega)).trans r_832
        refine lv_aload_n hx hb dX6_expTo_60 rfl (lv_at hl 0 rfl) ?_
        refine lv_bipush (v := nI 9) hx hb dX6_expTo_61 (by decide) ?_
        refine lv_iconst (v := nI 1) hx hb dX6_expTo_63 (by decide) ?_
        refine lv_iload_n hx hb dX6_expTo_64 rfl (lv_at hl 2 rfl) ?_
        have r_853 : P_846 t = m_xO (pl r) cu j := (ro_848 t (by omega)).trans r_851
        have f_854 : F_844 b = mO ma mi hh := (hp_845.2 b (ne_oa f_840 f_841)).trans f_840
        have f_855 : F_844 (ma 0) = .inl (G.2 0, 89, .inl zf) := (hp_845.2 (ma 0) (ne_aa (by decide) f_843 f_841)).trans f_843
        refine q_callv hw (q_runV (As := [.int (nI (9)), .int (nI (1)), .int (nI (t))]) (c_X6_addTimes l G L F_844 b ma mi hh P_846 zf cu 9 1 t mb f_854 hma f_849 f_855 hz0 (by omega) (by omega) (by omega) (by omega) (by omega) (by omega)) C0 hw vw_X6_58 mb f_854 rfl rfl rfl hl.1 rfl (Nat.le_of_ble_eq_true rfl) dX6_expTo_65 ⟨by decide, by decide⟩ ⟨by decide, by decide⟩) rfl rfl (fun F_856 H locs hw hp_857 => ?_)
        obtain ⟨P_858, eP_858⟩ : ∃ P9, P9 = va_up P_846 t (m_am (P_846 t) (P_846 9) (zc 1)) := ⟨_, rfl⟩
        have f_861 : F_856 (ma 4) = pcE G P_858 := by rw [eP_858]; exact hp_857.1
        have r_859 : P_858 t = m_am (m_xO (pl r) cu j) (m_am (fun _ => zc 0) (m_mulT (pl r) (m_der (m_xT (pl r) cu j)) cu) (zc ((m_finv (zc (j + 1))).val))) (zc 1) := by rw [eP_858, va_up_self]; rw [r_847, r_853]
        have ro_860 : ∀ q, q ≠ t → P_858 q = P_846 q := fun q hq => by rw [eP_858]; exact va_up_ne _ _ hq
        have r_862 : P_846 r = pl r := (ro_848 r (by omega)).trans r_850
        have r_863 : P_846 10 = m_der (m_xT (pl r) cu j) := (ro_848 10 (by omega)).trans r_852
        have r_864 : P_846 11 = m_mulT (pl r) (m_der (m_xT (pl r) cu j)) cu := (ro_848 11 (by omega)).trans r_838
        refine lv_iinc (v := nI (j + 1 + 1)) (lv' := [(3, .int (nI (j + 1 + 1))), (0, .ref b), (1, .int (nI (r))), (2, .int (nI (t)))]) hx hb dX6_expTo_68 hl (k := 3) rfl (nI_add _ _) (by decide) rfl (fun ls hl => ?_)
        refine lv_goto (tgt := 15) hx hb dX6_expTo_71 (by decide) ?_
        have r_865 : P_858 9 = m_am (fun _ => zc 0) (m_mulT (pl r) (m_der (m_xT (pl r) cu j)) cu) (zc ((m_finv (zc (j + 1))).val)) := (ro_860 9 (by omega)).trans r_847
        exact ih_15 (j + 1) (P_858) ((by omega)) ((by omega)) ((r_859.trans (xO_s _ _ _))) ((r_865.trans (xT_s _ _ _))) ((fun q j0 j1 j2 j3 => ((ro_860 q j0).trans ((ro_848 q j1).trans ((ro_828 q j1).trans ((ro_818 q j3).trans ((ro_808 q j2).trans (hfr_P_797 q j0 j1 j2 j3)))))))) (by omega) F_856 _ _ hw (f_861) (fun q k0 => ((hp_857.2 q k0).trans ((hp_845.2 q k0).trans ((o_837 q ).trans ((hp_825.2 q k0).trans ((hp_815.2 q k0).trans ((hp_805.2 q k0).trans (fr_801 q k0)))))))) ls (lv_sub hl [1, 2, 3, 0] rfl)
  exact lp15 _ (0) (P_792) ((by omega)) ((by omega)) ((r_793)) ((r_798)) ((fun q j0 j1 j2 j3 => ((ro_794 q j0).trans (ro_786 q j1)))) (Nat.lt_succ_self _) F_790 _ _ hw (f_795) (fun q k0 => ((hp_791.2 q k0).trans (hp_783.2 q k0))) ls (lv_sub hl [1, 2, 3, 0] rfl)
abbrev rm_X6_logTo : Room := { frames := 4, cells := 0, slots := 0, locals := 93 }
set_option maxHeartbeats 4000000 in
set_option maxRecDepth 100000 in
theorem c_X6_logTo (l : Launch) (G : Gl) (L : List Nat) (F : Nat → va_E) (b : Nat) (ma : Nat → Nat) (mi : Nat → Int32) (hh : Int64) (pl : Nat → Nat → ZP) (zf : Nat → Int32) (cu : Nat) (r t : Nat) (mb : b ∈ L) (fb : F b = mO ma mi hh) (hma : ∀ i, i < 7 → ma i ∈ L) (fp : F (ma 4) = pcE G pl) (fz : F (ma 0) = .inl (G.2 0, 89, .inl zf)) (hz0 : zf 0 = nI cu) (hc : cu ≤ 6) (hc2 : 2 ≤ cu) (hr9 : r ≤ 4) (ht9 : t ≤ 4) (hrt : r ≠ t) : CV l yX6_logTo cX6_logTo 4 none rm_X6_logTo G L F [.ref b, .int (nI (r)), .int (nI (t))] (fun F1 => (∃ P9, F1 (ma 4) = pcE G P9 ∧ P9 t = m_logM (pl r) cu ∧ ∀ q, q ≠ t → q ≠ 12 → q ≠ 9 → q ≠ 10 → q ≠ 11 → P9 q = pl q) ∧ ∀ q, q ≠ ma 4 → F1 q = F q) := by
  refine CG_of (by decide) (Nat.le_of_ble_eq_true rfl) rfl ?_
  intro p e s m args below meth c Q C0 hr hlk hnm hQ hw ls hl
  have hx := C0.x
  have hb := C0.b
  refine lv_aload_n hx hb dX6_logTo_0 rfl (lv_at hl 0 rfl) ?_
  refine lv_iload_n hx hb dX6_logTo_1 rfl (lv_at hl 2 rfl) ?_
  refine q_callv hw (q_runV (As := [.int (nI (t))]) (c_X6_clear l G L F b ma mi hh pl zf cu t mb fb hma fp fz hz0 (by omega) (by omega) (by omega)) C0 hw vw_X6_54 mb fb rfl rfl rfl hl.1 rfl (Nat.le_of_ble_eq_true rfl) dX6_logTo_2 ⟨by decide, by decide⟩ ⟨by decide, by decide⟩) rfl rfl (fun F_866 H locs hw hp_867 => ?_)
  obtain ⟨P_868, eP_868⟩ : ∃ P9, P9 = va_up pl t ((fun _ => zc 0)) := ⟨_, rfl⟩
  have f_871 : F_866 (ma 4) = pcE G P_868 := by rw [eP_868]; exact hp_867.1
  have r_869 : P_868 t = (fun _ => zc 0) := by rw [eP_868, va_up_self]
  have ro_870 : ∀ q, q ≠ t → P_868 q = pl q := fun q hq => by rw [eP_868]; exact va_up_ne _ _ hq
  refine lv_iconst (v := nI 2) hx hb dX6_logTo_5 (by decide) ?_
  refine lv_istore_n (lv' := [(3, .int (nI (2))), (0, .ref b), (1, .int (nI (r))), (2, .int (nI (t)))]) hx hb dX6_logTo_6 rfl hl (by decide) rfl (fun ls hl => ?_)
  have lp7 : ∀ (n : Nat) (j : Nat) (P_872 : Nat → Nat → ZP), 0 ≤ j → j ≤ cu - 1 → P_872 t = m_lgn (pl r) cu j → (∀ q, q ≠ t → q ≠ 12 → q ≠ 9 → q ≠ 10 → q ≠ 11 → P_872 q = pl q) → (cu - 1) + 1 - j < n → ∀ (F_873 : Nat → va_E) (H : Heap) (locs : List Loc), wD G L F_873 s H locs → F_873 (ma 4) = pcE G P_872 → (∀ q, q ≠ (ma 4) → F_873 q = F q) → ∀ ls : Array Slot, lv_has ls 4 [(0, .ref b), (1, .int (nI (r))), (2, .int (nI (t))), (3, .int (nI (j + 2)))] → W p l e rm_X6_logTo s m args below meth c H locs 0 0 Q (F0 m 7 ls []) := by
    intro n
    induction n with
    | zero => intro j P_872 hlo hhi hr_0_P_872 hfr_P_872 hm; exact absurd hm (Nat.not_lt_zero _)
    | succ n ih_7 =>
      intro j P_872 hlo hhi hr_0_P_872 hfr_P_872 hm F_873 H locs hw f_874 fr_875 ls hl
      refine lv_iload_n hx hb dX6_logTo_7 rfl (lv_at hl 3 rfl) ?_
      refine lv_aload_n hx hb dX6_logTo_8 rfl (lv_at hl 0 rfl) ?_
      have f_876 : F_873 b = mO ma mi hh := (fr_875 b (ne_oa fb fp)).trans fb
      refine q_get C0 hw mb f_876 fw_X6_7 rfl dX6_logTo_9 ?_
      refine lv_iconst (v := nI 0) hx hb dX6_logTo_12 (by decide) ?_
      have f_877 : F_873 (ma 0) = .inl (G.2 0, 89, .inl zf) := (fr_875 (ma 0) (ne_aa (by decide) fz fp)).trans fz
      refine q_iald C0 hw ((hma 0 (by decide))) f_877 (0) (by omega) (by decide) (v := nI (cu)) hz0 dX6_logTo_13 ?_
      refine n_icmp_gt (tgt := 61) hx hb dX6_logTo_14 (by decide) (by omega) (by omega) (fun c_14 => ?_) (fun c_14 => ?_)
      · skip
        obtain rfl : j = cu - 1 := by omega
        exact r_v C0 hr hlk hw ⟨⟨_, f_874, hr_0_P_872, (fun q j0 j1 j2 j3 j4 => (hfr_P_872 q j0 j1 j2 j3 j4))⟩, (fun q k0 => (fr_875 q k0))⟩ (Nat.le_refl _) (Nat.le_refl _) dX6_logTo_61 hQ
      · skip
        refine lv_aload_n hx hb dX6_logTo_17 rfl (lv_at hl 0 rfl) ?_
        refine lv_iload_n hx hb dX6_logTo_18 rfl (lv_at hl 2 rfl) ?_
        refine lv_bipush (v := nI 12) hx hb dX6_logTo_19 (by decide) ?_
        refine q_callv hw (q_runV (As := [.int (nI (t)), .int (nI (12))]) (c_X6_expTo l G L F_873 b ma mi hh P_872 zf cu t 12 mb f_876 hma f_874 f_877 hz0 (by omega) (by omega) (by omega) (by omega) (by omega)) C0 hw vw_X6_81 mb f_876 rfl rfl rfl hl.1 rfl (Nat.le_of_ble_eq_true rfl) dX6_logTo_21 ⟨by decide, by decide⟩ ⟨by decide, by decide⟩) rfl rfl (fun F_878 H locs hw hp_879 => ?_)
        obtain ⟨⟨P_880, f_883, r_881, ro_882⟩, o_884⟩ := hp_879
        rw [hr_0_P_872] at r_881
        have r_885 : P_872 r = pl r := (hfr_P_872 r (by omega) (by omega) (by omega) (by omega) (by omega)).trans rfl
        refine lv_aload_n hx hb dX6_logTo_24 rfl (lv_at hl 0 rfl) ?_
        refine lv_iload_n hx hb dX6_logTo_25 rfl (lv_at hl 2 rfl) ?_
        refine lv_iload_n hx hb dX6_logTo_26 rfl (lv_at hl 3 rfl) ?_
        refine lv_aload_n hx hb dX6_logTo_27 rfl (lv_at hl 0 rfl) ?_
        refine lv_iload_n hx hb dX6_logTo_28 rfl (lv_at hl 2 rfl) ?_
        refine lv_iload_n hx hb dX6_logTo_29 rfl (lv_at hl 3 rfl) ?_
        have r_886 : P_880 t = m_lgn (pl r) cu j := (ro_882 t (by omega) (by omega) (by omega) (by omega)).trans hr_0_P_872
        have f_887 : F_878 b = mO ma mi hh := (o_884 b (ne_oa f_876 f_874)).trans f_876
        have f_888 : F_878 (ma 0) = .inl (G.2 0, 89, .inl zf) := (o_884 (ma 0) (ne_aa (by decide) f_877 f_874)).trans f_877
        refine q_calli hw (q_runV (As := [.int (nI (t)), .int (nI (j + 2))]) (c_X6_at l G L F_878 b ma mi hh P_880 zf cu t (j + 2) mb f_887 hma f_883 f_888 hz0 (by omega) (by omega) (by omega) (by omega)) C0 hw vw_X6_50 mb f_887 rfl rfl rfl hl.1 rfl (Nat.le_of_ble_eq_true rfl) dX6_logTo_30 ⟨by decide, by decide⟩ ⟨by decide, by decide⟩) rfl rfl (fun r_891 F_889 H locs hw hp_890 => ?_)
        obtain ⟨he_892, o_893⟩ := hp_890
        rw [r_886] at he_892
        have he_892 : r_891 = nI (((m_lgn (pl r) cu j) (j + 2)).val) := he_892
        subst he_892
        have z_894 := ((m_lgn (pl r) cu j) (j + 2)).isLt
        refine lv_aload_n hx hb dX6_logTo_33 rfl (lv_at hl 0 rfl) ?_
        refine lv_iload_n hx hb dX6_logTo_34 rfl (lv_at hl 1 rfl) ?_
        refine lv_iload_n hx hb dX6_logTo_35 rfl (lv_at hl 3 rfl) ?_
        have r_895 : P_880 r = pl r := (ro_882 r (by omega) (by omega) (by omega) (by omega)).trans r_885
        have f_896 : F_889 b = mO ma mi hh := (o_893 b ).trans f_887
        have f_897 : F_889 (ma 4) = pcE G P_880 := (o_893 (ma 4) ).trans f_883
        have f_898 : F_889 (ma 0) = .inl (G.2 0, 89, .inl zf) := (o_893 (ma 0) ).trans f_888
        refine q_calli hw (q_runV (As := [.int (nI (r)), .int (nI (j + 2))]) (c_X6_at l G L F_889 b ma mi hh P_880 zf cu r (j + 2) mb f_896 hma f_897 f_898 hz0 (by omega) (by omega) (by omega) (by omega)) C0 hw vw_X6_50 mb f_896 rfl rfl rfl hl.1 rfl (Nat.le_of_ble_eq_true rfl) dX6_logTo_36 ⟨by decide, by decide⟩ ⟨by decide, by decide⟩) rfl rfl (fun r_901 F_899 H locs hw hp_900 => ?_)
        obtain ⟨he_902, o_903⟩ := hp_900
        rw [r_895] at he_902
        have he_902 : r_901 = nI (((pl r) (j + 2)).val) := he_902
        subst he_902
        have z_904 := ((pl r) (j + 2)).isLt
        refine n_iadd hx hb dX6_logTo_39 ?_
        refine lv_sipush (v := nI 10007) hx hb dX6_logTo_40 (by decide) ?_
        refine n_iadd hx hb dX6_logTo_43 ?_
        refine lv_aload_n hx hb dX6_logTo_44 rfl (lv_at hl 0 rfl) ?_
        refine lv_bipush (v := nI 12) hx hb dX6_logTo_45 (by decide) ?_
        refine lv_iload_n hx hb dX6_logTo_47 rfl (lv_at hl 3 rfl) ?_
        have f_905 : F_899 b = mO ma mi hh := (o_903 b ).trans f_896
        have f_906 : F_899 (ma 4) = pcE G P_880 := (o_903 (ma 4) ).trans f_897
        have f_907 : F_899 (ma 0) = .inl (G.2 0, 89, .inl zf) := (o_903 (ma 0) ).trans f_898
        refine q_calli hw (q_runV (As := [.int (nI (12)), .int (nI (j + 2))]) (c_X6_at l G L F_899 b ma mi hh P_880 zf cu 12 (j + 2) mb f_905 hma f_906 f_907 hz0 (by omega) (by omega) (by omega) (by omega)) C0 hw vw_X6_50 mb f_905 rfl rfl rfl hl.1 rfl (Nat.le_of_ble_eq_true rfl) dX6_logTo_48 ⟨by decide, by decide⟩ ⟨by decide, by decide⟩) rfl rfl (fun r_910 F_908 H locs hw hp_909 => ?_)
        obtain ⟨he_911, o_912⟩ := hp_909
        rw [r_881] at he_911
        have he_911 : r_910 = nI (((m_expM (m_lgn (pl r) cu j) cu) (j + 2)).val) := he_911
        subst he_911
        have z_913 := ((m_expM (m_lgn (pl r) cu j) cu) (j + 2)).isLt
        refine n_isub hx hb (by omega) dX6_logTo_51 ?_
        have f_914 : F_908 b = mO ma mi hh := (o_912 b ).trans f_905
        have f_915 : F_908 (ma 4) = pcE G P_880 := (o_912 (ma 4) ).trans f_906
        have f_916 : F_908 (ma 0) = .inl (G.2 0, 89, .inl zf) := (o_912 (ma 0) ).trans f_907
        refine q_callv hw (q_runV (As := [.int (nI (t)), .int (nI (j + 2)), .int (nI (((m_lgn (pl r) cu j) (j + 2)).val + (((pl r) (j + 2)).val) + 10007 - (((m_expM (m_lgn (pl r) cu j) cu) (j + 2)).val)))]) (c_X6_setAt l G L F_908 b ma mi hh P_880 zf cu t (j + 2) (((m_lgn (pl r) cu j) (j + 2)).val + (((pl r) (j + 2)).val) + 10007 - (((m_expM (m_lgn (pl r) cu j) cu) (j + 2)).val)) mb f_914 hma f_915 f_916 hz0 (by omega) (by omega) (by omega) (by omega) (by omega)) C0 hw vw_X6_46 mb f_914 rfl rfl rfl hl.1 rfl (Nat.le_of_ble_eq_true rfl) dX6_logTo_52 ⟨by decide, by decide⟩ ⟨by decide, by decide⟩) rfl rfl (fun F_917 H locs hw hp_918 => ?_)
        obtain ⟨P_919, eP_919⟩ : ∃ P9, P9 = va_up P_880 t (va_up (P_880 t) (j + 2) (zc (((m_lgn (pl r) cu j) (j + 2)).val + (((pl r) (j + 2)).val) + 10007 - (((m_expM (m_lgn (pl r) cu j) cu) (j + 2)).val)))) := ⟨_, rfl⟩
        have f_922 : F_917 (ma 4) = pcE G P_919 := by rw [eP_919]; exact hp_918.1
        have r_920 : P_919 t = va_up (m_lgn (pl r) cu j) (j + 2) (zc (((m_lgn (pl r) cu j) (j + 2)).val + (((pl r) (j + 2)).val) + 10007 - (((m_expM (m_lgn (pl r) cu j) cu) (j + 2)).val))) := by rw [eP_919, va_up_self]; rw [r_886]
        have ro_921 : ∀ q, q ≠ t → P_919 q = P_880 q := fun q hq => by rw [eP_919]; exact va_up_ne _ _ hq
        refine lv_iinc (v := nI (j + 2 + 1)) (lv' := [(3, .int (nI (j + 2 + 1))), (0, .ref b), (1, .int (nI (r))), (2, .int (nI (t)))]) hx hb dX6_logTo_55 hl (k := 3) rfl (nI_add _ _) (by decide) rfl (fun ls hl => ?_)
        refine lv_goto (tgt := 7) hx hb dX6_logTo_58 (by decide) ?_
        exact ih_7 (j + 1) (P_919) ((by omega)) ((by omega)) ((r_920.trans (by rw [zc_sub, zc_add, zc_z, zc_z]; rfl))) ((fun q j0 j1 j2 j3 j4 => ((ro_921 q j0).trans ((ro_882 q j1 j2 j3 j4).trans (hfr_P_872 q j0 j1 j2 j3 j4))))) (by omega) F_917 _ _ hw (f_922) (fun q k0 => ((hp_918.2 q k0).trans ((o_912 q ).trans ((o_903 q ).trans ((o_893 q ).trans ((o_884 q k0).trans (fr_875 q k0))))))) ls (lv_sub hl [1, 2, 3, 0] rfl)
  exact lp7 _ (0) (P_868) ((by omega)) ((by omega)) ((r_869.trans zrow)) ((fun q j0 j1 j2 j3 j4 => (ro_870 q j0))) (Nat.lt_succ_self _) F_866 _ _ hw (f_871) (fun q k0 => (hp_867.2 q k0)) ls (lv_sub hl [1, 2, 3, 0] rfl)
