theorem kw_X5_337 : Cond.constantDouble RX5 337 4611686018427387904 ∈ TB := tb_t 425 (by decide +kernel) rfl
theorem kw_X5_339 : Cond.constantDouble RX5 339 4841369599423283200 ∈ TB := tb_t 426 (by decide +kernel) rfl
def dens (n c : Nat) : UInt64 := FP.ddiv (FP.i2d (nI n)) (FP.i2d (nI (6 * (c - 1))))
theorem dens_ok {n c : Nat} (h2 : 2 ≤ c) (h6 : c ≤ 6) (hn : n ≤ 6 * (c - 1)) : vf_n64 (dens n c) := by
  have h : ∀ c : Fin 5, ∀ n : Fin 31, (dens n.val (c.val + 2)) &&& 0x7fffffffffffffff ≤ 0x7ff0000000000000 := by decide +kernel
  have := h ⟨c - 2, by omega⟩ ⟨n, by omega⟩
  rw [show (⟨c - 2, by omega⟩ : Fin 5).val + 2 = c from by show c - 2 + 2 = c; omega] at this
  exact this
def hC (h : Int64) (u : Nat → ZP) : Int64 := lN 31 * (lN 31 * (lN 31 * (lN 31 * (lN 31 * h + lN (u 2).val) + lN (u 3).val) + lN (u 4).val) + lN (u 5).val) + lN (u 6).val
abbrev rm_X5_density : Room := { frames := 1, cells := 0, slots := 0, locals := 23 }
set_option maxHeartbeats 4000000 in
set_option maxRecDepth 100000 in
theorem c_X5_density (l : Launch) (G : Gl) (L : List Nat) (F : Nat → va_E) (ad : Nat → Nat) (hL : ∀ i, i < 166 → ad i ∈ L) (hin : ∀ i j, i < 166 → j < 166 → i ≠ j → ad i ≠ ad j) (A : AB) (hn9 : cfR A.1.2.2.2.2.2 6 ≤ 6 * (A.1.1 - 1)) (hX : XW G F ad A) (hA : okA A) : CD l yX5_density cX5_density 2 (some .double) rm_X5_density G L F [.ref (ad 0)] (fun r F1 => r = dens (cfR A.1.2.2.2.2.2 6) A.1.1 ∧ ∀ q, F1 q = F q) := by
  obtain ⟨fx, hn, hh, hsn, htx, hrk, ⟨u9, h134⟩, ⟨v9, h150⟩⟩ := hX
  obtain ⟨⟨hc2, hc, hpu, hok⟩, ⟨hh6, hho⟩, hso, hl60, hco⟩ := id hA
  refine CG_of (by decide) (Nat.le_of_ble_eq_true rfl) rfl ?_
  intro p e s m args below meth c Q C0 hr hlk hnm hQ hw ls hl
  have hx := C0.x
  have hb := C0.b
  refine lv_bipush (v := nI 6) hx hb dX5_density_0 (by decide) ?_
  refine lv_aload_n hx hb dX5_density_2 rfl (lv_at hl 0 rfl) ?_
  refine q_get C0 hw ((hL 0 (by omega))) fx fw_X5_12 rfl dX5_density_3 ?_
  refine q_get C0 hw ((hL 22 (by omega))) hn.1 fw_X5_66 rfl dX5_density_6 ?_
  refine q_get C0 hw ((hL 23 (by omega))) hn.2.1 fw_X5_70 rfl dX5_density_9 ?_
  refine lv_iconst (v := nI 2) hx hb dX5_density_12 (by decide) ?_
  refine n_isub hx hb (by omega) dX5_density_13 ?_
  refine lv_iconst (v := nI 1) hx hb dX5_density_14 (by decide) ?_
  refine n_iadd hx hb dX5_density_15 ?_
  refine n_imul hx hb dX5_density_16 ?_
  refine lv_istore_n (lv' := [(1, .int (nI (6 * (A.1.1 - 2 + 1)))), (0, .ref (ad 0))]) hx hb dX5_density_17 rfl hl (by decide) rfl (fun ls hl => ?_)
  refine lv_aload_n hx hb dX5_density_18 rfl (lv_at hl 1 rfl) ?_
  refine q_get C0 hw ((hL 0 (by omega))) fx fw_X5_12 rfl dX5_density_19 ?_
  refine q_get C0 hw ((hL 22 (by omega))) hn.1 fw_X5_66 rfl dX5_density_22 ?_
  refine q_calli hw (q_runV (As := []) (c_X2_fieldCoefficientsThatAreNotZero l G L F ad hL hin 22 A.1.1 A.1.2.2.2.2.2 hn.2 (by decide)) C0 hw vw_X5_248 ((hL 23 (by omega))) hn.2.1 rfl rfl rfl hl.1 rfl (Nat.le_of_ble_eq_true rfl) dX5_density_25 ⟨by decide, by decide⟩ ⟨by decide, by decide⟩) rfl rfl (fun r_3776 F_3774 H locs hw hp_3775 => ?_)
  obtain ⟨he_3777, o_3778⟩ := hp_3775
  subst he_3777
  refine lv_i2d hx hb dX5_density_28 ?_
  refine lv_iload_n hx hb dX5_density_29 rfl (lv_at hl 0 rfl) ?_
  refine lv_i2d hx hb dX5_density_30 ?_
  refine n_top (y := .double (FP.i2d (nI (6 * (A.1.1 - 1))))) (by rw [show 6 * (A.1.1 - 2 + 1) = 6 * (A.1.1 - 1) by omega]) ?_
  refine lv_ddiv hx hb dX5_density_31 (dens_ok hc2 hc hn9) ?_
  exact r_d C0 hr hlk hw ⟨rfl, (fun q  => (o_3778 q ))⟩ (Nat.le_refl _) (Nat.le_refl _) dX5_density_32 hQ
abbrev rm_X5_bitsOf : Room := { frames := 0, cells := 0, slots := 0, locals := 0 }
set_option maxHeartbeats 4000000 in
set_option maxRecDepth 100000 in
theorem c_X5_bitsOf_0 (l : Launch) (G : Gl) (L : List Nat) (F : Nat → va_E) : CL l yX5_bitsOf cX5_bitsOf 9 (some .long) rm_X5_bitsOf G L F [.double (0)] (fun r F1 => r = (0 : UInt64).toInt64 ∧ ∀ q, F1 q = F q) := by
  refine CG_of (by decide) (Nat.le_of_ble_eq_true rfl) rfl ?_
  intro p e s m args below meth c Q C0 hr hlk hnm hQ hw ls hl
  have hx := C0.x
  have hb := C0.b
  refine lv_dload_n hx hb dX5_bitsOf_0 rfl (lv_at hl 0 rfl) ?_
  refine lv_dconst0 hx hb dX5_bitsOf_1 ?_
  refine n_top (y := .double 0) (congrArg Value.double (by decide +kernel : FP.dconst0 = (0 : UInt64))) ?_
  refine lv_dcmp hx hb dX5_bitsOf_2 ?_
  refine n_top (y := .int (nI 0)) (congrArg Value.int (by decide +kernel : Op.cmpValue (FP.dcmp 0 0) .g = nI 0)) ?_
  refine n_if_gt (tgt := 8) hx hb dX5_bitsOf_3 (by decide) (by decide) (fun c_3 => ?_) (fun c_3 => ?_)
  · skip
    exact absurd c_3 (by decide)
  · skip
    refine lv_lconst (v := lN 0) hx hb dX5_bitsOf_6 (by decide) ?_
    exact r_l C0 hr hlk hw ⟨(by decide +kernel), (fun q  => rfl)⟩ (Nat.le_refl _) (Nat.le_refl _) dX5_bitsOf_7 hQ
set_option maxHeartbeats 4000000 in
set_option maxRecDepth 100000 in
theorem c_X5_bitsOf_4584964660638322961 (l : Launch) (G : Gl) (L : List Nat) (F : Nat → va_E) : CL l yX5_bitsOf cX5_bitsOf 9 (some .long) rm_X5_bitsOf G L F [.double (4584964660638322961)] (fun r F1 => r = (4584964660638322961 : UInt64).toInt64 ∧ ∀ q, F1 q = F q) := by
  refine CG_of (by decide) (Nat.le_of_ble_eq_true rfl) rfl ?_
  intro p e s m args below meth c Q C0 hr hlk hnm hQ hw ls hl
  have hx := C0.x
  have hb := C0.b
  refine lv_dload_n hx hb dX5_bitsOf_0 rfl (lv_at hl 0 rfl) ?_
  refine lv_dconst0 hx hb dX5_bitsOf_1 ?_
  refine n_top (y := .double 0) (congrArg Value.double (by decide +kernel : FP.dconst0 = (0 : UInt64))) ?_
  refine lv_dcmp hx hb dX5_bitsOf_2 ?_
  refine n_top (y := .int (nI 1)) (congrArg Value.int (by decide +kernel : Op.cmpValue (FP.dcmp 4584964660638322961 0) .g = nI 1)) ?_
  refine n_if_gt (tgt := 8) hx hb dX5_bitsOf_3 (by decide) (by decide) (fun c_3 => ?_) (fun c_3 => ?_)
  · skip
    refine lv_dload_n hx hb dX5_bitsOf_8 rfl (lv_at hl 0 rfl) ?_
    refine lv_dstore_n (lv' := [(2, .double (4584964660638322961)), (0, .double (4584964660638322961))]) hx hb dX5_bitsOf_9 rfl hl (by decide) rfl (fun ls hl => ?_)
    refine lv_iconst (v := nI 0) hx hb dX5_bitsOf_10 (by decide) ?_
    refine lv_istore (lv' := [(4, .int (nI (0))), (2, .double (4584964660638322961)), (0, .double (4584964660638322961))]) hx hb dX5_bitsOf_11 hl (by decide) rfl (fun ls hl => ?_)
    refine lv_dload_n hx hb dX5_bitsOf_13 rfl (lv_at hl 1 rfl) ?_
    refine lv_dconst1 hx hb dX5_bitsOf_14 ?_
    refine n_top (y := .double 4607182418800017408) (congrArg Value.double (by decide +kernel : FP.dconst1 = (4607182418800017408 : UInt64))) ?_
    refine lv_dcmp hx hb dX5_bitsOf_15 ?_
    refine n_top (y := .int ((-1))) (congrArg Value.int (by decide +kernel : Op.cmpValue (FP.dcmp 4584964660638322961 4607182418800017408) .g = (-1))) ?_
    refine lv_if_ge (tgt := 39) hx hb dX5_bitsOf_16 (by decide) (fun c_16 => ?_) (fun c_16 => ?_)
    · skip
      exact absurd c_16 (by decide)
    · skip
      refine lv_iload hx hb dX5_bitsOf_19 (lv_at hl 0 rfl) ?_
      refine lv_sipush (v := nI 1022) hx hb dX5_bitsOf_21 (by decide) ?_
      refine n_icmp_ge (tgt := 39) hx hb dX5_bitsOf_24 (by decide) (by decide) (by decide) (fun c_24 => ?_) (fun c_24 => ?_)
      · skip
        exact absurd c_24 (by omega)
      · skip
        refine lv_dload_n hx hb dX5_bitsOf_27 rfl (lv_at hl 1 rfl) ?_
        refine lv_ldc2d (v := 4611686018427387904) hx hb C0.ow (C0.ts _ kw_X5_337) dX5_bitsOf_28 ?_
        refine lv_dmul hx hb dX5_bitsOf_31 (by unfold vf_n64; decide +kernel) ?_
        refine n_top (y := .double 4589468260265693457) (congrArg Value.double (by decide +kernel : FP.dmul 4584964660638322961 4611686018427387904 = (4589468260265693457 : UInt64))) ?_
        refine lv_dstore_n (lv' := [(2, .double (4589468260265693457)), (4, .int (nI (0))), (0, .double (4584964660638322961))]) hx hb dX5_bitsOf_32 rfl hl (by decide) rfl (fun ls hl => ?_)
        refine lv_iinc (v := nI 1) (lv' := [(4, .int (nI (1))), (2, .double (4589468260265693457)), (0, .double (4584964660638322961))]) hx hb dX5_bitsOf_33 hl (k := 1) rfl (by decide) (by decide) rfl (fun ls hl => ?_)
        refine lv_goto (tgt := 13) hx hb dX5_bitsOf_36 (by decide) ?_
        refine lv_dload_n hx hb dX5_bitsOf_13 rfl (lv_at hl 1 rfl) ?_
        refine lv_dconst1 hx hb dX5_bitsOf_14 ?_
        refine n_top (y := .double 4607182418800017408) (congrArg Value.double (by decide +kernel : FP.dconst1 = (4607182418800017408 : UInt64))) ?_
        refine lv_dcmp hx hb dX5_bitsOf_15 ?_
        refine n_top (y := .int ((-1))) (congrArg Value.int (by decide +kernel : Op.cmpValue (FP.dcmp 4589468260265693457 4607182418800017408) .g = (-1))) ?_
        refine lv_if_ge (tgt := 39) hx hb dX5_bitsOf_16 (by decide) (fun c_16 => ?_) (fun c_16 => ?_)
        · skip
          exact absurd c_16 (by decide)
        · skip
          refine lv_iload hx hb dX5_bitsOf_19 (lv_at hl 0 rfl) ?_
          refine lv_sipush (v := nI 1022) hx hb dX5_bitsOf_21 (by decide) ?_
          refine n_icmp_ge (tgt := 39) hx hb dX5_bitsOf_24 (by decide) (by decide) (by decide) (fun c_24 => ?_) (fun c_24 => ?_)
          · skip
            exact absurd c_24 (by omega)
          · skip
            refine lv_dload_n hx hb dX5_bitsOf_27 rfl (lv_at hl 1 rfl) ?_
            refine lv_ldc2d (v := 4611686018427387904) hx hb C0.ow (C0.ts _ kw_X5_337) dX5_bitsOf_28 ?_
            refine lv_dmul hx hb dX5_bitsOf_31 (by unfold vf_n64; decide +kernel) ?_
            refine n_top (y := .double 4593971859893063953) (congrArg Value.double (by decide +kernel : FP.dmul 4589468260265693457 4611686018427387904 = (4593971859893063953 : UInt64))) ?_
            refine lv_dstore_n (lv' := [(2, .double (4593971859893063953)), (4, .int (nI (1))), (0, .double (4584964660638322961))]) hx hb dX5_bitsOf_32 rfl hl (by decide) rfl (fun ls hl => ?_)
            refine lv_iinc (v := nI 2) (lv' := [(4, .int (nI (2))), (2, .double (4593971859893063953)), (0, .double (4584964660638322961))]) hx hb dX5_bitsOf_33 hl (k := 1) rfl (by decide) (by decide) rfl (fun ls hl => ?_)
            refine lv_goto (tgt := 13) hx hb dX5_bitsOf_36 (by decide) ?_
            refine lv_dload_n hx hb dX5_bitsOf_13 rfl (lv_at hl 1 rfl) ?_
            refine lv_dconst1 hx hb dX5_bitsOf_14 ?_
            refine n_top (y := .double 4607182418800017408) (congrArg Value.double (by decide +kernel : FP.dconst1 = (4607182418800017408 : UInt64))) ?_
            refine lv_dcmp hx hb dX5_bitsOf_15 ?_
            refine n_top (y := .int ((-1))) (congrArg Value.int (by decide +kernel : Op.cmpValue (FP.dcmp 4593971859893063953 4607182418800017408) .g = (-1))) ?_
            refine lv_if_ge (tgt := 39) hx hb dX5_bitsOf_16 (by decide) (fun c_16 => ?_) (fun c_16 => ?_)
            · skip
              exact absurd c_16 (by decide)
            · skip
              refine lv_iload hx hb dX5_bitsOf_19 (lv_at hl 0 rfl) ?_
              refine lv_sipush (v := nI 1022) hx hb dX5_bitsOf_21 (by decide) ?_
              refine n_icmp_ge (tgt := 39) hx hb dX5_bitsOf_24 (by decide) (by decide) (by decide) (fun c_24 => ?_) (fun c_24 => ?_)
              · skip
                exact absurd c_24 (by omega)
              · skip
                refine lv_dload_n hx hb dX5_bitsOf_27 rfl (lv_at hl 1 rfl) ?_
                refine lv_ldc2d (v := 4611686018427387904) hx hb C0.ow (C0.ts _ kw_X5_337) dX5_bitsOf_28 ?_
                refine lv_dmul hx hb dX5_bitsOf_31 (by unfold vf_n64; decide +kernel) ?_
                refine n_top (y := .double 4598475459520434449) (congrArg Value.double (by decide +kernel : FP.dmul 4593971859893063953 4611686018427387904 = (4598475459520434449 : UInt64))) ?_
                refine lv_dstore_n (lv' := [(2, .double (4598475459520434449)), (4, .int (nI (2))), (0, .double (4584964660638322961))]) hx hb dX5_bitsOf_32 rfl hl (by decide) rfl (fun ls hl => ?_)
                refine lv_iinc (v := nI 3) (lv' := [(4, .int (nI (3))), (2, .double (4598475459520434449)), (0, .double (4584964660638322961))]) hx hb dX5_bitsOf_33 hl (k := 1) rfl (by decide) (by decide) rfl (fun ls hl => ?_)
                refine lv_goto (tgt := 13) hx hb dX5_bitsOf_36 (by decide) ?_
                refine lv_dload_n hx hb dX5_bitsOf_13 rfl (lv_at hl 1 rfl) ?_
                refine lv_dconst1 hx hb dX5_bitsOf_14 ?_
                refine n_top (y := .double 4607182418800017408) (congrArg Value.double (by decide +kernel : FP.dconst1 = (4607182418800017408 : UInt64))) ?_
                refine lv_dcmp hx hb dX5_bitsOf_15 ?_
                refine n_top (y := .int ((-1))) (congrArg Value.int (by decide +kernel : Op.cmpValue (FP.dcmp 4598475459520434449 4607182418800017408) .g = (-1))) ?_
                refine lv_if_ge (tgt := 39) hx hb dX5_bitsOf_16 (by decide) (fun c_16 => ?_) (fun c_16 => ?_)
                · skip
                  exact absurd c_16 (by decide)
                · skip
                  refine lv_iload hx hb dX5_bitsOf_19 (lv_at hl 0 rfl) ?_
                  refine lv_sipush (v := nI 1022) hx hb dX5_bitsOf_21 (by decide) ?_
                  refine n_icmp_ge (tgt := 39) hx hb dX5_bitsOf_24 (by decide) (by decide) (by decide) (fun c_24 => ?_) (fun c_24 => ?_)
                  · skip
                    exact absurd c_24 (by omega)
                  · skip
                    refine lv_dload_n hx hb dX5_bitsOf_27 rfl (lv_at hl 1 rfl) ?_
                    refine lv_ldc2d (v := 4611686018427387904) hx hb C0.ow (C0.ts _ kw_X5_337) dX5_bitsOf_28 ?_
                    refine lv_dmul hx hb dX5_bitsOf_31 (by unfold vf_n64; decide +kernel) ?_
                    refine n_top (y := .double 4602979059147804945) (congrArg Value.double (by decide +kernel : FP.dmul 4598475459520434449 4611686018427387904 = (4602979059147804945 : UInt64))) ?_
                    refine lv_dstore_n (lv' := [(2, .double (4602979059147804945)), (4, .int (nI (3))), (0, .double (4584964660638322961))]) hx hb dX5_bitsOf_32 rfl hl (by decide) rfl (fun ls hl => ?_)
                    refine lv_iinc (v := nI 4) (lv' := [(4, .int (nI (4))), (2, .double (4602979059147804945)), (0, .double (4584964660638322961))]) hx hb dX5_bitsOf_33 hl (k := 1) rfl (by decide) (by decide) rfl (fun ls hl => ?_)
                    refine lv_goto (tgt := 13) hx hb dX5_bitsOf_36 (by decide) ?_
                    refine lv_dload_n hx hb dX5_bitsOf_13 rfl (lv_at hl 1 rfl) ?_
                    refine lv_dconst1 hx hb dX5_bitsOf_14 ?_
                    refine n_top (y := .double 4607182418800017408) (congrArg Value.double (by decide +kernel : FP.dconst1 = (4607182418800017408 : UInt64))) ?_
                    refine lv_dcmp hx hb dX5_bitsOf_15 ?_
                    refine n_top (y := .int ((-1))) (congrArg Value.int (by decide +kernel : Op.cmpValue (FP.dcmp 4602979059147804945 4607182418800017408) .g = (-1))) ?_
                    refine lv_if_ge (tgt := 39) hx hb dX5_bitsOf_16 (by decide) (fun c_16 => ?_) (fun c_16 => ?_)
                    · skip
                      exact absurd c_16 (by decide)
                    · skip
                      refine lv_iload hx hb dX5_bitsOf_19 (lv_at hl 0 rfl) ?_
                      refine lv_sipush (v := nI 1022) hx hb dX5_bitsOf_21 (by decide) ?_
                      refine n_icmp_ge (tgt := 39) hx hb dX5_bitsOf_24 (by decide) (by decide) (by decide) (fun c_24 => ?_) (fun c_24 => ?_)
                      · skip
                        exact absurd c_24 (by omega)
                      · skip
                        refine lv_dload_n hx hb dX5_bitsOf_27 rfl (lv_at hl 1 rfl) ?_
                        refine lv_ldc2d (v := 4611686018427387904) hx hb C0.ow (C0.ts _ kw_X5_337) dX5_bitsOf_28 ?_
                        refine lv_dmul hx hb dX5_bitsOf_31 (by unfold vf_n64; decide +kernel) ?_
                        refine n_top (y := .double 4607482658775175441) (congrArg Value.double (by decide +kernel : FP.dmul 4602979059147804945 4611686018427387904 = (4607482658775175441 : UInt64))) ?_
                        refine lv_dstore_n (lv' := [(2, .double (4607482658775175441)), (4, .int (nI (4))), (0, .double (4584964660638322961))]) hx hb dX5_bitsOf_32 rfl hl (by decide) rfl (fun ls hl => ?_)
                        refine lv_iinc (v := nI 5) (lv' := [(4, .int (nI (5))), (2, .double (4607482658775175441)), (0, .double (4584964660638322961))]) hx hb dX5_bitsOf_33 hl (k := 1) rfl (by decide) (by decide) rfl (fun ls hl => ?_)
                        refine lv_goto (tgt := 13) hx hb dX5_bitsOf_36 (by decide) ?_
                        refine lv_dload_n hx hb dX5_bitsOf_13 rfl (lv_at hl 1 rfl) ?_
                        refine lv_dconst1 hx hb dX5_bitsOf_14 ?_
                        refine n_top (y := .double 4607182418800017408) (congrArg Value.double (by decide +kernel : FP.dconst1 = (4607182418800017408 : UInt64))) ?_
                        refine lv_dcmp hx hb dX5_bitsOf_15 ?_
                        refine n_top (y := .int (nI 1)) (congrArg Value.int (by decide +kernel : Op.cmpValue (FP.dcmp 4607482658775175441 4607182418800017408) .g = nI 1)) ?_
                        refine n_if_ge (tgt := 39) hx hb dX5_bitsOf_16 (by decide) (by decide) ?_
                        refine lv_sipush (v := nI 1023) hx hb dX5_bitsOf_39 (by decide) ?_
                        refine lv_iload hx hb dX5_bitsOf_42 (lv_at hl 0 rfl) ?_
                        refine n_isub hx hb (by omega) dX5_bitsOf_44 ?_
                        refine n_i2l hx hb (by omega) dX5_bitsOf_45 ?_
                        refine lv_lstore (lv' := [(5, .long (lN (1023 - 5))), (4, .int (nI (5))), (2, .double (4607482658775175441)), (0, .double (4584964660638322961))]) hx hb dX5_bitsOf_46 hl (by decide) rfl (fun ls hl => ?_)
                        refine lv_dload_n hx hb dX5_bitsOf_48 rfl (lv_at hl 2 rfl) ?_
                        refine lv_dconst1 hx hb dX5_bitsOf_49 ?_
                        refine n_top (y := .double 4607182418800017408) (congrArg Value.double (by decide +kernel : FP.dconst1 = (4607182418800017408 : UInt64))) ?_
                        refine lv_dsub hx hb dX5_bitsOf_50 (by unfold vf_n64; decide +kernel) ?_
                        refine n_top (y := .double 4589468260265693456) (congrArg Value.double (by decide +kernel : FP.dsub 4607482658775175441 4607182418800017408 = (4589468260265693456 : UInt64))) ?_
                        refine lv_ldc2d (v := 4841369599423283200) hx hb C0.ow (C0.ts _ kw_X5_339) dX5_bitsOf_51 ?_
                        refine lv_dmul hx hb dX5_bitsOf_54 (by unfold vf_n64; decide +kernel) ?_
                        refine n_top (y := .double 4823655440888959248) (congrArg Value.double (by decide +kernel : FP.dmul 4589468260265693456 4841369599423283200 = (4823655440888959248 : UInt64))) ?_
                        refine lv_d2l hx hb dX5_bitsOf_55 ?_
                        refine n_top (y := .long (lN 300239975158033)) (congrArg Value.long (by decide +kernel : FP.d2l 4823655440888959248 = lN 300239975158033)) ?_
                        refine lv_lstore (lv' := [(7, .long (lN (300239975158033))), (5, .long (lN (1023 - 5))), (4, .int (nI (5))), (2, .double (4607482658775175441)), (0, .double (4584964660638322961))]) hx hb dX5_bitsOf_56 hl (by decide) rfl (fun ls hl => ?_)
                        refine lv_lload hx hb dX5_bitsOf_58 (lv_at hl 1 rfl) ?_
                        refine lv_bipush (v := nI 52) hx hb dX5_bitsOf_60 (by decide) ?_
                        refine lv_lshl (v := lN 4584664420663164928) hx hb dX5_bitsOf_62 (by decide +kernel) ?_
                        refine lv_lload hx hb dX5_bitsOf_63 (lv_at hl 0 rfl) ?_
                        refine n_ladd hx hb dX5_bitsOf_65 ?_
                        exact r_l C0 hr hlk hw ⟨(by decide +kernel), (fun q  => rfl)⟩ (Nat.le_refl _) (Nat.le_refl _) dX5_bitsOf_66 hQ
  · skip
    exact absurd c_3 (by decide)
set_option maxHeartbeats 4000000 in
set_option maxRecDepth 100000 in
theorem c_X5_bitsOf_4586165620538955093 (l : Launch) (G : Gl) (L : List Nat) (F : Nat → va_E) : CL l yX5_bitsOf cX5_bitsOf 9 (some .long) rm_X5_bitsOf G L F [.double (4586165620538955093)] (fun r F1 => r = (4586165620538955093 : UInt64).toInt64 ∧ ∀ q, F1 q = F q) := by
  refine CG_of (by decide) (Nat.le_of_ble_eq_true rfl) rfl ?_
  intro p e s m args below meth c Q C0 hr hlk hnm hQ hw ls hl
  have hx := C0.x
  have hb := C0.b
  refine lv_dload_n hx hb dX5_bitsOf_0 rfl (lv_at hl 0 rfl) ?_
  refine lv_dconst0 hx hb dX5_bitsOf_1 ?_
  refine n_top (y := .double 0) (congrArg Value.double (by decide +kernel : FP.dconst0 = (0 : UInt64))) ?_
  refine lv_dcmp hx hb dX5_bitsOf_2 ?_
  refine n_top (y := .int (nI 1)) (congrArg Value.int (by decide +kernel : Op.cmpValue (FP.dcmp 4586165620538955093 0) .g = nI 1)) ?_
  refine n_if_gt (tgt := 8) hx hb dX5_bitsOf_3 (by decide) (by decide) (fun c_3 => ?_) (fun c_3 => ?_)
  · skip
    refine lv_dload_n hx hb dX5_bitsOf_8 rfl (lv_at hl 0 rfl) ?_
    refine lv_dstore_n (lv' := [(2, .double (4586165620538955093)), (0, .double (4586165620538955093))]) hx hb dX5_bitsOf_9 rfl hl (by decide) rfl (fun ls hl => ?_)
    refine lv_iconst (v := nI 0) hx hb dX5_bitsOf_10 (by decide) ?_
    refine lv_istore (lv' := [(4, .int (nI (0))), (2, .double (4586165620538955093)), (0, .double (4586165620538955093))]) hx hb dX5_bitsOf_11 hl (by decide) rfl (fun ls hl => ?_)
    refine lv_dload_n hx hb dX5_bitsOf_13 rfl (lv_at hl 1 rfl) ?_
    refine lv_dconst1 hx hb dX5_bitsOf_14 ?_
    refine n_top (y := .double 4607182418800017408) (congrArg Value.double (by decide +kernel : FP.dconst1 = (4607182418800017408 : UInt64))) ?_
    refine lv_dcmp hx hb dX5_bitsOf_15 ?_
    refine n_top (y := .int ((-1))) (congrArg Value.int (by decide +kernel : Op.cmpValue (FP.dcmp 4586165620538955093 4607182418800017408) .g = (-1))) ?_
    refine lv_if_ge (tgt := 39) hx hb dX5_bitsOf_16 (by decide) (fun c_16 => ?_) (fun c_16 => ?_)
    · skip
      exact absurd c_16 (by decide)
    · skip
      refine lv_iload hx hb dX5_bitsOf_19 (lv_at hl 0 rfl) ?_
      refine lv_sipush (v := nI 1022) hx hb dX5_bitsOf_21 (by decide) ?_
      refine n_icmp_ge (tgt := 39) hx hb dX5_bitsOf_24 (by decide) (by decide) (by decide) (fun c_24 => ?_) (fun c_24 => ?_)
      · skip
        exact absurd c_24 (by omega)
      · skip
        refine lv_dload_n hx hb dX5_bitsOf_27 rfl (lv_at hl 1 rfl) ?_
        refine lv_ldc2d (v := 4611686018427387904) hx hb C0.ow (C0.ts _ kw_X5_337) dX5_bitsOf_28 ?_
        refine lv_dmul hx hb dX5_bitsOf_31 (by unfold vf_n64; decide +kernel) ?_
        refine n_top (y := .double 4590669220166325589) (congrArg Value.double (by decide +kernel : FP.dmul 4586165620538955093 4611686018427387904 = (4590669220166325589 : UInt64))) ?_
        refine lv_dstore_n (lv' := [(2, .double (4590669220166325589)), (4, .int (nI (0))), (0, .double (4586165620538955093))]) hx hb dX5_bitsOf_32 rfl hl (by decide) rfl (fun ls hl => ?_)
        refine lv_iinc (v := nI 1) (lv' := [(4, .int (nI (1))), (2, .double (4590669220166325589)), (0, .double (4586165620538955093))]) hx hb dX5_bitsOf_33 hl (k := 1) rfl (by decide) (by decide) rfl (fun ls hl => ?_)
        refine lv_goto (tgt := 13) hx hb dX5_bitsOf_36 (by decide) ?_
        refine lv_dload_n hx hb dX5_bitsOf_13 rfl (lv_at hl 1 rfl) ?_
        refine lv_dconst1 hx hb dX5_bitsOf_14 ?_
        refine n_top (y := .double 4607182418800017408) (congrArg Value.double (by decide +kernel : FP.dconst1 = (4607182418800017408 : UInt64))) ?_
        refine lv_dcmp hx hb dX5_bitsOf_15 ?_
        refine n_top (y := .int ((-1))) (congrArg Value.int (by decide +kernel : Op.cmpValue (FP.dcmp 4590669220166325589 4607182418800017408) .g = (-1))) ?_
        refine lv_if_ge (tgt := 39) hx hb dX5_bitsOf_16 (by decide) (fun c_16 => ?_) (fun c_16 => ?_)
        · skip
          exact absurd c_16 (by decide)
        · skip
          refine lv_iload hx hb dX5_bitsOf_19 (lv_at hl 0 rfl) ?_
          refine lv_sipush (v := nI 1022) hx hb dX5_bitsOf_21 (by decide) ?_
          refine n_icmp_ge (tgt := 39) hx hb dX5_bitsOf_24 (by decide) (by decide) (by decide) (fun c_24 => ?_) (fun c_24 => ?_)
          · skip
            exact absurd c_24 (by omega)
          · skip
            refine lv_dload_n hx hb dX5_bitsOf_27 rfl (lv_at hl 1 rfl) ?_
            refine lv_ldc2d (v := 4611686018427387904) hx hb C0.ow (C0.ts _ kw_X5_337) dX5_bitsOf_28 ?_
            refine lv_dmul hx hb dX5_bitsOf_31 (by unfold vf_n64; decide +kernel) ?_
            refine n_top (y := .double 4595172819793696085) (congrArg Value.double (by decide +kernel : FP.dmul 4590669220166325589 4611686018427387904 = (4595172819793696085 : UInt64))) ?_
            refine lv_dstore_n (lv' := [(2, .double (4595172819793696085)), (4, .int (nI (1))), (0, .double (4586165620538955093))]) hx hb dX5_bitsOf_32 rfl hl (by decide) rfl (fun ls hl => ?_)
            refine lv_iinc (v := nI 2) (lv' := [(4, .int (nI (2))), (2, .double (4595172819793696085)), (0, .double (4586165620538955093))]) hx hb dX5_bitsOf_33 hl (k := 1) rfl (by decide) (by decide) rfl (fun ls hl => ?_)
            refine lv_goto (tgt := 13) hx hb dX5_bitsOf_36 (by decide) ?_
            refine lv_dload_n hx hb dX5_bitsOf_13 rfl (lv_at hl 1 rfl) ?_
            refine lv_dconst1 hx hb dX5_bitsOf_14 ?_
            refine n_top (y := .double 4607182418800017408) (congrArg Value.double (by decide +kernel : FP.dconst1 = (4607182418800017408 : UInt64))) ?_
            refine lv_dcmp hx hb dX5_bitsOf_15 ?_
            refine n_top (y := .int ((-1))) (congrArg Value.int (by decide +kernel : Op.cmpValue (FP.dcmp 4595172819793696085 4607182418800017408) .g = (-1))) ?_
            refine lv_if_ge (tgt := 39) hx hb dX5_bitsOf_16 (by decide) (fun c_16 => ?_) (fun c_16 => ?_)
            · skip
              exact absurd c_16 (by decide)
            · skip
              refine lv_iload hx hb dX5_bitsOf_19 (lv_at hl 0 rfl) ?_
              refine lv_sipush (v := nI 1022) hx hb dX5_bitsOf_21 (by decide) ?_
              refine n_icmp_ge (tgt := 39) hx hb dX5_bitsOf_24 (by decide) (by decide) (by decide) (fun c_24 => ?_) (fun c_24 => ?_)
              · skip
                exact absurd c_24 (by omega)
              · skip
                refine lv_dload_n hx hb dX5_bitsOf_27 rfl (lv_at hl 1 rfl) ?_
                refine lv_ldc2d (v := 4611686018427387904) hx hb C0.ow (C0.ts _ kw_X5_337) dX5_bitsOf_28 ?_
                refine lv_dmul hx hb dX5_bitsOf_31 (by unfold vf_n64; decide +kernel) ?_
                refine n_top (y := .double 4599676419421066581) (congrArg Value.double (by decide +kernel : FP.dmul 4595172819793696085 4611686018427387904 = (4599676419421066581 : UInt64))) ?_
                refine lv_dstore_n (lv' := [(2, .double (4599676419421066581)), (4, .int (nI (2))), (0, .double (4586165620538955093))]) hx hb dX5_bitsOf_32 rfl hl (by decide) rfl (fun ls hl => ?_)
                refine lv_iinc (v := nI 3) (lv' := [(4, .int (nI (3))), (2, .double (4599676419421066581)), (0, .double (4586165620538955093))]) hx hb dX5_bitsOf_33 hl (k := 1) rfl (by decide) (by decide) rfl (fun ls hl => ?_)
                refine lv_goto (tgt := 13) hx hb dX5_bitsOf_36 (by decide) ?_
                refine lv_dload_n hx hb dX5_bitsOf_13 rfl (lv_at hl 1 rfl) ?_
                refine lv_dconst1 hx hb dX5_bitsOf_14 ?_
                refine n_top (y := .double 4607182418800017408) (congrArg Value.double (by decide +kernel : FP.dconst1 = (4607182418800017408 : UInt64))) ?_
                refine lv_dcmp hx hb dX5_bitsOf_15 ?_
                refine n_top (y := .int ((-1))) (congrArg Value.int (by decide +kernel : Op.cmpValue (FP.dcmp 4599676419421066581 4607182418800017408) .g = (-1))) ?_
                refine lv_if_ge (tgt := 39) hx hb dX5_bitsOf_16 (by decide) (fun c_16 => ?_) (fun c_16 => ?_)
                · skip
                  exact absurd c_16 (by decide)
                · skip
                  refine lv_iload hx hb dX5_bitsOf_19 (lv_at hl 0 rfl) ?_
                  refine lv_sipush (v := nI 1022) hx hb dX5_bitsOf_21 (by decide) ?_
                  refine n_icmp_ge (tgt := 39) hx hb dX5_bitsOf_24 (by decide) (by decide) (by decide) (fun c_24 => ?_) (fun c_24 => ?_)
                  · skip
                    exact absurd c_24 (by omega)
                  · skip
                    refine lv_dload_n hx hb dX5_bitsOf_27 rfl (lv_at hl 1 rfl) ?_
                    refine lv_ldc2d (v := 4611686018427387904) hx hb C0.ow (C0.ts _ kw_X5_337) dX5_bitsOf_28 ?_
                    refine lv_dmul hx hb dX5_bitsOf_31 (by unfold vf_n64; decide +kernel) ?_
                    refine n_top (y := .double 4604180019048437077) (congrArg Value.double (by decide +kernel : FP.dmul 4599676419421066581 4611686018427387904 = (4604180019048437077 : UInt64))) ?_
                    refine lv_dstore_n (lv' := [(2, .double (4604180019048437077)), (4, .int (nI (3))), (0, .double (4586165620538955093))]) hx hb dX5_bitsOf_32 rfl hl (by decide) rfl (fun ls hl => ?_)
                    refine lv_iinc (v := nI 4) (lv' := [(4, .int (nI (4))), (2, .double (4604180019048437077)), (0, .double (4586165620538955093))]) hx hb dX5_bitsOf_33 hl (k := 1) rfl (by decide) (by decide) rfl (fun ls hl => ?_)
                    refine lv_goto (tgt := 13) hx hb dX5_bitsOf_36 (by decide) ?_
                    refine lv_dload_n hx hb dX5_bitsOf_13 rfl (lv_at hl 1 rfl) ?_
                    refine lv_dconst1 hx hb dX5_bitsOf_14 ?_
                    refine n_top (y := .double 4607182418800017408) (congrArg Value.double (by decide +kernel : FP.dconst1 = (4607182418800017408 : UInt64))) ?_
                    refine lv_dcmp hx hb dX5_bitsOf_15 ?_
                    refine n_top (y := .int ((-1))) (congrArg Value.int (by decide +kernel : Op.cmpValue (FP.dcmp 4604180019048437077 4607182418800017408) .g = (-1))) ?_
                    refine lv_if_ge (tgt := 39) hx hb dX5_bitsOf_16 (by decide) (fun c_16 => ?_) (fun c_16 => ?_)
                    · skip
                      exact absurd c_16 (by decide)
                    · skip
                      refine lv_iload hx hb dX5_bitsOf_19 (lv_at hl 0 rfl) ?_
                      refine lv_sipush (v := nI 1022) hx hb dX5_bitsOf_21 (by decide) ?_
                      refine n_icmp_ge (tgt := 39) hx hb dX5_bitsOf_24 (by decide) (by decide) (by decide) (fun c_24 => ?_) (fun c_24 => ?_)
                      · skip
                        exact absurd c_24 (by omega)
                      · skip
                        refine lv_dload_n hx hb dX5_bitsOf_27 rfl (lv_at hl 1 rfl) ?_
                        refine lv_ldc2d (v := 4611686018427387904) hx hb C0.ow (C0.ts _ kw_X5_337) dX5_bitsOf_28 ?_
                        refine lv_dmul hx hb dX5_bitsOf_31 (by unfold vf_n64; decide +kernel) ?_
                        refine n_top (y := .double 4608683618675807573) (congrArg Value.double (by decide +kernel : FP.dmul 4604180019048437077 4611686018427387904 = (4608683618675807573 : UInt64))) ?_
                        refine lv_dstore_n (lv' := [(2, .double (4608683618675807573)), (4, .int (nI (4))), (0, .double (4586165620538955093))]) hx hb dX5_bitsOf_32 rfl hl (by decide) rfl (fun ls hl => ?_)
                        refine lv_iinc (v := nI 5) (lv' := [(4, .int (nI (5))), (2, .double (4608683618675807573)), (0, .double (4586165620538955093))]) hx hb dX5_bitsOf_33 hl (k := 1) rfl (by decide) (by decide) rfl (fun ls hl => ?_)
                        refine lv_goto (tgt := 13) hx hb dX5_bitsOf_36 (by decide) ?_
                        refine lv_dload_n hx hb dX5_bitsOf_13 rfl (lv_at hl 1 rfl) ?_
                        refine lv_dconst1 hx hb dX5_bitsOf_14 ?_
                        refine n_top (y := .double 4607182418800017408) (congrArg Value.double (by decide +kernel : FP.dconst1 = (4607182418800017408 : UInt64))) ?_
                        refine lv_dcmp hx hb dX5_bitsOf_15 ?_
                        refine n_top (y := .int (nI 1)) (congrArg Value.int (by decide +kernel : Op.cmpValue (FP.dcmp 4608683618675807573 4607182418800017408) .g = nI 1)) ?_
                        refine n_if_ge (tgt := 39) hx hb dX5_bitsOf_16 (by decide) (by decide) ?_
                        refine lv_sipush (v := nI 1023) hx hb dX5_bitsOf_39 (by decide) ?_
                        refine lv_iload hx hb dX5_bitsOf_42 (lv_at hl 0 rfl) ?_
                        refine n_isub hx hb (by omega) dX5_bitsOf_44 ?_
                        refine n_i2l hx hb (by omega) dX5_bitsOf_45 ?_
                        refine lv_lstore (lv' := [(5, .long (lN (1023 - 5))), (4, .int (nI (5))), (2, .double (4608683618675807573)), (0, .double (4586165620538955093))]) hx hb dX5_bitsOf_46 hl (by decide) rfl (fun ls hl => ?_)
                        refine lv_dload_n hx hb dX5_bitsOf_48 rfl (lv_at hl 2 rfl) ?_
                        refine lv_dconst1 hx hb dX5_bitsOf_49 ?_
                        refine n_top (y := .double 4607182418800017408) (congrArg Value.double (by decide +kernel : FP.dconst1 = (4607182418800017408 : UInt64))) ?_
                        refine lv_dsub hx hb dX5_bitsOf_50 (by unfold vf_n64; decide +kernel) ?_
                        refine n_top (y := .double 4599676419421066580) (congrArg Value.double (by decide +kernel : FP.dsub 4608683618675807573 4607182418800017408 = (4599676419421066580 : UInt64))) ?_
                        refine lv_ldc2d (v := 4841369599423283200) hx hb C0.ow (C0.ts _ kw_X5_339) dX5_bitsOf_51 ?_
                        refine lv_dmul hx hb dX5_bitsOf_54 (by unfold vf_n64; decide +kernel) ?_
                        refine n_top (y := .double 4833863600044332372) (congrArg Value.double (by decide +kernel : FP.dmul 4599676419421066580 4841369599423283200 = (4833863600044332372 : UInt64))) ?_
                        refine lv_d2l hx hb dX5_bitsOf_55 ?_
                        refine n_top (y := .long (lN 1501199875790165)) (congrArg Value.long (by decide +kernel : FP.d2l 4833863600044332372 = lN 1501199875790165)) ?_
                        refine lv_lstore (lv' := [(7, .long (lN (1501199875790165))), (5, .long (lN (1023 - 5))), (4, .int (nI (5))), (2, .double (4608683618675807573)), (0, .double (4586165620538955093))]) hx hb dX5_bitsOf_56 hl (by decide) rfl (fun ls hl => ?_)
                        refine lv_lload hx hb dX5_bitsOf_58 (lv_at hl 1 rfl) ?_
                        refine lv_bipush (v := nI 52) hx hb dX5_bitsOf_60 (by decide) ?_
                        refine lv_lshl (v := lN 4584664420663164928) hx hb dX5_bitsOf_62 (by decide +kernel) ?_
                        refine lv_lload hx hb dX5_bitsOf_63 (lv_at hl 0 rfl) ?_
                        refine n_ladd hx hb dX5_bitsOf_65 ?_
                        exact r_l C0 hr hlk hw ⟨(by decide +kernel), (fun q  => rfl)⟩ (Nat.le_refl _) (Nat.le_refl _) dX5_bitsOf_66 hQ
  · skip
    exact absurd c_3 (by decide)
set_option maxHeartbeats 4000000 in
set_option maxRecDepth 100000 in
theorem c_X5_bitsOf_4588167220373341980 (l : Launch) (G : Gl) (L : List Nat) (F : Nat → va_E) : CL l yX5_bitsOf cX5_bitsOf 9 (some .long) rm_X5_bitsOf G L F [.double (4588167220373341980)] (fun r F1 => r = (4588167220373341980 : UInt64).toInt64 ∧ ∀ q, F1 q = F q) := by
  refine CG_of (by decide) (Nat.le_of_ble_eq_true rfl) rfl ?_
  intro p e s m args below meth c Q C0 hr hlk hnm hQ hw ls hl
  have hx := C0.x
  have hb := C0.b
  refine lv_dload_n hx hb dX5_bitsOf_0 rfl (lv_at hl 0 rfl) ?_
  refine lv_dconst0 hx hb dX5_bitsOf_1 ?_
  refine n_top (y := .double 0) (congrArg Value.double (by decide +kernel : FP.dconst0 = (0 : UInt64))) ?_
  refine lv_dcmp hx hb dX5_bitsOf_2 ?_
  refine n_top (y := .int (nI 1)) (congrArg Value.int (by decide +kernel : Op.cmpValue (FP.dcmp 4588167220373341980 0) .g = nI 1)) ?_
  refine n_if_gt (tgt := 8) hx hb dX5_bitsOf_3 (by decide) (by decide) (fun c_3 => ?_) (fun c_3 => ?_)
  · skip
    refine lv_dload_n hx hb dX5_bitsOf_8 rfl (lv_at hl 0 rfl) ?_
    refine lv_dstore_n (lv' := [(2, .double (4588167220373341980)), (0, .double (4588167220373341980))]) hx hb dX5_bitsOf_9 rfl hl (by decide) rfl (fun ls hl => ?_)
    refine lv_iconst (v := nI 0) hx hb dX5_bitsOf_10 (by decide) ?_
    refine lv_istore (lv' := [(4, .int (nI (0))), (2, .double (4588167220373341980)), (0, .double (4588167220373341980))]) hx hb dX5_bitsOf_11 hl (by decide) rfl (fun ls hl => ?_)
    refine lv_dload_n hx hb dX5_bitsOf_13 rfl (lv_at hl 1 rfl) ?_
    refine lv_dconst1 hx hb dX5_bitsOf_14 ?_
    refine n_top (y := .double 4607182418800017408) (congrArg Value.double (by decide +kernel : FP.dconst1 = (4607182418800017408 : UInt64))) ?_
    refine lv_dcmp hx hb dX5_bitsOf_15 ?_
    refine n_top (y := .int ((-1))) (congrArg Value.int (by decide +kernel : Op.cmpValue (FP.dcmp 4588167220373341980 4607182418800017408) .g = (-1))) ?_
    refine lv_if_ge (tgt := 39) hx hb dX5_bitsOf_16 (by decide) (fun c_16 => ?_) (fun c_16 => ?_)
    · skip
      exact absurd c_16 (by decide)
    · skip
      refine lv_iload hx hb dX5_bitsOf_19 (lv_at hl 0 rfl) ?_
      refine lv_sipush (v := nI 1022) hx hb dX5_bitsOf_21 (by decide) ?_
      refine n_icmp_ge (tgt := 39) hx hb dX5_bitsOf_24 (by decide) (by decide) (by decide) (fun c_24 => ?_) (fun c_24 => ?_)
      · skip
        exact absurd c_24 (by omega)
      · skip
        refine lv_dload_n hx hb dX5_bitsOf_27 rfl (lv_at hl 1 rfl) ?_
        refine lv_ldc2d (v := 4611686018427387904) hx hb C0.ow (C0.ts _ kw_X5_337) dX5_bitsOf_28 ?_
        refine lv_dmul hx hb dX5_bitsOf_31 (by unfold vf_n64; decide +kernel) ?_
        refine n_top (y := .double 4592670820000712476) (congrArg Value.double (by decide +kernel : FP.dmul 4588167220373341980 4611686018427387904 = (4592670820000712476 : UInt64))) ?_
        refine lv_dstore_n (lv' := [(2, .double (4592670820000712476)), (4, .int (nI (0))), (0, .double (4588167220373341980))]) hx hb dX5_bitsOf_32 rfl hl (by decide) rfl (fun ls hl => ?_)
        refine lv_iinc (v := nI 1) (lv' := [(4, .int (nI (1))), (2, .double (4592670820000712476)), (0, .double (4588167220373341980))]) hx hb dX5_bitsOf_33 hl (k := 1) rfl (by decide) (by decide) rfl (fun ls hl => ?_)
        refine lv_goto (tgt := 13) hx hb dX5_bitsOf_36 (by decide) ?_
        refine lv_dload_n hx hb dX5_bitsOf_13 rfl (lv_at hl 1 rfl) ?_
        refine lv_dconst1 hx hb dX5_bitsOf_14 ?_
        refine n_top (y := .double 4607182418800017408) (congrArg Value.double (by decide +kernel : FP.dconst1 = (4607182418800017408 : UInt64))) ?_
        refine lv_dcmp hx hb dX5_bitsOf_15 ?_
        refine n_top (y := .int ((-1))) (congrArg Value.int (by decide +kernel : Op.cmpValue (FP.dcmp 4592670820000712476 4607182418800017408) .g = (-1))) ?_
        refine lv_if_ge (tgt := 39) hx hb dX5_bitsOf_16 (by decide) (fun c_16 => ?_) (fun c_16 => ?_)
        · skip
          exact absurd c_16 (by decide)
        · skip
          refine lv_iload hx hb dX5_bitsOf_19 (lv_at hl 0 rfl) ?_
          refine lv_sipush (v := nI 1022) hx hb dX5_bitsOf_21 (by decide) ?_
          refine n_icmp_ge (tgt := 39) hx hb dX5_bitsOf_24 (by decide) (by decide) (by decide) (fun c_24 => ?_) (fun c_24 => ?_)
          · skip
            exact absurd c_24 (by omega)
          · skip
            refine lv_dload_n hx hb dX5_bitsOf_27 rfl (lv_at hl 1 rfl) ?_
            refine lv_ldc2d (v := 4611686018427387904) hx hb C0.ow (C0.ts _ kw_X5_337) dX5_bitsOf_28 ?_
            refine lv_dmul hx hb dX5_bitsOf_31 (by unfold vf_n64; decide +kernel) ?_
            refine n_top (y := .double 4597174419628082972) (congrArg Value.double (by decide +kernel : FP.dmul 4592670820000712476 4611686018427387904 = (4597174419628082972 : UInt64))) ?_
            refine lv_dstore_n (lv' := [(2, .double (4597174419628082972)), (4, .int (nI (1))), (0, .double (4588167220373341980))]) hx hb dX5_bitsOf_32 rfl hl (by decide) rfl (fun ls hl => ?_)
            refine lv_iinc (v := nI 2) (lv' := [(4, .int (nI (2))), (2, .double (4597174419628082972)), (0, .double (4588167220373341980))]) hx hb dX5_bitsOf_33 hl (k := 1) rfl (by decide) (by decide) rfl (fun ls hl => ?_)
            refine lv_goto (tgt := 13) hx hb dX5_bitsOf_36 (by decide) ?_
            refine lv_dload_n hx hb dX5_bitsOf_13 rfl (lv_at hl 1 rfl) ?_
            refine lv_dconst1 hx hb dX5_bitsOf_14 ?_
            refine n_top (y := .double 4607182418800017408) (congrArg Value.double (by decide +kernel : FP.dconst1 = (4607182418800017408 : UInt64))) ?_
            refine lv_dcmp hx hb dX5_bitsOf_15 ?_
            refine n_top (y := .int ((-1))) (congrArg Value.int (by decide +kernel : Op.cmpValue (FP.dcmp 4597174419628082972 4607182418800017408) .g = (-1))) ?_
            refine lv_if_ge (tgt := 39) hx hb dX5_bitsOf_16 (by decide) (fun c_16 => ?_) (fun c_16 => ?_)
            · skip
              exact absurd c_16 (by decide)
            · skip
              refine lv_iload hx hb dX5_bitsOf_19 (lv_at hl 0 rfl) ?_
              refine lv_sipush (v := nI 1022) hx hb dX5_bitsOf_21 (by decide) ?_
              refine n_icmp_ge (tgt := 39) hx hb dX5_bitsOf_24 (by decide) (by decide) (by decide) (fun c_24 => ?_) (fun c_24 => ?_)
              · skip
                exact absurd c_24 (by omega)
              · skip
                refine lv_dload_n hx hb dX5_bitsOf_27 rfl (lv_at hl 1 rfl) ?_
                refine lv_ldc2d (v := 4611686018427387904) hx hb C0.ow (C0.ts _ kw_X5_337) dX5_bitsOf_28 ?_
                refine lv_dmul hx hb dX5_bitsOf_31 (by unfold vf_n64; decide +kernel) ?_
                refine n_top (y := .double 4601678019255453468) (congrArg Value.double (by decide +kernel : FP.dmul 4597174419628082972 4611686018427387904 = (4601678019255453468 : UInt64))) ?_
                refine lv_dstore_n (lv' := [(2, .double (4601678019255453468)), (4, .int (nI (2))), (0, .double (4588167220373341980))]) hx hb dX5_bitsOf_32 rfl hl (by decide) rfl (fun ls hl => ?_)
                refine lv_iinc (v := nI 3) (lv' := [(4, .int (nI (3))), (2, .double (4601678019255453468)), (0, .double (4588167220373341980))]) hx hb dX5_bitsOf_33 hl (k := 1) rfl (by decide) (by decide) rfl (fun ls hl => ?_)
                refine lv_goto (tgt := 13) hx hb dX5_bitsOf_36 (by decide) ?_
                refine lv_dload_n hx hb dX5_bitsOf_13 rfl (lv_at hl 1 rfl) ?_
                refine lv_dconst1 hx hb dX5_bitsOf_14 ?_
                refine n_top (y := .double 4607182418800017408) (congrArg Value.double (by decide +kernel : FP.dconst1 = (4607182418800017408 : UInt64))) ?_
                refine lv_dcmp hx hb dX5_bitsOf_15 ?_
                refine n_top (y := .int ((-1))) (congrArg Value.int (by decide +kernel : Op.cmpValue (FP.dcmp 4601678019255453468 4607182418800017408) .g = (-1))) ?_
                refine lv_if_ge (tgt := 39) hx hb dX5_bitsOf_16 (by decide) (fun c_16 => ?_) (fun c_16 => ?_)
                · skip
                  exact absurd c_16 (by decide)
                · skip
                  refine lv_iload hx hb dX5_bitsOf_19 (lv_at hl 0 rfl) ?_
                  refine lv_sipush (v := nI 1022) hx hb dX5_bitsOf_21 (by decide) ?_
                  refine n_icmp_ge (tgt := 39) hx hb dX5_bitsOf_24 (by decide) (by decide) (by decide) (fun c_24 => ?_) (fun c_24 => ?_)
                  · skip
                    exact absurd c_24 (by omega)
                  · skip
                    refine lv_dload_n hx hb dX5_bitsOf_27 rfl (lv_at hl 1 rfl) ?_
                    refine lv_ldc2d (v := 4611686018427387904) hx hb C0.ow (C0.ts _ kw_X5_337) dX5_bitsOf_28 ?_
                    refine lv_dmul hx hb dX5_bitsOf_31 (by unfold vf_n64; decide +kernel) ?_
                    refine n_top (y := .double 4606181618882823964) (congrArg Value.double (by decide +kernel : FP.dmul 4601678019255453468 4611686018427387904 = (4606181618882823964 : UInt64))) ?_
                    refine lv_dstore_n (lv' := [(2, .double (4606181618882823964)), (4, .int (nI (3))), (0, .double (4588167220373341980))]) hx hb dX5_bitsOf_32 rfl hl (by decide) rfl (fun ls hl => ?_)
                    refine lv_iinc (v := nI 4) (lv' := [(4, .int (nI (4))), (2, .double (4606181618882823964)), (0, .double (4588167220373341980))]) hx hb dX5_bitsOf_33 hl (k := 1) rfl (by decide) (by decide) rfl (fun ls hl => ?_)
                    refine lv_goto (tgt := 13) hx hb dX5_bitsOf_36 (by decide) ?_
                    refine lv_dload_n hx hb dX5_bitsOf_13 rfl (lv_at hl 1 rfl) ?_
                    refine lv_dconst1 hx hb dX5_bitsOf_14 ?_
                    refine n_top (y := .double 4607182418800017408) (congrArg Value.double (by decide +kernel : FP.dconst1 = (4607182418800017408 : UInt64))) ?_
                    refine lv_dcmp hx hb dX5_bitsOf_15 ?_
                    refine n_top (y := .int ((-1))) (congrArg Value.int (by decide +kernel : Op.cmpValue (FP.dcmp 4606181618882823964 4607182418800017408) .g = (-1))) ?_
                    refine lv_if_ge (tgt := 39) hx hb dX5_bitsOf_16 (by decide) (fun c_16 => ?_) (fun c_16 => ?_)
                    · skip
                      exact absurd c_16 (by decide)
                    · skip
                      refine lv_iload hx hb dX5_bitsOf_19 (lv_at hl 0 rfl) ?_
                      refine lv_sipush (v := nI 1022) hx hb dX5_bitsOf_21 (by decide) ?_
                      refine n_icmp_ge (tgt := 39) hx hb dX5_bitsOf_24 (by decide) (by decide) (by decide) (fun c_24 => ?_) (fun c_24 => ?_)
                      · skip
                        exact absurd c_24 (by omega)
                      · skip
                        refine lv_dload_n hx hb dX5_bitsOf_27 rfl (lv_at hl 1 rfl) ?_
                        refine lv_ldc2d (v := 4611686018427387904) hx hb C0.ow (C0.ts _ kw_X5_337) dX5_bitsOf_28 ?_
                        refine lv_dmul hx hb dX5_bitsOf_31 (by unfold vf_n64; decide +kernel) ?_
                        refine n_top (y := .double 4610685218510194460) (congrArg Value.double (by decide +kernel : FP.dmul 4606181618882823964 4611686018427387904 = (4610685218510194460 : UInt64))) ?_
                        refine lv_dstore_n (lv' := [(2, .double (4610685218510194460)), (4, .int (nI (4))), (0, .double (4588167220373341980))]) hx hb dX5_bitsOf_32 rfl hl (by decide) rfl (fun ls hl => ?_)
                        refine lv_iinc (v := nI 5) (lv' := [(4, .int (nI (5))), (2, .double (4610685218510194460)), (0, .double (4588167220373341980))]) hx hb dX5_bitsOf_33 hl (k := 1) rfl (by decide) (by decide) rfl (fun ls hl => ?_)
                        refine lv_goto (tgt := 13) hx hb dX5_bitsOf_36 (by decide) ?_
                        refine lv_dload_n hx hb dX5_bitsOf_13 rfl (lv_at hl 1 rfl) ?_
                        refine lv_dconst1 hx hb dX5_bitsOf_14 ?_
                        refine n_top (y := .double 4607182418800017408) (congrArg Value.double (by decide +kernel : FP.dconst1 = (4607182418800017408 : UInt64))) ?_
                        refine lv_dcmp hx hb dX5_bitsOf_15 ?_
                        refine n_top (y := .int (nI 1)) (congrArg Value.int (by decide +kernel : Op.cmpValue (FP.dcmp 4610685218510194460 4607182418800017408) .g = nI 1)) ?_
                        refine n_if_ge (tgt := 39) hx hb dX5_bitsOf_16 (by decide) (by decide) ?_
                        refine lv_sipush (v := nI 1023) hx hb dX5_bitsOf_39 (by decide) ?_
                        refine lv_iload hx hb dX5_bitsOf_42 (lv_at hl 0 rfl) ?_
                        refine n_isub hx hb (by omega) dX5_bitsOf_44 ?_
                        refine n_i2l hx hb (by omega) dX5_bitsOf_45 ?_
                        refine lv_lstore (lv' := [(5, .long (lN (1023 - 5))), (4, .int (nI (5))), (2, .double (4610685218510194460)), (0, .double (4588167220373341980))]) hx hb dX5_bitsOf_46 hl (by decide) rfl (fun ls hl => ?_)
                        refine lv_dload_n hx hb dX5_bitsOf_48 rfl (lv_at hl 2 rfl) ?_
                        refine lv_dconst1 hx hb dX5_bitsOf_49 ?_
                        refine n_top (y := .double 4607182418800017408) (congrArg Value.double (by decide +kernel : FP.dconst1 = (4607182418800017408 : UInt64))) ?_
                        refine lv_dsub hx hb dX5_bitsOf_50 (by unfold vf_n64; decide +kernel) ?_
                        refine n_top (y := .double 4605180818965630520) (congrArg Value.double (by decide +kernel : FP.dsub 4610685218510194460 4607182418800017408 = (4605180818965630520 : UInt64))) ?_
                        refine lv_ldc2d (v := 4841369599423283200) hx hb C0.ow (C0.ts _ kw_X5_339) dX5_bitsOf_51 ?_
                        refine lv_dmul hx hb dX5_bitsOf_54 (by unfold vf_n64; decide +kernel) ?_
                        refine n_top (y := .double 4839367999588896312) (congrArg Value.double (by decide +kernel : FP.dmul 4605180818965630520 4841369599423283200 = (4839367999588896312 : UInt64))) ?_
                        refine lv_d2l hx hb dX5_bitsOf_55 ?_
                        refine n_top (y := .long (lN 3502799710177052)) (congrArg Value.long (by decide +kernel : FP.d2l 4839367999588896312 = lN 3502799710177052)) ?_
                        refine lv_lstore (lv' := [(7, .long (lN (3502799710177052))), (5, .long (lN (1023 - 5))), (4, .int (nI (5))), (2, .double (4610685218510194460)), (0, .double (4588167220373341980))]) hx hb dX5_bitsOf_56 hl (by decide) rfl (fun ls hl => ?_)
                        refine lv_lload hx hb dX5_bitsOf_58 (lv_at hl 1 rfl) ?_
                        refine lv_bipush (v := nI 52) hx hb dX5_bitsOf_60 (by decide) ?_
                        refine lv_lshl (v := lN 4584664420663164928) hx hb dX5_bitsOf_62 (by decide +kernel) ?_
                        refine lv_lload hx hb dX5_bitsOf_63 (lv_at hl 0 rfl) ?_
                        refine n_ladd hx hb dX5_bitsOf_65 ?_
                        exact r_l C0 hr hlk hw ⟨(by decide +kernel), (fun q  => rfl)⟩ (Nat.le_refl _) (Nat.le_refl _) dX5_bitsOf_66 hQ
  · skip
    exact absurd c_3 (by decide)
set_option maxHeartbeats 4000000 in
set_option maxRecDepth 100000 in
theorem c_X5_bitsOf_4589468260265693457 (l : Launch) (G : Gl) (L : List Nat) (F : Nat → va_E) : CL l yX5_bitsOf cX5_bitsOf 9 (some .long) rm_X5_bitsOf G L F [.double (4589468260265693457)] (fun r F1 => r = (4589468260265693457 : UInt64).toInt64 ∧ ∀ q, F1 q = F q) := by
  refine CG_of (by decide) (Nat.le_of_ble_eq_true rfl) rfl ?_
  intro p e s m args below meth c Q C0 hr hlk hnm hQ hw ls hl
  have hx := C0.x
  have hb := C0.b
  refine lv_dload_n hx hb dX5_bitsOf_0 rfl (lv_at hl 0 rfl) ?_
  refine lv_dconst0 hx hb dX5_bitsOf_1 ?_
  refine n_top (y := .double 0) (congrArg Value.double (by decide +kernel : FP.dconst0 = (0 : UInt64))) ?_
  refine lv_dcmp hx hb dX5_bitsOf_2 ?_
  refine n_top (y := .int (nI 1)) (congrArg Value.int (by decide +kernel : Op.cmpValue (FP.dcmp 4589468260265693457 0) .g = nI 1)) ?_
  refine n_if_gt (tgt := 8) hx hb dX5_bitsOf_3 (by decide) (by decide) (fun c_3 => ?_) (fun c_3 => ?_)
  · skip
    refine lv_dload_n hx hb dX5_bitsOf_8 rfl (lv_at hl 0 rfl) ?_
    refine lv_dstore_n (lv' := [(2, .double (4589468260265693457)), (0, .double (4589468260265693457))]) hx hb dX5_bitsOf_9 rfl hl (by decide) rfl (fun ls hl => ?_)
    refine lv_iconst (v := nI 0) hx hb dX5_bitsOf_10 (by decide) ?_
    refine lv_istore (lv' := [(4, .int (nI (0))), (2, .double (4589468260265693457)), (0, .double (4589468260265693457))]) hx hb dX5_bitsOf_11 hl (by decide) rfl (fun ls hl => ?_)
    refine lv_dload_n hx hb dX5_bitsOf_13 rfl (lv_at hl 1 rfl) ?_
    refine lv_dconst1 hx hb dX5_bitsOf_14 ?_
    refine n_top (y := .double 4607182418800017408) (congrArg Value.double (by decide +kernel : FP.dconst1 = (4607182418800017408 : UInt64))) ?_
    refine lv_dcmp hx hb dX5_bitsOf_15 ?_
    refine n_top (y := .int ((-1))) (congrArg Value.int (by decide +kernel : Op.cmpValue (FP.dcmp 4589468260265693457 4607182418800017408) .g = (-1))) ?_
    refine lv_if_ge (tgt := 39) hx hb dX5_bitsOf_16 (by decide) (fun c_16 => ?_) (fun c_16 => ?_)
    · skip
      exact absurd c_16 (by decide)
    · skip
      refine lv_iload hx hb dX5_bitsOf_19 (lv_at hl 0 rfl) ?_
      refine lv_sipush (v := nI 1022) hx hb dX5_bitsOf_21 (by decide) ?_
      refine n_icmp_ge (tgt := 39) hx hb dX5_bitsOf_24 (by decide) (by decide) (by decide) (fun c_24 => ?_) (fun c_24 => ?_)
      · skip
        exact absurd c_24 (by omega)
      · skip
        refine lv_dload_n hx hb dX5_bitsOf_27 rfl (lv_at hl 1 rfl) ?_
        refine lv_ldc2d (v := 4611686018427387904) hx hb C0.ow (C0.ts _ kw_X5_337) dX5_bitsOf_28 ?_
        refine lv_dmul hx hb dX5_bitsOf_31 (by unfold vf_n64; decide +kernel) ?_
        refine n_top (y := .double 4593971859893063953) (congrArg Value.double (by decide +kernel : FP.dmul 4589468260265693457 4611686018427387904 = (4593971859893063953 : UInt64))) ?_
        refine lv_dstore_n (lv' := [(2, .double (4593971859893063953)), (4, .int (nI (0))), (0, .double (4589468260265693457))]) hx hb dX5_bitsOf_32 rfl hl (by decide) rfl (fun ls hl => ?_)
        refine lv_iinc (v := nI 1) (lv' := [(4, .int (nI (1))), (2, .double (4593971859893063953)), (0, .double (4589468260265693457))]) hx hb dX5_bitsOf_33 hl (k := 1) rfl (by decide) (by decide) rfl (fun ls hl => ?_)
        refine lv_goto (tgt := 13) hx hb dX5_bitsOf_36 (by decide) ?_
        refine lv_dload_n hx hb dX5_bitsOf_13 rfl (lv_at hl 1 rfl) ?_
        refine lv_dconst1 hx hb dX5_bitsOf_14 ?_
        refine n_top (y := .double 4607182418800017408) (congrArg Value.double (by decide +kernel : FP.dconst1 = (4607182418800017408 : UInt64))) ?_
        refine lv_dcmp hx hb dX5_bitsOf_15 ?_
        refine n_top (y := .int ((-1))) (congrArg Value.int (by decide +kernel : Op.cmpValue (FP.dcmp 4593971859893063953 4607182418800017408) .g = (-1))) ?_
        refine lv_if_ge (tgt := 39) hx hb dX5_bitsOf_16 (by decide) (fun c_16 => ?_) (fun c_16 => ?_)
        · skip
          exact absurd c_16 (by decide)
        · skip
          refine lv_iload hx hb dX5_bitsOf_19 (lv_at hl 0 rfl) ?_
          refine lv_sipush (v := nI 1022) hx hb dX5_bitsOf_21 (by decide) ?_
          refine n_icmp_ge (tgt := 39) hx hb dX5_bitsOf_24 (by decide) (by decide) (by decide) (fun c_24 => ?_) (fun c_24 => ?_)
          · skip
            exact absurd c_24 (by omega)
          · skip
            refine lv_dload_n hx hb dX5_bitsOf_27 rfl (lv_at hl 1 rfl) ?_
            refine lv_ldc2d (v := 4611686018427387904) hx hb C0.ow (C0.ts _ kw_X5_337) dX5_bitsOf_28 ?_
            refine lv_dmul hx hb dX5_bitsOf_31 (by unfold vf_n64; decide +kernel) ?_
            refine n_top (y := .double 4598475459520434449) (congrArg Value.double (by decide +kernel : FP.dmul 4593971859893063953 4611686018427387904 = (4598475459520434449 : UInt64))) ?_
            refine lv_dstore_n (lv' := [(2, .double (4598475459520434449)), (4, .int (nI (1))), (0, .double (4589468260265693457))]) hx hb dX5_bitsOf_32 rfl hl (by decide) rfl (fun ls hl => ?_)
            refine lv_iinc (v := nI 2) (lv' := [(4, .int (nI (2))), (2, .double (4598475459520434449)), (0, .double (4589468260265693457))]) hx hb dX5_bitsOf_33 hl (k := 1) rfl (by decide) (by decide) rfl (fun ls hl => ?_)
            refine lv_goto (tgt := 13) hx hb dX5_bitsOf_36 (by decide) ?_
            refine lv_dload_n hx hb dX5_bitsOf_13 rfl (lv_at hl 1 rfl) ?_
            refine lv_dconst1 hx hb dX5_bitsOf_14 ?_
            refine n_top (y := .double 4607182418800017408) (congrArg Value.double (by decide +kernel : FP.dconst1 = (4607182418800017408 : UInt64))) ?_
            refine lv_dcmp hx hb dX5_bitsOf_15 ?_
            refine n_top (y := .int ((-1))) (congrArg Value.int (by decide +kernel : Op.cmpValue (FP.dcmp 4598475459520434449 4607182418800017408) .g = (-1))) ?_
            refine lv_if_ge (tgt := 39) hx hb dX5_bitsOf_16 (by decide) (fun c_16 => ?_) (fun c_16 => ?_)
            · skip
              exact absurd c_16 (by decide)
            · skip
              refine lv_iload hx hb dX5_bitsOf_19 (lv_at hl 0 rfl) ?_
              refine lv_sipush (v := nI 1022) hx hb dX5_bitsOf_21 (by decide) ?_
              refine n_icmp_ge (tgt := 39) hx hb dX5_bitsOf_24 (by decide) (by decide) (by decide) (fun c_24 => ?_) (fun c_24 => ?_)
              · skip
                exact absurd c_24 (by omega)
              · skip
                refine lv_dload_n hx hb dX5_bitsOf_27 rfl (lv_at hl 1 rfl) ?_
                refine lv_ldc2d (v := 4611686018427387904) hx hb C0.ow (C0.ts _ kw_X5_337) dX5_bitsOf_28 ?_
                refine lv_dmul hx hb dX5_bitsOf_31 (by unfold vf_n64; decide +kernel) ?_
                refine n_top (y := .double 4602979059147804945) (congrArg Value.double (by decide +kernel : FP.dmul 4598475459520434449 4611686018427387904 = (4602979059147804945 : UInt64))) ?_
                refine lv_dstore_n (lv' := [(2, .double (4602979059147804945)), (4, .int (nI (2))), (0, .double (4589468260265693457))]) hx hb dX5_bitsOf_32 rfl hl (by decide) rfl (fun ls hl => ?_)
                refine lv_iinc (v := nI 3) (lv' := [(4, .int (nI (3))), (2, .double (4602979059147804945)), (0, .double (4589468260265693457))]) hx hb dX5_bitsOf_33 hl (k := 1) rfl (by decide) (by decide) rfl (fun ls hl => ?_)
                refine lv_goto (tgt := 13) hx hb dX5_bitsOf_36 (by decide) ?_
                refine lv_dload_n hx hb dX5_bitsOf_13 rfl (lv_at hl 1 rfl) ?_
                refine lv_dconst1 hx hb dX5_bitsOf_14 ?_
                refine n_top (y := .double 4607182418800017408) (congrArg Value.double (by decide +kernel : FP.dconst1 = (4607182418800017408 : UInt64))) ?_
                refine lv_dcmp hx hb dX5_bitsOf_15 ?_
                refine n_top (y := .int ((-1))) (congrArg Value.int (by decide +kernel : Op.cmpValue (FP.dcmp 4602979059147804945 4607182418800017408) .g = (-1))) ?_
                refine lv_if_ge (tgt := 39) hx hb dX5_bitsOf_16 (by decide) (fun c_16 => ?_) (fun c_16 => ?_)
                · skip
                  exact absurd c_16 (by decide)
                · skip
                  refine lv_iload hx hb dX5_bitsOf_19 (lv_at hl 0 rfl) ?_
                  refine lv_sipush (v := nI 1022) hx hb dX5_bitsOf_21 (by decide) ?_
                  refine n_icmp_ge (tgt := 39) hx hb dX5_bitsOf_24 (by decide) (by decide) (by decide) (fun c_24 => ?_) (fun c_24 => ?_)
                  · skip
                    exact absurd c_24 (by omega)
                  · skip
                    refine lv_dload_n hx hb dX5_bitsOf_27 rfl (lv_at hl 1 rfl) ?_
                    refine lv_ldc2d (v := 4611686018427387904) hx hb C0.ow (C0.ts _ kw_X5_337) dX5_bitsOf_28 ?_
                    refine lv_dmul hx hb dX5_bitsOf_31 (by unfold vf_n64; decide +kernel) ?_
                    refine n_top (y := .double 4607482658775175441) (congrArg Value.double (by decide +kernel : FP.dmul 4602979059147804945 4611686018427387904 = (4607482658775175441 : UInt64))) ?_
                    refine lv_dstore_n (lv' := [(2, .double (4607482658775175441)), (4, .int (nI (3))), (0, .double (4589468260265693457))]) hx hb dX5_bitsOf_32 rfl hl (by decide) rfl (fun ls hl => ?_)
                    refine lv_iinc (v := nI 4) (lv' := [(4, .int (nI (4))), (2, .double (4607482658775175441)), (0, .double (4589468260265693457))]) hx hb dX5_bitsOf_33 hl (k := 1) rfl (by decide) (by decide) rfl (fun ls hl => ?_)
                    refine lv_goto (tgt := 13) hx hb dX5_bitsOf_36 (by decide) ?_
                    refine lv_dload_n hx hb dX5_bitsOf_13 rfl (lv_at hl 1 rfl) ?_
                    refine lv_dconst1 hx hb dX5_bitsOf_14 ?_
                    refine n_top (y := .double 4607182418800017408) (congrArg Value.double (by decide +kernel : FP.dconst1 = (4607182418800017408 : UInt64))) ?_
                    refine lv_dcmp hx hb dX5_bitsOf_15 ?_
                    refine n_top (y := .int (nI 1)) (congrArg Value.int (by decide +kernel : Op.cmpValue (FP.dcmp 4607482658775175441 4607182418800017408) .g = nI 1)) ?_
                    refine n_if_ge (tgt := 39) hx hb dX5_bitsOf_16 (by decide) (by decide) ?_
                    refine lv_sipush (v := nI 1023) hx hb dX5_bitsOf_39 (by decide) ?_
                    refine lv_iload hx hb dX5_bitsOf_42 (lv_at hl 0 rfl) ?_
                    refine n_isub hx hb (by omega) dX5_bitsOf_44 ?_
                    refine n_i2l hx hb (by omega) dX5_bitsOf_45 ?_
                    refine lv_lstore (lv' := [(5, .long (lN (1023 - 4))), (4, .int (nI (4))), (2, .double (4607482658775175441)), (0, .double (4589468260265693457))]) hx hb dX5_bitsOf_46 hl (by decide) rfl (fun ls hl => ?_)
                    refine lv_dload_n hx hb dX5_bitsOf_48 rfl (lv_at hl 2 rfl) ?_
                    refine lv_dconst1 hx hb dX5_bitsOf_49 ?_
                    refine n_top (y := .double 4607182418800017408) (congrArg Value.double (by decide +kernel : FP.dconst1 = (4607182418800017408 : UInt64))) ?_
                    refine lv_dsub hx hb dX5_bitsOf_50 (by unfold vf_n64; decide +kernel) ?_
                    refine n_top (y := .double 4589468260265693456) (congrArg Value.double (by decide +kernel : FP.dsub 4607482658775175441 4607182418800017408 = (4589468260265693456 : UInt64))) ?_
                    refine lv_ldc2d (v := 4841369599423283200) hx hb C0.ow (C0.ts _ kw_X5_339) dX5_bitsOf_51 ?_
                    refine lv_dmul hx hb dX5_bitsOf_54 (by unfold vf_n64; decide +kernel) ?_
                    refine n_top (y := .double 4823655440888959248) (congrArg Value.double (by decide +kernel : FP.dmul 4589468260265693456 4841369599423283200 = (4823655440888959248 : UInt64))) ?_
                    refine lv_d2l hx hb dX5_bitsOf_55 ?_
                    refine n_top (y := .long (lN 300239975158033)) (congrArg Value.long (by decide +kernel : FP.d2l 4823655440888959248 = lN 300239975158033)) ?_
                    refine lv_lstore (lv' := [(7, .long (lN (300239975158033))), (5, .long (lN (1023 - 4))), (4, .int (nI (4))), (2, .double (4607482658775175441)), (0, .double (4589468260265693457))]) hx hb dX5_bitsOf_56 hl (by decide) rfl (fun ls hl => ?_)
                    refine lv_lload hx hb dX5_bitsOf_58 (lv_at hl 1 rfl) ?_
                    refine lv_bipush (v := nI 52) hx hb dX5_bitsOf_60 (by decide) ?_
                    refine lv_lshl (v := lN 4589168020290535424) hx hb dX5_bitsOf_62 (by decide +kernel) ?_
                    refine lv_lload hx hb dX5_bitsOf_63 (lv_at hl 0 rfl) ?_
                    refine n_ladd hx hb dX5_bitsOf_65 ?_
                    exact r_l C0 hr hlk hw ⟨(by decide +kernel), (fun q  => rfl)⟩ (Nat.le_refl _) (Nat.le_refl _) dX5_bitsOf_66 hQ
  · skip
    exact absurd c_3 (by decide)
set_option maxHeartbeats 4000000 in
set_option maxRecDepth 100000 in
theorem c_X5_bitsOf_4590669220166325589 (l : Launch) (G : Gl) (L : List Nat) (F : Nat → va_E) : CL l yX5_bitsOf cX5_bitsOf 9 (some .long) rm_X5_bitsOf G L F [.double (4590669220166325589)] (fun r F1 => r = (4590669220166325589 : UInt64).toInt64 ∧ ∀ q, F1 q = F q) := by
  refine CG_of (by decide) (Nat.le_of_ble_eq_true rfl) rfl ?_
  intro p e s m args below meth c Q C0 hr hlk hnm hQ hw ls hl
  have hx := C0.x
  have hb := C0.b
  refine lv_dload_n hx hb dX5_bitsOf_0 rfl (lv_at hl 0 rfl) ?_
  refine lv_dconst0 hx hb dX5_bitsOf_1 ?_
  refine n_top (y := .double 0) (congrArg Value.double (by decide +kernel : FP.dconst0 = (0 : UInt64))) ?_
  refine lv_dcmp hx hb dX5_bitsOf_2 ?_
  refine n_top (y := .int (nI 1)) (congrArg Value.int (by decide +kernel : Op.cmpValue (FP.dcmp 4590669220166325589 0) .g = nI 1)) ?_
  refine n_if_gt (tgt := 8) hx hb dX5_bitsOf_3 (by decide) (by decide) (fun c_3 => ?_) (fun c_3 => ?_)
  · skip
    refine lv_dload_n hx hb dX5_bitsOf_8 rfl (lv_at hl 0 rfl) ?_
    refine lv_dstore_n (lv' := [(2, .double (4590669220166325589)), (0, .double (4590669220166325589))]) hx hb dX5_bitsOf_9 rfl hl (by decide) rfl (fun ls hl => ?_)
    refine lv_iconst (v := nI 0) hx hb dX5_bitsOf_10 (by decide) ?_
    refine lv_istore (lv' := [(4, .int (nI (0))), (2, .double (4590669220166325589)), (0, .double (4590669220166325589))]) hx hb dX5_bitsOf_11 hl (by decide) rfl (fun ls hl => ?_)
    refine lv_dload_n hx hb dX5_bitsOf_13 rfl (lv_at hl 1 rfl) ?_
    refine lv_dconst1 hx hb dX5_bitsOf_14 ?_
    refine n_top (y := .double 4607182418800017408) (congrArg Value.double (by decide +kernel : FP.dconst1 = (4607182418800017408 : UInt64))) ?_
    refine lv_dcmp hx hb dX5_bitsOf_15 ?_
    refine n_top (y := .int ((-1))) (congrArg Value.int (by decide +kernel : Op.cmpValue (FP.dcmp 4590669220166325589 4607182418800017408) .g = (-1))) ?_
    refine lv_if_ge (tgt := 39) hx hb dX5_bitsOf_16 (by decide) (fun c_16 => ?_) (fun c_16 => ?_)
    · skip
      exact absurd c_16 (by decide)
    · skip
      refine lv_iload hx hb dX5_bitsOf_19 (lv_at hl 0 rfl) ?_
      refine lv_sipush (v := nI 1022) hx hb dX5_bitsOf_21 (by decide) ?_
      refine n_icmp_ge (tgt := 39) hx hb dX5_bitsOf_24 (by decide) (by decide) (by decide) (fun c_24 => ?_) (fun c_24 => ?_)
      · skip
        exact absurd c_24 (by omega)
      · skip
        refine lv_dload_n hx hb dX5_bitsOf_27 rfl (lv_at hl 1 rfl) ?_
        refine lv_ldc2d (v := 4611686018427387904) hx hb C0.ow (C0.ts _ kw_X5_337) dX5_bitsOf_28 ?_
        refine lv_dmul hx hb dX5_bitsOf_31 (by unfold vf_n64; decide +kernel) ?_
        refine n_top (y := .double 4595172819793696085) (congrArg Value.double (by decide +kernel : FP.dmul 4590669220166325589 4611686018427387904 = (4595172819793696085 : UInt64))) ?_
        refine lv_dstore_n (lv' := [(2, .double (4595172819793696085)), (4, .int (nI (0))), (0, .double (4590669220166325589))]) hx hb dX5_bitsOf_32 rfl hl (by decide) rfl (fun ls hl => ?_)
        refine lv_iinc (v := nI 1) (lv' := [(4, .int (nI (1))), (2, .double (4595172819793696085)), (0, .double (4590669220166325589))]) hx hb dX5_bitsOf_33 hl (k := 1) rfl (by decide) (by decide) rfl (fun ls hl => ?_)
        refine lv_goto (tgt := 13) hx hb dX5_bitsOf_36 (by decide) ?_
        refine lv_dload_n hx hb dX5_bitsOf_13 rfl (lv_at hl 1 rfl) ?_
        refine lv_dconst1 hx hb dX5_bitsOf_14 ?_
        refine n_top (y := .double 4607182418800017408) (congrArg Value.double (by decide +kernel : FP.dconst1 = (4607182418800017408 : UInt64))) ?_
        refine lv_dcmp hx hb dX5_bitsOf_15 ?_
        refine n_top (y := .int ((-1))) (congrArg Value.int (by decide +kernel : Op.cmpValue (FP.dcmp 4595172819793696085 4607182418800017408) .g = (-1))) ?_
        refine lv_if_ge (tgt := 39) hx hb dX5_bitsOf_16 (by decide) (fun c_16 => ?_) (fun c_16 => ?_)
        · skip
          exact absurd c_16 (by decide)
        · skip
          refine lv_iload hx hb dX5_bitsOf_19 (lv_at hl 0 rfl) ?_
          refine lv_sipush (v := nI 1022) hx hb dX5_bitsOf_21 (by decide) ?_
          refine n_icmp_ge (tgt := 39) hx hb dX5_bitsOf_24 (by decide) (by decide) (by decide) (fun c_24 => ?_) (fun c_24 => ?_)
          · skip
            exact absurd c_24 (by omega)
          · skip
            refine lv_dload_n hx hb dX5_bitsOf_27 rfl (lv_at hl 1 rfl) ?_
            refine lv_ldc2d (v := 4611686018427387904) hx hb C0.ow (C0.ts _ kw_X5_337) dX5_bitsOf_28 ?_
            refine lv_dmul hx hb dX5_bitsOf_31 (by unfold vf_n64; decide +kernel) ?_
            refine n_top (y := .double 4599676419421066581) (congrArg Value.double (by decide +kernel : FP.dmul 4595172819793696085 4611686018427387904 = (4599676419421066581 : UInt64))) ?_
            refine lv_dstore_n (lv' := [(2, .double (4599676419421066581)), (4, .int (nI (1))), (0, .double (4590669220166325589))]) hx hb dX5_bitsOf_32 rfl hl (by decide) rfl (fun ls hl => ?_)
            refine lv_iinc (v := nI 2) (lv' := [(4, .int (nI (2))), (2, .double (4599676419421066581)), (0, .double (4590669220166325589))]) hx hb dX5_bitsOf_33 hl (k := 1) rfl (by decide) (by decide) rfl (fun ls hl => ?_)
            refine lv_goto (tgt := 13) hx hb dX5_bitsOf_36 (by decide) ?_
            refine lv_dload_n hx hb dX5_bitsOf_13 rfl (lv_at hl 1 rfl) ?_
            refine lv_dconst1 hx hb dX5_bitsOf_14 ?_
            refine n_top (y := .double 4607182418800017408) (congrArg Value.double (by decide +kernel : FP.dconst1 = (4607182418800017408 : UInt64))) ?_
            refine lv_dcmp hx hb dX5_bitsOf_15 ?_
            refine n_top (y := .int ((-1))) (congrArg Value.int (by decide +kernel : Op.cmpValue (FP.dcmp 4599676419421066581 4607182418800017408) .g = (-1))) ?_
            refine lv_if_ge (tgt := 39) hx hb dX5_bitsOf_16 (by decide) (fun c_16 => ?_) (fun c_16 => ?_)
            · skip
              exact absurd c_16 (by decide)
            · skip
              refine lv_iload hx hb dX5_bitsOf_19 (lv_at hl 0 rfl) ?_
              refine lv_sipush (v := nI 1022) hx hb dX5_bitsOf_21 (by decide) ?_
              refine n_icmp_ge (tgt := 39) hx hb dX5_bitsOf_24 (by decide) (by decide) (by decide) (fun c_24 => ?_) (fun c_24 => ?_)
              · skip
                exact absurd c_24 (by omega)
              · skip
                refine lv_dload_n hx hb dX5_bitsOf_27 rfl (lv_at hl 1 rfl) ?_
                refine lv_ldc2d (v := 4611686018427387904) hx hb C0.ow (C0.ts _ kw_X5_337) dX5_bitsOf_28 ?_
                refine lv_dmul hx hb dX5_bitsOf_31 (by unfold vf_n64; decide +kernel) ?_
                refine n_top (y := .double 4604180019048437077) (congrArg Value.double (by decide +kernel : FP.dmul 4599676419421066581 4611686018427387904 = (4604180019048437077 : UInt64))) ?_
                refine lv_dstore_n (lv' := [(2, .double (4604180019048437077)), (4, .int (nI (2))), (0, .double (4590669220166325589))]) hx hb dX5_bitsOf_32 rfl hl (by decide) rfl (fun ls hl => ?_)
                refine lv_iinc (v := nI 3) (lv' := [(4, .int (nI (3))), (2, .double (4604180019048437077)), (0, .double (4590669220166325589))]) hx hb dX5_bitsOf_33 hl (k := 1) rfl (by decide) (by decide) rfl (fun ls hl => ?_)
                refine lv_goto (tgt := 13) hx hb dX5_bitsOf_36 (by decide) ?_
                refine lv_dload_n hx hb dX5_bitsOf_13 rfl (lv_at hl 1 rfl) ?_
                refine lv_dconst1 hx hb dX5_bitsOf_14 ?_
                refine n_top (y := .double 4607182418800017408) (congrArg Value.double (by decide +kernel : FP.dconst1 = (4607182418800017408 : UInt64))) ?_
                refine lv_dcmp hx hb dX5_bitsOf_15 ?_
                refine n_top (y := .int ((-1))) (congrArg Value.int (by decide +kernel : Op.cmpValue (FP.dcmp 4604180019048437077 4607182418800017408) .g = (-1))) ?_
                refine lv_if_ge (tgt := 39) hx hb dX5_bitsOf_16 (by decide) (fun c_16 => ?_) (fun c_16 => ?_)
                · skip
                  exact absurd c_16 (by decide)
                · skip
                  refine lv_iload hx hb dX5_bitsOf_19 (lv_at hl 0 rfl) ?_
                  refine lv_sipush (v := nI 1022) hx hb dX5_bitsOf_21 (by decide) ?_
                  refine n_icmp_ge (tgt := 39) hx hb dX5_bitsOf_24 (by decide) (by decide) (by decide) (fun c_24 => ?_) (fun c_24 => ?_)
                  · skip
                    exact absurd c_24 (by omega)
                  · skip
                    refine lv_dload_n hx hb dX5_bitsOf_27 rfl (lv_at hl 1 rfl) ?_
                    refine lv_ldc2d (v := 4611686018427387904) hx hb C0.ow (C0.ts _ kw_X5_337) dX5_bitsOf_28 ?_
                    refine lv_dmul hx hb dX5_bitsOf_31 (by unfold vf_n64; decide +kernel) ?_
                    refine n_top (y := .double 4608683618675807573) (congrArg Value.double (by decide +kernel : FP.dmul 4604180019048437077 4611686018427387904 = (4608683618675807573 : UInt64))) ?_
                    refine lv_dstore_n (lv' := [(2, .double (4608683618675807573)), (4, .int (nI (3))), (0, .double (4590669220166325589))]) hx hb dX5_bitsOf_32 rfl hl (by decide) rfl (fun ls hl => ?_)
                    refine lv_iinc (v := nI 4) (lv' := [(4, .int (nI (4))), (2, .double (4608683618675807573)), (0, .double (4590669220166325589))]) hx hb dX5_bitsOf_33 hl (k := 1) rfl (by decide) (by decide) rfl (fun ls hl => ?_)
                    refine lv_goto (tgt := 13) hx hb dX5_bitsOf_36 (by decide) ?_
                    refine lv_dload_n hx hb dX5_bitsOf_13 rfl (lv_at hl 1 rfl) ?_
                    refine lv_dconst1 hx hb dX5_bitsOf_14 ?_
                    refine n_top (y := .double 4607182418800017408) (congrArg Value.double (by decide +kernel : FP.dconst1 = (4607182418800017408 : UInt64))) ?_
                    refine lv_dcmp hx hb dX5_bitsOf_15 ?_
                    refine n_top (y := .int (nI 1)) (congrArg Value.int (by decide +kernel : Op.cmpValue (FP.dcmp 4608683618675807573 4607182418800017408) .g = nI 1)) ?_
                    refine n_if_ge (tgt := 39) hx hb dX5_bitsOf_16 (by decide) (by decide) ?_
                    refine lv_sipush (v := nI 1023) hx hb dX5_bitsOf_39 (by decide) ?_
                    refine lv_iload hx hb dX5_bitsOf_42 (lv_at hl 0 rfl) ?_
                    refine n_isub hx hb (by omega) dX5_bitsOf_44 ?_
                    refine n_i2l hx hb (by omega) dX5_bitsOf_45 ?_
                    refine lv_lstore (lv' := [(5, .long (lN (1023 - 4))), (4, .int (nI (4))), (2, .double (4608683618675807573)), (0, .double (4590669220166325589))]) hx hb dX5_bitsOf_46 hl (by decide) rfl (fun ls hl => ?_)
                    refine lv_dload_n hx hb dX5_bitsOf_48 rfl (lv_at hl 2 rfl) ?_
                    refine lv_dconst1 hx hb dX5_bitsOf_49 ?_
                    refine n_top (y := .double 4607182418800017408) (congrArg Value.double (by decide +kernel : FP.dconst1 = (4607182418800017408 : UInt64))) ?_
                    refine lv_dsub hx hb dX5_bitsOf_50 (by unfold vf_n64; decide +kernel) ?_
                    refine n_top (y := .double 4599676419421066580) (congrArg Value.double (by decide +kernel : FP.dsub 4608683618675807573 4607182418800017408 = (4599676419421066580 : UInt64))) ?_
                    refine lv_ldc2d (v := 4841369599423283200) hx hb C0.ow (C0.ts _ kw_X5_339) dX5_bitsOf_51 ?_
                    refine lv_dmul hx hb dX5_bitsOf_54 (by unfold vf_n64; decide +kernel) ?_
                    refine n_top (y := .double 4833863600044332372) (congrArg Value.double (by decide +kernel : FP.dmul 4599676419421066580 4841369599423283200 = (4833863600044332372 : UInt64))) ?_
                    refine lv_d2l hx hb dX5_bitsOf_55 ?_
                    refine n_top (y := .long (lN 1501199875790165)) (congrArg Value.long (by decide +kernel : FP.d2l 4833863600044332372 = lN 1501199875790165)) ?_
                    refine lv_lstore (lv' := [(7, .long (lN (1501199875790165))), (5, .long (lN (1023 - 4))), (4, .int (nI (4))), (2, .double (4608683618675807573)), (0, .double (4590669220166325589))]) hx hb dX5_bitsOf_56 hl (by decide) rfl (fun ls hl => ?_)
                    refine lv_lload hx hb dX5_bitsOf_58 (lv_at hl 1 rfl) ?_
                    refine lv_bipush (v := nI 52) hx hb dX5_bitsOf_60 (by decide) ?_
                    refine lv_lshl (v := lN 4589168020290535424) hx hb dX5_bitsOf_62 (by decide +kernel) ?_
                    refine lv_lload hx hb dX5_bitsOf_63 (lv_at hl 0 rfl) ?_
                    refine n_ladd hx hb dX5_bitsOf_65 ?_
                    exact r_l C0 hr hlk hw ⟨(by decide +kernel), (fun q  => rfl)⟩ (Nat.le_refl _) (Nat.le_refl _) dX5_bitsOf_66 hQ
  · skip
    exact absurd c_3 (by decide)
set_option maxHeartbeats 4000000 in
set_option maxRecDepth 100000 in
theorem c_X5_bitsOf_4591870180066957722 (l : Launch) (G : Gl) (L : List Nat) (F : Nat → va_E) : CL l yX5_bitsOf cX5_bitsOf 9 (some .long) rm_X5_bitsOf G L F [.double (4591870180066957722)] (fun r F1 => r = (4591870180066957722 : UInt64).toInt64 ∧ ∀ q, F1 q = F q) := by
  refine CG_of (by decide) (Nat.le_of_ble_eq_true rfl) rfl ?_
  intro p e s m args below meth c Q C0 hr hlk hnm hQ hw ls hl
  have hx := C0.x
  have hb := C0.b
  refine lv_dload_n hx hb dX5_bitsOf_0 rfl (lv_at hl 0 rfl) ?_
  refine lv_dconst0 hx hb dX5_bitsOf_1 ?_
  refine n_top (y := .double 0) (congrArg Value.double (by decide +kernel : FP.dconst0 = (0 : UInt64))) ?_
  refine lv_dcmp hx hb dX5_bitsOf_2 ?_
  refine n_top (y := .int (nI 1)) (congrArg Value.int (by decide +kernel : Op.cmpValue (FP.dcmp 4591870180066957722 0) .g = nI 1)) ?_
  refine n_if_gt (tgt := 8) hx hb dX5_bitsOf_3 (by decide) (by decide) (fun c_3 => ?_) (fun c_3 => ?_)
  · skip
    refine lv_dload_n hx hb dX5_bitsOf_8 rfl (lv_at hl 0 rfl) ?_
    refine lv_dstore_n (lv' := [(2, .double (4591870180066957722)), (0, .double (4591870180066957722))]) hx hb dX5_bitsOf_9 rfl hl (by decide) rfl (fun ls hl => ?_)
    refine lv_iconst (v := nI 0) hx hb dX5_bitsOf_10 (by decide) ?_
    refine lv_istore (lv' := [(4, .int (nI (0))), (2, .double (4591870180066957722)), (0, .double (4591870180066957722))]) hx hb dX5_bitsOf_11 hl (by decide) rfl (fun ls hl => ?_)
    refine lv_dload_n hx hb dX5_bitsOf_13 rfl (lv_at hl 1 rfl) ?_
    refine lv_dconst1 hx hb dX5_bitsOf_14 ?_
    refine n_top (y := .double 4607182418800017408) (congrArg Value.double (by decide +kernel : FP.dconst1 = (4607182418800017408 : UInt64))) ?_
    refine lv_dcmp hx hb dX5_bitsOf_15 ?_
    refine n_top (y := .int ((-1))) (congrArg Value.int (by decide +kernel : Op.cmpValue (FP.dcmp 4591870180066957722 4607182418800017408) .g = (-1))) ?_
    refine lv_if_ge (tgt := 39) hx hb dX5_bitsOf_16 (by decide) (fun c_16 => ?_) (fun c_16 => ?_)
    · skip
      exact absurd c_16 (by decide)
    · skip
      refine lv_iload hx hb dX5_bitsOf_19 (lv_at hl 0 rfl) ?_
      refine lv_sipush (v := nI 1022) hx hb dX5_bitsOf_21 (by decide) ?_
      refine n_icmp_ge (tgt := 39) hx hb dX5_bitsOf_24 (by decide) (by decide) (by decide) (fun c_24 => ?_) (fun c_24 => ?_)
      · skip
        exact absurd c_24 (by omega)
      · skip
        refine lv_dload_n hx hb dX5_bitsOf_27 rfl (lv_at hl 1 rfl) ?_
        refine lv_ldc2d (v := 4611686018427387904) hx hb C0.ow (C0.ts _ kw_X5_337) dX5_bitsOf_28 ?_
        refine lv_dmul hx hb dX5_bitsOf_31 (by unfold vf_n64; decide +kernel) ?_
        refine n_top (y := .double 4596373779694328218) (congrArg Value.double (by decide +kernel : FP.dmul 4591870180066957722 4611686018427387904 = (4596373779694328218 : UInt64))) ?_
        refine lv_dstore_n (lv' := [(2, .double (4596373779694328218)), (4, .int (nI (0))), (0, .double (4591870180066957722))]) hx hb dX5_bitsOf_32 rfl hl (by decide) rfl (fun ls hl => ?_)
        refine lv_iinc (v := nI 1) (lv' := [(4, .int (nI (1))), (2, .double (4596373779694328218)), (0, .double (4591870180066957722))]) hx hb dX5_bitsOf_33 hl (k := 1) rfl (by decide) (by decide) rfl (fun ls hl => ?_)
        refine lv_goto (tgt := 13) hx hb dX5_bitsOf_36 (by decide) ?_
        refine lv_dload_n hx hb dX5_bitsOf_13 rfl (lv_at hl 1 rfl) ?_
        refine lv_dconst1 hx hb dX5_bitsOf_14 ?_
        refine n_top (y := .double 4607182418800017408) (congrArg Value.double (by decide +kernel : FP.dconst1 = (4607182418800017408 : UInt64))) ?_
        refine lv_dcmp hx hb dX5_bitsOf_15 ?_
        refine n_top (y := .int ((-1))) (congrArg Value.int (by decide +kernel : Op.cmpValue (FP.dcmp 4596373779694328218 4607182418800017408) .g = (-1))) ?_
        refine lv_if_ge (tgt := 39) hx hb dX5_bitsOf_16 (by decide) (fun c_16 => ?_) (fun c_16 => ?_)
        · skip
          exact absurd c_16 (by decide)
        · skip
          refine lv_iload hx hb dX5_bitsOf_19 (lv_at hl 0 rfl) ?_
          refine lv_sipush (v := nI 1022) hx hb dX5_bitsOf_21 (by decide) ?_
          refine n_icmp_ge (tgt := 39) hx hb dX5_bitsOf_24 (by decide) (by decide) (by decide) (fun c_24 => ?_) (fun c_24 => ?_)
          · skip
            exact absurd c_24 (by omega)
          · skip
            refine lv_dload_n hx hb dX5_bitsOf_27 rfl (lv_at hl 1 rfl) ?_
            refine lv_ldc2d (v := 4611686018427387904) hx hb C0.ow (C0.ts _ kw_X5_337) dX5_bitsOf_28 ?_
            refine lv_dmul hx hb dX5_bitsOf_31 (by unfold vf_n64; decide +kernel) ?_
            refine n_top (y := .double 4600877379321698714) (congrArg Value.double (by decide +kernel : FP.dmul 4596373779694328218 4611686018427387904 = (4600877379321698714 : UInt64))) ?_
            refine lv_dstore_n (lv' := [(2, .double (4600877379321698714)), (4, .int (nI (1))), (0, .double (4591870180066957722))]) hx hb dX5_bitsOf_32 rfl hl (by decide) rfl (fun ls hl => ?_)
            refine lv_iinc (v := nI 2) (lv' := [(4, .int (nI (2))), (2, .double (4600877379321698714)), (0, .double (4591870180066957722))]) hx hb dX5_bitsOf_33 hl (k := 1) rfl (by decide) (by decide) rfl (fun ls hl => ?_)
            refine lv_goto (tgt := 13) hx hb dX5_bitsOf_36 (by decide) ?_
            refine lv_dload_n hx hb dX5_bitsOf_13 rfl (lv_at hl 1 rfl) ?_
            refine lv_dconst1 hx hb dX5_bitsOf_14 ?_
            refine n_top (y := .double 4607182418800017408) (congrArg Value.double (by decide +kernel : FP.dconst1 = (4607182418800017408 : UInt64))) ?_
            refine lv_dcmp hx hb dX5_bitsOf_15 ?_
            refine n_top (y := .int ((-1))) (congrArg Value.int (by decide +kernel : Op.cmpValue (FP.dcmp 4600877379321698714 4607182418800017408) .g = (-1))) ?_
            refine lv_if_ge (tgt := 39) hx hb dX5_bitsOf_16 (by decide) (fun c_16 => ?_) (fun c_16 => ?_)
            · skip
              exact absurd c_16 (by decide)
            · skip
              refine lv_iload hx hb dX5_bitsOf_19 (lv_at hl 0 rfl) ?_
              refine lv_sipush (v := nI 1022) hx hb dX5_bitsOf_21 (by decide) ?_
              refine n_icmp_ge (tgt := 39) hx hb dX5_bitsOf_24 (by decide) (by decide) (by decide) (fun c_24 => ?_) (fun c_24 => ?_)
              · skip
                exact absurd c_24 (by omega)
              · skip
                refine lv_dload_n hx hb dX5_bitsOf_27 rfl (lv_at hl 1 rfl) ?_
                refine lv_ldc2d (v := 4611686018427387904) hx hb C0.ow (C0.ts _ kw_X5_337) dX5_bitsOf_28 ?_
                refine lv_dmul hx hb dX5_bitsOf_31 (by unfold vf_n64; decide +kernel) ?_
                refine n_top (y := .double 4605380978949069210) (congrArg Value.double (by decide +kernel : FP.dmul 4600877379321698714 4611686018427387904 = (4605380978949069210 : UInt64))) ?_
                refine lv_dstore_n (lv' := [(2, .double (4605380978949069210)), (4, .int (nI (2))), (0, .double (4591870180066957722))]) hx hb dX5_bitsOf_32 rfl hl (by decide) rfl (fun ls hl => ?_)
                refine lv_iinc (v := nI 3) (lv' := [(4, .int (nI (3))), (2, .double (4605380978949069210)), (0, .double (4591870180066957722))]) hx hb dX5_bitsOf_33 hl (k := 1) rfl (by decide) (by decide) rfl (fun ls hl => ?_)
                refine lv_goto (tgt := 13) hx hb dX5_bitsOf_36 (by decide) ?_
                refine lv_dload_n hx hb dX5_bitsOf_13 rfl (lv_at hl 1 rfl) ?_
                refine lv_dconst1 hx hb dX5_bitsOf_14 ?_
                refine n_top (y := .double 4607182418800017408) (congrArg Value.double (by decide +kernel : FP.dconst1 = (4607182418800017408 : UInt64))) ?_
                refine lv_dcmp hx hb dX5_bitsOf_15 ?_
                refine n_top (y := .int ((-1))) (congrArg Value.int (by decide +kernel : Op.cmpValue (FP.dcmp 4605380978949069210 4607182418800017408) .g = (-1))) ?_
                refine lv_if_ge (tgt := 39) hx hb dX5_bitsOf_16 (by decide) (fun c_16 => ?_) (fun c_16 => ?_)
                · skip
                  exact absurd c_16 (by decide)
                · skip
                  refine lv_iload hx hb dX5_bitsOf_19 (lv_at hl 0 rfl) ?_
                  refine lv_sipush (v := nI 1022) hx hb dX5_bitsOf_21 (by decide) ?_
                  refine n_icmp_ge (tgt := 39) hx hb dX5_bitsOf_24 (by decide) (by decide) (by decide) (fun c_24 => ?_) (fun c_24 => ?_)
                  · skip
                    exact absurd c_24 (by omega)
                  · skip
                    refine lv_dload_n hx hb dX5_bitsOf_27 rfl (lv_at hl 1 rfl) ?_
                    refine lv_ldc2d (v := 4611686018427387904) hx hb C0.ow (C0.ts _ kw_X5_337) dX5_bitsOf_28 ?_
                    refine lv_dmul hx hb dX5_bitsOf_31 (by unfold vf_n64; decide +kernel) ?_
                    refine n_top (y := .double 4609884578576439706) (congrArg Value.double (by decide +kernel : FP.dmul 4605380978949069210 4611686018427387904 = (4609884578576439706 : UInt64))) ?_
                    refine lv_dstore_n (lv' := [(2, .double (4609884578576439706)), (4, .int (nI (3))), (0, .double (4591870180066957722))]) hx hb dX5_bitsOf_32 rfl hl (by decide) rfl (fun ls hl => ?_)
                    refine lv_iinc (v := nI 4) (lv' := [(4, .int (nI (4))), (2, .double (4609884578576439706)), (0, .double (4591870180066957722))]) hx hb dX5_bitsOf_33 hl (k := 1) rfl (by decide) (by decide) rfl (fun ls hl => ?_)
                    refine lv_goto (tgt := 13) hx hb dX5_bitsOf_36 (by decide) ?_
                    refine lv_dload_n hx hb dX5_bitsOf_13 rfl (lv_at hl 1 rfl) ?_
                    refine lv_dconst1 hx hb dX5_bitsOf_14 ?_
                    refine n_top (y := .double 4607182418800017408) (congrArg Value.double (by decide +kernel : FP.dconst1 = (4607182418800017408 : UInt64))) ?_
                    refine lv_dcmp hx hb dX5_bitsOf_15 ?_
                    refine n_top (y := .int (nI 1)) (congrArg Value.int (by decide +kernel : Op.cmpValue (FP.dcmp 4609884578576439706 4607182418800017408) .g = nI 1)) ?_
                    refine n_if_ge (tgt := 39) hx hb dX5_bitsOf_16 (by decide) (by decide) ?_
                    refine lv_sipush (v := nI 1023) hx hb dX5_bitsOf_39 (by decide) ?_
                    refine lv_iload hx hb dX5_bitsOf_42 (lv_at hl 0 rfl) ?_
                    refine n_isub hx hb (by omega) dX5_bitsOf_44 ?_
                    refine n_i2l hx hb (by omega) dX5_bitsOf_45 ?_
                    refine lv_lstore (lv' := [(5, .long (lN (1023 - 4))), (4, .int (nI (4))), (2, .double (4609884578576439706)), (0, .double (4591870180066957722))]) hx hb dX5_bitsOf_46 hl (by decide) rfl (fun ls hl => ?_)
                    refine lv_dload_n hx hb dX5_bitsOf_48 rfl (lv_at hl 2 rfl) ?_
                    refine lv_dconst1 hx hb dX5_bitsOf_49 ?_
                    refine n_top (y := .double 4607182418800017408) (congrArg Value.double (by decide +kernel : FP.dconst1 = (4607182418800017408 : UInt64))) ?_
                    refine lv_dsub hx hb dX5_bitsOf_50 (by unfold vf_n64; decide +kernel) ?_
                    refine n_top (y := .double 4603579539098121012) (congrArg Value.double (by decide +kernel : FP.dsub 4609884578576439706 4607182418800017408 = (4603579539098121012 : UInt64))) ?_
                    refine lv_ldc2d (v := 4841369599423283200) hx hb C0.ow (C0.ts _ kw_X5_339) dX5_bitsOf_51 ?_
                    refine lv_dmul hx hb dX5_bitsOf_54 (by unfold vf_n64; decide +kernel) ?_
                    refine n_top (y := .double 4837766719721386804) (congrArg Value.double (by decide +kernel : FP.dmul 4603579539098121012 4841369599423283200 = (4837766719721386804 : UInt64))) ?_
                    refine lv_d2l hx hb dX5_bitsOf_55 ?_
                    refine n_top (y := .long (lN 2702159776422298)) (congrArg Value.long (by decide +kernel : FP.d2l 4837766719721386804 = lN 2702159776422298)) ?_
                    refine lv_lstore (lv' := [(7, .long (lN (2702159776422298))), (5, .long (lN (1023 - 4))), (4, .int (nI (4))), (2, .double (4609884578576439706)), (0, .double (4591870180066957722))]) hx hb dX5_bitsOf_56 hl (by decide) rfl (fun ls hl => ?_)
                    refine lv_lload hx hb dX5_bitsOf_58 (lv_at hl 1 rfl) ?_
                    refine lv_bipush (v := nI 52) hx hb dX5_bitsOf_60 (by decide) ?_
                    refine lv_lshl (v := lN 4589168020290535424) hx hb dX5_bitsOf_62 (by decide +kernel) ?_
                    refine lv_lload hx hb dX5_bitsOf_63 (lv_at hl 0 rfl) ?_
                    refine n_ladd hx hb dX5_bitsOf_65 ?_
                    exact r_l C0 hr hlk hw ⟨(by decide +kernel), (fun q  => rfl)⟩ (Nat.le_refl _) (Nat.le_refl _) dX5_bitsOf_66 hQ
  · skip
    exact absurd c_3 (by decide)
set_option maxHeartbeats 4000000 in
set_option maxRecDepth 100000 in
theorem c_X5_bitsOf_4592670820000712476 (l : Launch) (G : Gl) (L : List Nat) (F : Nat → va_E) : CL l yX5_bitsOf cX5_bitsOf 9 (some .long) rm_X5_bitsOf G L F [.double (4592670820000712476)] (fun r F1 => r = (4592670820000712476 : UInt64).toInt64 ∧ ∀ q, F1 q = F q) := by
  refine CG_of (by decide) (Nat.le_of_ble_eq_true rfl) rfl ?_
  intro p e s m args below meth c Q C0 hr hlk hnm hQ hw ls hl
  have hx := C0.x
  have hb := C0.b
  refine lv_dload_n hx hb dX5_bitsOf_0 rfl (lv_at hl 0 rfl) ?_
  refine lv_dconst0 hx hb dX5_bitsOf_1 ?_
  refine n_top (y := .double 0) (congrArg Value.double (by decide +kernel : FP.dconst0 = (0 : UInt64))) ?_
  refine lv_dcmp hx hb dX5_bitsOf_2 ?_
  refine n_top (y := .int (nI 1)) (congrArg Value.int (by decide +kernel : Op.cmpValue (FP.dcmp 4592670820000712476 0) .g = nI 1)) ?_
  refine n_if_gt (tgt := 8) hx hb dX5_bitsOf_3 (by decide) (by decide) (fun c_3 => ?_) (fun c_3 => ?_)
  · skip
    refine lv_dload_n hx hb dX5_bitsOf_8 rfl (lv_at hl 0 rfl) ?_
    refine lv_dstore_n (lv' := [(2, .double (4592670820000712476)), (0, .double (4592670820000712476))]) hx hb dX5_bitsOf_9 rfl hl (by decide) rfl (fun ls hl => ?_)
    refine lv_iconst (v := nI 0) hx hb dX5_bitsOf_10 (by decide) ?_
    refine lv_istore (lv' := [(4, .int (nI (0))), (2, .double (4592670820000712476)), (0, .double (4592670820000712476))]) hx hb dX5_bitsOf_11 hl (by decide) rfl (fun ls hl => ?_)
    refine lv_dload_n hx hb dX5_bitsOf_13 rfl (lv_at hl 1 rfl) ?_
    refine lv_dconst1 hx hb dX5_bitsOf_14 ?_
    refine n_top (y := .double 4607182418800017408) (congrArg Value.double (by decide +kernel : FP.dconst1 = (4607182418800017408 : UInt64))) ?_
    refine lv_dcmp hx hb dX5_bitsOf_15 ?_
    refine n_top (y := .int ((-1))) (congrArg Value.int (by decide +kernel : Op.cmpValue (FP.dcmp 4592670820000712476 4607182418800017408) .g = (-1))) ?_
    refine lv_if_ge (tgt := 39) hx hb dX5_bitsOf_16 (by decide) (fun c_16 => ?_) (fun c_16 => ?_)
    · skip
      exact absurd c_16 (by decide)
    · skip
      refine lv_iload hx hb dX5_bitsOf_19 (lv_at hl 0 rfl) ?_
      refine lv_sipush (v := nI 1022) hx hb dX5_bitsOf_21 (by decide) ?_
      refine n_icmp_ge (tgt := 39) hx hb dX5_bitsOf_24 (by decide) (by decide) (by decide) (fun c_24 => ?_) (fun c_24 => ?_)
      · skip
        exact absurd c_24 (by omega)
      · skip
        refine lv_dload_n hx hb dX5_bitsOf_27 rfl (lv_at hl 1 rfl) ?_
        refine lv_ldc2d (v := 4611686018427387904) hx hb C0.ow (C0.ts _ kw_X5_337) dX5_bitsOf_28 ?_
        refine lv_dmul hx hb dX5_bitsOf_31 (by unfold vf_n64; decide +kernel) ?_
        refine n_top (y := .double 4597174419628082972) (congrArg Value.double (by decide +kernel : FP.dmul 4592670820000712476 4611686018427387904 = (4597174419628082972 : UInt64))) ?_
        refine lv_dstore_n (lv' := [(2, .double (4597174419628082972)), (4, .int (nI (0))), (0, .double (4592670820000712476))]) hx hb dX5_bitsOf_32 rfl hl (by decide) rfl (fun ls hl => ?_)
        refine lv_iinc (v := nI 1) (lv' := [(4, .int (nI (1))), (2, .double (4597174419628082972)), (0, .double (4592670820000712476))]) hx hb dX5_bitsOf_33 hl (k := 1) rfl (by decide) (by decide) rfl (fun ls hl => ?_)
        refine lv_goto (tgt := 13) hx hb dX5_bitsOf_36 (by decide) ?_
        refine lv_dload_n hx hb dX5_bitsOf_13 rfl (lv_at hl 1 rfl) ?_
        refine lv_dconst1 hx hb dX5_bitsOf_14 ?_
        refine n_top (y := .double 4607182418800017408) (congrArg Value.double (by decide +kernel : FP.dconst1 = (4607182418800017408 : UInt64))) ?_
        refine lv_dcmp hx hb dX5_bitsOf_15 ?_
        refine n_top (y := .int ((-1))) (congrArg Value.int (by decide +kernel : Op.cmpValue (FP.dcmp 4597174419628082972 4607182418800017408) .g = (-1))) ?_
        refine lv_if_ge (tgt := 39) hx hb dX5_bitsOf_16 (by decide) (fun c_16 => ?_) (fun c_16 => ?_)
        · skip
          exact absurd c_16 (by decide)
        · skip
          refine lv_iload hx hb dX5_bitsOf_19 (lv_at hl 0 rfl) ?_
          refine lv_sipush (v := nI 1022) hx hb dX5_bitsOf_21 (by decide) ?_
          refine n_icmp_ge (tgt := 39) hx hb dX5_bitsOf_24 (by decide) (by decide) (by decide) (fun c_24 => ?_) (fun c_24 => ?_)
          · skip
            exact absurd c_24 (by omega)
          · skip
            refine lv_dload_n hx hb dX5_bitsOf_27 rfl (lv_at hl 1 rfl) ?_
            refine lv_ldc2d (v := 4611686018427387904) hx hb C0.ow (C0.ts _ kw_X5_337) dX5_bitsOf_28 ?_
            refine lv_dmul hx hb dX5_bitsOf_31 (by unfold vf_n64; decide +kernel) ?_
            refine n_top (y := .double 4601678019255453468) (congrArg Value.double (by decide +kernel : FP.dmul 4597174419628082972 4611686018427387904 = (4601678019255453468 : UInt64))) ?_
            refine lv_dstore_n (lv' := [(2, .double (4601678019255453468)), (4, .int (nI (1))), (0, .double (4592670820000712476))]) hx hb dX5_bitsOf_32 rfl hl (by decide) rfl (fun ls hl => ?_)
            refine lv_iinc (v := nI 2) (lv' := [(4, .int (nI (2))), (2, .double (4601678019255453468)), (0, .double (4592670820000712476))]) hx hb dX5_bitsOf_33 hl (k := 1) rfl (by decide) (by decide) rfl (fun ls hl => ?_)
            refine lv_goto (tgt := 13) hx hb dX5_bitsOf_36 (by decide) ?_
            refine lv_dload_n hx hb dX5_bitsOf_13 rfl (lv_at hl 1 rfl) ?_
            refine lv_dconst1 hx hb dX5_bitsOf_14 ?_
            refine n_top (y := .double 4607182418800017408) (congrArg Value.double (by decide +kernel : FP.dconst1 = (4607182418800017408 : UInt64))) ?_
            refine lv_dcmp hx hb dX5_bitsOf_15 ?_
            refine n_top (y := .int ((-1))) (congrArg Value.int (by decide +kernel : Op.cmpValue (FP.dcmp 4601678019255453468 4607182418800017408) .g = (-1))) ?_
            refine lv_if_ge (tgt := 39) hx hb dX5_bitsOf_16 (by decide) (fun c_16 => ?_) (fun c_16 => ?_)
            · skip
              exact absurd c_16 (by decide)
            · skip
              refine lv_iload hx hb dX5_bitsOf_19 (lv_at hl 0 rfl) ?_
              refine lv_sipush (v := nI 1022) hx hb dX5_bitsOf_21 (by decide) ?_
              refine n_icmp_ge (tgt := 39) hx hb dX5_bitsOf_24 (by decide) (by decide) (by decide) (fun c_24 => ?_) (fun c_24 => ?_)
              · skip
                exact absurd c_24 (by omega)
              · skip
                refine lv_dload_n hx hb dX5_bitsOf_27 rfl (lv_at hl 1 rfl) ?_
                refine lv_ldc2d (v := 4611686018427387904) hx hb C0.ow (C0.ts _ kw_X5_337) dX5_bitsOf_28 ?_
                refine lv_dmul hx hb dX5_bitsOf_31 (by unfold vf_n64; decide +kernel) ?_
                refine n_top (y := .double 4606181618882823964) (congrArg Value.double (by decide +kernel : FP.dmul 4601678019255453468 4611686018427387904 = (4606181618882823964 : UInt64))) ?_
                refine lv_dstore_n (lv' := [(2, .double (4606181618882823964)), (4, .int (nI (2))), (0, .double (4592670820000712476))]) hx hb dX5_bitsOf_32 rfl hl (by decide) rfl (fun ls hl => ?_)
                refine lv_iinc (v := nI 3) (lv' := [(4, .int (nI (3))), (2, .double (4606181618882823964)), (0, .double (4592670820000712476))]) hx hb dX5_bitsOf_33 hl (k := 1) rfl (by decide) (by decide) rfl (fun ls hl => ?_)
                refine lv_goto (tgt := 13) hx hb dX5_bitsOf_36 (by decide) ?_
                refine lv_dload_n hx hb dX5_bitsOf_13 rfl (lv_at hl 1 rfl) ?_
                refine lv_dconst1 hx hb dX5_bitsOf_14 ?_
                refine n_top (y := .double 4607182418800017408) (congrArg Value.double (by decide +kernel : FP.dconst1 = (4607182418800017408 : UInt64))) ?_
                refine lv_dcmp hx hb dX5_bitsOf_15 ?_
                refine n_top (y := .int ((-1))) (congrArg Value.int (by decide +kernel : Op.cmpValue (FP.dcmp 4606181618882823964 4607182418800017408) .g = (-1))) ?_
                refine lv_if_ge (tgt := 39) hx hb dX5_bitsOf_16 (by decide) (fun c_16 => ?_) (fun c_16 => ?_)
                · skip
                  exact absurd c_16 (by decide)
                · skip
                  refine lv_iload hx hb dX5_bitsOf_19 (lv_at hl 0 rfl) ?_
                  refine lv_sipush (v := nI 1022) hx hb dX5_bitsOf_21 (by decide) ?_
                  refine n_icmp_ge (tgt := 39) hx hb dX5_bitsOf_24 (by decide) (by decide) (by decide) (fun c_24 => ?_) (fun c_24 => ?_)
                  · skip
                    exact absurd c_24 (by omega)
                  · skip
                    refine lv_dload_n hx hb dX5_bitsOf_27 rfl (lv_at hl 1 rfl) ?_
                    refine lv_ldc2d (v := 4611686018427387904) hx hb C0.ow (C0.ts _ kw_X5_337) dX5_bitsOf_28 ?_
                    refine lv_dmul hx hb dX5_bitsOf_31 (by unfold vf_n64; decide +kernel) ?_
                    refine n_top (y := .double 4610685218510194460) (congrArg Value.double (by decide +kernel : FP.dmul 4606181618882823964 4611686018427387904 = (4610685218510194460 : UInt64))) ?_
                    refine lv_dstore_n (lv' := [(2, .double (4610685218510194460)), (4, .int (nI (3))), (0, .double (4592670820000712476))]) hx hb dX5_bitsOf_32 rfl hl (by decide) rfl (fun ls hl => ?_)
                    refine lv_iinc (v := nI 4) (lv' := [(4, .int (nI (4))), (2, .double (4610685218510194460)), (0, .double (4592670820000712476))]) hx hb dX5_bitsOf_33 hl (k := 1) rfl (by decide) (by decide) rfl (fun ls hl => ?_)
                    refine lv_goto (tgt := 13) hx hb dX5_bitsOf_36 (by decide) ?_
                    refine lv_dload_n hx hb dX5_bitsOf_13 rfl (lv_at hl 1 rfl) ?_
                    refine lv_dconst1 hx hb dX5_bitsOf_14 ?_
                    refine n_top (y := .double 4607182418800017408) (congrArg Value.double (by decide +kernel : FP.dconst1 = (4607182418800017408 : UInt64))) ?_
                    refine lv_dcmp hx hb dX5_bitsOf_15 ?_
                    refine n_top (y := .int (nI 1)) (congrArg Value.int (by decide +kernel : Op.cmpValue (FP.dcmp 4610685218510194460 4607182418800017408) .g = nI 1)) ?_
                    refine n_if_ge (tgt := 39) hx hb dX5_bitsOf_16 (by decide) (by decide) ?_
                    refine lv_sipush (v := nI 1023) hx hb dX5_bitsOf_39 (by decide) ?_
                    refine lv_iload hx hb dX5_bitsOf_42 (lv_at hl 0 rfl) ?_
                    refine n_isub hx hb (by omega) dX5_bitsOf_44 ?_
                    refine n_i2l hx hb (by omega) dX5_bitsOf_45 ?_
                    refine lv_lstore (lv' := [(5, .long (lN (1023 - 4))), (4, .int (nI (4))), (2, .double (4610685218510194460)), (0, .double (4592670820000712476))]) hx hb dX5_bitsOf_46 hl (by decide) rfl (fun ls hl => ?_)
                    refine lv_dload_n hx hb dX5_bitsOf_48 rfl (lv_at hl 2 rfl) ?_
                    refine lv_dconst1 hx hb dX5_bitsOf_49 ?_
                    refine n_top (y := .double 4607182418800017408) (congrArg Value.double (by decide +kernel : FP.dconst1 = (4607182418800017408 : UInt64))) ?_
                    refine lv_dsub hx hb dX5_bitsOf_50 (by unfold vf_n64; decide +kernel) ?_
                    refine n_top (y := .double 4605180818965630520) (congrArg Value.double (by decide +kernel : FP.dsub 4610685218510194460 4607182418800017408 = (4605180818965630520 : UInt64))) ?_
                    refine lv_ldc2d (v := 4841369599423283200) hx hb C0.ow (C0.ts _ kw_X5_339) dX5_bitsOf_51 ?_
                    refine lv_dmul hx hb dX5_bitsOf_54 (by unfold vf_n64; decide +kernel) ?_
                    refine n_top (y := .double 4839367999588896312) (congrArg Value.double (by decide +kernel : FP.dmul 4605180818965630520 4841369599423283200 = (4839367999588896312 : UInt64))) ?_
                    refine lv_d2l hx hb dX5_bitsOf_55 ?_
                    refine n_top (y := .long (lN 3502799710177052)) (congrArg Value.long (by decide +kernel : FP.d2l 4839367999588896312 = lN 3502799710177052)) ?_
                    refine lv_lstore (lv' := [(7, .long (lN (3502799710177052))), (5, .long (lN (1023 - 4))), (4, .int (nI (4))), (2, .double (4610685218510194460)), (0, .double (4592670820000712476))]) hx hb dX5_bitsOf_56 hl (by decide) rfl (fun ls hl => ?_)
                    refine lv_lload hx hb dX5_bitsOf_58 (lv_at hl 1 rfl) ?_
                    refine lv_bipush (v := nI 52) hx hb dX5_bitsOf_60 (by decide) ?_
                    refine lv_lshl (v := lN 4589168020290535424) hx hb dX5_bitsOf_62 (by decide +kernel) ?_
                    refine lv_lload hx hb dX5_bitsOf_63 (lv_at hl 0 rfl) ?_
                    refine n_ladd hx hb dX5_bitsOf_65 ?_
                    exact r_l C0 hr hlk hw ⟨(by decide +kernel), (fun q  => rfl)⟩ (Nat.le_refl _) (Nat.le_refl _) dX5_bitsOf_66 hQ
  · skip
    exact absurd c_3 (by decide)
set_option maxHeartbeats 4000000 in
set_option maxRecDepth 100000 in
theorem c_X5_bitsOf_4593671619917905920 (l : Launch) (G : Gl) (L : List Nat) (F : Nat → va_E) : CL l yX5_bitsOf cX5_bitsOf 9 (some .long) rm_X5_bitsOf G L F [.double (4593671619917905920)] (fun r F1 => r = (4593671619917905920 : UInt64).toInt64 ∧ ∀ q, F1 q = F q) := by
  refine CG_of (by decide) (Nat.le_of_ble_eq_true rfl) rfl ?_
  intro p e s m args below meth c Q C0 hr hlk hnm hQ hw ls hl
  have hx := C0.x
  have hb := C0.b
  refine lv_dload_n hx hb dX5_bitsOf_0 rfl (lv_at hl 0 rfl) ?_
  refine lv_dconst0 hx hb dX5_bitsOf_1 ?_
  refine n_top (y := .double 0) (congrArg Value.double (by decide +kernel : FP.dconst0 = (0 : UInt64))) ?_
  refine lv_dcmp hx hb dX5_bitsOf_2 ?_
  refine n_top (y := .int (nI 1)) (congrArg Value.int (by decide +kernel : Op.cmpValue (FP.dcmp 4593671619917905920 0) .g = nI 1)) ?_
  refine n_if_gt (tgt := 8) hx hb dX5_bitsOf_3 (by decide) (by decide) (fun c_3 => ?_) (fun c_3 => ?_)
  · skip
    refine lv_dload_n hx hb dX5_bitsOf_8 rfl (lv_at hl 0 rfl) ?_
    refine lv_dstore_n (lv' := [(2, .double (4593671619917905920)), (0, .double (4593671619917905920))]) hx hb dX5_bitsOf_9 rfl hl (by decide) rfl (fun ls hl => ?_)
    refine lv_iconst (v := nI 0) hx hb dX5_bitsOf_10 (by decide) ?_
    refine lv_istore (lv' := [(4, .int (nI (0))), (2, .double (4593671619917905920)), (0, .double (4593671619917905920))]) hx hb dX5_bitsOf_11 hl (by decide) rfl (fun ls hl => ?_)
    refine lv_dload_n hx hb dX5_bitsOf_13 rfl (lv_at hl 1 rfl) ?_
    refine lv_dconst1 hx hb dX5_bitsOf_14 ?_
    refine n_top (y := .double 4607182418800017408) (congrArg Value.double (by decide +kernel : FP.dconst1 = (4607182418800017408 : UInt64))) ?_
    refine lv_dcmp hx hb dX5_bitsOf_15 ?_
    refine n_top (y := .int ((-1))) (congrArg Value.int (by decide +kernel : Op.cmpValue (FP.dcmp 4593671619917905920 4607182418800017408) .g = (-1))) ?_
    refine lv_if_ge (tgt := 39) hx hb dX5_bitsOf_16 (by decide) (fun c_16 => ?_) (fun c_16 => ?_)
    · skip
      exact absurd c_16 (by decide)
    · skip
      refine lv_iload hx hb dX5_bitsOf_19 (lv_at hl 0 rfl) ?_
      refine lv_sipush (v := nI 1022) hx hb dX5_bitsOf_21 (by decide) ?_
      refine n_icmp_ge (tgt := 39) hx hb dX5_bitsOf_24 (by decide) (by decide) (by decide) (fun c_24 => ?_) (fun c_24 => ?_)
      · skip
        exact absurd c_24 (by omega)
      · skip
        refine lv_dload_n hx hb dX5_bitsOf_27 rfl (lv_at hl 1 rfl) ?_
        refine lv_ldc2d (v := 4611686018427387904) hx hb C0.ow (C0.ts _ kw_X5_337) dX5_bitsOf_28 ?_
        refine lv_dmul hx hb dX5_bitsOf_31 (by unfold vf_n64; decide +kernel) ?_
        refine n_top (y := .double 4598175219545276416) (congrArg Value.double (by decide +kernel : FP.dmul 4593671619917905920 4611686018427387904 = (4598175219545276416 : UInt64))) ?_
        refine lv_dstore_n (lv' := [(2, .double (4598175219545276416)), (4, .int (nI (0))), (0, .double (4593671619917905920))]) hx hb dX5_bitsOf_32 rfl hl (by decide) rfl (fun ls hl => ?_)
        refine lv_iinc (v := nI 1) (lv' := [(4, .int (nI (1))), (2, .double (4598175219545276416)), (0, .double (4593671619917905920))]) hx hb dX5_bitsOf_33 hl (k := 1) rfl (by decide) (by decide) rfl (fun ls hl => ?_)
        refine lv_goto (tgt := 13) hx hb dX5_bitsOf_36 (by decide) ?_
        refine lv_dload_n hx hb dX5_bitsOf_13 rfl (lv_at hl 1 rfl) ?_
        refine lv_dconst1 hx hb dX5_bitsOf_14 ?_
        refine n_top (y := .double 4607182418800017408) (congrArg Value.double (by decide +kernel : FP.dconst1 = (4607182418800017408 : UInt64))) ?_
        refine lv_dcmp hx hb dX5_bitsOf_15 ?_
        refine n_top (y := .int ((-1))) (congrArg Value.int (by decide +kernel : Op.cmpValue (FP.dcmp 4598175219545276416 4607182418800017408) .g = (-1))) ?_
        refine lv_if_ge (tgt := 39) hx hb dX5_bitsOf_16 (by decide) (fun c_16 => ?_) (fun c_16 => ?_)
        · skip
          exact absurd c_16 (by decide)
        · skip
          refine lv_iload hx hb dX5_bitsOf_19 (lv_at hl 0 rfl) ?_
          refine lv_sipush (v := nI 1022) hx hb dX5_bitsOf_21 (by decide) ?_
          refine n_icmp_ge (tgt := 39) hx hb dX5_bitsOf_24 (by decide) (by decide) (by decide) (fun c_24 => ?_) (fun c_24 => ?_)
          · skip
            exact absurd c_24 (by omega)
          · skip
            refine lv_dload_n hx hb dX5_bitsOf_27 rfl (lv_at hl 1 rfl) ?_
            refine lv_ldc2d (v := 4611686018427387904) hx hb C0.ow (C0.ts _ kw_X5_337) dX5_bitsOf_28 ?_
            refine lv_dmul hx hb dX5_bitsOf_31 (by unfold vf_n64; decide +kernel) ?_
            refine n_top (y := .double 4602678819172646912) (congrArg Value.double (by decide +kernel : FP.dmul 4598175219545276416 4611686018427387904 = (4602678819172646912 : UInt64))) ?_
            refine lv_dstore_n (lv' := [(2, .double (4602678819172646912)), (4, .int (nI (1))), (0, .double (4593671619917905920))]) hx hb dX5_bitsOf_32 rfl hl (by decide) rfl (fun ls hl => ?_)
            refine lv_iinc (v := nI 2) (lv' := [(4, .int (nI (2))), (2, .double (4602678819172646912)), (0, .double (4593671619917905920))]) hx hb dX5_bitsOf_33 hl (k := 1) rfl (by decide) (by decide) rfl (fun ls hl => ?_)
            refine lv_goto (tgt := 13) hx hb dX5_bitsOf_36 (by decide) ?_
            refine lv_dload_n hx hb dX5_bitsOf_13 rfl (lv_at hl 1 rfl) ?_
            refine lv_dconst1 hx hb dX5_bitsOf_14 ?_
            refine n_top (y := .double 4607182418800017408) (congrArg Value.double (by decide +kernel : FP.dconst1 = (4607182418800017408 : UInt64))) ?_
            refine lv_dcmp hx hb dX5_bitsOf_15 ?_
            refine n_top (y := .int ((-1))) (congrArg Value.int (by decide +kernel : Op.cmpValue (FP.dcmp 4602678819172646912 4607182418800017408) .g = (-1))) ?_
            refine lv_if_ge (tgt := 39) hx hb dX5_bitsOf_16 (by decide) (fun c_16 => ?_) (fun c_16 => ?_)
            · skip
              exact absurd c_16 (by decide)
            · skip
              refine lv_iload hx hb dX5_bitsOf_19 (lv_at hl 0 rfl) ?_
              refine lv_sipush (v := nI 1022) hx hb dX5_bitsOf_21 (by decide) ?_
              refine n_icmp_ge (tgt := 39) hx hb dX5_bitsOf_24 (by decide) (by decide) (by decide) (fun c_24 => ?_) (fun c_24 => ?_)
              · skip
                exact absurd c_24 (by omega)
              · skip
                refine lv_dload_n hx hb dX5_bitsOf_27 rfl (lv_at hl 1 rfl) ?_
                refine lv_ldc2d (v := 4611686018427387904) hx hb C0.ow (C0.ts _ kw_X5_337) dX5_bitsOf_28 ?_
                refine lv_dmul hx hb dX5_bitsOf_31 (by unfold vf_n64; decide +kernel) ?_
                refine n_top (y := .double 4607182418800017408) (congrArg Value.double (by decide +kernel : FP.dmul 4602678819172646912 4611686018427387904 = (4607182418800017408 : UInt64))) ?_
                refine lv_dstore_n (lv' := [(2, .double (4607182418800017408)), (4, .int (nI (2))), (0, .double (4593671619917905920))]) hx hb dX5_bitsOf_32 rfl hl (by decide) rfl (fun ls hl => ?_)
                refine lv_iinc (v := nI 3) (lv' := [(4, .int (nI (3))), (2, .double (4607182418800017408)), (0, .double (4593671619917905920))]) hx hb dX5_bitsOf_33 hl (k := 1) rfl (by decide) (by decide) rfl (fun ls hl => ?_)
                refine lv_goto (tgt := 13) hx hb dX5_bitsOf_36 (by decide) ?_
                refine lv_dload_n hx hb dX5_bitsOf_13 rfl (lv_at hl 1 rfl) ?_
                refine lv_dconst1 hx hb dX5_bitsOf_14 ?_
                refine n_top (y := .double 4607182418800017408) (congrArg Value.double (by decide +kernel : FP.dconst1 = (4607182418800017408 : UInt64))) ?_
                refine lv_dcmp hx hb dX5_bitsOf_15 ?_
                refine n_top (y := .int (nI 0)) (congrArg Value.int (by decide +kernel : Op.cmpValue (FP.dcmp 4607182418800017408 4607182418800017408) .g = nI 0)) ?_
                refine n_if_ge (tgt := 39) hx hb dX5_bitsOf_16 (by decide) (by decide) ?_
                refine lv_sipush (v := nI 1023) hx hb dX5_bitsOf_39 (by decide) ?_
                refine lv_iload hx hb dX5_bitsOf_42 (lv_at hl 0 rfl) ?_
                refine n_isub hx hb (by omega) dX5_bitsOf_44 ?_
                refine n_i2l hx hb (by omega) dX5_bitsOf_45 ?_
                refine lv_lstore (lv' := [(5, .long (lN (1023 - 3))), (4, .int (nI (3))), (2, .double (4607182418800017408)), (0, .double (4593671619917905920))]) hx hb dX5_bitsOf_46 hl (by decide) rfl (fun ls hl => ?_)
                refine lv_dload_n hx hb dX5_bitsOf_48 rfl (lv_at hl 2 rfl) ?_
                refine lv_dconst1 hx hb dX5_bitsOf_49 ?_
                refine n_top (y := .double 4607182418800017408) (congrArg Value.double (by decide +kernel : FP.dconst1 = (4607182418800017408 : UInt64))) ?_
                refine lv_dsub hx hb dX5_bitsOf_50 (by unfold vf_n64; decide +kernel) ?_
                refine n_top (y := .double 0) (congrArg Value.double (by decide +kernel : FP.dsub 4607182418800017408 4607182418800017408 = (0 : UInt64))) ?_
                refine lv_ldc2d (v := 4841369599423283200) hx hb C0.ow (C0.ts _ kw_X5_339) dX5_bitsOf_51 ?_
                refine lv_dmul hx hb dX5_bitsOf_54 (by unfold vf_n64; decide +kernel) ?_
                refine n_top (y := .double 0) (congrArg Value.double (by decide +kernel : FP.dmul 0 4841369599423283200 = (0 : UInt64))) ?_
                refine lv_d2l hx hb dX5_bitsOf_55 ?_
                refine n_top (y := .long (lN 0)) (congrArg Value.long (by decide +kernel : FP.d2l 0 = lN 0)) ?_
                refine lv_lstore (lv' := [(7, .long (lN (0))), (5, .long (lN (1023 - 3))), (4, .int (nI (3))), (2, .double (4607182418800017408)), (0, .double (4593671619917905920))]) hx hb dX5_bitsOf_56 hl (by decide) rfl (fun ls hl => ?_)
                refine lv_lload hx hb dX5_bitsOf_58 (lv_at hl 1 rfl) ?_
                refine lv_bipush (v := nI 52) hx hb dX5_bitsOf_60 (by decide) ?_
                refine lv_lshl (v := lN 4593671619917905920) hx hb dX5_bitsOf_62 (by decide +kernel) ?_
                refine lv_lload hx hb dX5_bitsOf_63 (lv_at hl 0 rfl) ?_
                refine n_ladd hx hb dX5_bitsOf_65 ?_
                exact r_l C0 hr hlk hw ⟨(by decide +kernel), (fun q  => rfl)⟩ (Nat.le_refl _) (Nat.le_refl _) dX5_bitsOf_66 hQ
  · skip
    exact absurd c_3 (by decide)
set_option maxHeartbeats 4000000 in
set_option maxRecDepth 100000 in
theorem c_X5_bitsOf_4593971859893063953 (l : Launch) (G : Gl) (L : List Nat) (F : Nat → va_E) : CL l yX5_bitsOf cX5_bitsOf 9 (some .long) rm_X5_bitsOf G L F [.double (4593971859893063953)] (fun r F1 => r = (4593971859893063953 : UInt64).toInt64 ∧ ∀ q, F1 q = F q) := by
  refine CG_of (by decide) (Nat.le_of_ble_eq_true rfl) rfl ?_
  intro p e s m args below meth c Q C0 hr hlk hnm hQ hw ls hl
  have hx := C0.x
  have hb := C0.b
  refine lv_dload_n hx hb dX5_bitsOf_0 rfl (lv_at hl 0 rfl) ?_
  refine lv_dconst0 hx hb dX5_bitsOf_1 ?_
  refine n_top (y := .double 0) (congrArg Value.double (by decide +kernel : FP.dconst0 = (0 : UInt64))) ?_
  refine lv_dcmp hx hb dX5_bitsOf_2 ?_
  refine n_top (y := .int (nI 1)) (congrArg Value.int (by decide +kernel : Op.cmpValue (FP.dcmp 4593971859893063953 0) .g = nI 1)) ?_
  refine n_if_gt (tgt := 8) hx hb dX5_bitsOf_3 (by decide) (by decide) (fun c_3 => ?_) (fun c_3 => ?_)
  · skip
    refine lv_dload_n hx hb dX5_bitsOf_8 rfl (lv_at hl 0 rfl) ?_
    refine lv_dstore_n (lv' := [(2, .double (4593971859893063953)), (0, .double (4593971859893063953))]) hx hb dX5_bitsOf_9 rfl hl (by decide) rfl (fun ls hl => ?_)
    refine lv_iconst (v := nI 0) hx hb dX5_bitsOf_10 (by decide) ?_
    refine lv_istore (lv' := [(4, .int (nI (0))), (2, .double (4593971859893063953)), (0, .double (4593971859893063953))]) hx hb dX5_bitsOf_11 hl (by decide) rfl (fun ls hl => ?_)
    refine lv_dload_n hx hb dX5_bitsOf_13 rfl (lv_at hl 1 rfl) ?_
    refine lv_dconst1 hx hb dX5_bitsOf_14 ?_
    refine n_top (y := .double 4607182418800017408) (congrArg Value.double (by decide +kernel : FP.dconst1 = (4607182418800017408 : UInt64))) ?_
    refine lv_dcmp hx hb dX5_bitsOf_15 ?_
    refine n_top (y := .int ((-1))) (congrArg Value.int (by decide +kernel : Op.cmpValue (FP.dcmp 4593971859893063953 4607182418800017408) .g = (-1))) ?_
    refine lv_if_ge (tgt := 39) hx hb dX5_bitsOf_16 (by decide) (fun c_16 => ?_) (fun c_16 => ?_)
    · skip
      exact absurd c_16 (by decide)
    · skip
      refine lv_iload hx hb dX5_bitsOf_19 (lv_at hl 0 rfl) ?_
      refine lv_sipush (v := nI 1022) hx hb dX5_bitsOf_21 (by decide) ?_
      refine n_icmp_ge (tgt := 39) hx hb dX5_bitsOf_24 (by decide) (by decide) (by decide) (fun c_24 => ?_) (fun c_24 => ?_)
      · skip
        exact absurd c_24 (by omega)
      · skip
        refine lv_dload_n hx hb dX5_bitsOf_27 rfl (lv_at hl 1 rfl) ?_
        refine lv_ldc2d (v := 4611686018427387904) hx hb C0.ow (C0.ts _ kw_X5_337) dX5_bitsOf_28 ?_
        refine lv_dmul hx hb dX5_bitsOf_31 (by unfold vf_n64; decide +kernel) ?_
        refine n_top (y := .double 4598475459520434449) (congrArg Value.double (by decide +kernel : FP.dmul 4593971859893063953 4611686018427387904 = (4598475459520434449 : UInt64))) ?_
        refine lv_dstore_n (lv' := [(2, .double (4598475459520434449)), (4, .int (nI (0))), (0, .double (4593971859893063953))]) hx hb dX5_bitsOf_32 rfl hl (by decide) rfl (fun ls hl => ?_)
        refine lv_iinc (v := nI 1) (lv' := [(4, .int (nI (1))), (2, .double (4598475459520434449)), (0, .double (4593971859893063953))]) hx hb dX5_bitsOf_33 hl (k := 1) rfl (by decide) (by decide) rfl (fun ls hl => ?_)
        refine lv_goto (tgt := 13) hx hb dX5_bitsOf_36 (by decide) ?_
        refine lv_dload_n hx hb dX5_bitsOf_13 rfl (lv_at hl 1 rfl) ?_
        refine lv_dconst1 hx hb dX5_bitsOf_14 ?_
        refine n_top (y := .double 4607182418800017408) (congrArg Value.double (by decide +kernel : FP.dconst1 = (4607182418800017408 : UInt64))) ?_
        refine lv_dcmp hx hb dX5_bitsOf_15 ?_
        refine n_top (y := .int ((-1))) (congrArg Value.int (by decide +kernel : Op.cmpValue (FP.dcmp 4598475459520434449 4607182418800017408) .g = (-1))) ?_
        refine lv_if_ge (tgt := 39) hx hb dX5_bitsOf_16 (by decide) (fun c_16 => ?_) (fun c_16 => ?_)
        · skip
          exact absurd c_16 (by decide)
        · skip
          refine lv_iload hx hb dX5_bitsOf_19 (lv_at hl 0 rfl) ?_
          refine lv_sipush (v := nI 1022) hx hb dX5_bitsOf_21 (by decide) ?_
          refine n_icmp_ge (tgt := 39) hx hb dX5_bitsOf_24 (by decide) (by decide) (by decide) (fun c_24 => ?_) (fun c_24 => ?_)
          · skip
            exact absurd c_24 (by omega)
          · skip
            refine lv_dload_n hx hb dX5_bitsOf_27 rfl (lv_at hl 1 rfl) ?_
            refine lv_ldc2d (v := 4611686018427387904) hx hb C0.ow (C0.ts _ kw_X5_337) dX5_bitsOf_28 ?_
            refine lv_dmul hx hb dX5_bitsOf_31 (by unfold vf_n64; decide +kernel) ?_
            refine n_top (y := .double 4602979059147804945) (congrArg Value.double (by decide +kernel : FP.dmul 4598475459520434449 4611686018427387904 = (4602979059147804945 : UInt64))) ?_
            refine lv_dstore_n (lv' := [(2, .double (4602979059147804945)), (4, .int (nI (1))), (0, .double (4593971859893063953))]) hx hb dX5_bitsOf_32 rfl hl (by decide) rfl (fun ls hl => ?_)
            refine lv_iinc (v := nI 2) (lv' := [(4, .int (nI (2))), (2, .double (4602979059147804945)), (0, .double (4593971859893063953))]) hx hb dX5_bitsOf_33 hl (k := 1) rfl (by decide) (by decide) rfl (fun ls hl => ?_)
            refine lv_goto (tgt := 13) hx hb dX5_bitsOf_36 (by decide) ?_
            refine lv_dload_n hx hb dX5_bitsOf_13 rfl (lv_at hl 1 rfl) ?_
            refine lv_dconst1 hx hb dX5_bitsOf_14 ?_
            refine n_top (y := .double 4607182418800017408) (congrArg Value.double (by decide +kernel : FP.dconst1 = (4607182418800017408 : UInt64))) ?_
            refine lv_dcmp hx hb dX5_bitsOf_15 ?_
            refine n_top (y := .int ((-1))) (congrArg Value.int (by decide +kernel : Op.cmpValue (FP.dcmp 4602979059147804945 4607182418800017408) .g = (-1))) ?_
            refine lv_if_ge (tgt := 39) hx hb dX5_bitsOf_16 (by decide) (fun c_16 => ?_) (fun c_16 => ?_)
            · skip
              exact absurd c_16 (by decide)
            · skip
              refine lv_iload hx hb dX5_bitsOf_19 (lv_at hl 0 rfl) ?_
              refine lv_sipush (v := nI 1022) hx hb dX5_bitsOf_21 (by decide) ?_
              refine n_icmp_ge (tgt := 39) hx hb dX5_bitsOf_24 (by decide) (by decide) (by decide) (fun c_24 => ?_) (fun c_24 => ?_)
              · skip
                exact absurd c_24 (by omega)
              · skip
                refine lv_dload_n hx hb dX5_bitsOf_27 rfl (lv_at hl 1 rfl) ?_
                refine lv_ldc2d (v := 4611686018427387904) hx hb C0.ow (C0.ts _ kw_X5_337) dX5_bitsOf_28 ?_
                refine lv_dmul hx hb dX5_bitsOf_31 (by unfold vf_n64; decide +kernel) ?_
                refine n_top (y := .double 4607482658775175441) (congrArg Value.double (by decide +kernel : FP.dmul 4602979059147804945 4611686018427387904 = (4607482658775175441 : UInt64))) ?_
                refine lv_dstore_n (lv' := [(2, .double (4607482658775175441)), (4, .int (nI (2))), (0, .double (4593971859893063953))]) hx hb dX5_bitsOf_32 rfl hl (by decide) rfl (fun ls hl => ?_)
                refine lv_iinc (v := nI 3) (lv' := [(4, .int (nI (3))), (2, .double (4607482658775175441)), (0, .double (4593971859893063953))]) hx hb dX5_bitsOf_33 hl (k := 1) rfl (by decide) (by decide) rfl (fun ls hl => ?_)
                refine lv_goto (tgt := 13) hx hb dX5_bitsOf_36 (by decide) ?_
                refine lv_dload_n hx hb dX5_bitsOf_13 rfl (lv_at hl 1 rfl) ?_
                refine lv_dconst1 hx hb dX5_bitsOf_14 ?_
                refine n_top (y := .double 4607182418800017408) (congrArg Value.double (by decide +kernel : FP.dconst1 = (4607182418800017408 : UInt64))) ?_
                refine lv_dcmp hx hb dX5_bitsOf_15 ?_
                refine n_top (y := .int (nI 1)) (congrArg Value.int (by decide +kernel : Op.cmpValue (FP.dcmp 4607482658775175441 4607182418800017408) .g = nI 1)) ?_
                refine n_if_ge (tgt := 39) hx hb dX5_bitsOf_16 (by decide) (by decide) ?_
                refine lv_sipush (v := nI 1023) hx hb dX5_bitsOf_39 (by decide) ?_
                refine lv_iload hx hb dX5_bitsOf_42 (lv_at hl 0 rfl) ?_
                refine n_isub hx hb (by omega) dX5_bitsOf_44 ?_
                refine n_i2l hx hb (by omega) dX5_bitsOf_45 ?_
                refine lv_lstore (lv' := [(5, .long (lN (1023 - 3))), (4, .int (nI (3))), (2, .double (4607482658775175441)), (0, .double (4593971859893063953))]) hx hb dX5_bitsOf_46 hl (by decide) rfl (fun ls hl => ?_)
                refine lv_dload_n hx hb dX5_bitsOf_48 rfl (lv_at hl 2 rfl) ?_
                refine lv_dconst1 hx hb dX5_bitsOf_49 ?_
                refine n_top (y := .double 4607182418800017408) (congrArg Value.double (by decide +kernel : FP.dconst1 = (4607182418800017408 : UInt64))) ?_
                refine lv_dsub hx hb dX5_bitsOf_50 (by unfold vf_n64; decide +kernel) ?_
                refine n_top (y := .double 4589468260265693456) (congrArg Value.double (by decide +kernel : FP.dsub 4607482658775175441 4607182418800017408 = (4589468260265693456 : UInt64))) ?_
                refine lv_ldc2d (v := 4841369599423283200) hx hb C0.ow (C0.ts _ kw_X5_339) dX5_bitsOf_51 ?_
                refine lv_dmul hx hb dX5_bitsOf_54 (by unfold vf_n64; decide +kernel) ?_
                refine n_top (y := .double 4823655440888959248) (congrArg Value.double (by decide +kernel : FP.dmul 4589468260265693456 4841369599423283200 = (4823655440888959248 : UInt64))) ?_
                refine lv_d2l hx hb dX5_bitsOf_55 ?_
                refine n_top (y := .long (lN 300239975158033)) (congrArg Value.long (by decide +kernel : FP.d2l 4823655440888959248 = lN 300239975158033)) ?_
                refine lv_lstore (lv' := [(7, .long (lN (300239975158033))), (5, .long (lN (1023 - 3))), (4, .int (nI (3))), (2, .double (4607482658775175441)), (0, .double (4593971859893063953))]) hx hb dX5_bitsOf_56 hl (by decide) rfl (fun ls hl => ?_)
                refine lv_lload hx hb dX5_bitsOf_58 (lv_at hl 1 rfl) ?_
                refine lv_bipush (v := nI 52) hx hb dX5_bitsOf_60 (by decide) ?_
                refine lv_lshl (v := lN 4593671619917905920) hx hb dX5_bitsOf_62 (by decide +kernel) ?_
                refine lv_lload hx hb dX5_bitsOf_63 (lv_at hl 0 rfl) ?_
                refine n_ladd hx hb dX5_bitsOf_65 ?_
                exact r_l C0 hr hlk hw ⟨(by decide +kernel), (fun q  => rfl)⟩ (Nat.le_refl _) (Nat.le_refl _) dX5_bitsOf_66 hQ
  · skip
    exact absurd c_3 (by decide)
set_option maxHeartbeats 4000000 in
set_option maxRecDepth 100000 in
theorem c_X5_bitsOf_4595172819793696085 (l : Launch) (G : Gl) (L : List Nat) (F : Nat → va_E) : CL l yX5_bitsOf cX5_bitsOf 9 (some .long) rm_X5_bitsOf G L F [.double (4595172819793696085)] (fun r F1 => r = (4595172819793696085 : UInt64).toInt64 ∧ ∀ q, F1 q = F q) := by
  refine CG_of (by decide) (Nat.le_of_ble_eq_true rfl) rfl ?_
  intro p e s m args below meth c Q C0 hr hlk hnm hQ hw ls hl
  have hx := C0.x
  have hb := C0.b
  refine lv_dload_n hx hb dX5_bitsOf_0 rfl (lv_at hl 0 rfl) ?_
  refine lv_dconst0 hx hb dX5_bitsOf_1 ?_
  refine n_top (y := .double 0) (congrArg Value.double (by decide +kernel : FP.dconst0 = (0 : UInt64))) ?_
  refine lv_dcmp hx hb dX5_bitsOf_2 ?_
  refine n_top (y := .int (nI 1)) (congrArg Value.int (by decide +kernel : Op.cmpValue (FP.dcmp 4595172819793696085 0) .g = nI 1)) ?_
  refine n_if_gt (tgt := 8) hx hb dX5_bitsOf_3 (by decide) (by decide) (fun c_3 => ?_) (fun c_3 => ?_)
  · skip
    refine lv_dload_n hx hb dX5_bitsOf_8 rfl (lv_at hl 0 rfl) ?_
    refine lv_dstore_n (lv' := [(2, .double (4595172819793696085)), (0, .double (4595172819793696085))]) hx hb dX5_bitsOf_9 rfl hl (by decide) rfl (fun ls hl => ?_)
    refine lv_iconst (v := nI 0) hx hb dX5_bitsOf_10 (by decide) ?_
    refine lv_istore (lv' := [(4, .int (nI (0))), (2, .double (4595172819793696085)), (0, .double (4595172819793696085))]) hx hb dX5_bitsOf_11 hl (by decide) rfl (fun ls hl => ?_)
    refine lv_dload_n hx hb dX5_bitsOf_13 rfl (lv_at hl 1 rfl) ?_
    refine lv_dconst1 hx hb dX5_bitsOf_14 ?_
    refine n_top (y := .double 4607182418800017408) (congrArg Value.double (by decide +kernel : FP.dconst1 = (4607182418800017408 : UInt64))) ?_
    refine lv_dcmp hx hb dX5_bitsOf_15 ?_
    refine n_top (y := .int ((-1))) (congrArg Value.int (by decide +kernel : Op.cmpValue (FP.dcmp 4595172819793696085 4607182418800017408) .g = (-1))) ?_
    refine lv_if_ge (tgt := 39) hx hb dX5_bitsOf_16 (by decide) (fun c_16 => ?_) (fun c_16 => ?_)
    · skip
      exact absurd c_16 (by decide)
    · skip
      refine lv_iload hx hb dX5_bitsOf_19 (lv_at hl 0 rfl) ?_
      refine lv_sipush (v := nI 1022) hx hb dX5_bitsOf_21 (by decide) ?_
      refine n_icmp_ge (tgt := 39) hx hb dX5_bitsOf_24 (by decide) (by decide) (by decide) (fun c_24 => ?_) (fun c_24 => ?_)
      · skip
        exact absurd c_24 (by omega)
      · skip
        refine lv_dload_n hx hb dX5_bitsOf_27 rfl (lv_at hl 1 rfl) ?_
        refine lv_ldc2d (v := 4611686018427387904) hx hb C0.ow (C0.ts _ kw_X5_337) dX5_bitsOf_28 ?_
        refine lv_dmul hx hb dX5_bitsOf_31 (by unfold vf_n64; decide +kernel) ?_
        refine n_top (y := .double 4599676419421066581) (congrArg Value.double (by decide +kernel : FP.dmul 4595172819793696085 4611686018427387904 = (4599676419421066581 : UInt64))) ?_
        refine lv_dstore_n (lv' := [(2, .double (4599676419421066581)), (4, .int (nI (0))), (0, .double (4595172819793696085))]) hx hb dX5_bitsOf_32 rfl hl (by decide) rfl (fun ls hl => ?_)
        refine lv_iinc (v := nI 1) (lv' := [(4, .int (nI (1))), (2, .double (4599676419421066581)), (0, .double (4595172819793696085))]) hx hb dX5_bitsOf_33 hl (k := 1) rfl (by decide) (by decide) rfl (fun ls hl => ?_)
        refine lv_goto (tgt := 13) hx hb dX5_bitsOf_36 (by decide) ?_
        refine lv_dload_n hx hb dX5_bitsOf_13 rfl (lv_at hl 1 rfl) ?_
        refine lv_dconst1 hx hb dX5_bitsOf_14 ?_
        refine n_top (y := .double 4607182418800017408) (congrArg Value.double (by decide +kernel : FP.dconst1 = (4607182418800017408 : UInt64))) ?_
        refine lv_dcmp hx hb dX5_bitsOf_15 ?_
        refine n_top (y := .int ((-1))) (congrArg Value.int (by decide +kernel : Op.cmpValue (FP.dcmp 4599676419421066581 4607182418800017408) .g = (-1))) ?_
        refine lv_if_ge (tgt := 39) hx hb dX5_bitsOf_16 (by decide) (fun c_16 => ?_) (fun c_16 => ?_)
        · skip
          exact absurd c_16 (by decide)
        · skip
          refine lv_iload hx hb dX5_bitsOf_19 (lv_at hl 0 rfl) ?_
          refine lv_sipush (v := nI 1022) hx hb dX5_bitsOf_21 (by decide) ?_
          refine n_icmp_ge (tgt := 39) hx hb dX5_bitsOf_24 (by decide) (by decide) (by decide) (fun c_24 => ?_) (fun c_24 => ?_)
          · skip
            exact absurd c_24 (by omega)
          · skip
            refine lv_dload_n hx hb dX5_bitsOf_27 rfl (lv_at hl 1 rfl) ?_
            refine lv_ldc2d (v := 4611686018427387904) hx hb C0.ow (C0.ts _ kw_X5_337) dX5_bitsOf_28 ?_
            refine lv_dmul hx hb dX5_bitsOf_31 (by unfold vf_n64; decide +kernel) ?_
            refine n_top (y := .double 4604180019048437077) (congrArg Value.double (by decide +kernel : FP.dmul 4599676419421066581 4611686018427387904 = (4604180019048437077 : UInt64))) ?_
            refine lv_dstore_n (lv' := [(2, .double (4604180019048437077)), (4, .int (nI (1))), (0, .double (4595172819793696085))]) hx hb dX5_bitsOf_32 rfl hl (by decide) rfl (fun ls hl => ?_)
            refine lv_iinc (v := nI 2) (lv' := [(4, .int (nI (2))), (2, .double (4604180019048437077)), (0, .double (4595172819793696085))]) hx hb dX5_bitsOf_33 hl (k := 1) rfl (by decide) (by decide) rfl (fun ls hl => ?_)
            refine lv_goto (tgt := 13) hx hb dX5_bitsOf_36 (by decide) ?_
            refine lv_dload_n hx hb dX5_bitsOf_13 rfl (lv_at hl 1 rfl) ?_
            refine lv_dconst1 hx hb dX5_bitsOf_14 ?_
            refine n_top (y := .double 4607182418800017408) (congrArg Value.double (by decide +kernel : FP.dconst1 = (4607182418800017408 : UInt64))) ?_
            refine lv_dcmp hx hb dX5_bitsOf_15 ?_
            refine n_top (y := .int ((-1))) (congrArg Value.int (by decide +kernel : Op.cmpValue (FP.dcmp 4604180019048437077 4607182418800017408) .g = (-1))) ?_
            refine lv_if_ge (tgt := 39) hx hb dX5_bitsOf_16 (by decide) (fun c_16 => ?_) (fun c_16 => ?_)
            · skip
              exact absurd c_16 (by decide)
            · skip
              refine lv_iload hx hb dX5_bitsOf_19 (lv_at hl 0 rfl) ?_
              refine lv_sipush (v := nI 1022) hx hb dX5_bitsOf_21 (by decide) ?_
              refine n_icmp_ge (tgt := 39) hx hb dX5_bitsOf_24 (by decide) (by decide) (by decide) (fun c_24 => ?_) (fun c_24 => ?_)
              · skip
                exact absurd c_24 (by omega)
              · skip
                refine lv_dload_n hx hb dX5_bitsOf_27 rfl (lv_at hl 1 rfl) ?_
                refine lv_ldc2d (v := 4611686018427387904) hx hb C0.ow (C0.ts _ kw_X5_337) dX5_bitsOf_28 ?_
                refine lv_dmul hx hb dX5_bitsOf_31 (by unfold vf_n64; decide +kernel) ?_
                refine n_top (y := .double 4608683618675807573) (congrArg Value.double (by decide +kernel : FP.dmul 4604180019048437077 4611686018427387904 = (4608683618675807573 : UInt64))) ?_
                refine lv_dstore_n (lv' := [(2, .double (4608683618675807573)), (4, .int (nI (2))), (0, .double (4595172819793696085))]) hx hb dX5_bitsOf_32 rfl hl (by decide) rfl (fun ls hl => ?_)
                refine lv_iinc (v := nI 3) (lv' := [(4, .int (nI (3))), (2, .double (4608683618675807573)), (0, .double (4595172819793696085))]) hx hb dX5_bitsOf_33 hl (k := 1) rfl (by decide) (by decide) rfl (fun ls hl => ?_)
                refine lv_goto (tgt := 13) hx hb dX5_bitsOf_36 (by decide) ?_
                refine lv_dload_n hx hb dX5_bitsOf_13 rfl (lv_at hl 1 rfl) ?_
                refine lv_dconst1 hx hb dX5_bitsOf_14 ?_
                refine n_top (y := .double 4607182418800017408) (congrArg Value.double (by decide +kernel : FP.dconst1 = (4607182418800017408 : UInt64))) ?_
                refine lv_dcmp hx hb dX5_bitsOf_15 ?_
                refine n_top (y := .int (nI 1)) (congrArg Value.int (by decide +kernel : Op.cmpValue (FP.dcmp 4608683618675807573 4607182418800017408) .g = nI 1)) ?_
                refine n_if_ge (tgt := 39) hx hb dX5_bitsOf_16 (by decide) (by decide) ?_
                refine lv_sipush (v := nI 1023) hx hb dX5_bitsOf_39 (by decide) ?_
                refine lv_iload hx hb dX5_bitsOf_42 (lv_at hl 0 rfl) ?_
                refine n_isub hx hb (by omega) dX5_bitsOf_44 ?_
                refine n_i2l hx hb (by omega) dX5_bitsOf_45 ?_
                refine lv_lstore (lv' := [(5, .long (lN (1023 - 3))), (4, .int (nI (3))), (2, .double (4608683618675807573)), (0, .double (4595172819793696085))]) hx hb dX5_bitsOf_46 hl (by decide) rfl (fun ls hl => ?_)
                refine lv_dload_n hx hb dX5_bitsOf_48 rfl (lv_at hl 2 rfl) ?_
                refine lv_dconst1 hx hb dX5_bitsOf_49 ?_
                refine n_top (y := .double 4607182418800017408) (congrArg Value.double (by decide +kernel : FP.dconst1 = (4607182418800017408 : UInt64))) ?_
                refine lv_dsub hx hb dX5_bitsOf_50 (by unfold vf_n64; decide +kernel) ?_
                refine n_top (y := .double 4599676419421066580) (congrArg Value.double (by decide +kernel : FP.dsub 4608683618675807573 4607182418800017408 = (4599676419421066580 : UInt64))) ?_
                refine lv_ldc2d (v := 4841369599423283200) hx hb C0.ow (C0.ts _ kw_X5_339) dX5_bitsOf_51 ?_
                refine lv_dmul hx hb dX5_bitsOf_54 (by unfold vf_n64; decide +kernel) ?_
                refine n_top (y := .double 4833863600044332372) (congrArg Value.double (by decide +kernel : FP.dmul 4599676419421066580 4841369599423283200 = (4833863600044332372 : UInt64))) ?_
                refine lv_d2l hx hb dX5_bitsOf_55 ?_
                refine n_top (y := .long (lN 1501199875790165)) (congrArg Value.long (by decide +kernel : FP.d2l 4833863600044332372 = lN 1501199875790165)) ?_
                refine lv_lstore (lv' := [(7, .long (lN (1501199875790165))), (5, .long (lN (1023 - 3))), (4, .int (nI (3))), (2, .double (4608683618675807573)), (0, .double (4595172819793696085))]) hx hb dX5_bitsOf_56 hl (by decide) rfl (fun ls hl => ?_)
                refine lv_lload hx hb dX5_bitsOf_58 (lv_at hl 1 rfl) ?_
                refine lv_bipush (v := nI 52) hx hb dX5_bitsOf_60 (by decide) ?_
                refine lv_lshl (v := lN 4593671619917905920) hx hb dX5_bitsOf_62 (by decide +kernel) ?_
                refine lv_lload hx hb dX5_bitsOf_63 (lv_at hl 0 rfl) ?_
                refine n_ladd hx hb dX5_bitsOf_65 ?_
                exact r_l C0 hr hlk hw ⟨(by decide +kernel), (fun q  => rfl)⟩ (Nat.le_refl _) (Nat.le_refl _) dX5_bitsOf_66 hQ
  · skip
    exact absurd c_3 (by decide)
set_option maxHeartbeats 4000000 in
set_option maxRecDepth 100000 in
theorem c_X5_bitsOf_4596373779694328218 (l : Launch) (G : Gl) (L : List Nat) (F : Nat → va_E) : CL l yX5_bitsOf cX5_bitsOf 9 (some .long) rm_X5_bitsOf G L F [.double (4596373779694328218)] (fun r F1 => r = (4596373779694328218 : UInt64).toInt64 ∧ ∀ q, F1 q = F q) := by
  refine CG_of (by decide) (Nat.le_of_ble_eq_true rfl) rfl ?_
  intro p e s m args below meth c Q C0 hr hlk hnm hQ hw ls hl
  have hx := C0.x
  have hb := C0.b
  refine lv_dload_n hx hb dX5_bitsOf_0 rfl (lv_at hl 0 rfl) ?_
  refine lv_dconst0 hx hb dX5_bitsOf_1 ?_
  refine n_top (y := .double 0) (congrArg Value.double (by decide +kernel : FP.dconst0 = (0 : UInt64))) ?_
  refine lv_dcmp hx hb dX5_bitsOf_2 ?_
  refine n_top (y := .int (nI 1)) (congrArg Value.int (by decide +kernel : Op.cmpValue (FP.dcmp 4596373779694328218 0) .g = nI 1)) ?_
  refine n_if_gt (tgt := 8) hx hb dX5_bitsOf_3 (by decide) (by decide) (fun c_3 => ?_) (fun c_3 => ?_)
  · skip
    refine lv_dload_n hx hb dX5_bitsOf_8 rfl (lv_at hl 0 rfl) ?_
    refine lv_dstore_n (lv' := [(2, .double (4596373779694328218)), (0, .double (4596373779694328218))]) hx hb dX5_bitsOf_9 rfl hl (by decide) rfl (fun ls hl => ?_)
    refine lv_iconst (v := nI 0) hx hb dX5_bitsOf_10 (by decide) ?_
    refine lv_istore (lv' := [(4, .int (nI (0))), (2, .double (4596373779694328218)), (0, .double (4596373779694328218))]) hx hb dX5_bitsOf_11 hl (by decide) rfl (fun ls hl => ?_)
    refine lv_dload_n hx hb dX5_bitsOf_13 rfl (lv_at hl 1 rfl) ?_
    refine lv_dconst1 hx hb dX5_bitsOf_14 ?_
    refine n_top (y := .double 4607182418800017408) (congrArg Value.double (by decide +kernel : FP.dconst1 = (4607182418800017408 : UInt64))) ?_
    refine lv_dcmp hx hb dX5_bitsOf_15 ?_
    refine n_top (y := .int ((-1))) (congrArg Value.int (by decide +kernel : Op.cmpValue (FP.dcmp 4596373779694328218 4607182418800017408) .g = (-1))) ?_
    refine lv_if_ge (tgt := 39) hx hb dX5_bitsOf_16 (by decide) (fun c_16 => ?_) (fun c_16 => ?_)
    · skip
      exact absurd c_16 (by decide)
    · skip
      refine lv_iload hx hb dX5_bitsOf_19 (lv_at hl 0 rfl) ?_
      refine lv_sipush (v := nI 1022) hx hb dX5_bitsOf_21 (by decide) ?_
      refine n_icmp_ge (tgt := 39) hx hb dX5_bitsOf_24 (by decide) (by decide) (by decide) (fun c_24 => ?_) (fun c_24 => ?_)
      · skip
        exact absurd c_24 (by omega)
      · skip
        refine lv_dload_n hx hb dX5_bitsOf_27 rfl (lv_at hl 1 rfl) ?_
        refine lv_ldc2d (v := 4611686018427387904) hx hb C0.ow (C0.ts _ kw_X5_337) dX5_bitsOf_28 ?_
        refine lv_dmul hx hb dX5_bitsOf_31 (by unfold vf_n64; decide +kernel) ?_
        refine n_top (y := .double 4600877379321698714) (congrArg Value.double (by decide +kernel : FP.dmul 4596373779694328218 4611686018427387904 = (4600877379321698714 : UInt64))) ?_
        refine lv_dstore_n (lv' := [(2, .double (4600877379321698714)), (4, .int (nI (0))), (0, .double (4596373779694328218))]) hx hb dX5_bitsOf_32 rfl hl (by decide) rfl (fun ls hl => ?_)
        refine lv_iinc (v := nI 1) (lv' := [(4, .int (nI (1))), (2, .double (4600877379321698714)), (0, .double (4596373779694328218))]) hx hb dX5_bitsOf_33 hl (k := 1) rfl (by decide) (by decide) rfl (fun ls hl => ?_)
        refine lv_goto (tgt := 13) hx hb dX5_bitsOf_36 (by decide) ?_
        refine lv_dload_n hx hb dX5_bitsOf_13 rfl (lv_at hl 1 rfl) ?_
        refine lv_dconst1 hx hb dX5_bitsOf_14 ?_
        refine n_top (y := .double 4607182418800017408) (congrArg Value.double (by decide +kernel : FP.dconst1 = (4607182418800017408 : UInt64))) ?_
        refine lv_dcmp hx hb dX5_bitsOf_15 ?_
        refine n_top (y := .int ((-1))) (congrArg Value.int (by decide +kernel : Op.cmpValue (FP.dcmp 4600877379321698714 4607182418800017408) .g = (-1))) ?_
        refine lv_if_ge (tgt := 39) hx hb dX5_bitsOf_16 (by decide) (fun c_16 => ?_) (fun c_16 => ?_)
        · skip
          exact absurd c_16 (by decide)
        · skip
          refine lv_iload hx hb dX5_bitsOf_19 (lv_at hl 0 rfl) ?_
          refine lv_sipush (v := nI 1022) hx hb dX5_bitsOf_21 (by decide) ?_
          refine n_icmp_ge (tgt := 39) hx hb dX5_bitsOf_24 (by decide) (by decide) (by decide) (fun c_24 => ?_) (fun c_24 => ?_)
          · skip
            exact absurd c_24 (by omega)
          · skip
            refine lv_dload_n hx hb dX5_bitsOf_27 rfl (lv_at hl 1 rfl) ?_
            refine lv_ldc2d (v := 4611686018427387904) hx hb C0.ow (C0.ts _ kw_X5_337) dX5_bitsOf_28 ?_
            refine lv_dmul hx hb dX5_bitsOf_31 (by unfold vf_n64; decide +kernel) ?_
            refine n_top (y := .double 4605380978949069210) (congrArg Value.double (by decide +kernel : FP.dmul 4600877379321698714 4611686018427387904 = (4605380978949069210 : UInt64))) ?_
            refine lv_dstore_n (lv' := [(2, .double (4605380978949069210)), (4, .int (nI (1))), (0, .double (4596373779694328218))]) hx hb dX5_bitsOf_32 rfl hl (by decide) rfl (fun ls hl => ?_)
            refine lv_iinc (v := nI 2) (lv' := [(4, .int (nI (2))), (2, .double (4605380978949069210)), (0, .double (4596373779694328218))]) hx hb dX5_bitsOf_33 hl (k := 1) rfl (by decide) (by decide) rfl (fun ls hl => ?_)
            refine lv_goto (tgt := 13) hx hb dX5_bitsOf_36 (by decide) ?_
            refine lv_dload_n hx hb dX5_bitsOf_13 rfl (lv_at hl 1 rfl) ?_
            refine lv_dconst1 hx hb dX5_bitsOf_14 ?_
            refine n_top (y := .double 4607182418800017408) (congrArg Value.double (by decide +kernel : FP.dconst1 = (4607182418800017408 : UInt64))) ?_
            refine lv_dcmp hx hb dX5_bitsOf_15 ?_
            refine n_top (y := .int ((-1))) (congrArg Value.int (by decide +kernel : Op.cmpValue (FP.dcmp 4605380978949069210 4607182418800017408) .g = (-1))) ?_
            refine lv_if_ge (tgt := 39) hx hb dX5_bitsOf_16 (by decide) (fun c_16 => ?_) (fun c_16 => ?_)
            · skip
              exact absurd c_16 (by decide)
            · skip
              refine lv_iload hx hb dX5_bitsOf_19 (lv_at hl 0 rfl) ?_
              refine lv_sipush (v := nI 1022) hx hb dX5_bitsOf_21 (by decide) ?_
              refine n_icmp_ge (tgt := 39) hx hb dX5_bitsOf_24 (by decide) (by decide) (by decide) (fun c_24 => ?_) (fun c_24 => ?_)
              · skip
                exact absurd c_24 (by omega)
              · skip
                refine lv_dload_n hx hb dX5_bitsOf_27 rfl (lv_at hl 1 rfl) ?_
                refine lv_ldc2d (v := 4611686018427387904) hx hb C0.ow (C0.ts _ kw_X5_337) dX5_bitsOf_28 ?_
                refine lv_dmul hx hb dX5_bitsOf_31 (by unfold vf_n64; decide +kernel) ?_
                refine n_top (y := .double 4609884578576439706) (congrArg Value.double (by decide +kernel : FP.dmul 4605380978949069210 4611686018427387904 = (4609884578576439706 : UInt64))) ?_
                refine lv_dstore_n (lv' := [(2, .double (4609884578576439706)), (4, .int (nI (2))), (0, .double (4596373779694328218))]) hx hb dX5_bitsOf_32 rfl hl (by decide) rfl (fun ls hl => ?_)
                refine lv_iinc (v := nI 3) (lv' := [(4, .int (nI (3))), (2, .double (4609884578576439706)), (0, .double (4596373779694328218))]) hx hb dX5_bitsOf_33 hl (k := 1) rfl (by decide) (by decide) rfl (fun ls hl => ?_)
                refine lv_goto (tgt := 13) hx hb dX5_bitsOf_36 (by decide) ?_
                refine lv_dload_n hx hb dX5_bitsOf_13 rfl (lv_at hl 1 rfl) ?_
                refine lv_dconst1 hx hb dX5_bitsOf_14 ?_
                refine n_top (y := .double 4607182418800017408) (congrArg Value.double (by decide +kernel : FP.dconst1 = (4607182418800017408 : UInt64))) ?_
                refine lv_dcmp hx hb dX5_bitsOf_15 ?_
                refine n_top (y := .int (nI 1)) (congrArg Value.int (by decide +kernel : Op.cmpValue (FP.dcmp 4609884578576439706 4607182418800017408) .g = nI 1)) ?_
                refine n_if_ge (tgt := 39) hx hb dX5_bitsOf_16 (by decide) (by decide) ?_
                refine lv_sipush (v := nI 1023) hx hb dX5_bitsOf_39 (by decide) ?_
                refine lv_iload hx hb dX5_bitsOf_42 (lv_at hl 0 rfl) ?_
                refine n_isub hx hb (by omega) dX5_bitsOf_44 ?_
                refine n_i2l hx hb (by omega) dX5_bitsOf_45 ?_
                refine lv_lstore (lv' := [(5, .long (lN (1023 - 3))), (4, .int (nI (3))), (2, .double (4609884578576439706)), (0, .double (4596373779694328218))]) hx hb dX5_bitsOf_46 hl (by decide) rfl (fun ls hl => ?_)
                refine lv_dload_n hx hb dX5_bitsOf_48 rfl (lv_at hl 2 rfl) ?_
                refine lv_dconst1 hx hb dX5_bitsOf_49 ?_
                refine n_top (y := .double 4607182418800017408) (congrArg Value.double (by decide +kernel : FP.dconst1 = (4607182418800017408 : UInt64))) ?_
                refine lv_dsub hx hb dX5_bitsOf_50 (by unfold vf_n64; decide +kernel) ?_
                refine n_top (y := .double 4603579539098121012) (congrArg Value.double (by decide +kernel : FP.dsub 4609884578576439706 4607182418800017408 = (4603579539098121012 : UInt64))) ?_
                refine lv_ldc2d (v := 4841369599423283200) hx hb C0.ow (C0.ts _ kw_X5_339) dX5_bitsOf_51 ?_
                refine lv_dmul hx hb dX5_bitsOf_54 (by unfold vf_n64; decide +kernel) ?_
                refine n_top (y := .double 4837766719721386804) (congrArg Value.double (by decide +kernel : FP.dmul 4603579539098121012 4841369599423283200 = (4837766719721386804 : UInt64))) ?_
                refine lv_d2l hx hb dX5_bitsOf_55 ?_
                refine n_top (y := .long (lN 2702159776422298)) (congrArg Value.long (by decide +kernel : FP.d2l 4837766719721386804 = lN 2702159776422298)) ?_
                refine lv_lstore (lv' := [(7, .long (lN (2702159776422298))), (5, .long (lN (1023 - 3))), (4, .int (nI (3))), (2, .double (4609884578576439706)), (0, .double (4596373779694328218))]) hx hb dX5_bitsOf_56 hl (by decide) rfl (fun ls hl => ?_)
                refine lv_lload hx hb dX5_bitsOf_58 (lv_at hl 1 rfl) ?_
                refine lv_bipush (v := nI 52) hx hb dX5_bitsOf_60 (by decide) ?_
                refine lv_lshl (v := lN 4593671619917905920) hx hb dX5_bitsOf_62 (by decide +kernel) ?_
                refine lv_lload hx hb dX5_bitsOf_63 (lv_at hl 0 rfl) ?_
                refine n_ladd hx hb dX5_bitsOf_65 ?_
                exact r_l C0 hr hlk hw ⟨(by decide +kernel), (fun q  => rfl)⟩ (Nat.le_refl _) (Nat.le_refl _) dX5_bitsOf_66 hQ
  · skip
    exact absurd c_3 (by decide)
set_option maxHeartbeats 4000000 in
set_option maxRecDepth 100000 in
theorem c_X5_bitsOf_4596674019669486251 (l : Launch) (G : Gl) (L : List Nat) (F : Nat → va_E) : CL l yX5_bitsOf cX5_bitsOf 9 (some .long) rm_X5_bitsOf G L F [.double (4596674019669486251)] (fun r F1 => r = (4596674019669486251 : UInt64).toInt64 ∧ ∀ q, F1 q = F q) := by
  refine CG_of (by decide) (Nat.le_of_ble_eq_true rfl) rfl ?_
  intro p e s m args below meth c Q C0 hr hlk hnm hQ hw ls hl
  have hx := C0.x
  have hb := C0.b
  refine lv_dload_n hx hb dX5_bitsOf_0 rfl (lv_at hl 0 rfl) ?_
  refine lv_dconst0 hx hb dX5_bitsOf_1 ?_
  refine n_top (y := .double 0) (congrArg Value.double (by decide +kernel : FP.dconst0 = (0 : UInt64))) ?_
  refine lv_dcmp hx hb dX5_bitsOf_2 ?_
  refine n_top (y := .int (nI 1)) (congrArg Value.int (by decide +kernel : Op.cmpValue (FP.dcmp 4596674019669486251 0) .g = nI 1)) ?_
  refine n_if_gt (tgt := 8) hx hb dX5_bitsOf_3 (by decide) (by decide) (fun c_3 => ?_) (fun c_3 => ?_)
  · skip
    refine lv_dload_n hx hb dX5_bitsOf_8 rfl (lv_at hl 0 rfl) ?_
    refine lv_dstore_n (lv' := [(2, .double (4596674019669486251)), (0, .double (4596674019669486251))]) hx hb dX5_bitsOf_9 rfl hl (by decide) rfl (fun ls hl => ?_)
    refine lv_iconst (v := nI 0) hx hb dX5_bitsOf_10 (by decide) ?_
    refine lv_istore (lv' := [(4, .int (nI (0))), (2, .double (4596674019669486251)), (0, .double (4596674019669486251))]) hx hb dX5_bitsOf_11 hl (by decide) rfl (fun ls hl => ?_)
    refine lv_dload_n hx hb dX5_bitsOf_13 rfl (lv_at hl 1 rfl) ?_
    refine lv_dconst1 hx hb dX5_bitsOf_14 ?_
    refine n_top (y := .double 4607182418800017408) (congrArg Value.double (by decide +kernel : FP.dconst1 = (4607182418800017408 : UInt64))) ?_
    refine lv_dcmp hx hb dX5_bitsOf_15 ?_
    refine n_top (y := .int ((-1))) (congrArg Value.int (by decide +kernel : Op.cmpValue (FP.dcmp 4596674019669486251 4607182418800017408) .g = (-1))) ?_
    refine lv_if_ge (tgt := 39) hx hb dX5_bitsOf_16 (by decide) (fun c_16 => ?_) (fun c_16 => ?_)
    · skip
      exact absurd c_16 (by decide)
    · skip
      refine lv_iload hx hb dX5_bitsOf_19 (lv_at hl 0 rfl) ?_
      refine lv_sipush (v := nI 1022) hx hb dX5_bitsOf_21 (by decide) ?_
      refine n_icmp_ge (tgt := 39) hx hb dX5_bitsOf_24 (by decide) (by decide) (by decide) (fun c_24 => ?_) (fun c_24 => ?_)
      · skip
        exact absurd c_24 (by omega)
      · skip
        refine lv_dload_n hx hb dX5_bitsOf_27 rfl (lv_at hl 1 rfl) ?_
        refine lv_ldc2d (v := 4611686018427387904) hx hb C0.ow (C0.ts _ kw_X5_337) dX5_bitsOf_28 ?_
        refine lv_dmul hx hb dX5_bitsOf_31 (by unfold vf_n64; decide +kernel) ?_
        refine n_top (y := .double 4601177619296856747) (congrArg Value.double (by decide +kernel : FP.dmul 4596674019669486251 4611686018427387904 = (4601177619296856747 : UInt64))) ?_
        refine lv_dstore_n (lv' := [(2, .double (4601177619296856747)), (4, .int (nI (0))), (0, .double (4596674019669486251))]) hx hb dX5_bitsOf_32 rfl hl (by decide) rfl (fun ls hl => ?_)
        refine lv_iinc (v := nI 1) (lv' := [(4, .int (nI (1))), (2, .double (4601177619296856747)), (0, .double (4596674019669486251))]) hx hb dX5_bitsOf_33 hl (k := 1) rfl (by decide) (by decide) rfl (fun ls hl => ?_)
        refine lv_goto (tgt := 13) hx hb dX5_bitsOf_36 (by decide) ?_
        refine lv_dload_n hx hb dX5_bitsOf_13 rfl (lv_at hl 1 rfl) ?_
        refine lv_dconst1 hx hb dX5_bitsOf_14 ?_
        refine n_top (y := .double 4607182418800017408) (congrArg Value.double (by decide +kernel : FP.dconst1 = (4607182418800017408 : UInt64))) ?_
        refine lv_dcmp hx hb dX5_bitsOf_15 ?_
        refine n_top (y := .int ((-1))) (congrArg Value.int (by decide +kernel : Op.cmpValue (FP.dcmp 4601177619296856747 4607182418800017408) .g = (-1))) ?_
        refine lv_if_ge (tgt := 39) hx hb dX5_bitsOf_16 (by decide) (fun c_16 => ?_) (fun c_16 => ?_)
        · skip
          exact absurd c_16 (by decide)
        · skip
          refine lv_iload hx hb dX5_bitsOf_19 (lv_at hl 0 rfl) ?_
          refine lv_sipush (v := nI 1022) hx hb dX5_bitsOf_21 (by decide) ?_
          refine n_icmp_ge (tgt := 39) hx hb dX5_bitsOf_24 (by decide) (by decide) (by decide) (fun c_24 => ?_) (fun c_24 => ?_)
          · skip
            exact absurd c_24 (by omega)
          · skip
            refine lv_dload_n hx hb dX5_bitsOf_27 rfl (lv_at hl 1 rfl) ?_
            refine lv_ldc2d (v := 4611686018427387904) hx hb C0.ow (C0.ts _ kw_X5_337) dX5_bitsOf_28 ?_
            refine lv_dmul hx hb dX5_bitsOf_31 (by unfold vf_n64; decide +kernel) ?_
            refine n_top (y := .double 4605681218924227243) (congrArg Value.double (by decide +kernel : FP.dmul 4601177619296856747 4611686018427387904 = (4605681218924227243 : UInt64))) ?_
            refine lv_dstore_n (lv' := [(2, .double (4605681218924227243)), (4, .int (nI (1))), (0, .double (4596674019669486251))]) hx hb dX5_bitsOf_32 rfl hl (by decide) rfl (fun ls hl => ?_)
            refine lv_iinc (v := nI 2) (lv' := [(4, .int (nI (2))), (2, .double (4605681218924227243)), (0, .double (4596674019669486251))]) hx hb dX5_bitsOf_33 hl (k := 1) rfl (by decide) (by decide) rfl (fun ls hl => ?_)
            refine lv_goto (tgt := 13) hx hb dX5_bitsOf_36 (by decide) ?_
            refine lv_dload_n hx hb dX5_bitsOf_13 rfl (lv_at hl 1 rfl) ?_
            refine lv_dconst1 hx hb dX5_bitsOf_14 ?_
            refine n_top (y := .double 4607182418800017408) (congrArg Value.double (by decide +kernel : FP.dconst1 = (4607182418800017408 : UInt64))) ?_
            refine lv_dcmp hx hb dX5_bitsOf_15 ?_
            refine n_top (y := .int ((-1))) (congrArg Value.int (by decide +kernel : Op.cmpValue (FP.dcmp 4605681218924227243 4607182418800017408) .g = (-1))) ?_
            refine lv_if_ge (tgt := 39) hx hb dX5_bitsOf_16 (by decide) (fun c_16 => ?_) (fun c_16 => ?_)
            · skip
              exact absurd c_16 (by decide)
            · skip
              refine lv_iload hx hb dX5_bitsOf_19 (lv_at hl 0 rfl) ?_
              refine lv_sipush (v := nI 1022) hx hb dX5_bitsOf_21 (by decide) ?_
              refine n_icmp_ge (tgt := 39) hx hb dX5_bitsOf_24 (by decide) (by decide) (by decide) (fun c_24 => ?_) (fun c_24 => ?_)
              · skip
                exact absurd c_24 (by omega)
              · skip
                refine lv_dload_n hx hb dX5_bitsOf_27 rfl (lv_at hl 1 rfl) ?_
                refine lv_ldc2d (v := 4611686018427387904) hx hb C0.ow (C0.ts _ kw_X5_337) dX5_bitsOf_28 ?_
                refine lv_dmul hx hb dX5_bitsOf_31 (by unfold vf_n64; decide +kernel) ?_
                refine n_top (y := .double 4610184818551597739) (congrArg Value.double (by decide +kernel : FP.dmul 4605681218924227243 4611686018427387904 = (4610184818551597739 : UInt64))) ?_
                refine lv_dstore_n (lv' := [(2, .double (4610184818551597739)), (4, .int (nI (2))), (0, .double (4596674019669486251))]) hx hb dX5_bitsOf_32 rfl hl (by decide) rfl (fun ls hl => ?_)
                refine lv_iinc (v := nI 3) (lv' := [(4, .int (nI (3))), (2, .double (4610184818551597739)), (0, .double (4596674019669486251))]) hx hb dX5_bitsOf_33 hl (k := 1) rfl (by decide) (by decide) rfl (fun ls hl => ?_)
                refine lv_goto (tgt := 13) hx hb dX5_bitsOf_36 (by decide) ?_
                refine lv_dload_n hx hb dX5_bitsOf_13 rfl (lv_at hl 1 rfl) ?_
                refine lv_dconst1 hx hb dX5_bitsOf_14 ?_
                refine n_top (y := .double 4607182418800017408) (congrArg Value.double (by decide +kernel : FP.dconst1 = (4607182418800017408 : UInt64))) ?_
                refine lv_dcmp hx hb dX5_bitsOf_15 ?_
                refine n_top (y := .int (nI 1)) (congrArg Value.int (by decide +kernel : Op.cmpValue (FP.dcmp 4610184818551597739 4607182418800017408) .g = nI 1)) ?_
                refine n_if_ge (tgt := 39) hx hb dX5_bitsOf_16 (by decide) (by decide) ?_
                refine lv_sipush (v := nI 1023) hx hb dX5_bitsOf_39 (by decide) ?_
                refine lv_iload hx hb dX5_bitsOf_42 (lv_at hl 0 rfl) ?_
                refine n_isub hx hb (by omega) dX5_bitsOf_44 ?_
                refine n_i2l hx hb (by omega) dX5_bitsOf_45 ?_
                refine lv_lstore (lv' := [(5, .long (lN (1023 - 3))), (4, .int (nI (3))), (2, .double (4610184818551597739)), (0, .double (4596674019669486251))]) hx hb dX5_bitsOf_46 hl (by decide) rfl (fun ls hl => ?_)
                refine lv_dload_n hx hb dX5_bitsOf_48 rfl (lv_at hl 2 rfl) ?_
                refine lv_dconst1 hx hb dX5_bitsOf_49 ?_
                refine n_top (y := .double 4607182418800017408) (congrArg Value.double (by decide +kernel : FP.dconst1 = (4607182418800017408 : UInt64))) ?_
                refine lv_dsub hx hb dX5_bitsOf_50 (by unfold vf_n64; decide +kernel) ?_
                refine n_top (y := .double 4604180019048437078) (congrArg Value.double (by decide +kernel : FP.dsub 4610184818551597739 4607182418800017408 = (4604180019048437078 : UInt64))) ?_
                refine lv_ldc2d (v := 4841369599423283200) hx hb C0.ow (C0.ts _ kw_X5_339) dX5_bitsOf_51 ?_
                refine lv_dmul hx hb dX5_bitsOf_54 (by unfold vf_n64; decide +kernel) ?_
                refine n_top (y := .double 4838367199671702870) (congrArg Value.double (by decide +kernel : FP.dmul 4604180019048437078 4841369599423283200 = (4838367199671702870 : UInt64))) ?_
                refine lv_d2l hx hb dX5_bitsOf_55 ?_
                refine n_top (y := .long (lN 3002399751580331)) (congrArg Value.long (by decide +kernel : FP.d2l 4838367199671702870 = lN 3002399751580331)) ?_
                refine lv_lstore (lv' := [(7, .long (lN (3002399751580331))), (5, .long (lN (1023 - 3))), (4, .int (nI (3))), (2, .double (4610184818551597739)), (0, .double (4596674019669486251))]) hx hb dX5_bitsOf_56 hl (by decide) rfl (fun ls hl => ?_)
                refine lv_lload hx hb dX5_bitsOf_58 (lv_at hl 1 rfl) ?_
                refine lv_bipush (v := nI 52) hx hb dX5_bitsOf_60 (by decide) ?_
                refine lv_lshl (v := lN 4593671619917905920) hx hb dX5_bitsOf_62 (by decide +kernel) ?_
                refine lv_lload hx hb dX5_bitsOf_63 (lv_at hl 0 rfl) ?_
                refine n_ladd hx hb dX5_bitsOf_65 ?_
                exact r_l C0 hr hlk hw ⟨(by decide +kernel), (fun q  => rfl)⟩ (Nat.le_refl _) (Nat.le_refl _) dX5_bitsOf_66 hQ
  · skip
    exact absurd c_3 (by decide)
set_option maxHeartbeats 4000000 in
set_option maxRecDepth 100000 in
theorem c_X5_bitsOf_4597174419628082972 (l : Launch) (G : Gl) (L : List Nat) (F : Nat → va_E) : CL l yX5_bitsOf cX5_bitsOf 9 (some .long) rm_X5_bitsOf G L F [.double (4597174419628082972)] (fun r F1 => r = (4597174419628082972 : UInt64).toInt64 ∧ ∀ q, F1 q = F q) := by
  refine CG_of (by decide) (Nat.le_of_ble_eq_true rfl) rfl ?_
  intro p e s m args below meth c Q C0 hr hlk hnm hQ hw ls hl
  have hx := C0.x
  have hb := C0.b
  refine lv_dload_n hx hb dX5_bitsOf_0 rfl (lv_at hl 0 rfl) ?_
  refine lv_dconst0 hx hb dX5_bitsOf_1 ?_
  refine n_top (y := .double 0) (congrArg Value.double (by decide +kernel : FP.dconst0 = (0 : UInt64))) ?_
  refine lv_dcmp hx hb dX5_bitsOf_2 ?_
  refine n_top (y := .int (nI 1)) (congrArg Value.int (by decide +kernel : Op.cmpValue (FP.dcmp 4597174419628082972 0) .g = nI 1)) ?_
  refine n_if_gt (tgt := 8) hx hb dX5_bitsOf_3 (by decide) (by decide) (fun c_3 => ?_) (fun c_3 => ?_)
  · skip
    refine lv_dload_n hx hb dX5_bitsOf_8 rfl (lv_at hl 0 rfl) ?_
    refine lv_dstore_n (lv' := [(2, .double (4597174419628082972)), (0, .double (4597174419628082972))]) hx hb dX5_bitsOf_9 rfl hl (by decide) rfl (fun ls hl => ?_)
    refine lv_iconst (v := nI 0) hx hb dX5_bitsOf_10 (by decide) ?_
    refine lv_istore (lv' := [(4, .int (nI (0))), (2, .double (4597174419628082972)), (0, .double (4597174419628082972))]) hx hb dX5_bitsOf_11 hl (by decide) rfl (fun ls hl => ?_)
    refine lv_dload_n hx hb dX5_bitsOf_13 rfl (lv_at hl 1 rfl) ?_
    refine lv_dconst1 hx hb dX5_bitsOf_14 ?_
    refine n_top (y := .double 4607182418800017408) (congrArg Value.double (by decide +kernel : FP.dconst1 = (4607182418800017408 : UInt64))) ?_
    refine lv_dcmp hx hb dX5_bitsOf_15 ?_
    refine n_top (y := .int ((-1))) (congrArg Value.int (by decide +kernel : Op.cmpValue (FP.dcmp 4597174419628082972 4607182418800017408) .g = (-1))) ?_
    refine lv_if_ge (tgt := 39) hx hb dX5_bitsOf_16 (by decide) (fun c_16 => ?_) (fun c_16 => ?_)
    · skip
      exact absurd c_16 (by decide)
    · skip
      refine lv_iload hx hb dX5_bitsOf_19 (lv_at hl 0 rfl) ?_
      refine lv_sipush (v := nI 1022) hx hb dX5_bitsOf_21 (by decide) ?_
      refine n_icmp_ge (tgt := 39) hx hb dX5_bitsOf_24 (by decide) (by decide) (by decide) (fun c_24 => ?_) (fun c_24 => ?_)
      · skip
        exact absurd c_24 (by omega)
      · skip
        refine lv_dload_n hx hb dX5_bitsOf_27 rfl (lv_at hl 1 rfl) ?_
        refine lv_ldc2d (v := 4611686018427387904) hx hb C0.ow (C0.ts _ kw_X5_337) dX5_bitsOf_28 ?_
        refine lv_dmul hx hb dX5_bitsOf_31 (by unfold vf_n64; decide +kernel) ?_
        refine n_top (y := .double 4601678019255453468) (congrArg Value.double (by decide +kernel : FP.dmul 4597174419628082972 4611686018427387904 = (4601678019255453468 : UInt64))) ?_
        refine lv_dstore_n (lv' := [(2, .double (4601678019255453468)), (4, .int (nI (0))), (0, .double (4597174419628082972))]) hx hb dX5_bitsOf_32 rfl hl (by decide) rfl (fun ls hl => ?_)
        refine lv_iinc (v := nI 1) (lv' := [(4, .int (nI (1))), (2, .double (4601678019255453468)), (0, .double (4597174419628082972))]) hx hb dX5_bitsOf_33 hl (k := 1) rfl (by decide) (by decide) rfl (fun ls hl => ?_)
        refine lv_goto (tgt := 13) hx hb dX5_bitsOf_36 (by decide) ?_
        refine lv_dload_n hx hb dX5_bitsOf_13 rfl (lv_at hl 1 rfl) ?_
        refine lv_dconst1 hx hb dX5_bitsOf_14 ?_
        refine n_top (y := .double 4607182418800017408) (congrArg Value.double (by decide +kernel : FP.dconst1 = (4607182418800017408 : UInt64))) ?_
        refine lv_dcmp hx hb dX5_bitsOf_15 ?_
        refine n_top (y := .int ((-1))) (congrArg Value.int (by decide +kernel : Op.cmpValue (FP.dcmp 4601678019255453468 4607182418800017408) .g = (-1))) ?_
        refine lv_if_ge (tgt := 39) hx hb dX5_bitsOf_16 (by decide) (fun c_16 => ?_) (fun c_16 => ?_)
        · skip
          exact absurd c_16 (by decide)
        · skip
          refine lv_iload hx hb dX5_bitsOf_19 (lv_at hl 0 rfl) ?_
          refine lv_sipush (v := nI 1022) hx hb dX5_bitsOf_21 (by decide) ?_
          refine n_icmp_ge (tgt := 39) hx hb dX5_bitsOf_24 (by decide) (by decide) (by decide) (fun c_24 => ?_) (fun c_24 => ?_)
          · skip
            exact absurd c_24 (by omega)
          · skip
            refine lv_dload_n hx hb dX5_bitsOf_27 rfl (lv_at hl 1 rfl) ?_
            refine lv_ldc2d (v := 4611686018427387904) hx hb C0.ow (C0.ts _ kw_X5_337) dX5_bitsOf_28 ?_
            refine lv_dmul hx hb dX5_bitsOf_31 (by unfold vf_n64; decide +kernel) ?_
            refine n_top (y := .double 4606181618882823964) (congrArg Value.double (by decide +kernel : FP.dmul 4601678019255453468 4611686018427387904 = (4606181618882823964 : UInt64))) ?_
            refine lv_dstore_n (lv' := [(2, .double (4606181618882823964)), (4, .int (nI (1))), (0, .double (4597174419628082972))]) hx hb dX5_bitsOf_32 rfl hl (by decide) rfl (fun ls hl => ?_)
            refine lv_iinc (v := nI 2) (lv' := [(4, .int (nI (2))), (2, .double (4606181618882823964)), (0, .double (4597174419628082972))]) hx hb dX5_bitsOf_33 hl (k := 1) rfl (by decide) (by decide) rfl (fun ls hl => ?_)
            refine lv_goto (tgt := 13) hx hb dX5_bitsOf_36 (by decide) ?_
            refine lv_dload_n hx hb dX5_bitsOf_13 rfl (lv_at hl 1 rfl) ?_
            refine lv_dconst1 hx hb dX5_bitsOf_14 ?_
            refine n_top (y := .double 4607182418800017408) (congrArg Value.double (by decide +kernel : FP.dconst1 = (4607182418800017408 : UInt64))) ?_
            refine lv_dcmp hx hb dX5_bitsOf_15 ?_
            refine n_top (y := .int ((-1))) (congrArg Value.int (by decide +kernel : Op.cmpValue (FP.dcmp 4606181618882823964 4607182418800017408) .g = (-1))) ?_
            refine lv_if_ge (tgt := 39) hx hb dX5_bitsOf_16 (by decide) (fun c_16 => ?_) (fun c_16 => ?_)
            · skip
              exact absurd c_16 (by decide)
            · skip
              refine lv_iload hx hb dX5_bitsOf_19 (lv_at hl 0 rfl) ?_
              refine lv_sipush (v := nI 1022) hx hb dX5_bitsOf_21 (by decide) ?_
              refine n_icmp_ge (tgt := 39) hx hb dX5_bitsOf_24 (by decide) (by decide) (by decide) (fun c_24 => ?_) (fun c_24 => ?_)
              · skip
                exact absurd c_24 (by omega)
              · skip
                refine lv_dload_n hx hb dX5_bitsOf_27 rfl (lv_at hl 1 rfl) ?_
                refine lv_ldc2d (v := 4611686018427387904) hx hb C0.ow (C0.ts _ kw_X5_337) dX5_bitsOf_28 ?_
                refine lv_dmul hx hb dX5_bitsOf_31 (by unfold vf_n64; decide +kernel) ?_
                refine n_top (y := .double 4610685218510194460) (congrArg Value.double (by decide +kernel : FP.dmul 4606181618882823964 4611686018427387904 = (4610685218510194460 : UInt64))) ?_
                refine lv_dstore_n (lv' := [(2, .double (4610685218510194460)), (4, .int (nI (2))), (0, .double (4597174419628082972))]) hx hb dX5_bitsOf_32 rfl hl (by decide) rfl (fun ls hl => ?_)
                refine lv_iinc (v := nI 3) (lv' := [(4, .int (nI (3))), (2, .double (4610685218510194460)), (0, .double (4597174419628082972))]) hx hb dX5_bitsOf_33 hl (k := 1) rfl (by decide) (by decide) rfl (fun ls hl => ?_)
                refine lv_goto (tgt := 13) hx hb dX5_bitsOf_36 (by decide) ?_
                refine lv_dload_n hx hb dX5_bitsOf_13 rfl (lv_at hl 1 rfl) ?_
                refine lv_dconst1 hx hb dX5_bitsOf_14 ?_
                refine n_top (y := .double 4607182418800017408) (congrArg Value.double (by decide +kernel : FP.dconst1 = (4607182418800017408 : UInt64))) ?_
                refine lv_dcmp hx hb dX5_bitsOf_15 ?_
                refine n_top (y := .int (nI 1)) (congrArg Value.int (by decide +kernel : Op.cmpValue (FP.dcmp 4610685218510194460 4607182418800017408) .g = nI 1)) ?_
                refine n_if_ge (tgt := 39) hx hb dX5_bitsOf_16 (by decide) (by decide) ?_
                refine lv_sipush (v := nI 1023) hx hb dX5_bitsOf_39 (by decide) ?_
                refine lv_iload hx hb dX5_bitsOf_42 (lv_at hl 0 rfl) ?_
                refine n_isub hx hb (by omega) dX5_bitsOf_44 ?_
                refine n_i2l hx hb (by omega) dX5_bitsOf_45 ?_
                refine lv_lstore (lv' := [(5, .long (lN (1023 - 3))), (4, .int (nI (3))), (2, .double (4610685218510194460)), (0, .double (4597174419628082972))]) hx hb dX5_bitsOf_46 hl (by decide) rfl (fun ls hl => ?_)
                refine lv_dload_n hx hb dX5_bitsOf_48 rfl (lv_at hl 2 rfl) ?_
                refine lv_dconst1 hx hb dX5_bitsOf_49 ?_
                refine n_top (y := .double 4607182418800017408) (congrArg Value.double (by decide +kernel : FP.dconst1 = (4607182418800017408 : UInt64))) ?_
                refine lv_dsub hx hb dX5_bitsOf_50 (by unfold vf_n64; decide +kernel) ?_
                refine n_top (y := .double 4605180818965630520) (congrArg Value.double (by decide +kernel : FP.dsub 4610685218510194460 4607182418800017408 = (4605180818965630520 : UInt64))) ?_
                refine lv_ldc2d (v := 4841369599423283200) hx hb C0.ow (C0.ts _ kw_X5_339) dX5_bitsOf_51 ?_
                refine lv_dmul hx hb dX5_bitsOf_54 (by unfold vf_n64; decide +kernel) ?_
                refine n_top (y := .double 4839367999588896312) (congrArg Value.double (by decide +kernel : FP.dmul 4605180818965630520 4841369599423283200 = (4839367999588896312 : UInt64))) ?_
                refine lv_d2l hx hb dX5_bitsOf_55 ?_
                refine n_top (y := .long (lN 3502799710177052)) (congrArg Value.long (by decide +kernel : FP.d2l 4839367999588896312 = lN 3502799710177052)) ?_
                refine lv_lstore (lv' := [(7, .long (lN (3502799710177052))), (5, .long (lN (1023 - 3))), (4, .int (nI (3))), (2, .double (4610685218510194460)), (0, .double (4597174419628082972))]) hx hb dX5_bitsOf_56 hl (by decide) rfl (fun ls hl => ?_)
                refine lv_lload hx hb dX5_bitsOf_58 (lv_at hl 1 rfl) ?_
                refine lv_bipush (v := nI 52) hx hb dX5_bitsOf_60 (by decide) ?_
                refine lv_lshl (v := lN 4593671619917905920) hx hb dX5_bitsOf_62 (by decide +kernel) ?_
                refine lv_lload hx hb dX5_bitsOf_63 (lv_at hl 0 rfl) ?_
                refine n_ladd hx hb dX5_bitsOf_65 ?_
                exact r_l C0 hr hlk hw ⟨(by decide +kernel), (fun q  => rfl)⟩ (Nat.le_refl _) (Nat.le_refl _) dX5_bitsOf_66 hQ
  · skip
    exact absurd c_3 (by decide)
set_option maxHeartbeats 4000000 in
set_option maxRecDepth 100000 in
theorem c_X5_bitsOf_4597574739594960350 (l : Launch) (G : Gl) (L : List Nat) (F : Nat → va_E) : CL l yX5_bitsOf cX5_bitsOf 9 (some .long) rm_X5_bitsOf G L F [.double (4597574739594960350)] (fun r F1 => r = (4597574739594960350 : UInt64).toInt64 ∧ ∀ q, F1 q = F q) := by
  refine CG_of (by decide) (Nat.le_of_ble_eq_true rfl) rfl ?_
  intro p e s m args below meth c Q C0 hr hlk hnm hQ hw ls hl
  have hx := C0.x
  have hb := C0.b
  refine lv_dload_n hx hb dX5_bitsOf_0 rfl (lv_at hl 0 rfl) ?_
  refine lv_dconst0 hx hb dX5_bitsOf_1 ?_
  refine n_top (y := .double 0) (congrArg Value.double (by decide +kernel : FP.dconst0 = (0 : UInt64))) ?_
  refine lv_dcmp hx hb dX5_bitsOf_2 ?_
  refine n_top (y := .int (nI 1)) (congrArg Value.int (by decide +kernel : Op.cmpValue (FP.dcmp 4597574739594960350 0) .g = nI 1)) ?_
  refine n_if_gt (tgt := 8) hx hb dX5_bitsOf_3 (by decide) (by decide) (fun c_3 => ?_) (fun c_3 => ?_)
  · skip
    refine lv_dload_n hx hb dX5_bitsOf_8 rfl (lv_at hl 0 rfl) ?_
    refine lv_dstore_n (lv' := [(2, .double (4597574739594960350)), (0, .double (4597574739594960350))]) hx hb dX5_bitsOf_9 rfl hl (by decide) rfl (fun ls hl => ?_)
    refine lv_iconst (v := nI 0) hx hb dX5_bitsOf_10 (by decide) ?_
    refine lv_istore (lv' := [(4, .int (nI (0))), (2, .double (4597574739594960350)), (0, .double (4597574739594960350))]) hx hb dX5_bitsOf_11 hl (by decide) rfl (fun ls hl => ?_)
    refine lv_dload_n hx hb dX5_bitsOf_13 rfl (lv_at hl 1 rfl) ?_
    refine lv_dconst1 hx hb dX5_bitsOf_14 ?_
    refine n_top (y := .double 4607182418800017408) (congrArg Value.double (by decide +kernel : FP.dconst1 = (4607182418800017408 : UInt64))) ?_
    refine lv_dcmp hx hb dX5_bitsOf_15 ?_
    refine n_top (y := .int ((-1))) (congrArg Value.int (by decide +kernel : Op.cmpValue (FP.dcmp 4597574739594960350 4607182418800017408) .g = (-1))) ?_
    refine lv_if_ge (tgt := 39) hx hb dX5_bitsOf_16 (by decide) (fun c_16 => ?_) (fun c_16 => ?_)
    · skip
      exact absurd c_16 (by decide)
    · skip
      refine lv_iload hx hb dX5_bitsOf_19 (lv_at hl 0 rfl) ?_
      refine lv_sipush (v := nI 1022) hx hb dX5_bitsOf_21 (by decide) ?_
      refine n_icmp_ge (tgt := 39) hx hb dX5_bitsOf_24 (by decide) (by decide) (by decide) (fun c_24 => ?_) (fun c_24 => ?_)
      · skip
        exact absurd c_24 (by omega)
      · skip
        refine lv_dload_n hx hb dX5_bitsOf_27 rfl (lv_at hl 1 rfl) ?_
        refine lv_ldc2d (v := 4611686018427387904) hx hb C0.ow (C0.ts _ kw_X5_337) dX5_bitsOf_28 ?_
        refine lv_dmul hx hb dX5_bitsOf_31 (by unfold vf_n64; decide +kernel) ?_
        refine n_top (y := .double 4602078339222330846) (congrArg Value.double (by decide +kernel : FP.dmul 4597574739594960350 4611686018427387904 = (4602078339222330846 : UInt64))) ?_
        refine lv_dstore_n (lv' := [(2, .double (4602078339222330846)), (4, .int (nI (0))), (0, .double (4597574739594960350))]) hx hb dX5_bitsOf_32 rfl hl (by decide) rfl (fun ls hl => ?_)
        refine lv_iinc (v := nI 1) (lv' := [(4, .int (nI (1))), (2, .double (4602078339222330846)), (0, .double (4597574739594960350))]) hx hb dX5_bitsOf_33 hl (k := 1) rfl (by decide) (by decide) rfl (fun ls hl => ?_)
        refine lv_goto (tgt := 13) hx hb dX5_bitsOf_36 (by decide) ?_
        refine lv_dload_n hx hb dX5_bitsOf_13 rfl (lv_at hl 1 rfl) ?_
        refine lv_dconst1 hx hb dX5_bitsOf_14 ?_
        refine n_top (y := .double 4607182418800017408) (congrArg Value.double (by decide +kernel : FP.dconst1 = (4607182418800017408 : UInt64))) ?_
        refine lv_dcmp hx hb dX5_bitsOf_15 ?_
        refine n_top (y := .int ((-1))) (congrArg Value.int (by decide +kernel : Op.cmpValue (FP.dcmp 4602078339222330846 4607182418800017408) .g = (-1))) ?_
        refine lv_if_ge (tgt := 39) hx hb dX5_bitsOf_16 (by decide) (fun c_16 => ?_) (fun c_16 => ?_)
        · skip
          exact absurd c_16 (by decide)
        · skip
          refine lv_iload hx hb dX5_bitsOf_19 (lv_at hl 0 rfl) ?_
          refine lv_sipush (v := nI 1022) hx hb dX5_bitsOf_21 (by decide) ?_
          refine n_icmp_ge (tgt := 39) hx hb dX5_bitsOf_24 (by decide) (by decide) (by decide) (fun c_24 => ?_) (fun c_24 => ?_)
          · skip
            exact absurd c_24 (by omega)
          · skip
            refine lv_dload_n hx hb dX5_bitsOf_27 rfl (lv_at hl 1 rfl) ?_
            refine lv_ldc2d (v := 4611686018427387904) hx hb C0.ow (C0.ts _ kw_X5_337) dX5_bitsOf_28 ?_
            refine lv_dmul hx hb dX5_bitsOf_31 (by unfold vf_n64; decide +kernel) ?_
            refine n_top (y := .double 4606581938849701342) (congrArg Value.double (by decide +kernel : FP.dmul 4602078339222330846 4611686018427387904 = (4606581938849701342 : UInt64))) ?_
            refine lv_dstore_n (lv' := [(2, .double (4606581938849701342)), (4, .int (nI (1))), (0, .double (4597574739594960350))]) hx hb dX5_bitsOf_32 rfl hl (by decide) rfl (fun ls hl => ?_)
            refine lv_iinc (v := nI 2) (lv' := [(4, .int (nI (2))), (2, .double (4606581938849701342)), (0, .double (4597574739594960350))]) hx hb dX5_bitsOf_33 hl (k := 1) rfl (by decide) (by decide) rfl (fun ls hl => ?_)
            refine lv_goto (tgt := 13) hx hb dX5_bitsOf_36 (by decide) ?_
            refine lv_dload_n hx hb dX5_bitsOf_13 rfl (lv_at hl 1 rfl) ?_
            refine lv_dconst1 hx hb dX5_bitsOf_14 ?_
            refine n_top (y := .double 4607182418800017408) (congrArg Value.double (by decide +kernel : FP.dconst1 = (4607182418800017408 : UInt64))) ?_
            refine lv_dcmp hx hb dX5_bitsOf_15 ?_
            refine n_top (y := .int ((-1))) (congrArg Value.int (by decide +kernel : Op.cmpValue (FP.dcmp 4606581938849701342 4607182418800017408) .g = (-1))) ?_
            refine lv_if_ge (tgt := 39) hx hb dX5_bitsOf_16 (by decide) (fun c_16 => ?_) (fun c_16 => ?_)
            · skip
              exact absurd c_16 (by decide)
            · skip
              refine lv_iload hx hb dX5_bitsOf_19 (lv_at hl 0 rfl) ?_
              refine lv_sipush (v := nI 1022) hx hb dX5_bitsOf_21 (by decide) ?_
              refine n_icmp_ge (tgt := 39) hx hb dX5_bitsOf_24 (by decide) (by decide) (by decide) (fun c_24 => ?_) (fun c_24 => ?_)
              · skip
                exact absurd c_24 (by omega)
              · skip
                refine lv_dload_n hx hb dX5_bitsOf_27 rfl (lv_at hl 1 rfl) ?_
                refine lv_ldc2d (v := 4611686018427387904) hx hb C0.ow (C0.ts _ kw_X5_337) dX5_bitsOf_28 ?_
                refine lv_dmul hx hb dX5_bitsOf_31 (by unfold vf_n64; decide +kernel) ?_
                refine n_top (y := .double 4611085538477071838) (congrArg Value.double (by decide +kernel : FP.dmul 4606581938849701342 4611686018427387904 = (4611085538477071838 : UInt64))) ?_
                refine lv_dstore_n (lv' := [(2, .double (4611085538477071838)), (4, .int (nI (2))), (0, .double (4597574739594960350))]) hx hb dX5_bitsOf_32 rfl hl (by decide) rfl (fun ls hl => ?_)
                refine lv_iinc (v := nI 3) (lv' := [(4, .int (nI (3))), (2, .double (4611085538477071838)), (0, .double (4597574739594960350))]) hx hb dX5_bitsOf_33 hl (k := 1) rfl (by decide) (by decide) rfl (fun ls hl => ?_)
                refine lv_goto (tgt := 13) hx hb dX5_bitsOf_36 (by decide) ?_
                refine lv_dload_n hx hb dX5_bitsOf_13 rfl (lv_at hl 1 rfl) ?_
                refine lv_dconst1 hx hb dX5_bitsOf_14 ?_
                refine n_top (y := .double 4607182418800017408) (congrArg Value.double (by decide +kernel : FP.dconst1 = (4607182418800017408 : UInt64))) ?_
                refine lv_dcmp hx hb dX5_bitsOf_15 ?_
                refine n_top (y := .int (nI 1)) (congrArg Value.int (by decide +kernel : Op.cmpValue (FP.dcmp 4611085538477071838 4607182418800017408) .g = nI 1)) ?_
                refine n_if_ge (tgt := 39) hx hb dX5_bitsOf_16 (by decide) (by decide) ?_
                refine lv_sipush (v := nI 1023) hx hb dX5_bitsOf_39 (by decide) ?_
                refine lv_iload hx hb dX5_bitsOf_42 (lv_at hl 0 rfl) ?_
                refine n_isub hx hb (by omega) dX5_bitsOf_44 ?_
                refine n_i2l hx hb (by omega) dX5_bitsOf_45 ?_
                refine lv_lstore (lv' := [(5, .long (lN (1023 - 3))), (4, .int (nI (3))), (2, .double (4611085538477071838)), (0, .double (4597574739594960350))]) hx hb dX5_bitsOf_46 hl (by decide) rfl (fun ls hl => ?_)
                refine lv_dload_n hx hb dX5_bitsOf_48 rfl (lv_at hl 2 rfl) ?_
                refine lv_dconst1 hx hb dX5_bitsOf_49 ?_
                refine n_top (y := .double 4607182418800017408) (congrArg Value.double (by decide +kernel : FP.dconst1 = (4607182418800017408 : UInt64))) ?_
                refine lv_dsub hx hb dX5_bitsOf_50 (by unfold vf_n64; decide +kernel) ?_
                refine n_top (y := .double 4605981458899385276) (congrArg Value.double (by decide +kernel : FP.dsub 4611085538477071838 4607182418800017408 = (4605981458899385276 : UInt64))) ?_
                refine lv_ldc2d (v := 4841369599423283200) hx hb C0.ow (C0.ts _ kw_X5_339) dX5_bitsOf_51 ?_
                refine lv_dmul hx hb dX5_bitsOf_54 (by unfold vf_n64; decide +kernel) ?_
                refine n_top (y := .double 4840168639522651068) (congrArg Value.double (by decide +kernel : FP.dmul 4605981458899385276 4841369599423283200 = (4840168639522651068 : UInt64))) ?_
                refine lv_d2l hx hb dX5_bitsOf_55 ?_
                refine n_top (y := .long (lN 3903119677054430)) (congrArg Value.long (by decide +kernel : FP.d2l 4840168639522651068 = lN 3903119677054430)) ?_
                refine lv_lstore (lv' := [(7, .long (lN (3903119677054430))), (5, .long (lN (1023 - 3))), (4, .int (nI (3))), (2, .double (4611085538477071838)), (0, .double (4597574739594960350))]) hx hb dX5_bitsOf_56 hl (by decide) rfl (fun ls hl => ?_)
                refine lv_lload hx hb dX5_bitsOf_58 (lv_at hl 1 rfl) ?_
                refine lv_bipush (v := nI 52) hx hb dX5_bitsOf_60 (by decide) ?_
                refine lv_lshl (v := lN 4593671619917905920) hx hb dX5_bitsOf_62 (by decide +kernel) ?_
                refine lv_lload hx hb dX5_bitsOf_63 (lv_at hl 0 rfl) ?_
                refine n_ladd hx hb dX5_bitsOf_65 ?_
                exact r_l C0 hr hlk hw ⟨(by decide +kernel), (fun q  => rfl)⟩ (Nat.le_refl _) (Nat.le_refl _) dX5_bitsOf_66 hQ
  · skip
    exact absurd c_3 (by decide)
set_option maxHeartbeats 4000000 in
set_option maxRecDepth 100000 in
theorem c_X5_bitsOf_4598175219545276416 (l : Launch) (G : Gl) (L : List Nat) (F : Nat → va_E) : CL l yX5_bitsOf cX5_bitsOf 9 (some .long) rm_X5_bitsOf G L F [.double (4598175219545276416)] (fun r F1 => r = (4598175219545276416 : UInt64).toInt64 ∧ ∀ q, F1 q = F q) := by
  refine CG_of (by decide) (Nat.le_of_ble_eq_true rfl) rfl ?_
  intro p e s m args below meth c Q C0 hr hlk hnm hQ hw ls hl
  have hx := C0.x
  have hb := C0.b
  refine lv_dload_n hx hb dX5_bitsOf_0 rfl (lv_at hl 0 rfl) ?_
  refine lv_dconst0 hx hb dX5_bitsOf_1 ?_
  refine n_top (y := .double 0) (congrArg Value.double (by decide +kernel : FP.dconst0 = (0 : UInt64))) ?_
  refine lv_dcmp hx hb dX5_bitsOf_2 ?_
  refine n_top (y := .int (nI 1)) (congrArg Value.int (by decide +kernel : Op.cmpValue (FP.dcmp 4598175219545276416 0) .g = nI 1)) ?_
  refine n_if_gt (tgt := 8) hx hb dX5_bitsOf_3 (by decide) (by decide) (fun c_3 => ?_) (fun c_3 => ?_)
  · skip
    refine lv_dload_n hx hb dX5_bitsOf_8 rfl (lv_at hl 0 rfl) ?_
    refine lv_dstore_n (lv' := [(2, .double (4598175219545276416)), (0, .double (4598175219545276416))]) hx hb dX5_bitsOf_9 rfl hl (by decide) rfl (fun ls hl => ?_)
    refine lv_iconst (v := nI 0) hx hb dX5_bitsOf_10 (by decide) ?_
    refine lv_istore (lv' := [(4, .int (nI (0))), (2, .double (4598175219545276416)), (0, .double (4598175219545276416))]) hx hb dX5_bitsOf_11 hl (by decide) rfl (fun ls hl => ?_)
    refine lv_dload_n hx hb dX5_bitsOf_13 rfl (lv_at hl 1 rfl) ?_
    refine lv_dconst1 hx hb dX5_bitsOf_14 ?_
    refine n_top (y := .double 4607182418800017408) (congrArg Value.double (by decide +kernel : FP.dconst1 = (4607182418800017408 : UInt64))) ?_
    refine lv_dcmp hx hb dX5_bitsOf_15 ?_
    refine n_top (y := .int ((-1))) (congrArg Value.int (by decide +kernel : Op.cmpValue (FP.dcmp 4598175219545276416 4607182418800017408) .g = (-1))) ?_
    refine lv_if_ge (tgt := 39) hx hb dX5_bitsOf_16 (by decide) (fun c_16 => ?_) (fun c_16 => ?_)
    · skip
      exact absurd c_16 (by decide)
    · skip
      refine lv_iload hx hb dX5_bitsOf_19 (lv_at hl 0 rfl) ?_
      refine lv_sipush (v := nI 1022) hx hb dX5_bitsOf_21 (by decide) ?_
      refine n_icmp_ge (tgt := 39) hx hb dX5_bitsOf_24 (by decide) (by decide) (by decide) (fun c_24 => ?_) (fun c_24 => ?_)
      · skip
        exact absurd c_24 (by omega)
      · skip
        refine lv_dload_n hx hb dX5_bitsOf_27 rfl (lv_at hl 1 rfl) ?_
        refine lv_ldc2d (v := 4611686018427387904) hx hb C0.ow (C0.ts _ kw_X5_337) dX5_bitsOf_28 ?_
        refine lv_dmul hx hb dX5_bitsOf_31 (by unfold vf_n64; decide +kernel) ?_
        refine n_top (y := .double 4602678819172646912) (congrArg Value.double (by decide +kernel : FP.dmul 4598175219545276416 4611686018427387904 = (4602678819172646912 : UInt64))) ?_
        refine lv_dstore_n (lv' := [(2, .double (4602678819172646912)), (4, .int (nI (0))), (0, .double (4598175219545276416))]) hx hb dX5_bitsOf_32 rfl hl (by decide) rfl (fun ls hl => ?_)
        refine lv_iinc (v := nI 1) (lv' := [(4, .int (nI (1))), (2, .double (4602678819172646912)), (0, .double (4598175219545276416))]) hx hb dX5_bitsOf_33 hl (k := 1) rfl (by decide) (by decide) rfl (fun ls hl => ?_)
        refine lv_goto (tgt := 13) hx hb dX5_bitsOf_36 (by decide) ?_
        refine lv_dload_n hx hb dX5_bitsOf_13 rfl (lv_at hl 1 rfl) ?_
        refine lv_dconst1 hx hb dX5_bitsOf_14 ?_
        refine n_top (y := .double 4607182418800017408) (congrArg Value.double (by decide +kernel : FP.dconst1 = (4607182418800017408 : UInt64))) ?_
        refine lv_dcmp hx hb dX5_bitsOf_15 ?_
        refine n_top (y := .int ((-1))) (congrArg Value.int (by decide +kernel : Op.cmpValue (FP.dcmp 4602678819172646912 4607182418800017408) .g = (-1))) ?_
        refine lv_if_ge (tgt := 39) hx hb dX5_bitsOf_16 (by decide) (fun c_16 => ?_) (fun c_16 => ?_)
        · skip
          exact absurd c_16 (by decide)
        · skip
          refine lv_iload hx hb dX5_bitsOf_19 (lv_at hl 0 rfl) ?_
          refine lv_sipush (v := nI 1022) hx hb dX5_bitsOf_21 (by decide) ?_
          refine n_icmp_ge (tgt := 39) hx hb dX5_bitsOf_24 (by decide) (by decide) (by decide) (fun c_24 => ?_) (fun c_24 => ?_)
          · skip
            exact absurd c_24 (by omega)
          · skip
            refine lv_dload_n hx hb dX5_bitsOf_27 rfl (lv_at hl 1 rfl) ?_
            refine lv_ldc2d (v := 4611686018427387904) hx hb C0.ow (C0.ts _ kw_X5_337) dX5_bitsOf_28 ?_
            refine lv_dmul hx hb dX5_bitsOf_31 (by unfold vf_n64; decide +kernel) ?_
            refine n_top (y := .double 4607182418800017408) (congrArg Value.double (by decide +kernel : FP.dmul 4602678819172646912 4611686018427387904 = (4607182418800017408 : UInt64))) ?_
            refine lv_dstore_n (lv' := [(2, .double (4607182418800017408)), (4, .int (nI (1))), (0, .double (4598175219545276416))]) hx hb dX5_bitsOf_32 rfl hl (by decide) rfl (fun ls hl => ?_)
            refine lv_iinc (v := nI 2) (lv' := [(4, .int (nI (2))), (2, .double (4607182418800017408)), (0, .double (4598175219545276416))]) hx hb dX5_bitsOf_33 hl (k := 1) rfl (by decide) (by decide) rfl (fun ls hl => ?_)
            refine lv_goto (tgt := 13) hx hb dX5_bitsOf_36 (by decide) ?_
            refine lv_dload_n hx hb dX5_bitsOf_13 rfl (lv_at hl 1 rfl) ?_
            refine lv_dconst1 hx hb dX5_bitsOf_14 ?_
            refine n_top (y := .double 4607182418800017408) (congrArg Value.double (by decide +kernel : FP.dconst1 = (4607182418800017408 : UInt64))) ?_
            refine lv_dcmp hx hb dX5_bitsOf_15 ?_
            refine n_top (y := .int (nI 0)) (congrArg Value.int (by decide +kernel : Op.cmpValue (FP.dcmp 4607182418800017408 4607182418800017408) .g = nI 0)) ?_
            refine n_if_ge (tgt := 39) hx hb dX5_bitsOf_16 (by decide) (by decide) ?_
            refine lv_sipush (v := nI 1023) hx hb dX5_bitsOf_39 (by decide) ?_
            refine lv_iload hx hb dX5_bitsOf_42 (lv_at hl 0 rfl) ?_
            refine n_isub hx hb (by omega) dX5_bitsOf_44 ?_
            refine n_i2l hx hb (by omega) dX5_bitsOf_45 ?_
            refine lv_lstore (lv' := [(5, .long (lN (1023 - 2))), (4, .int (nI (2))), (2, .double (4607182418800017408)), (0, .double (4598175219545276416))]) hx hb dX5_bitsOf_46 hl (by decide) rfl (fun ls hl => ?_)
            refine lv_dload_n hx hb dX5_bitsOf_48 rfl (lv_at hl 2 rfl) ?_
            refine lv_dconst1 hx hb dX5_bitsOf_49 ?_
            refine n_top (y := .double 4607182418800017408) (congrArg Value.double (by decide +kernel : FP.dconst1 = (4607182418800017408 : UInt64))) ?_
            refine lv_dsub hx hb dX5_bitsOf_50 (by unfold vf_n64; decide +kernel) ?_
            refine n_top (y := .double 0) (congrArg Value.double (by decide +kernel : FP.dsub 4607182418800017408 4607182418800017408 = (0 : UInt64))) ?_
            refine lv_ldc2d (v := 4841369599423283200) hx hb C0.ow (C0.ts _ kw_X5_339) dX5_bitsOf_51 ?_
            refine lv_dmul hx hb dX5_bitsOf_54 (by unfold vf_n64; decide +kernel) ?_
            refine n_top (y := .double 0) (congrArg Value.double (by decide +kernel : FP.dmul 0 4841369599423283200 = (0 : UInt64))) ?_
            refine lv_d2l hx hb dX5_bitsOf_55 ?_
            refine n_top (y := .long (lN 0)) (congrArg Value.long (by decide +kernel : FP.d2l 0 = lN 0)) ?_
            refine lv_lstore (lv' := [(7, .long (lN (0))), (5, .long (lN (1023 - 2))), (4, .int (nI (2))), (2, .double (4607182418800017408)), (0, .double (4598175219545276416))]) hx hb dX5_bitsOf_56 hl (by decide) rfl (fun ls hl => ?_)
            refine lv_lload hx hb dX5_bitsOf_58 (lv_at hl 1 rfl) ?_
            refine lv_bipush (v := nI 52) hx hb dX5_bitsOf_60 (by decide) ?_
            refine lv_lshl (v := lN 4598175219545276416) hx hb dX5_bitsOf_62 (by decide +kernel) ?_
            refine lv_lload hx hb dX5_bitsOf_63 (lv_at hl 0 rfl) ?_
            refine n_ladd hx hb dX5_bitsOf_65 ?_
            exact r_l C0 hr hlk hw ⟨(by decide +kernel), (fun q  => rfl)⟩ (Nat.le_refl _) (Nat.le_refl _) dX5_bitsOf_66 hQ
  · skip
    exact absurd c_3 (by decide)
set_option maxHeartbeats 4000000 in
set_option maxRecDepth 100000 in
theorem c_X5_bitsOf_4598475459520434449 (l : Launch) (G : Gl) (L : List Nat) (F : Nat → va_E) : CL l yX5_bitsOf cX5_bitsOf 9 (some .long) rm_X5_bitsOf G L F [.double (4598475459520434449)] (fun r F1 => r = (4598475459520434449 : UInt64).toInt64 ∧ ∀ q, F1 q = F q) := by
  refine CG_of (by decide) (Nat.le_of_ble_eq_true rfl) rfl ?_
  intro p e s m args below meth c Q C0 hr hlk hnm hQ hw ls hl
  have hx := C0.x
  have hb := C0.b
  refine lv_dload_n hx hb dX5_bitsOf_0 rfl (lv_at hl 0 rfl) ?_
  refine lv_dconst0 hx hb dX5_bitsOf_1 ?_
  refine n_top (y := .double 0) (congrArg Value.double (by decide +kernel : FP.dconst0 = (0 : UInt64))) ?_
  refine lv_dcmp hx hb dX5_bitsOf_2 ?_
  refine n_top (y := .int (nI 1)) (congrArg Value.int (by decide +kernel : Op.cmpValue (FP.dcmp 4598475459520434449 0) .g = nI 1)) ?_
  refine n_if_gt (tgt := 8) hx hb dX5_bitsOf_3 (by decide) (by decide) (fun c_3 => ?_) (fun c_3 => ?_)
  · skip
    refine lv_dload_n hx hb dX5_bitsOf_8 rfl (lv_at hl 0 rfl) ?_
    refine lv_dstore_n (lv' := [(2, .double (4598475459520434449)), (0, .double (4598475459520434449))]) hx hb dX5_bitsOf_9 rfl hl (by decide) rfl (fun ls hl => ?_)
    refine lv_iconst (v := nI 0) hx hb dX5_bitsOf_10 (by decide) ?_
    refine lv_istore (lv' := [(4, .int (nI (0))), (2, .double (4598475459520434449)), (0, .double (4598475459520434449))]) hx hb dX5_bitsOf_11 hl (by decide) rfl (fun ls hl => ?_)
    refine lv_dload_n hx hb dX5_bitsOf_13 rfl (lv_at hl 1 rfl) ?_
    refine lv_dconst1 hx hb dX5_bitsOf_14 ?_
    refine n_top (y := .double 4607182418800017408) (congrArg Value.double (by decide +kernel : FP.dconst1 = (4607182418800017408 : UInt64))) ?_
    refine lv_dcmp hx hb dX5_bitsOf_15 ?_
    refine n_top (y := .int ((-1))) (congrArg Value.int (by decide +kernel : Op.cmpValue (FP.dcmp 4598475459520434449 4607182418800017408) .g = (-1))) ?_
    refine lv_if_ge (tgt := 39) hx hb dX5_bitsOf_16 (by decide) (fun c_16 => ?_) (fun c_16 => ?_)
    · skip
      exact absurd c_16 (by decide)
    · skip
      refine lv_iload hx hb dX5_bitsOf_19 (lv_at hl 0 rfl) ?_
      refine lv_sipush (v := nI 1022) hx hb dX5_bitsOf_21 (by decide) ?_
      refine n_icmp_ge (tgt := 39) hx hb dX5_bitsOf_24 (by decide) (by decide) (by decide) (fun c_24 => ?_) (fun c_24 => ?_)
      · skip
        exact absurd c_24 (by omega)
      · skip
        refine lv_dload_n hx hb dX5_bitsOf_27 rfl (lv_at hl 1 rfl) ?_
        refine lv_ldc2d (v := 4611686018427387904) hx hb C0.ow (C0.ts _ kw_X5_337) dX5_bitsOf_28 ?_
        refine lv_dmul hx hb dX5_bitsOf_31 (by unfold vf_n64; decide +kernel) ?_
        refine n_top (y := .double 4602979059147804945) (congrArg Value.double (by decide +kernel : FP.dmul 4598475459520434449 4611686018427387904 = (4602979059147804945 : UInt64))) ?_
        refine lv_dstore_n (lv' := [(2, .double (4602979059147804945)), (4, .int (nI (0))), (0, .double (4598475459520434449))]) hx hb dX5_bitsOf_32 rfl hl (by decide) rfl (fun ls hl => ?_)
        refine lv_iinc (v := nI 1) (lv' := [(4, .int (nI (1))), (2, .double (4602979059147804945)), (0, .double (4598475459520434449))]) hx hb dX5_bitsOf_33 hl (k := 1) rfl (by decide) (by decide) rfl (fun ls hl => ?_)
        refine lv_goto (tgt := 13) hx hb dX5_bitsOf_36 (by decide) ?_
        refine lv_dload_n hx hb dX5_bitsOf_13 rfl (lv_at hl 1 rfl) ?_
        refine lv_dconst1 hx hb dX5_bitsOf_14 ?_
        refine n_top (y := .double 4607182418800017408) (congrArg Value.double (by decide +kernel : FP.dconst1 = (4607182418800017408 : UInt64))) ?_
        refine lv_dcmp hx hb dX5_bitsOf_15 ?_
        refine n_top (y := .int ((-1))) (congrArg Value.int (by decide +kernel : Op.cmpValue (FP.dcmp 4602979059147804945 4607182418800017408) .g = (-1))) ?_
        refine lv_if_ge (tgt := 39) hx hb dX5_bitsOf_16 (by decide) (fun c_16 => ?_) (fun c_16 => ?_)
        · skip
          exact absurd c_16 (by decide)
        · skip
          refine lv_iload hx hb dX5_bitsOf_19 (lv_at hl 0 rfl) ?_
          refine lv_sipush (v := nI 1022) hx hb dX5_bitsOf_21 (by decide) ?_
          refine n_icmp_ge (tgt := 39) hx hb dX5_bitsOf_24 (by decide) (by decide) (by decide) (fun c_24 => ?_) (fun c_24 => ?_)
          · skip
            exact absurd c_24 (by omega)
          · skip
            refine lv_dload_n hx hb dX5_bitsOf_27 rfl (lv_at hl 1 rfl) ?_
            refine lv_ldc2d (v := 4611686018427387904) hx hb C0.ow (C0.ts _ kw_X5_337) dX5_bitsOf_28 ?_
            refine lv_dmul hx hb dX5_bitsOf_31 (by unfold vf_n64; decide +kernel) ?_
            refine n_top (y := .double 4607482658775175441) (congrArg Value.double (by decide +kernel : FP.dmul 4602979059147804945 4611686018427387904 = (4607482658775175441 : UInt64))) ?_
            refine lv_dstore_n (lv' := [(2, .double (4607482658775175441)), (4, .int (nI (1))), (0, .double (4598475459520434449))]) hx hb dX5_bitsOf_32 rfl hl (by decide) rfl (fun ls hl => ?_)
            refine lv_iinc (v := nI 2) (lv' := [(4, .int (nI (2))), (2, .double (4607482658775175441)), (0, .double (4598475459520434449))]) hx hb dX5_bitsOf_33 hl (k := 1) rfl (by decide) (by decide) rfl (fun ls hl => ?_)
            refine lv_goto (tgt := 13) hx hb dX5_bitsOf_36 (by decide) ?_
            refine lv_dload_n hx hb dX5_bitsOf_13 rfl (lv_at hl 1 rfl) ?_
            refine lv_dconst1 hx hb dX5_bitsOf_14 ?_
            refine n_top (y := .double 4607182418800017408) (congrArg Value.double (by decide +kernel : FP.dconst1 = (4607182418800017408 : UInt64))) ?_
            refine lv_dcmp hx hb dX5_bitsOf_15 ?_
            refine n_top (y := .int (nI 1)) (congrArg Value.int (by decide +kernel : Op.cmpValue (FP.dcmp 4607482658775175441 4607182418800017408) .g = nI 1)) ?_
            refine n_if_ge (tgt := 39) hx hb dX5_bitsOf_16 (by decide) (by decide) ?_
            refine lv_sipush (v := nI 1023) hx hb dX5_bitsOf_39 (by decide) ?_
            refine lv_iload hx hb dX5_bitsOf_42 (lv_at hl 0 rfl) ?_
            refine n_isub hx hb (by omega) dX5_bitsOf_44 ?_
            refine n_i2l hx hb (by omega) dX5_bitsOf_45 ?_
            refine lv_lstore (lv' := [(5, .long (lN (1023 - 2))), (4, .int (nI (2))), (2, .double (4607482658775175441)), (0, .double (4598475459520434449))]) hx hb dX5_bitsOf_46 hl (by decide) rfl (fun ls hl => ?_)
            refine lv_dload_n hx hb dX5_bitsOf_48 rfl (lv_at hl 2 rfl) ?_
            refine lv_dconst1 hx hb dX5_bitsOf_49 ?_
            refine n_top (y := .double 4607182418800017408) (congrArg Value.double (by decide +kernel : FP.dconst1 = (4607182418800017408 : UInt64))) ?_
            refine lv_dsub hx hb dX5_bitsOf_50 (by unfold vf_n64; decide +kernel) ?_
            refine n_top (y := .double 4589468260265693456) (congrArg Value.double (by decide +kernel : FP.dsub 4607482658775175441 4607182418800017408 = (4589468260265693456 : UInt64))) ?_
            refine lv_ldc2d (v := 4841369599423283200) hx hb C0.ow (C0.ts _ kw_X5_339) dX5_bitsOf_51 ?_
            refine lv_dmul hx hb dX5_bitsOf_54 (by unfold vf_n64; decide +kernel) ?_
            refine n_top (y := .double 4823655440888959248) (congrArg Value.double (by decide +kernel : FP.dmul 4589468260265693456 4841369599423283200 = (4823655440888959248 : UInt64))) ?_
            refine lv_d2l hx hb dX5_bitsOf_55 ?_
            refine n_top (y := .long (lN 300239975158033)) (congrArg Value.long (by decide +kernel : FP.d2l 4823655440888959248 = lN 300239975158033)) ?_
            refine lv_lstore (lv' := [(7, .long (lN (300239975158033))), (5, .long (lN (1023 - 2))), (4, .int (nI (2))), (2, .double (4607482658775175441)), (0, .double (4598475459520434449))]) hx hb dX5_bitsOf_56 hl (by decide) rfl (fun ls hl => ?_)
            refine lv_lload hx hb dX5_bitsOf_58 (lv_at hl 1 rfl) ?_
            refine lv_bipush (v := nI 52) hx hb dX5_bitsOf_60 (by decide) ?_
            refine lv_lshl (v := lN 4598175219545276416) hx hb dX5_bitsOf_62 (by decide +kernel) ?_
            refine lv_lload hx hb dX5_bitsOf_63 (lv_at hl 0 rfl) ?_
            refine n_ladd hx hb dX5_bitsOf_65 ?_
            exact r_l C0 hr hlk hw ⟨(by decide +kernel), (fun q  => rfl)⟩ (Nat.le_refl _) (Nat.le_refl _) dX5_bitsOf_66 hQ
  · skip
    exact absurd c_3 (by decide)
set_option maxHeartbeats 4000000 in
set_option maxRecDepth 100000 in
theorem c_X5_bitsOf_4598675619503873138 (l : Launch) (G : Gl) (L : List Nat) (F : Nat → va_E) : CL l yX5_bitsOf cX5_bitsOf 9 (some .long) rm_X5_bitsOf G L F [.double (4598675619503873138)] (fun r F1 => r = (4598675619503873138 : UInt64).toInt64 ∧ ∀ q, F1 q = F q) := by
  refine CG_of (by decide) (Nat.le_of_ble_eq_true rfl) rfl ?_
  intro p e s m args below meth c Q C0 hr hlk hnm hQ hw ls hl
  have hx := C0.x
  have hb := C0.b
  refine lv_dload_n hx hb dX5_bitsOf_0 rfl (lv_at hl 0 rfl) ?_
  refine lv_dconst0 hx hb dX5_bitsOf_1 ?_
  refine n_top (y := .double 0) (congrArg Value.double (by decide +kernel : FP.dconst0 = (0 : UInt64))) ?_
  refine lv_dcmp hx hb dX5_bitsOf_2 ?_
  refine n_top (y := .int (nI 1)) (congrArg Value.int (by decide +kernel : Op.cmpValue (FP.dcmp 4598675619503873138 0) .g = nI 1)) ?_
  refine n_if_gt (tgt := 8) hx hb dX5_bitsOf_3 (by decide) (by decide) (fun c_3 => ?_) (fun c_3 => ?_)
  · skip
    refine lv_dload_n hx hb dX5_bitsOf_8 rfl (lv_at hl 0 rfl) ?_
    refine lv_dstore_n (lv' := [(2, .double (4598675619503873138)), (0, .double (4598675619503873138))]) hx hb dX5_bitsOf_9 rfl hl (by decide) rfl (fun ls hl => ?_)
    refine lv_iconst (v := nI 0) hx hb dX5_bitsOf_10 (by decide) ?_
    refine lv_istore (lv' := [(4, .int (nI (0))), (2, .double (4598675619503873138)), (0, .double (4598675619503873138))]) hx hb dX5_bitsOf_11 hl (by decide) rfl (fun ls hl => ?_)
    refine lv_dload_n hx hb dX5_bitsOf_13 rfl (lv_at hl 1 rfl) ?_
    refine lv_dconst1 hx hb dX5_bitsOf_14 ?_
    refine n_top (y := .double 4607182418800017408) (congrArg Value.double (by decide +kernel : FP.dconst1 = (4607182418800017408 : UInt64))) ?_
    refine lv_dcmp hx hb dX5_bitsOf_15 ?_
    refine n_top (y := .int ((-1))) (congrArg Value.int (by decide +kernel : Op.cmpValue (FP.dcmp 4598675619503873138 4607182418800017408) .g = (-1))) ?_
    refine lv_if_ge (tgt := 39) hx hb dX5_bitsOf_16 (by decide) (fun c_16 => ?_) (fun c_16 => ?_)
    · skip
      exact absurd c_16 (by decide)
    · skip
      refine lv_iload hx hb dX5_bitsOf_19 (lv_at hl 0 rfl) ?_
      refine lv_sipush (v := nI 1022) hx hb dX5_bitsOf_21 (by decide) ?_
      refine n_icmp_ge (tgt := 39) hx hb dX5_bitsOf_24 (by decide) (by decide) (by decide) (fun c_24 => ?_) (fun c_24 => ?_)
      · skip
        exact absurd c_24 (by omega)
      · skip
        refine lv_dload_n hx hb dX5_bitsOf_27 rfl (lv_at hl 1 rfl) ?_
        refine lv_ldc2d (v := 4611686018427387904) hx hb C0.ow (C0.ts _ kw_X5_337) dX5_bitsOf_28 ?_
        refine lv_dmul hx hb dX5_bitsOf_31 (by unfold vf_n64; decide +kernel) ?_
        refine n_top (y := .double 4603179219131243634) (congrArg Value.double (by decide +kernel : FP.dmul 4598675619503873138 4611686018427387904 = (4603179219131243634 : UInt64))) ?_
        refine lv_dstore_n (lv' := [(2, .double (4603179219131243634)), (4, .int (nI (0))), (0, .double (4598675619503873138))]) hx hb dX5_bitsOf_32 rfl hl (by decide) rfl (fun ls hl => ?_)
        refine lv_iinc (v := nI 1) (lv' := [(4, .int (nI (1))), (2, .double (4603179219131243634)), (0, .double (4598675619503873138))]) hx hb dX5_bitsOf_33 hl (k := 1) rfl (by decide) (by decide) rfl (fun ls hl => ?_)
        refine lv_goto (tgt := 13) hx hb dX5_bitsOf_36 (by decide) ?_
        refine lv_dload_n hx hb dX5_bitsOf_13 rfl (lv_at hl 1 rfl) ?_
        refine lv_dconst1 hx hb dX5_bitsOf_14 ?_
        refine n_top (y := .double 4607182418800017408) (congrArg Value.double (by decide +kernel : FP.dconst1 = (4607182418800017408 : UInt64))) ?_
        refine lv_dcmp hx hb dX5_bitsOf_15 ?_
        refine n_top (y := .int ((-1))) (congrArg Value.int (by decide +kernel : Op.cmpValue (FP.dcmp 4603179219131243634 4607182418800017408) .g = (-1))) ?_
        refine lv_if_ge (tgt := 39) hx hb dX5_bitsOf_16 (by decide) (fun c_16 => ?_) (fun c_16 => ?_)
        · skip
          exact absurd c_16 (by decide)
        · skip
          refine lv_iload hx hb dX5_bitsOf_19 (lv_at hl 0 rfl) ?_
          refine lv_sipush (v := nI 1022) hx hb dX5_bitsOf_21 (by decide) ?_
          refine n_icmp_ge (tgt := 39) hx hb dX5_bitsOf_24 (by decide) (by decide) (by decide) (fun c_24 => ?_) (fun c_24 => ?_)
          · skip
            exact absurd c_24 (by omega)
          · skip
            refine lv_dload_n hx hb dX5_bitsOf_27 rfl (lv_at hl 1 rfl) ?_
            refine lv_ldc2d (v := 4611686018427387904) hx hb C0.ow (C0.ts _ kw_X5_337) dX5_bitsOf_28 ?_
            refine lv_dmul hx hb dX5_bitsOf_31 (by unfold vf_n64; decide +kernel) ?_
            refine n_top (y := .double 4607682818758614130) (congrArg Value.double (by decide +kernel : FP.dmul 4603179219131243634 4611686018427387904 = (4607682818758614130 : UInt64))) ?_
            refine lv_dstore_n (lv' := [(2, .double (4607682818758614130)), (4, .int (nI (1))), (0, .double (4598675619503873138))]) hx hb dX5_bitsOf_32 rfl hl (by decide) rfl (fun ls hl => ?_)
            refine lv_iinc (v := nI 2) (lv' := [(4, .int (nI (2))), (2, .double (4607682818758614130)), (0, .double (4598675619503873138))]) hx hb dX5_bitsOf_33 hl (k := 1) rfl (by decide) (by decide) rfl (fun ls hl => ?_)
            refine lv_goto (tgt := 13) hx hb dX5_bitsOf_36 (by decide) ?_
            refine lv_dload_n hx hb dX5_bitsOf_13 rfl (lv_at hl 1 rfl) ?_
            refine lv_dconst1 hx hb dX5_bitsOf_14 ?_
            refine n_top (y := .double 4607182418800017408) (congrArg Value.double (by decide +kernel : FP.dconst1 = (4607182418800017408 : UInt64))) ?_
            refine lv_dcmp hx hb dX5_bitsOf_15 ?_
            refine n_top (y := .int (nI 1)) (congrArg Value.int (by decide +kernel : Op.cmpValue (FP.dcmp 4607682818758614130 4607182418800017408) .g = nI 1)) ?_
            refine n_if_ge (tgt := 39) hx hb dX5_bitsOf_16 (by decide) (by decide) ?_
            refine lv_sipush (v := nI 1023) hx hb dX5_bitsOf_39 (by decide) ?_
            refine lv_iload hx hb dX5_bitsOf_42 (lv_at hl 0 rfl) ?_
            refine n_isub hx hb (by omega) dX5_bitsOf_44 ?_
            refine n_i2l hx hb (by omega) dX5_bitsOf_45 ?_
            refine lv_lstore (lv' := [(5, .long (lN (1023 - 2))), (4, .int (nI (2))), (2, .double (4607682818758614130)), (0, .double (4598675619503873138))]) hx hb dX5_bitsOf_46 hl (by decide) rfl (fun ls hl => ?_)
            refine lv_dload_n hx hb dX5_bitsOf_48 rfl (lv_at hl 2 rfl) ?_
            refine lv_dconst1 hx hb dX5_bitsOf_49 ?_
            refine n_top (y := .double 4607182418800017408) (congrArg Value.double (by decide +kernel : FP.dconst1 = (4607182418800017408 : UInt64))) ?_
            refine lv_dsub hx hb dX5_bitsOf_50 (by unfold vf_n64; decide +kernel) ?_
            refine n_top (y := .double 4592670820000712480) (congrArg Value.double (by decide +kernel : FP.dsub 4607682818758614130 4607182418800017408 = (4592670820000712480 : UInt64))) ?_
            refine lv_ldc2d (v := 4841369599423283200) hx hb C0.ow (C0.ts _ kw_X5_339) dX5_bitsOf_51 ?_
            refine lv_dmul hx hb dX5_bitsOf_54 (by unfold vf_n64; decide +kernel) ?_
            refine n_top (y := .double 4826858000623978272) (congrArg Value.double (by decide +kernel : FP.dmul 4592670820000712480 4841369599423283200 = (4826858000623978272 : UInt64))) ?_
            refine lv_d2l hx hb dX5_bitsOf_55 ?_
            refine n_top (y := .long (lN 500399958596722)) (congrArg Value.long (by decide +kernel : FP.d2l 4826858000623978272 = lN 500399958596722)) ?_
            refine lv_lstore (lv' := [(7, .long (lN (500399958596722))), (5, .long (lN (1023 - 2))), (4, .int (nI (2))), (2, .double (4607682818758614130)), (0, .double (4598675619503873138))]) hx hb dX5_bitsOf_56 hl (by decide) rfl (fun ls hl => ?_)
            refine lv_lload hx hb dX5_bitsOf_58 (lv_at hl 1 rfl) ?_
            refine lv_bipush (v := nI 52) hx hb dX5_bitsOf_60 (by decide) ?_
            refine lv_lshl (v := lN 4598175219545276416) hx hb dX5_bitsOf_62 (by decide +kernel) ?_
            refine lv_lload hx hb dX5_bitsOf_63 (lv_at hl 0 rfl) ?_
            refine n_ladd hx hb dX5_bitsOf_65 ?_
            exact r_l C0 hr hlk hw ⟨(by decide +kernel), (fun q  => rfl)⟩ (Nat.le_refl _) (Nat.le_refl _) dX5_bitsOf_66 hQ
  · skip
    exact absurd c_3 (by decide)
set_option maxHeartbeats 4000000 in
set_option maxRecDepth 100000 in
theorem c_X5_bitsOf_4598925819483171499 (l : Launch) (G : Gl) (L : List Nat) (F : Nat → va_E) : CL l yX5_bitsOf cX5_bitsOf 9 (some .long) rm_X5_bitsOf G L F [.double (4598925819483171499)] (fun r F1 => r = (4598925819483171499 : UInt64).toInt64 ∧ ∀ q, F1 q = F q) := by
  refine CG_of (by decide) (Nat.le_of_ble_eq_true rfl) rfl ?_
  intro p e s m args below meth c Q C0 hr hlk hnm hQ hw ls hl
  have hx := C0.x
  have hb := C0.b
  refine lv_dload_n hx hb dX5_bitsOf_0 rfl (lv_at hl 0 rfl) ?_
  refine lv_dconst0 hx hb dX5_bitsOf_1 ?_
  refine n_top (y := .double 0) (congrArg Value.double (by decide +kernel : FP.dconst0 = (0 : UInt64))) ?_
  refine lv_dcmp hx hb dX5_bitsOf_2 ?_
  refine n_top (y := .int (nI 1)) (congrArg Value.int (by decide +kernel : Op.cmpValue (FP.dcmp 4598925819483171499 0) .g = nI 1)) ?_
  refine n_if_gt (tgt := 8) hx hb dX5_bitsOf_3 (by decide) (by decide) (fun c_3 => ?_) (fun c_3 => ?_)
  · skip
    refine lv_dload_n hx hb dX5_bitsOf_8 rfl (lv_at hl 0 rfl) ?_
    refine lv_dstore_n (lv' := [(2, .double (4598925819483171499)), (0, .double (4598925819483171499))]) hx hb dX5_bitsOf_9 rfl hl (by decide) rfl (fun ls hl => ?_)
    refine lv_iconst (v := nI 0) hx hb dX5_bitsOf_10 (by decide) ?_
    refine lv_istore (lv' := [(4, .int (nI (0))), (2, .double (4598925819483171499)), (0, .double (4598925819483171499))]) hx hb dX5_bitsOf_11 hl (by decide) rfl (fun ls hl => ?_)
    refine lv_dload_n hx hb dX5_bitsOf_13 rfl (lv_at hl 1 rfl) ?_
    refine lv_dconst1 hx hb dX5_bitsOf_14 ?_
    refine n_top (y := .double 4607182418800017408) (congrArg Value.double (by decide +kernel : FP.dconst1 = (4607182418800017408 : UInt64))) ?_
    refine lv_dcmp hx hb dX5_bitsOf_15 ?_
    refine n_top (y := .int ((-1))) (congrArg Value.int (by decide +kernel : Op.cmpValue (FP.dcmp 4598925819483171499 4607182418800017408) .g = (-1))) ?_
    refine lv_if_ge (tgt := 39) hx hb dX5_bitsOf_16 (by decide) (fun c_16 => ?_) (fun c_16 => ?_)
    · skip
      exact absurd c_16 (by decide)
    · skip
      refine lv_iload hx hb dX5_bitsOf_19 (lv_at hl 0 rfl) ?_
      refine lv_sipush (v := nI 1022) hx hb dX5_bitsOf_21 (by decide) ?_
      refine n_icmp_ge (tgt := 39) hx hb dX5_bitsOf_24 (by decide) (by decide) (by decide) (fun c_24 => ?_) (fun c_24 => ?_)
      · skip
        exact absurd c_24 (by omega)
      · skip
        refine lv_dload_n hx hb dX5_bitsOf_27 rfl (lv_at hl 1 rfl) ?_
        refine lv_ldc2d (v := 4611686018427387904) hx hb C0.ow (C0.ts _ kw_X5_337) dX5_bitsOf_28 ?_
        refine lv_dmul hx hb dX5_bitsOf_31 (by unfold vf_n64; decide +kernel) ?_
        refine n_top (y := .double 4603429419110541995) (congrArg Value.double (by decide +kernel : FP.dmul 4598925819483171499 4611686018427387904 = (4603429419110541995 : UInt64))) ?_
        refine lv_dstore_n (lv' := [(2, .double (4603429419110541995)), (4, .int (nI (0))), (0, .double (4598925819483171499))]) hx hb dX5_bitsOf_32 rfl hl (by decide) rfl (fun ls hl => ?_)
        refine lv_iinc (v := nI 1) (lv' := [(4, .int (nI (1))), (2, .double (4603429419110541995)), (0, .double (4598925819483171499))]) hx hb dX5_bitsOf_33 hl (k := 1) rfl (by decide) (by decide) rfl (fun ls hl => ?_)
        refine lv_goto (tgt := 13) hx hb dX5_bitsOf_36 (by decide) ?_
        refine lv_dload_n hx hb dX5_bitsOf_13 rfl (lv_at hl 1 rfl) ?_
        refine lv_dconst1 hx hb dX5_bitsOf_14 ?_
        refine n_top (y := .double 4607182418800017408) (congrArg Value.double (by decide +kernel : FP.dconst1 = (4607182418800017408 : UInt64))) ?_
        refine lv_dcmp hx hb dX5_bitsOf_15 ?_
        refine n_top (y := .int ((-1))) (congrArg Value.int (by decide +kernel : Op.cmpValue (FP.dcmp 4603429419110541995 4607182418800017408) .g = (-1))) ?_
        refine lv_if_ge (tgt := 39) hx hb dX5_bitsOf_16 (by decide) (fun c_16 => ?_) (fun c_16 => ?_)
        · skip
          exact absurd c_16 (by decide)
        · skip
          refine lv_iload hx hb dX5_bitsOf_19 (lv_at hl 0 rfl) ?_
          refine lv_sipush (v := nI 1022) hx hb dX5_bitsOf_21 (by decide) ?_
          refine n_icmp_ge (tgt := 39) hx hb dX5_bitsOf_24 (by decide) (by decide) (by decide) (fun c_24 => ?_) (fun c_24 => ?_)
          · skip
            exact absurd c_24 (by omega)
          · skip
            refine lv_dload_n hx hb dX5_bitsOf_27 rfl (lv_at hl 1 rfl) ?_
            refine lv_ldc2d (v := 4611686018427387904) hx hb C0.ow (C0.ts _ kw_X5_337) dX5_bitsOf_28 ?_
            refine lv_dmul hx hb dX5_bitsOf_31 (by unfold vf_n64; decide +kernel) ?_
            refine n_top (y := .double 4607933018737912491) (congrArg Value.double (by decide +kernel : FP.dmul 4603429419110541995 4611686018427387904 = (4607933018737912491 : UInt64))) ?_
            refine lv_dstore_n (lv' := [(2, .double (4607933018737912491)), (4, .int (nI (1))), (0, .double (4598925819483171499))]) hx hb dX5_bitsOf_32 rfl hl (by decide) rfl (fun ls hl => ?_)
            refine lv_iinc (v := nI 2) (lv' := [(4, .int (nI (2))), (2, .double (4607933018737912491)), (0, .double (4598925819483171499))]) hx hb dX5_bitsOf_33 hl (k := 1) rfl (by decide) (by decide) rfl (fun ls hl => ?_)
            refine lv_goto (tgt := 13) hx hb dX5_bitsOf_36 (by decide) ?_
            refine lv_dload_n hx hb dX5_bitsOf_13 rfl (lv_at hl 1 rfl) ?_
            refine lv_dconst1 hx hb dX5_bitsOf_14 ?_
            refine n_top (y := .double 4607182418800017408) (congrArg Value.double (by decide +kernel : FP.dconst1 = (4607182418800017408 : UInt64))) ?_
            refine lv_dcmp hx hb dX5_bitsOf_15 ?_
            refine n_top (y := .int (nI 1)) (congrArg Value.int (by decide +kernel : Op.cmpValue (FP.dcmp 4607933018737912491 4607182418800017408) .g = nI 1)) ?_
            refine n_if_ge (tgt := 39) hx hb dX5_bitsOf_16 (by decide) (by decide) ?_
            refine lv_sipush (v := nI 1023) hx hb dX5_bitsOf_39 (by decide) ?_
            refine lv_iload hx hb dX5_bitsOf_42 (lv_at hl 0 rfl) ?_
            refine n_isub hx hb (by omega) dX5_bitsOf_44 ?_
            refine n_i2l hx hb (by omega) dX5_bitsOf_45 ?_
            refine lv_lstore (lv' := [(5, .long (lN (1023 - 2))), (4, .int (nI (2))), (2, .double (4607933018737912491)), (0, .double (4598925819483171499))]) hx hb dX5_bitsOf_46 hl (by decide) rfl (fun ls hl => ?_)
            refine lv_dload_n hx hb dX5_bitsOf_48 rfl (lv_at hl 2 rfl) ?_
            refine lv_dconst1 hx hb dX5_bitsOf_49 ?_
            refine n_top (y := .double 4607182418800017408) (congrArg Value.double (by decide +kernel : FP.dconst1 = (4607182418800017408 : UInt64))) ?_
            refine lv_dsub hx hb dX5_bitsOf_50 (by unfold vf_n64; decide +kernel) ?_
            refine n_top (y := .double 4595172819793696088) (congrArg Value.double (by decide +kernel : FP.dsub 4607933018737912491 4607182418800017408 = (4595172819793696088 : UInt64))) ?_
            refine lv_ldc2d (v := 4841369599423283200) hx hb C0.ow (C0.ts _ kw_X5_339) dX5_bitsOf_51 ?_
            refine lv_dmul hx hb dX5_bitsOf_54 (by unfold vf_n64; decide +kernel) ?_
            refine n_top (y := .double 4829360000416961880) (congrArg Value.double (by decide +kernel : FP.dmul 4595172819793696088 4841369599423283200 = (4829360000416961880 : UInt64))) ?_
            refine lv_d2l hx hb dX5_bitsOf_55 ?_
            refine n_top (y := .long (lN 750599937895083)) (congrArg Value.long (by decide +kernel : FP.d2l 4829360000416961880 = lN 750599937895083)) ?_
            refine lv_lstore (lv' := [(7, .long (lN (750599937895083))), (5, .long (lN (1023 - 2))), (4, .int (nI (2))), (2, .double (4607933018737912491)), (0, .double (4598925819483171499))]) hx hb dX5_bitsOf_56 hl (by decide) rfl (fun ls hl => ?_)
            refine lv_lload hx hb dX5_bitsOf_58 (lv_at hl 1 rfl) ?_
            refine lv_bipush (v := nI 52) hx hb dX5_bitsOf_60 (by decide) ?_
            refine lv_lshl (v := lN 4598175219545276416) hx hb dX5_bitsOf_62 (by decide +kernel) ?_
            refine lv_lload hx hb dX5_bitsOf_63 (lv_at hl 0 rfl) ?_
            refine n_ladd hx hb dX5_bitsOf_65 ?_
            exact r_l C0 hr hlk hw ⟨(by decide +kernel), (fun q  => rfl)⟩ (Nat.le_refl _) (Nat.le_refl _) dX5_bitsOf_66 hQ
  · skip
    exact absurd c_3 (by decide)
set_option maxHeartbeats 4000000 in
set_option maxRecDepth 100000 in
theorem c_X5_bitsOf_4599075939470750515 (l : Launch) (G : Gl) (L : List Nat) (F : Nat → va_E) : CL l yX5_bitsOf cX5_bitsOf 9 (some .long) rm_X5_bitsOf G L F [.double (4599075939470750515)] (fun r F1 => r = (4599075939470750515 : UInt64).toInt64 ∧ ∀ q, F1 q = F q) := by
  refine CG_of (by decide) (Nat.le_of_ble_eq_true rfl) rfl ?_
  intro p e s m args below meth c Q C0 hr hlk hnm hQ hw ls hl
  have hx := C0.x
  have hb := C0.b
  refine lv_dload_n hx hb dX5_bitsOf_0 rfl (lv_at hl 0 rfl) ?_
  refine lv_dconst0 hx hb dX5_bitsOf_1 ?_
  refine n_top (y := .double 0) (congrArg Value.double (by decide +kernel : FP.dconst0 = (0 : UInt64))) ?_
  refine lv_dcmp hx hb dX5_bitsOf_2 ?_
  refine n_top (y := .int (nI 1)) (congrArg Value.int (by decide +kernel : Op.cmpValue (FP.dcmp 4599075939470750515 0) .g = nI 1)) ?_
  refine n_if_gt (tgt := 8) hx hb dX5_bitsOf_3 (by decide) (by decide) (fun c_3 => ?_) (fun c_3 => ?_)
  · skip
    refine lv_dload_n hx hb dX5_bitsOf_8 rfl (lv_at hl 0 rfl) ?_
    refine lv_dstore_n (lv' := [(2, .double (4599075939470750515)), (0, .double (4599075939470750515))]) hx hb dX5_bitsOf_9 rfl hl (by decide) rfl (fun ls hl => ?_)
    refine lv_iconst (v := nI 0) hx hb dX5_bitsOf_10 (by decide) ?_
    refine lv_istore (lv' := [(4, .int (nI (0))), (2, .double (4599075939470750515)), (0, .double (4599075939470750515))]) hx hb dX5_bitsOf_11 hl (by decide) rfl (fun ls hl => ?_)
    refine lv_dload_n hx hb dX5_bitsOf_13 rfl (lv_at hl 1 rfl) ?_
    refine lv_dconst1 hx hb dX5_bitsOf_14 ?_
    refine n_top (y := .double 4607182418800017408) (congrArg Value.double (by decide +kernel : FP.dconst1 = (4607182418800017408 : UInt64))) ?_
    refine lv_dcmp hx hb dX5_bitsOf_15 ?_
    refine n_top (y := .int ((-1))) (congrArg Value.int (by decide +kernel : Op.cmpValue (FP.dcmp 4599075939470750515 4607182418800017408) .g = (-1))) ?_
    refine lv_if_ge (tgt := 39) hx hb dX5_bitsOf_16 (by decide) (fun c_16 => ?_) (fun c_16 => ?_)
    · skip
      exact absurd c_16 (by decide)
    · skip
      refine lv_iload hx hb dX5_bitsOf_19 (lv_at hl 0 rfl) ?_
      refine lv_sipush (v := nI 1022) hx hb dX5_bitsOf_21 (by decide) ?_
      refine n_icmp_ge (tgt := 39) hx hb dX5_bitsOf_24 (by decide) (by decide) (by decide) (fun c_24 => ?_) (fun c_24 => ?_)
      · skip
        exact absurd c_24 (by omega)
      · skip
        refine lv_dload_n hx hb dX5_bitsOf_27 rfl (lv_at hl 1 rfl) ?_
        refine lv_ldc2d (v := 4611686018427387904) hx hb C0.ow (C0.ts _ kw_X5_337) dX5_bitsOf_28 ?_
        refine lv_dmul hx hb dX5_bitsOf_31 (by unfold vf_n64; decide +kernel) ?_
        refine n_top (y := .double 4603579539098121011) (congrArg Value.double (by decide +kernel : FP.dmul 4599075939470750515 4611686018427387904 = (4603579539098121011 : UInt64))) ?_
        refine lv_dstore_n (lv' := [(2, .double (4603579539098121011)), (4, .int (nI (0))), (0, .double (4599075939470750515))]) hx hb dX5_bitsOf_32 rfl hl (by decide) rfl (fun ls hl => ?_)
        refine lv_iinc (v := nI 1) (lv' := [(4, .int (nI (1))), (2, .double (4603579539098121011)), (0, .double (4599075939470750515))]) hx hb dX5_bitsOf_33 hl (k := 1) rfl (by decide) (by decide) rfl (fun ls hl => ?_)
        refine lv_goto (tgt := 13) hx hb dX5_bitsOf_36 (by decide) ?_
        refine lv_dload_n hx hb dX5_bitsOf_13 rfl (lv_at hl 1 rfl) ?_
        refine lv_dconst1 hx hb dX5_bitsOf_14 ?_
        refine n_top (y := .double 4607182418800017408) (congrArg Value.double (by decide +kernel : FP.dconst1 = (4607182418800017408 : UInt64))) ?_
        refine lv_dcmp hx hb dX5_bitsOf_15 ?_
        refine n_top (y := .int ((-1))) (congrArg Value.int (by decide +kernel : Op.cmpValue (FP.dcmp 4603579539098121011 4607182418800017408) .g = (-1))) ?_
        refine lv_if_ge (tgt := 39) hx hb dX5_bitsOf_16 (by decide) (fun c_16 => ?_) (fun c_16 => ?_)
        · skip
          exact absurd c_16 (by decide)
        · skip
          refine lv_iload hx hb dX5_bitsOf_19 (lv_at hl 0 rfl) ?_
          refine lv_sipush (v := nI 1022) hx hb dX5_bitsOf_21 (by decide) ?_
          refine n_icmp_ge (tgt := 39) hx hb dX5_bitsOf_24 (by decide) (by decide) (by decide) (fun c_24 => ?_) (fun c_24 => ?_)
          · skip
            exact absurd c_24 (by omega)
          · skip
            refine lv_dload_n hx hb dX5_bitsOf_27 rfl (lv_at hl 1 rfl) ?_
            refine lv_ldc2d (v := 4611686018427387904) hx hb C0.ow (C0.ts _ kw_X5_337) dX5_bitsOf_28 ?_
            refine lv_dmul hx hb dX5_bitsOf_31 (by unfold vf_n64; decide +kernel) ?_
            refine n_top (y := .double 4608083138725491507) (congrArg Value.double (by decide +kernel : FP.dmul 4603579539098121011 4611686018427387904 = (4608083138725491507 : UInt64))) ?_
            refine lv_dstore_n (lv' := [(2, .double (4608083138725491507)), (4, .int (nI (1))), (0, .double (4599075939470750515))]) hx hb dX5_bitsOf_32 rfl hl (by decide) rfl (fun ls hl => ?_)
            refine lv_iinc (v := nI 2) (lv' := [(4, .int (nI (2))), (2, .double (4608083138725491507)), (0, .double (4599075939470750515))]) hx hb dX5_bitsOf_33 hl (k := 1) rfl (by decide) (by decide) rfl (fun ls hl => ?_)
            refine lv_goto (tgt := 13) hx hb dX5_bitsOf_36 (by decide) ?_
            refine lv_dload_n hx hb dX5_bitsOf_13 rfl (lv_at hl 1 rfl) ?_
            refine lv_dconst1 hx hb dX5_bitsOf_14 ?_
            refine n_top (y := .double 4607182418800017408) (congrArg Value.double (by decide +kernel : FP.dconst1 = (4607182418800017408 : UInt64))) ?_
            refine lv_dcmp hx hb dX5_bitsOf_15 ?_
            refine n_top (y := .int (nI 1)) (congrArg Value.int (by decide +kernel : Op.cmpValue (FP.dcmp 4608083138725491507 4607182418800017408) .g = nI 1)) ?_
            refine n_if_ge (tgt := 39) hx hb dX5_bitsOf_16 (by decide) (by decide) ?_
            refine lv_sipush (v := nI 1023) hx hb dX5_bitsOf_39 (by decide) ?_
            refine lv_iload hx hb dX5_bitsOf_42 (lv_at hl 0 rfl) ?_
            refine n_isub hx hb (by omega) dX5_bitsOf_44 ?_
            refine n_i2l hx hb (by omega) dX5_bitsOf_45 ?_
            refine lv_lstore (lv' := [(5, .long (lN (1023 - 2))), (4, .int (nI (2))), (2, .double (4608083138725491507)), (0, .double (4599075939470750515))]) hx hb dX5_bitsOf_46 hl (by decide) rfl (fun ls hl => ?_)
            refine lv_dload_n hx hb dX5_bitsOf_48 rfl (lv_at hl 2 rfl) ?_
            refine lv_dconst1 hx hb dX5_bitsOf_49 ?_
            refine n_top (y := .double 4607182418800017408) (congrArg Value.double (by decide +kernel : FP.dconst1 = (4607182418800017408 : UInt64))) ?_
            refine lv_dsub hx hb dX5_bitsOf_50 (by unfold vf_n64; decide +kernel) ?_
            refine n_top (y := .double 4596373779694328216) (congrArg Value.double (by decide +kernel : FP.dsub 4608083138725491507 4607182418800017408 = (4596373779694328216 : UInt64))) ?_
            refine lv_ldc2d (v := 4841369599423283200) hx hb C0.ow (C0.ts _ kw_X5_339) dX5_bitsOf_51 ?_
            refine lv_dmul hx hb dX5_bitsOf_54 (by unfold vf_n64; decide +kernel) ?_
            refine n_top (y := .double 4830560960317594008) (congrArg Value.double (by decide +kernel : FP.dmul 4596373779694328216 4841369599423283200 = (4830560960317594008 : UInt64))) ?_
            refine lv_d2l hx hb dX5_bitsOf_55 ?_
            refine n_top (y := .long (lN 900719925474099)) (congrArg Value.long (by decide +kernel : FP.d2l 4830560960317594008 = lN 900719925474099)) ?_
            refine lv_lstore (lv' := [(7, .long (lN (900719925474099))), (5, .long (lN (1023 - 2))), (4, .int (nI (2))), (2, .double (4608083138725491507)), (0, .double (4599075939470750515))]) hx hb dX5_bitsOf_56 hl (by decide) rfl (fun ls hl => ?_)
            refine lv_lload hx hb dX5_bitsOf_58 (lv_at hl 1 rfl) ?_
            refine lv_bipush (v := nI 52) hx hb dX5_bitsOf_60 (by decide) ?_
            refine lv_lshl (v := lN 4598175219545276416) hx hb dX5_bitsOf_62 (by decide +kernel) ?_
            refine lv_lload hx hb dX5_bitsOf_63 (lv_at hl 0 rfl) ?_
            refine n_ladd hx hb dX5_bitsOf_65 ?_
            exact r_l C0 hr hlk hw ⟨(by decide +kernel), (fun q  => rfl)⟩ (Nat.le_refl _) (Nat.le_refl _) dX5_bitsOf_66 hQ
  · skip
    exact absurd c_3 (by decide)
set_option maxHeartbeats 4000000 in
set_option maxRecDepth 100000 in
theorem c_X5_bitsOf_4599676419421066581 (l : Launch) (G : Gl) (L : List Nat) (F : Nat → va_E) : CL l yX5_bitsOf cX5_bitsOf 9 (some .long) rm_X5_bitsOf G L F [.double (4599676419421066581)] (fun r F1 => r = (4599676419421066581 : UInt64).toInt64 ∧ ∀ q, F1 q = F q) := by
  refine CG_of (by decide) (Nat.le_of_ble_eq_true rfl) rfl ?_
  intro p e s m args below meth c Q C0 hr hlk hnm hQ hw ls hl
  have hx := C0.x
  have hb := C0.b
  refine lv_dload_n hx hb dX5_bitsOf_0 rfl (lv_at hl 0 rfl) ?_
  refine lv_dconst0 hx hb dX5_bitsOf_1 ?_
  refine n_top (y := .double 0) (congrArg Value.double (by decide +kernel : FP.dconst0 = (0 : UInt64))) ?_
  refine lv_dcmp hx hb dX5_bitsOf_2 ?_
  refine n_top (y := .int (nI 1)) (congrArg Value.int (by decide +kernel : Op.cmpValue (FP.dcmp 4599676419421066581 0) .g = nI 1)) ?_
  refine n_if_gt (tgt := 8) hx hb dX5_bitsOf_3 (by decide) (by decide) (fun c_3 => ?_) (fun c_3 => ?_)
  · skip
    refine lv_dload_n hx hb dX5_bitsOf_8 rfl (lv_at hl 0 rfl) ?_
    refine lv_dstore_n (lv' := [(2, .double (4599676419421066581)), (0, .double (4599676419421066581))]) hx hb dX5_bitsOf_9 rfl hl (by decide) rfl (fun ls hl => ?_)
    refine lv_iconst (v := nI 0) hx hb dX5_bitsOf_10 (by decide) ?_
    refine lv_istore (lv' := [(4, .int (nI (0))), (2, .double (4599676419421066581)), (0, .double (4599676419421066581))]) hx hb dX5_bitsOf_11 hl (by decide) rfl (fun ls hl => ?_)
    refine lv_dload_n hx hb dX5_bitsOf_13 rfl (lv_at hl 1 rfl) ?_
    refine lv_dconst1 hx hb dX5_bitsOf_14 ?_
    refine n_top (y := .double 4607182418800017408) (congrArg Value.double (by decide +kernel : FP.dconst1 = (4607182418800017408 : UInt64))) ?_
    refine lv_dcmp hx hb dX5_bitsOf_15 ?_
    refine n_top (y := .int ((-1))) (congrArg Value.int (by decide +kernel : Op.cmpValue (FP.dcmp 4599676419421066581 4607182418800017408) .g = (-1))) ?_
    refine lv_if_ge (tgt := 39) hx hb dX5_bitsOf_16 (by decide) (fun c_16 => ?_) (fun c_16 => ?_)
    · skip
      exact absurd c_16 (by decide)
    · skip
      refine lv_iload hx hb dX5_bitsOf_19 (lv_at hl 0 rfl) ?_
      refine lv_sipush (v := nI 1022) hx hb dX5_bitsOf_21 (by decide) ?_
      refine n_icmp_ge (tgt := 39) hx hb dX5_bitsOf_24 (by decide) (by decide) (by decide) (fun c_24 => ?_) (fun c_24 => ?_)
      · skip
        exact absurd c_24 (by omega)
      · skip
        refine lv_dload_n hx hb dX5_bitsOf_27 rfl (lv_at hl 1 rfl) ?_
        refine lv_ldc2d (v := 4611686018427387904) hx hb C0.ow (C0.ts _ kw_X5_337) dX5_bitsOf_28 ?_
        refine lv_dmul hx hb dX5_bitsOf_31 (by unfold vf_n64; decide +kernel) ?_
        refine n_top (y := .double 4604180019048437077) (congrArg Value.double (by decide +kernel : FP.dmul 4599676419421066581 4611686018427387904 = (4604180019048437077 : UInt64))) ?_
        refine lv_dstore_n (lv' := [(2, .double (4604180019048437077)), (4, .int (nI (0))), (0, .double (4599676419421066581))]) hx hb dX5_bitsOf_32 rfl hl (by decide) rfl (fun ls hl => ?_)
        refine lv_iinc (v := nI 1) (lv' := [(4, .int (nI (1))), (2, .double (4604180019048437077)), (0, .double (4599676419421066581))]) hx hb dX5_bitsOf_33 hl (k := 1) rfl (by decide) (by decide) rfl (fun ls hl => ?_)
        refine lv_goto (tgt := 13) hx hb dX5_bitsOf_36 (by decide) ?_
        refine lv_dload_n hx hb dX5_bitsOf_13 rfl (lv_at hl 1 rfl) ?_
        refine lv_dconst1 hx hb dX5_bitsOf_14 ?_
        refine n_top (y := .double 4607182418800017408) (congrArg Value.double (by decide +kernel : FP.dconst1 = (4607182418800017408 : UInt64))) ?_
        refine lv_dcmp hx hb dX5_bitsOf_15 ?_
        refine n_top (y := .int ((-1))) (congrArg Value.int (by decide +kernel : Op.cmpValue (FP.dcmp 4604180019048437077 4607182418800017408) .g = (-1))) ?_
        refine lv_if_ge (tgt := 39) hx hb dX5_bitsOf_16 (by decide) (fun c_16 => ?_) (fun c_16 => ?_)
        · skip
          exact absurd c_16 (by decide)
        · skip
          refine lv_iload hx hb dX5_bitsOf_19 (lv_at hl 0 rfl) ?_
          refine lv_sipush (v := nI 1022) hx hb dX5_bitsOf_21 (by decide) ?_
          refine n_icmp_ge (tgt := 39) hx hb dX5_bitsOf_24 (by decide) (by decide) (by decide) (fun c_24 => ?_) (fun c_24 => ?_)
          · skip
            exact absurd c_24 (by omega)
          · skip
            refine lv_dload_n hx hb dX5_bitsOf_27 rfl (lv_at hl 1 rfl) ?_
            refine lv_ldc2d (v := 4611686018427387904) hx hb C0.ow (C0.ts _ kw_X5_337) dX5_bitsOf_28 ?_
            refine lv_dmul hx hb dX5_bitsOf_31 (by unfold vf_n64; decide +kernel) ?_
            refine n_top (y := .double 4608683618675807573) (congrArg Value.double (by decide +kernel : FP.dmul 4604180019048437077 4611686018427387904 = (4608683618675807573 : UInt64))) ?_
            refine lv_dstore_n (lv' := [(2, .double (4608683618675807573)), (4, .int (nI (1))), (0, .double (4599676419421066581))]) hx hb dX5_bitsOf_32 rfl hl (by decide) rfl (fun ls hl => ?_)
            refine lv_iinc (v := nI 2) (lv' := [(4, .int (nI (2))), (2, .double (4608683618675807573)), (0, .double (4599676419421066581))]) hx hb dX5_bitsOf_33 hl (k := 1) rfl (by decide) (by decide) rfl (fun ls hl => ?_)
            refine lv_goto (tgt := 13) hx hb dX5_bitsOf_36 (by decide) ?_
            refine lv_dload_n hx hb dX5_bitsOf_13 rfl (lv_at hl 1 rfl) ?_
            refine lv_dconst1 hx hb dX5_bitsOf_14 ?_
            refine n_top (y := .double 4607182418800017408) (congrArg Value.double (by decide +kernel : FP.dconst1 = (4607182418800017408 : UInt64))) ?_
            refine lv_dcmp hx hb dX5_bitsOf_15 ?_
            refine n_top (y := .int (nI 1)) (congrArg Value.int (by decide +kernel : Op.cmpValue (FP.dcmp 4608683618675807573 4607182418800017408) .g = nI 1)) ?_
            refine n_if_ge (tgt := 39) hx hb dX5_bitsOf_16 (by decide) (by decide) ?_
            refine lv_sipush (v := nI 1023) hx hb dX5_bitsOf_39 (by decide) ?_
            refine lv_iload hx hb dX5_bitsOf_42 (lv_at hl 0 rfl) ?_
            refine n_isub hx hb (by omega) dX5_bitsOf_44 ?_
            refine n_i2l hx hb (by omega) dX5_bitsOf_45 ?_
            refine lv_lstore (lv' := [(5, .long (lN (1023 - 2))), (4, .int (nI (2))), (2, .double (4608683618675807573)), (0, .double (4599676419421066581))]) hx hb dX5_bitsOf_46 hl (by decide) rfl (fun ls hl => ?_)
            refine lv_dload_n hx hb dX5_bitsOf_48 rfl (lv_at hl 2 rfl) ?_
            refine lv_dconst1 hx hb dX5_bitsOf_49 ?_
            refine n_top (y := .double 4607182418800017408) (congrArg Value.double (by decide +kernel : FP.dconst1 = (4607182418800017408 : UInt64))) ?_
            refine lv_dsub hx hb dX5_bitsOf_50 (by unfold vf_n64; decide +kernel) ?_
            refine n_top (y := .double 4599676419421066580) (congrArg Value.double (by decide +kernel : FP.dsub 4608683618675807573 4607182418800017408 = (4599676419421066580 : UInt64))) ?_
            refine lv_ldc2d (v := 4841369599423283200) hx hb C0.ow (C0.ts _ kw_X5_339) dX5_bitsOf_51 ?_
            refine lv_dmul hx hb dX5_bitsOf_54 (by unfold vf_n64; decide +kernel) ?_
            refine n_top (y := .double 4833863600044332372) (congrArg Value.double (by decide +kernel : FP.dmul 4599676419421066580 4841369599423283200 = (4833863600044332372 : UInt64))) ?_
            refine lv_d2l hx hb dX5_bitsOf_55 ?_
            refine n_top (y := .long (lN 1501199875790165)) (congrArg Value.long (by decide +kernel : FP.d2l 4833863600044332372 = lN 1501199875790165)) ?_
            refine lv_lstore (lv' := [(7, .long (lN (1501199875790165))), (5, .long (lN (1023 - 2))), (4, .int (nI (2))), (2, .double (4608683618675807573)), (0, .double (4599676419421066581))]) hx hb dX5_bitsOf_56 hl (by decide) rfl (fun ls hl => ?_)
            refine lv_lload hx hb dX5_bitsOf_58 (lv_at hl 1 rfl) ?_
            refine lv_bipush (v := nI 52) hx hb dX5_bitsOf_60 (by decide) ?_
            refine lv_lshl (v := lN 4598175219545276416) hx hb dX5_bitsOf_62 (by decide +kernel) ?_
            refine lv_lload hx hb dX5_bitsOf_63 (lv_at hl 0 rfl) ?_
            refine n_ladd hx hb dX5_bitsOf_65 ?_
            exact r_l C0 hr hlk hw ⟨(by decide +kernel), (fun q  => rfl)⟩ (Nat.le_refl _) (Nat.le_refl _) dX5_bitsOf_66 hQ
  · skip
    exact absurd c_3 (by decide)
set_option maxHeartbeats 4000000 in
set_option maxRecDepth 100000 in
theorem c_X5_bitsOf_4600276899371382647 (l : Launch) (G : Gl) (L : List Nat) (F : Nat → va_E) : CL l yX5_bitsOf cX5_bitsOf 9 (some .long) rm_X5_bitsOf G L F [.double (4600276899371382647)] (fun r F1 => r = (4600276899371382647 : UInt64).toInt64 ∧ ∀ q, F1 q = F q) := by
  refine CG_of (by decide) (Nat.le_of_ble_eq_true rfl) rfl ?_
  intro p e s m args below meth c Q C0 hr hlk hnm hQ hw ls hl
  have hx := C0.x
  have hb := C0.b
  refine lv_dload_n hx hb dX5_bitsOf_0 rfl (lv_at hl 0 rfl) ?_
  refine lv_dconst0 hx hb dX5_bitsOf_1 ?_
  refine n_top (y := .double 0) (congrArg Value.double (by decide +kernel : FP.dconst0 = (0 : UInt64))) ?_
  refine lv_dcmp hx hb dX5_bitsOf_2 ?_
  refine n_top (y := .int (nI 1)) (congrArg Value.int (by decide +kernel : Op.cmpValue (FP.dcmp 4600276899371382647 0) .g = nI 1)) ?_
  refine n_if_gt (tgt := 8) hx hb dX5_bitsOf_3 (by decide) (by decide) (fun c_3 => ?_) (fun c_3 => ?_)
  · skip
    refine lv_dload_n hx hb dX5_bitsOf_8 rfl (lv_at hl 0 rfl) ?_
    refine lv_dstore_n (lv' := [(2, .double (4600276899371382647)), (0, .double (4600276899371382647))]) hx hb dX5_bitsOf_9 rfl hl (by decide) rfl (fun ls hl => ?_)
    refine lv_iconst (v := nI 0) hx hb dX5_bitsOf_10 (by decide) ?_
    refine lv_istore (lv' := [(4, .int (nI (0))), (2, .double (4600276899371382647)), (0, .double (4600276899371382647))]) hx hb dX5_bitsOf_11 hl (by decide) rfl (fun ls hl => ?_)
    refine lv_dload_n hx hb dX5_bitsOf_13 rfl (lv_at hl 1 rfl) ?_
    refine lv_dconst1 hx hb dX5_bitsOf_14 ?_
    refine n_top (y := .double 4607182418800017408) (congrArg Value.double (by decide +kernel : FP.dconst1 = (4607182418800017408 : UInt64))) ?_
    refine lv_dcmp hx hb dX5_bitsOf_15 ?_
    refine n_top (y := .int ((-1))) (congrArg Value.int (by decide +kernel : Op.cmpValue (FP.dcmp 4600276899371382647 4607182418800017408) .g = (-1))) ?_
    refine lv_if_ge (tgt := 39) hx hb dX5_bitsOf_16 (by decide) (fun c_16 => ?_) (fun c_16 => ?_)
    · skip
      exact absurd c_16 (by decide)
    · skip
      refine lv_iload hx hb dX5_bitsOf_19 (lv_at hl 0 rfl) ?_
      refine lv_sipush (v := nI 1022) hx hb dX5_bitsOf_21 (by decide) ?_
      refine n_icmp_ge (tgt := 39) hx hb dX5_bitsOf_24 (by decide) (by decide) (by decide) (fun c_24 => ?_) (fun c_24 => ?_)
      · skip
        exact absurd c_24 (by omega)
      · skip
        refine lv_dload_n hx hb dX5_bitsOf_27 rfl (lv_at hl 1 rfl) ?_
        refine lv_ldc2d (v := 4611686018427387904) hx hb C0.ow (C0.ts _ kw_X5_337) dX5_bitsOf_28 ?_
        refine lv_dmul hx hb dX5_bitsOf_31 (by unfold vf_n64; decide +kernel) ?_
        refine n_top (y := .double 4604780498998753143) (congrArg Value.double (by decide +kernel : FP.dmul 4600276899371382647 4611686018427387904 = (4604780498998753143 : UInt64))) ?_
        refine lv_dstore_n (lv' := [(2, .double (4604780498998753143)), (4, .int (nI (0))), (0, .double (4600276899371382647))]) hx hb dX5_bitsOf_32 rfl hl (by decide) rfl (fun ls hl => ?_)
        refine lv_iinc (v := nI 1) (lv' := [(4, .int (nI (1))), (2, .double (4604780498998753143)), (0, .double (4600276899371382647))]) hx hb dX5_bitsOf_33 hl (k := 1) rfl (by decide) (by decide) rfl (fun ls hl => ?_)
        refine lv_goto (tgt := 13) hx hb dX5_bitsOf_36 (by decide) ?_
        refine lv_dload_n hx hb dX5_bitsOf_13 rfl (lv_at hl 1 rfl) ?_
        refine lv_dconst1 hx hb dX5_bitsOf_14 ?_
        refine n_top (y := .double 4607182418800017408) (congrArg Value.double (by decide +kernel : FP.dconst1 = (4607182418800017408 : UInt64))) ?_
        refine lv_dcmp hx hb dX5_bitsOf_15 ?_
        refine n_top (y := .int ((-1))) (congrArg Value.int (by decide +kernel : Op.cmpValue (FP.dcmp 4604780498998753143 4607182418800017408) .g = (-1))) ?_
        refine lv_if_ge (tgt := 39) hx hb dX5_bitsOf_16 (by decide) (fun c_16 => ?_) (fun c_16 => ?_)
        · skip
          exact absurd c_16 (by decide)
        · skip
          refine lv_iload hx hb dX5_bitsOf_19 (lv_at hl 0 rfl) ?_
          refine lv_sipush (v := nI 1022) hx hb dX5_bitsOf_21 (by decide) ?_
          refine n_icmp_ge (tgt := 39) hx hb dX5_bitsOf_24 (by decide) (by decide) (by decide) (fun c_24 => ?_) (fun c_24 => ?_)
          · skip
            exact absurd c_24 (by omega)
          · skip
            refine lv_dload_n hx hb dX5_bitsOf_27 rfl (lv_at hl 1 rfl) ?_
            refine lv_ldc2d (v := 4611686018427387904) hx hb C0.ow (C0.ts _ kw_X5_337) dX5_bitsOf_28 ?_
            refine lv_dmul hx hb dX5_bitsOf_31 (by unfold vf_n64; decide +kernel) ?_
            refine n_top (y := .double 4609284098626123639) (congrArg Value.double (by decide +kernel : FP.dmul 4604780498998753143 4611686018427387904 = (4609284098626123639 : UInt64))) ?_
            refine lv_dstore_n (lv' := [(2, .double (4609284098626123639)), (4, .int (nI (1))), (0, .double (4600276899371382647))]) hx hb dX5_bitsOf_32 rfl hl (by decide) rfl (fun ls hl => ?_)
            refine lv_iinc (v := nI 2) (lv' := [(4, .int (nI (2))), (2, .double (4609284098626123639)), (0, .double (4600276899371382647))]) hx hb dX5_bitsOf_33 hl (k := 1) rfl (by decide) (by decide) rfl (fun ls hl => ?_)
            refine lv_goto (tgt := 13) hx hb dX5_bitsOf_36 (by decide) ?_
            refine lv_dload_n hx hb dX5_bitsOf_13 rfl (lv_at hl 1 rfl) ?_
            refine lv_dconst1 hx hb dX5_bitsOf_14 ?_
            refine n_top (y := .double 4607182418800017408) (congrArg Value.double (by decide +kernel : FP.dconst1 = (4607182418800017408 : UInt64))) ?_
            refine lv_dcmp hx hb dX5_bitsOf_15 ?_
            refine n_top (y := .int (nI 1)) (congrArg Value.int (by decide +kernel : Op.cmpValue (FP.dcmp 4609284098626123639 4607182418800017408) .g = nI 1)) ?_
            refine n_if_ge (tgt := 39) hx hb dX5_bitsOf_16 (by decide) (by decide) ?_
            refine lv_sipush (v := nI 1023) hx hb dX5_bitsOf_39 (by decide) ?_
            refine lv_iload hx hb dX5_bitsOf_42 (lv_at hl 0 rfl) ?_
            refine n_isub hx hb (by omega) dX5_bitsOf_44 ?_
            refine n_i2l hx hb (by omega) dX5_bitsOf_45 ?_
            refine lv_lstore (lv' := [(5, .long (lN (1023 - 2))), (4, .int (nI (2))), (2, .double (4609284098626123639)), (0, .double (4600276899371382647))]) hx hb dX5_bitsOf_46 hl (by decide) rfl (fun ls hl => ?_)
            refine lv_dload_n hx hb dX5_bitsOf_48 rfl (lv_at hl 2 rfl) ?_
            refine lv_dconst1 hx hb dX5_bitsOf_49 ?_
            refine n_top (y := .double 4607182418800017408) (congrArg Value.double (by decide +kernel : FP.dconst1 = (4607182418800017408 : UInt64))) ?_
            refine lv_dsub hx hb dX5_bitsOf_50 (by unfold vf_n64; decide +kernel) ?_
            refine n_top (y := .double 4602078339222330844) (congrArg Value.double (by decide +kernel : FP.dsub 4609284098626123639 4607182418800017408 = (4602078339222330844 : UInt64))) ?_
            refine lv_ldc2d (v := 4841369599423283200) hx hb C0.ow (C0.ts _ kw_X5_339) dX5_bitsOf_51 ?_
            refine lv_dmul hx hb dX5_bitsOf_54 (by unfold vf_n64; decide +kernel) ?_
            refine n_top (y := .double 4836265519845596636) (congrArg Value.double (by decide +kernel : FP.dmul 4602078339222330844 4841369599423283200 = (4836265519845596636 : UInt64))) ?_
            refine lv_d2l hx hb dX5_bitsOf_55 ?_
            refine n_top (y := .long (lN 2101679826106231)) (congrArg Value.long (by decide +kernel : FP.d2l 4836265519845596636 = lN 2101679826106231)) ?_
            refine lv_lstore (lv' := [(7, .long (lN (2101679826106231))), (5, .long (lN (1023 - 2))), (4, .int (nI (2))), (2, .double (4609284098626123639)), (0, .double (4600276899371382647))]) hx hb dX5_bitsOf_56 hl (by decide) rfl (fun ls hl => ?_)
            refine lv_lload hx hb dX5_bitsOf_58 (lv_at hl 1 rfl) ?_
            refine lv_bipush (v := nI 52) hx hb dX5_bitsOf_60 (by decide) ?_
            refine lv_lshl (v := lN 4598175219545276416) hx hb dX5_bitsOf_62 (by decide +kernel) ?_
            refine lv_lload hx hb dX5_bitsOf_63 (lv_at hl 0 rfl) ?_
            refine n_ladd hx hb dX5_bitsOf_65 ?_
            exact r_l C0 hr hlk hw ⟨(by decide +kernel), (fun q  => rfl)⟩ (Nat.le_refl _) (Nat.le_refl _) dX5_bitsOf_66 hQ
  · skip
    exact absurd c_3 (by decide)
set_option maxHeartbeats 4000000 in
set_option maxRecDepth 100000 in
theorem c_X5_bitsOf_4600427019358961664 (l : Launch) (G : Gl) (L : List Nat) (F : Nat → va_E) : CL l yX5_bitsOf cX5_bitsOf 9 (some .long) rm_X5_bitsOf G L F [.double (4600427019358961664)] (fun r F1 => r = (4600427019358961664 : UInt64).toInt64 ∧ ∀ q, F1 q = F q) := by
  refine CG_of (by decide) (Nat.le_of_ble_eq_true rfl) rfl ?_
  intro p e s m args below meth c Q C0 hr hlk hnm hQ hw ls hl
  have hx := C0.x
  have hb := C0.b
  refine lv_dload_n hx hb dX5_bitsOf_0 rfl (lv_at hl 0 rfl) ?_
  refine lv_dconst0 hx hb dX5_bitsOf_1 ?_
  refine n_top (y := .double 0) (congrArg Value.double (by decide +kernel : FP.dconst0 = (0 : UInt64))) ?_
  refine lv_dcmp hx hb dX5_bitsOf_2 ?_
  refine n_top (y := .int (nI 1)) (congrArg Value.int (by decide +kernel : Op.cmpValue (FP.dcmp 4600427019358961664 0) .g = nI 1)) ?_
  refine n_if_gt (tgt := 8) hx hb dX5_bitsOf_3 (by decide) (by decide) (fun c_3 => ?_) (fun c_3 => ?_)
  · skip
    refine lv_dload_n hx hb dX5_bitsOf_8 rfl (lv_at hl 0 rfl) ?_
    refine lv_dstore_n (lv' := [(2, .double (4600427019358961664)), (0, .double (4600427019358961664))]) hx hb dX5_bitsOf_9 rfl hl (by decide) rfl (fun ls hl => ?_)
    refine lv_iconst (v := nI 0) hx hb dX5_bitsOf_10 (by decide) ?_
    refine lv_istore (lv' := [(4, .int (nI (0))), (2, .double (4600427019358961664)), (0, .double (4600427019358961664))]) hx hb dX5_bitsOf_11 hl (by decide) rfl (fun ls hl => ?_)
    refine lv_dload_n hx hb dX5_bitsOf_13 rfl (lv_at hl 1 rfl) ?_
    refine lv_dconst1 hx hb dX5_bitsOf_14 ?_
    refine n_top (y := .double 4607182418800017408) (congrArg Value.double (by decide +kernel : FP.dconst1 = (4607182418800017408 : UInt64))) ?_
    refine lv_dcmp hx hb dX5_bitsOf_15 ?_
    refine n_top (y := .int ((-1))) (congrArg Value.int (by decide +kernel : Op.cmpValue (FP.dcmp 4600427019358961664 4607182418800017408) .g = (-1))) ?_
    refine lv_if_ge (tgt := 39) hx hb dX5_bitsOf_16 (by decide) (fun c_16 => ?_) (fun c_16 => ?_)
    · skip
      exact absurd c_16 (by decide)
    · skip
      refine lv_iload hx hb dX5_bitsOf_19 (lv_at hl 0 rfl) ?_
      refine lv_sipush (v := nI 1022) hx hb dX5_bitsOf_21 (by decide) ?_
      refine n_icmp_ge (tgt := 39) hx hb dX5_bitsOf_24 (by decide) (by decide) (by decide) (fun c_24 => ?_) (fun c_24 => ?_)
      · skip
        exact absurd c_24 (by omega)
      · skip
        refine lv_dload_n hx hb dX5_bitsOf_27 rfl (lv_at hl 1 rfl) ?_
        refine lv_ldc2d (v := 4611686018427387904) hx hb C0.ow (C0.ts _ kw_X5_337) dX5_bitsOf_28 ?_
        refine lv_dmul hx hb dX5_bitsOf_31 (by unfold vf_n64; decide +kernel) ?_
        refine n_top (y := .double 4604930618986332160) (congrArg Value.double (by decide +kernel : FP.dmul 4600427019358961664 4611686018427387904 = (4604930618986332160 : UInt64))) ?_
        refine lv_dstore_n (lv' := [(2, .double (4604930618986332160)), (4, .int (nI (0))), (0, .double (4600427019358961664))]) hx hb dX5_bitsOf_32 rfl hl (by decide) rfl (fun ls hl => ?_)
        refine lv_iinc (v := nI 1) (lv' := [(4, .int (nI (1))), (2, .double (4604930618986332160)), (0, .double (4600427019358961664))]) hx hb dX5_bitsOf_33 hl (k := 1) rfl (by decide) (by decide) rfl (fun ls hl => ?_)
        refine lv_goto (tgt := 13) hx hb dX5_bitsOf_36 (by decide) ?_
        refine lv_dload_n hx hb dX5_bitsOf_13 rfl (lv_at hl 1 rfl) ?_
        refine lv_dconst1 hx hb dX5_bitsOf_14 ?_
        refine n_top (y := .double 4607182418800017408) (congrArg Value.double (by decide +kernel : FP.dconst1 = (4607182418800017408 : UInt64))) ?_
        refine lv_dcmp hx hb dX5_bitsOf_15 ?_
        refine n_top (y := .int ((-1))) (congrArg Value.int (by decide +kernel : Op.cmpValue (FP.dcmp 4604930618986332160 4607182418800017408) .g = (-1))) ?_
        refine lv_if_ge (tgt := 39) hx hb dX5_bitsOf_16 (by decide) (fun c_16 => ?_) (fun c_16 => ?_)
        · skip
          exact absurd c_16 (by decide)
        · skip
          refine lv_iload hx hb dX5_bitsOf_19 (lv_at hl 0 rfl) ?_
          refine lv_sipush (v := nI 1022) hx hb dX5_bitsOf_21 (by decide) ?_
          refine n_icmp_ge (tgt := 39) hx hb dX5_bitsOf_24 (by decide) (by decide) (by decide) (fun c_24 => ?_) (fun c_24 => ?_)
          · skip
            exact absurd c_24 (by omega)
          · skip
            refine lv_dload_n hx hb dX5_bitsOf_27 rfl (lv_at hl 1 rfl) ?_
            refine lv_ldc2d (v := 4611686018427387904) hx hb C0.ow (C0.ts _ kw_X5_337) dX5_bitsOf_28 ?_
            refine lv_dmul hx hb dX5_bitsOf_31 (by unfold vf_n64; decide +kernel) ?_
            refine n_top (y := .double 4609434218613702656) (congrArg Value.double (by decide +kernel : FP.dmul 4604930618986332160 4611686018427387904 = (4609434218613702656 : UInt64))) ?_
            refine lv_dstore_n (lv' := [(2, .double (4609434218613702656)), (4, .int (nI (1))), (0, .double (4600427019358961664))]) hx hb dX5_bitsOf_32 rfl hl (by decide) rfl (fun ls hl => ?_)
            refine lv_iinc (v := nI 2) (lv' := [(4, .int (nI (2))), (2, .double (4609434218613702656)), (0, .double (4600427019358961664))]) hx hb dX5_bitsOf_33 hl (k := 1) rfl (by decide) (by decide) rfl (fun ls hl => ?_)
            refine lv_goto (tgt := 13) hx hb dX5_bitsOf_36 (by decide) ?_
            refine lv_dload_n hx hb dX5_bitsOf_13 rfl (lv_at hl 1 rfl) ?_
            refine lv_dconst1 hx hb dX5_bitsOf_14 ?_
            refine n_top (y := .double 4607182418800017408) (congrArg Value.double (by decide +kernel : FP.dconst1 = (4607182418800017408 : UInt64))) ?_
            refine lv_dcmp hx hb dX5_bitsOf_15 ?_
            refine n_top (y := .int (nI 1)) (congrArg Value.int (by decide +kernel : Op.cmpValue (FP.dcmp 4609434218613702656 4607182418800017408) .g = nI 1)) ?_
            refine n_if_ge (tgt := 39) hx hb dX5_bitsOf_16 (by decide) (by decide) ?_
            refine lv_sipush (v := nI 1023) hx hb dX5_bitsOf_39 (by decide) ?_
            refine lv_iload hx hb dX5_bitsOf_42 (lv_at hl 0 rfl) ?_
            refine n_isub hx hb (by omega) dX5_bitsOf_44 ?_
            refine n_i2l hx hb (by omega) dX5_bitsOf_45 ?_
            refine lv_lstore (lv' := [(5, .long (lN (1023 - 2))), (4, .int (nI (2))), (2, .double (4609434218613702656)), (0, .double (4600427019358961664))]) hx hb dX5_bitsOf_46 hl (by decide) rfl (fun ls hl => ?_)
            refine lv_dload_n hx hb dX5_bitsOf_48 rfl (lv_at hl 2 rfl) ?_
            refine lv_dconst1 hx hb dX5_bitsOf_49 ?_
            refine n_top (y := .double 4607182418800017408) (congrArg Value.double (by decide +kernel : FP.dconst1 = (4607182418800017408 : UInt64))) ?_
            refine lv_dsub hx hb dX5_bitsOf_50 (by unfold vf_n64; decide +kernel) ?_
            refine n_top (y := .double 4602678819172646912) (congrArg Value.double (by decide +kernel : FP.dsub 4609434218613702656 4607182418800017408 = (4602678819172646912 : UInt64))) ?_
            refine lv_ldc2d (v := 4841369599423283200) hx hb C0.ow (C0.ts _ kw_X5_339) dX5_bitsOf_51 ?_
            refine lv_dmul hx hb dX5_bitsOf_54 (by unfold vf_n64; decide +kernel) ?_
            refine n_top (y := .double 4836865999795912704) (congrArg Value.double (by decide +kernel : FP.dmul 4602678819172646912 4841369599423283200 = (4836865999795912704 : UInt64))) ?_
            refine lv_d2l hx hb dX5_bitsOf_55 ?_
            refine n_top (y := .long (lN 2251799813685248)) (congrArg Value.long (by decide +kernel : FP.d2l 4836865999795912704 = lN 2251799813685248)) ?_
            refine lv_lstore (lv' := [(7, .long (lN (2251799813685248))), (5, .long (lN (1023 - 2))), (4, .int (nI (2))), (2, .double (4609434218613702656)), (0, .double (4600427019358961664))]) hx hb dX5_bitsOf_56 hl (by decide) rfl (fun ls hl => ?_)
            refine lv_lload hx hb dX5_bitsOf_58 (lv_at hl 1 rfl) ?_
            refine lv_bipush (v := nI 52) hx hb dX5_bitsOf_60 (by decide) ?_
            refine lv_lshl (v := lN 4598175219545276416) hx hb dX5_bitsOf_62 (by decide +kernel) ?_
            refine lv_lload hx hb dX5_bitsOf_63 (lv_at hl 0 rfl) ?_
            refine n_ladd hx hb dX5_bitsOf_65 ?_
            exact r_l C0 hr hlk hw ⟨(by decide +kernel), (fun q  => rfl)⟩ (Nat.le_refl _) (Nat.le_refl _) dX5_bitsOf_66 hQ
  · skip
    exact absurd c_3 (by decide)
set_option maxHeartbeats 4000000 in
set_option maxRecDepth 100000 in
theorem c_X5_bitsOf_4600677219338260025 (l : Launch) (G : Gl) (L : List Nat) (F : Nat → va_E) : CL l yX5_bitsOf cX5_bitsOf 9 (some .long) rm_X5_bitsOf G L F [.double (4600677219338260025)] (fun r F1 => r = (4600677219338260025 : UInt64).toInt64 ∧ ∀ q, F1 q = F q) := by
  refine CG_of (by decide) (Nat.le_of_ble_eq_true rfl) rfl ?_
  intro p e s m args below meth c Q C0 hr hlk hnm hQ hw ls hl
  have hx := C0.x
  have hb := C0.b
  refine lv_dload_n hx hb dX5_bitsOf_0 rfl (lv_at hl 0 rfl) ?_
  refine lv_dconst0 hx hb dX5_bitsOf_1 ?_
  refine n_top (y := .double 0) (congrArg Value.double (by decide +kernel : FP.dconst0 = (0 : UInt64))) ?_
  refine lv_dcmp hx hb dX5_bitsOf_2 ?_
  refine n_top (y := .int (nI 1)) (congrArg Value.int (by decide +kernel : Op.cmpValue (FP.dcmp 4600677219338260025 0) .g = nI 1)) ?_
  refine n_if_gt (tgt := 8) hx hb dX5_bitsOf_3 (by decide) (by decide) (fun c_3 => ?_) (fun c_3 => ?_)
  · skip
    refine lv_dload_n hx hb dX5_bitsOf_8 rfl (lv_at hl 0 rfl) ?_
    refine lv_dstore_n (lv' := [(2, .double (4600677219338260025)), (0, .double (4600677219338260025))]) hx hb dX5_bitsOf_9 rfl hl (by decide) rfl (fun ls hl => ?_)
    refine lv_iconst (v := nI 0) hx hb dX5_bitsOf_10 (by decide) ?_
    refine lv_istore (lv' := [(4, .int (nI (0))), (2, .double (4600677219338260025)), (0, .double (4600677219338260025))]) hx hb dX5_bitsOf_11 hl (by decide) rfl (fun ls hl => ?_)
    refine lv_dload_n hx hb dX5_bitsOf_13 rfl (lv_at hl 1 rfl) ?_
    refine lv_dconst1 hx hb dX5_bitsOf_14 ?_
    refine n_top (y := .double 4607182418800017408) (congrArg Value.double (by decide +kernel : FP.dconst1 = (4607182418800017408 : UInt64))) ?_
    refine lv_dcmp hx hb dX5_bitsOf_15 ?_
    refine n_top (y := .int ((-1))) (congrArg Value.int (by decide +kernel : Op.cmpValue (FP.dcmp 4600677219338260025 4607182418800017408) .g = (-1))) ?_
    refine lv_if_ge (tgt := 39) hx hb dX5_bitsOf_16 (by decide) (fun c_16 => ?_) (fun c_16 => ?_)
    · skip
      exact absurd c_16 (by decide)
    · skip
      refine lv_iload hx hb dX5_bitsOf_19 (lv_at hl 0 rfl) ?_
      refine lv_sipush (v := nI 1022) hx hb dX5_bitsOf_21 (by decide) ?_
      refine n_icmp_ge (tgt := 39) hx hb dX5_bitsOf_24 (by decide) (by decide) (by decide) (fun c_24 => ?_) (fun c_24 => ?_)
      · skip
        exact absurd c_24 (by omega)
      · skip
        refine lv_dload_n hx hb dX5_bitsOf_27 rfl (lv_at hl 1 rfl) ?_
        refine lv_ldc2d (v := 4611686018427387904) hx hb C0.ow (C0.ts _ kw_X5_337) dX5_bitsOf_28 ?_
        refine lv_dmul hx hb dX5_bitsOf_31 (by unfold vf_n64; decide +kernel) ?_
        refine n_top (y := .double 4605180818965630521) (congrArg Value.double (by decide +kernel : FP.dmul 4600677219338260025 4611686018427387904 = (4605180818965630521 : UInt64))) ?_
        refine lv_dstore_n (lv' := [(2, .double (4605180818965630521)), (4, .int (nI (0))), (0, .double (4600677219338260025))]) hx hb dX5_bitsOf_32 rfl hl (by decide) rfl (fun ls hl => ?_)
        refine lv_iinc (v := nI 1) (lv' := [(4, .int (nI (1))), (2, .double (4605180818965630521)), (0, .double (4600677219338260025))]) hx hb dX5_bitsOf_33 hl (k := 1) rfl (by decide) (by decide) rfl (fun ls hl => ?_)
        refine lv_goto (tgt := 13) hx hb dX5_bitsOf_36 (by decide) ?_
        refine lv_dload_n hx hb dX5_bitsOf_13 rfl (lv_at hl 1 rfl) ?_
        refine lv_dconst1 hx hb dX5_bitsOf_14 ?_
        refine n_top (y := .double 4607182418800017408) (congrArg Value.double (by decide +kernel : FP.dconst1 = (4607182418800017408 : UInt64))) ?_
        refine lv_dcmp hx hb dX5_bitsOf_15 ?_
        refine n_top (y := .int ((-1))) (congrArg Value.int (by decide +kernel : Op.cmpValue (FP.dcmp 4605180818965630521 4607182418800017408) .g = (-1))) ?_
        refine lv_if_ge (tgt := 39) hx hb dX5_bitsOf_16 (by decide) (fun c_16 => ?_) (fun c_16 => ?_)
        · skip
          exact absurd c_16 (by decide)
        · skip
          refine lv_iload hx hb dX5_bitsOf_19 (lv_at hl 0 rfl) ?_
          refine lv_sipush (v := nI 1022) hx hb dX5_bitsOf_21 (by decide) ?_
          refine n_icmp_ge (tgt := 39) hx hb dX5_bitsOf_24 (by decide) (by decide) (by decide) (fun c_24 => ?_) (fun c_24 => ?_)
          · skip
            exact absurd c_24 (by omega)
          · skip
            refine lv_dload_n hx hb dX5_bitsOf_27 rfl (lv_at hl 1 rfl) ?_
            refine lv_ldc2d (v := 4611686018427387904) hx hb C0.ow (C0.ts _ kw_X5_337) dX5_bitsOf_28 ?_
            refine lv_dmul hx hb dX5_bitsOf_31 (by unfold vf_n64; decide +kernel) ?_
            refine n_top (y := .double 4609684418593001017) (congrArg Value.double (by decide +kernel : FP.dmul 4605180818965630521 4611686018427387904 = (4609684418593001017 : UInt64))) ?_
            refine lv_dstore_n (lv' := [(2, .double (4609684418593001017)), (4, .int (nI (1))), (0, .double (4600677219338260025))]) hx hb dX5_bitsOf_32 rfl hl (by decide) rfl (fun ls hl => ?_)
            refine lv_iinc (v := nI 2) (lv' := [(4, .int (nI (2))), (2, .double (4609684418593001017)), (0, .double (4600677219338260025))]) hx hb dX5_bitsOf_33 hl (k := 1) rfl (by decide) (by decide) rfl (fun ls hl => ?_)
            refine lv_goto (tgt := 13) hx hb dX5_bitsOf_36 (by decide) ?_
            refine lv_dload_n hx hb dX5_bitsOf_13 rfl (lv_at hl 1 rfl) ?_
            refine lv_dconst1 hx hb dX5_bitsOf_14 ?_
            refine n_top (y := .double 4607182418800017408) (congrArg Value.double (by decide +kernel : FP.dconst1 = (4607182418800017408 : UInt64))) ?_
            refine lv_dcmp hx hb dX5_bitsOf_15 ?_
            refine n_top (y := .int (nI 1)) (congrArg Value.int (by decide +kernel : Op.cmpValue (FP.dcmp 4609684418593001017 4607182418800017408) .g = nI 1)) ?_
            refine n_if_ge (tgt := 39) hx hb dX5_bitsOf_16 (by decide) (by decide) ?_
            refine lv_sipush (v := nI 1023) hx hb dX5_bitsOf_39 (by decide) ?_
            refine lv_iload hx hb dX5_bitsOf_42 (lv_at hl 0 rfl) ?_
            refine n_isub hx hb (by omega) dX5_bitsOf_44 ?_
            refine n_i2l hx hb (by omega) dX5_bitsOf_45 ?_
            refine lv_lstore (lv' := [(5, .long (lN (1023 - 2))), (4, .int (nI (2))), (2, .double (4609684418593001017)), (0, .double (4600677219338260025))]) hx hb dX5_bitsOf_46 hl (by decide) rfl (fun ls hl => ?_)
            refine lv_dload_n hx hb dX5_bitsOf_48 rfl (lv_at hl 2 rfl) ?_
            refine lv_dconst1 hx hb dX5_bitsOf_49 ?_
            refine n_top (y := .double 4607182418800017408) (congrArg Value.double (by decide +kernel : FP.dconst1 = (4607182418800017408 : UInt64))) ?_
            refine lv_dsub hx hb dX5_bitsOf_50 (by unfold vf_n64; decide +kernel) ?_
            refine n_top (y := .double 4603179219131243634) (congrArg Value.double (by decide +kernel : FP.dsub 4609684418593001017 4607182418800017408 = (4603179219131243634 : UInt64))) ?_
            refine lv_ldc2d (v := 4841369599423283200) hx hb C0.ow (C0.ts _ kw_X5_339) dX5_bitsOf_51 ?_
            refine lv_dmul hx hb dX5_bitsOf_54 (by unfold vf_n64; decide +kernel) ?_
            refine n_top (y := .double 4837366399754509426) (congrArg Value.double (by decide +kernel : FP.dmul 4603179219131243634 4841369599423283200 = (4837366399754509426 : UInt64))) ?_
            refine lv_d2l hx hb dX5_bitsOf_55 ?_
            refine n_top (y := .long (lN 2501999792983609)) (congrArg Value.long (by decide +kernel : FP.d2l 4837366399754509426 = lN 2501999792983609)) ?_
            refine lv_lstore (lv' := [(7, .long (lN (2501999792983609))), (5, .long (lN (1023 - 2))), (4, .int (nI (2))), (2, .double (4609684418593001017)), (0, .double (4600677219338260025))]) hx hb dX5_bitsOf_56 hl (by decide) rfl (fun ls hl => ?_)
            refine lv_lload hx hb dX5_bitsOf_58 (lv_at hl 1 rfl) ?_
            refine lv_bipush (v := nI 52) hx hb dX5_bitsOf_60 (by decide) ?_
            refine lv_lshl (v := lN 4598175219545276416) hx hb dX5_bitsOf_62 (by decide +kernel) ?_
            refine lv_lload hx hb dX5_bitsOf_63 (lv_at hl 0 rfl) ?_
            refine n_ladd hx hb dX5_bitsOf_65 ?_
            exact r_l C0 hr hlk hw ⟨(by decide +kernel), (fun q  => rfl)⟩ (Nat.le_refl _) (Nat.le_refl _) dX5_bitsOf_66 hQ
  · skip
    exact absurd c_3 (by decide)
set_option maxHeartbeats 4000000 in
set_option maxRecDepth 100000 in
theorem c_X5_bitsOf_4600877379321698714 (l : Launch) (G : Gl) (L : List Nat) (F : Nat → va_E) : CL l yX5_bitsOf cX5_bitsOf 9 (some .long) rm_X5_bitsOf G L F [.double (4600877379321698714)] (fun r F1 => r = (4600877379321698714 : UInt64).toInt64 ∧ ∀ q, F1 q = F q) := by
  refine CG_of (by decide) (Nat.le_of_ble_eq_true rfl) rfl ?_
  intro p e s m args below meth c Q C0 hr hlk hnm hQ hw ls hl
  have hx := C0.x
  have hb := C0.b
  refine lv_dload_n hx hb dX5_bitsOf_0 rfl (lv_at hl 0 rfl) ?_
  refine lv_dconst0 hx hb dX5_bitsOf_1 ?_
  refine n_top (y := .double 0) (congrArg Value.double (by decide +kernel : FP.dconst0 = (0 : UInt64))) ?_
  refine lv_dcmp hx hb dX5_bitsOf_2 ?_
  refine n_top (y := .int (nI 1)) (congrArg Value.int (by decide +kernel : Op.cmpValue (FP.dcmp 4600877379321698714 0) .g = nI 1)) ?_
  refine n_if_gt (tgt := 8) hx hb dX5_bitsOf_3 (by decide) (by decide) (fun c_3 => ?_) (fun c_3 => ?_)
  · skip
    refine lv_dload_n hx hb dX5_bitsOf_8 rfl (lv_at hl 0 rfl) ?_
    refine lv_dstore_n (lv' := [(2, .double (4600877379321698714)), (0, .double (4600877379321698714))]) hx hb dX5_bitsOf_9 rfl hl (by decide) rfl (fun ls hl => ?_)
    refine lv_iconst (v := nI 0) hx hb dX5_bitsOf_10 (by decide) ?_
    refine lv_istore (lv' := [(4, .int (nI (0))), (2, .double (4600877379321698714)), (0, .double (4600877379321698714))]) hx hb dX5_bitsOf_11 hl (by decide) rfl (fun ls hl => ?_)
    refine lv_dload_n hx hb dX5_bitsOf_13 rfl (lv_at hl 1 rfl) ?_
    refine lv_dconst1 hx hb dX5_bitsOf_14 ?_
    refine n_top (y := .double 4607182418800017408) (congrArg Value.double (by decide +kernel : FP.dconst1 = (4607182418800017408 : UInt64))) ?_
    refine lv_dcmp hx hb dX5_bitsOf_15 ?_
    refine n_top (y := .int ((-1))) (congrArg Value.int (by decide +kernel : Op.cmpValue (FP.dcmp 4600877379321698714 4607182418800017408) .g = (-1))) ?_
    refine lv_if_ge (tgt := 39) hx hb dX5_bitsOf_16 (by decide) (fun c_16 => ?_) (fun c_16 => ?_)
    · skip
      exact absurd c_16 (by decide)
    · skip
      refine lv_iload hx hb dX5_bitsOf_19 (lv_at hl 0 rfl) ?_
      refine lv_sipush (v := nI 1022) hx hb dX5_bitsOf_21 (by decide) ?_
      refine n_icmp_ge (tgt := 39) hx hb dX5_bitsOf_24 (by decide) (by decide) (by decide) (fun c_24 => ?_) (fun c_24 => ?_)
      · skip
        exact absurd c_24 (by omega)
      · skip
        refine lv_dload_n hx hb dX5_bitsOf_27 rfl (lv_at hl 1 rfl) ?_
        refine lv_ldc2d (v := 4611686018427387904) hx hb C0.ow (C0.ts _ kw_X5_337) dX5_bitsOf_28 ?_
        refine lv_dmul hx hb dX5_bitsOf_31 (by unfold vf_n64; decide +kernel) ?_
        refine n_top (y := .double 4605380978949069210) (congrArg Value.double (by decide +kernel : FP.dmul 4600877379321698714 4611686018427387904 = (4605380978949069210 : UInt64))) ?_
        refine lv_dstore_n (lv' := [(2, .double (4605380978949069210)), (4, .int (nI (0))), (0, .double (4600877379321698714))]) hx hb dX5_bitsOf_32 rfl hl (by decide) rfl (fun ls hl => ?_)
        refine lv_iinc (v := nI 1) (lv' := [(4, .int (nI (1))), (2, .double (4605380978949069210)), (0, .double (4600877379321698714))]) hx hb dX5_bitsOf_33 hl (k := 1) rfl (by decide) (by decide) rfl (fun ls hl => ?_)
        refine lv_goto (tgt := 13) hx hb dX5_bitsOf_36 (by decide) ?_
        refine lv_dload_n hx hb dX5_bitsOf_13 rfl (lv_at hl 1 rfl) ?_
        refine lv_dconst1 hx hb dX5_bitsOf_14 ?_
        refine n_top (y := .double 4607182418800017408) (congrArg Value.double (by decide +kernel : FP.dconst1 = (4607182418800017408 : UInt64))) ?_
        refine lv_dcmp hx hb dX5_bitsOf_15 ?_
        refine n_top (y := .int ((-1))) (congrArg Value.int (by decide +kernel : Op.cmpValue (FP.dcmp 4605380978949069210 4607182418800017408) .g = (-1))) ?_
        refine lv_if_ge (tgt := 39) hx hb dX5_bitsOf_16 (by decide) (fun c_16 => ?_) (fun c_16 => ?_)
        · skip
          exact absurd c_16 (by decide)
        · skip
          refine lv_iload hx hb dX5_bitsOf_19 (lv_at hl 0 rfl) ?_
          refine lv_sipush (v := nI 1022) hx hb dX5_bitsOf_21 (by decide) ?_
          refine n_icmp_ge (tgt := 39) hx hb dX5_bitsOf_24 (by decide) (by decide) (by decide) (fun c_24 => ?_) (fun c_24 => ?_)
          · skip
            exact absurd c_24 (by omega)
          · skip
            refine lv_dload_n hx hb dX5_bitsOf_27 rfl (lv_at hl 1 rfl) ?_
            refine lv_ldc2d (v := 4611686018427387904) hx hb C0.ow (C0.ts _ kw_X5_337) dX5_bitsOf_28 ?_
            refine lv_dmul hx hb dX5_bitsOf_31 (by unfold vf_n64; decide +kernel) ?_
            refine n_top (y := .double 4609884578576439706) (congrArg Value.double (by decide +kernel : FP.dmul 4605380978949069210 4611686018427387904 = (4609884578576439706 : UInt64))) ?_
            refine lv_dstore_n (lv' := [(2, .double (4609884578576439706)), (4, .int (nI (1))), (0, .double (4600877379321698714))]) hx hb dX5_bitsOf_32 rfl hl (by decide) rfl (fun ls hl => ?_)
            refine lv_iinc (v := nI 2) (lv' := [(4, .int (nI (2))), (2, .double (4609884578576439706)), (0, .double (4600877379321698714))]) hx hb dX5_bitsOf_33 hl (k := 1) rfl (by decide) (by decide) rfl (fun ls hl => ?_)
            refine lv_goto (tgt := 13) hx hb dX5_bitsOf_36 (by decide) ?_
            refine lv_dload_n hx hb dX5_bitsOf_13 rfl (lv_at hl 1 rfl) ?_
            refine lv_dconst1 hx hb dX5_bitsOf_14 ?_
            refine n_top (y := .double 4607182418800017408) (congrArg Value.double (by decide +kernel : FP.dconst1 = (4607182418800017408 : UInt64))) ?_
            refine lv_dcmp hx hb dX5_bitsOf_15 ?_
            refine n_top (y := .int (nI 1)) (congrArg Value.int (by decide +kernel : Op.cmpValue (FP.dcmp 4609884578576439706 4607182418800017408) .g = nI 1)) ?_
            refine n_if_ge (tgt := 39) hx hb dX5_bitsOf_16 (by decide) (by decide) ?_
            refine lv_sipush (v := nI 1023) hx hb dX5_bitsOf_39 (by decide) ?_
            refine lv_iload hx hb dX5_bitsOf_42 (lv_at hl 0 rfl) ?_
            refine n_isub hx hb (by omega) dX5_bitsOf_44 ?_
            refine n_i2l hx hb (by omega) dX5_bitsOf_45 ?_
            refine lv_lstore (lv' := [(5, .long (lN (1023 - 2))), (4, .int (nI (2))), (2, .double (4609884578576439706)), (0, .double (4600877379321698714))]) hx hb dX5_bitsOf_46 hl (by decide) rfl (fun ls hl => ?_)
            refine lv_dload_n hx hb dX5_bitsOf_48 rfl (lv_at hl 2 rfl) ?_
            refine lv_dconst1 hx hb dX5_bitsOf_49 ?_
            refine n_top (y := .double 4607182418800017408) (congrArg Value.double (by decide +kernel : FP.dconst1 = (4607182418800017408 : UInt64))) ?_
            refine lv_dsub hx hb dX5_bitsOf_50 (by unfold vf_n64; decide +kernel) ?_
            refine n_top (y := .double 4603579539098121012) (congrArg Value.double (by decide +kernel : FP.dsub 4609884578576439706 4607182418800017408 = (4603579539098121012 : UInt64))) ?_
            refine lv_ldc2d (v := 4841369599423283200) hx hb C0.ow (C0.ts _ kw_X5_339) dX5_bitsOf_51 ?_
            refine lv_dmul hx hb dX5_bitsOf_54 (by unfold vf_n64; decide +kernel) ?_
            refine n_top (y := .double 4837766719721386804) (congrArg Value.double (by decide +kernel : FP.dmul 4603579539098121012 4841369599423283200 = (4837766719721386804 : UInt64))) ?_
            refine lv_d2l hx hb dX5_bitsOf_55 ?_
            refine n_top (y := .long (lN 2702159776422298)) (congrArg Value.long (by decide +kernel : FP.d2l 4837766719721386804 = lN 2702159776422298)) ?_
            refine lv_lstore (lv' := [(7, .long (lN (2702159776422298))), (5, .long (lN (1023 - 2))), (4, .int (nI (2))), (2, .double (4609884578576439706)), (0, .double (4600877379321698714))]) hx hb dX5_bitsOf_56 hl (by decide) rfl (fun ls hl => ?_)
            refine lv_lload hx hb dX5_bitsOf_58 (lv_at hl 1 rfl) ?_
            refine lv_bipush (v := nI 52) hx hb dX5_bitsOf_60 (by decide) ?_
            refine lv_lshl (v := lN 4598175219545276416) hx hb dX5_bitsOf_62 (by decide +kernel) ?_
            refine lv_lload hx hb dX5_bitsOf_63 (lv_at hl 0 rfl) ?_
            refine n_ladd hx hb dX5_bitsOf_65 ?_
            exact r_l C0 hr hlk hw ⟨(by decide +kernel), (fun q  => rfl)⟩ (Nat.le_refl _) (Nat.le_refl _) dX5_bitsOf_66 hQ
  · skip
    exact absurd c_3 (by decide)
set_option maxHeartbeats 4000000 in
set_option maxRecDepth 100000 in
theorem c_X5_bitsOf_4601177619296856747 (l : Launch) (G : Gl) (L : List Nat) (F : Nat → va_E) : CL l yX5_bitsOf cX5_bitsOf 9 (some .long) rm_X5_bitsOf G L F [.double (4601177619296856747)] (fun r F1 => r = (4601177619296856747 : UInt64).toInt64 ∧ ∀ q, F1 q = F q) := by
  refine CG_of (by decide) (Nat.le_of_ble_eq_true rfl) rfl ?_
  intro p e s m args below meth c Q C0 hr hlk hnm hQ hw ls hl
  have hx := C0.x
  have hb := C0.b
  refine lv_dload_n hx hb dX5_bitsOf_0 rfl (lv_at hl 0 rfl) ?_
  refine lv_dconst0 hx hb dX5_bitsOf_1 ?_
  refine n_top (y := .double 0) (congrArg Value.double (by decide +kernel : FP.dconst0 = (0 : UInt64))) ?_
  refine lv_dcmp hx hb dX5_bitsOf_2 ?_
  refine n_top (y := .int (nI 1)) (congrArg Value.int (by decide +kernel : Op.cmpValue (FP.dcmp 4601177619296856747 0) .g = nI 1)) ?_
  refine n_if_gt (tgt := 8) hx hb dX5_bitsOf_3 (by decide) (by decide) (fun c_3 => ?_) (fun c_3 => ?_)
  · skip
    refine lv_dload_n hx hb dX5_bitsOf_8 rfl (lv_at hl 0 rfl) ?_
    refine lv_dstore_n (lv' := [(2, .double (4601177619296856747)), (0, .double (4601177619296856747))]) hx hb dX5_bitsOf_9 rfl hl (by decide) rfl (fun ls hl => ?_)
    refine lv_iconst (v := nI 0) hx hb dX5_bitsOf_10 (by decide) ?_
    refine lv_istore (lv' := [(4, .int (nI (0))), (2, .double (4601177619296856747)), (0, .double (4601177619296856747))]) hx hb dX5_bitsOf_11 hl (by decide) rfl (fun ls hl => ?_)
    refine lv_dload_n hx hb dX5_bitsOf_13 rfl (lv_at hl 1 rfl) ?_
    refine lv_dconst1 hx hb dX5_bitsOf_14 ?_
    refine n_top (y := .double 4607182418800017408) (congrArg Value.double (by decide +kernel : FP.dconst1 = (4607182418800017408 : UInt64))) ?_
    refine lv_dcmp hx hb dX5_bitsOf_15 ?_
    refine n_top (y := .int ((-1))) (congrArg Value.int (by decide +kernel : Op.cmpValue (FP.dcmp 4601177619296856747 4607182418800017408) .g = (-1))) ?_
    refine lv_if_ge (tgt := 39) hx hb dX5_bitsOf_16 (by decide) (fun c_16 => ?_) (fun c_16 => ?_)
    · skip
      exact absurd c_16 (by decide)
    · skip
      refine lv_iload hx hb dX5_bitsOf_19 (lv_at hl 0 rfl) ?_
      refine lv_sipush (v := nI 1022) hx hb dX5_bitsOf_21 (by decide) ?_
      refine n_icmp_ge (tgt := 39) hx hb dX5_bitsOf_24 (by decide) (by decide) (by decide) (fun c_24 => ?_) (fun c_24 => ?_)
      · skip
        exact absurd c_24 (by omega)
      · skip
        refine lv_dload_n hx hb dX5_bitsOf_27 rfl (lv_at hl 1 rfl) ?_
        refine lv_ldc2d (v := 4611686018427387904) hx hb C0.ow (C0.ts _ kw_X5_337) dX5_bitsOf_28 ?_
        refine lv_dmul hx hb dX5_bitsOf_31 (by unfold vf_n64; decide +kernel) ?_
        refine n_top (y := .double 4605681218924227243) (congrArg Value.double (by decide +kernel : FP.dmul 4601177619296856747 4611686018427387904 = (4605681218924227243 : UInt64))) ?_
        refine lv_dstore_n (lv' := [(2, .double (4605681218924227243)), (4, .int (nI (0))), (0, .double (4601177619296856747))]) hx hb dX5_bitsOf_32 rfl hl (by decide) rfl (fun ls hl => ?_)
        refine lv_iinc (v := nI 1) (lv' := [(4, .int (nI (1))), (2, .double (4605681218924227243)), (0, .double (4601177619296856747))]) hx hb dX5_bitsOf_33 hl (k := 1) rfl (by decide) (by decide) rfl (fun ls hl => ?_)
        refine lv_goto (tgt := 13) hx hb dX5_bitsOf_36 (by decide) ?_
        refine lv_dload_n hx hb dX5_bitsOf_13 rfl (lv_at hl 1 rfl) ?_
        refine lv_dconst1 hx hb dX5_bitsOf_14 ?_
        refine n_top (y := .double 4607182418800017408) (congrArg Value.double (by decide +kernel : FP.dconst1 = (4607182418800017408 : UInt64))) ?_
        refine lv_dcmp hx hb dX5_bitsOf_15 ?_
        refine n_top (y := .int ((-1))) (congrArg Value.int (by decide +kernel : Op.cmpValue (FP.dcmp 4605681218924227243 4607182418800017408) .g = (-1))) ?_
        refine lv_if_ge (tgt := 39) hx hb dX5_bitsOf_16 (by decide) (fun c_16 => ?_) (fun c_16 => ?_)
        · skip
          exact absurd c_16 (by decide)
        · skip
          refine lv_iload hx hb dX5_bitsOf_19 (lv_at hl 0 rfl) ?_
          refine lv_sipush (v := nI 1022) hx hb dX5_bitsOf_21 (by decide) ?_
          refine n_icmp_ge (tgt := 39) hx hb dX5_bitsOf_24 (by decide) (by decide) (by decide) (fun c_24 => ?_) (fun c_24 => ?_)
          · skip
            exact absurd c_24 (by omega)
          · skip
            refine lv_dload_n hx hb dX5_bitsOf_27 rfl (lv_at hl 1 rfl) ?_
            refine lv_ldc2d (v := 4611686018427387904) hx hb C0.ow (C0.ts _ kw_X5_337) dX5_bitsOf_28 ?_
            refine lv_dmul hx hb dX5_bitsOf_31 (by unfold vf_n64; decide +kernel) ?_
            refine n_top (y := .double 4610184818551597739) (congrArg Value.double (by decide +kernel : FP.dmul 4605681218924227243 4611686018427387904 = (4610184818551597739 : UInt64))) ?_
            refine lv_dstore_n (lv' := [(2, .double (4610184818551597739)), (4, .int (nI (1))), (0, .double (4601177619296856747))]) hx hb dX5_bitsOf_32 rfl hl (by decide) rfl (fun ls hl => ?_)
            refine lv_iinc (v := nI 2) (lv' := [(4, .int (nI (2))), (2, .double (4610184818551597739)), (0, .double (4601177619296856747))]) hx hb dX5_bitsOf_33 hl (k := 1) rfl (by decide) (by decide) rfl (fun ls hl => ?_)
            refine lv_goto (tgt := 13) hx hb dX5_bitsOf_36 (by decide) ?_
            refine lv_dload_n hx hb dX5_bitsOf_13 rfl (lv_at hl 1 rfl) ?_
            refine lv_dconst1 hx hb dX5_bitsOf_14 ?_
            refine n_top (y := .double 4607182418800017408) (congrArg Value.double (by decide +kernel : FP.dconst1 = (4607182418800017408 : UInt64))) ?_
            refine lv_dcmp hx hb dX5_bitsOf_15 ?_
            refine n_top (y := .int (nI 1)) (congrArg Value.int (by decide +kernel : Op.cmpValue (FP.dcmp 4610184818551597739 4607182418800017408) .g = nI 1)) ?_
            refine n_if_ge (tgt := 39) hx hb dX5_bitsOf_16 (by decide) (by decide) ?_
            refine lv_sipush (v := nI 1023) hx hb dX5_bitsOf_39 (by decide) ?_
            refine lv_iload hx hb dX5_bitsOf_42 (lv_at hl 0 rfl) ?_
            refine n_isub hx hb (by omega) dX5_bitsOf_44 ?_
            refine n_i2l hx hb (by omega) dX5_bitsOf_45 ?_
            refine lv_lstore (lv' := [(5, .long (lN (1023 - 2))), (4, .int (nI (2))), (2, .double (4610184818551597739)), (0, .double (4601177619296856747))]) hx hb dX5_bitsOf_46 hl (by decide) rfl (fun ls hl => ?_)
            refine lv_dload_n hx hb dX5_bitsOf_48 rfl (lv_at hl 2 rfl) ?_
            refine lv_dconst1 hx hb dX5_bitsOf_49 ?_
            refine n_top (y := .double 4607182418800017408) (congrArg Value.double (by decide +kernel : FP.dconst1 = (4607182418800017408 : UInt64))) ?_
            refine lv_dsub hx hb dX5_bitsOf_50 (by unfold vf_n64; decide +kernel) ?_
            refine n_top (y := .double 4604180019048437078) (congrArg Value.double (by decide +kernel : FP.dsub 4610184818551597739 4607182418800017408 = (4604180019048437078 : UInt64))) ?_
            refine lv_ldc2d (v := 4841369599423283200) hx hb C0.ow (C0.ts _ kw_X5_339) dX5_bitsOf_51 ?_
            refine lv_dmul hx hb dX5_bitsOf_54 (by unfold vf_n64; decide +kernel) ?_
            refine n_top (y := .double 4838367199671702870) (congrArg Value.double (by decide +kernel : FP.dmul 4604180019048437078 4841369599423283200 = (4838367199671702870 : UInt64))) ?_
            refine lv_d2l hx hb dX5_bitsOf_55 ?_
            refine n_top (y := .long (lN 3002399751580331)) (congrArg Value.long (by decide +kernel : FP.d2l 4838367199671702870 = lN 3002399751580331)) ?_
            refine lv_lstore (lv' := [(7, .long (lN (3002399751580331))), (5, .long (lN (1023 - 2))), (4, .int (nI (2))), (2, .double (4610184818551597739)), (0, .double (4601177619296856747))]) hx hb dX5_bitsOf_56 hl (by decide) rfl (fun ls hl => ?_)
            refine lv_lload hx hb dX5_bitsOf_58 (lv_at hl 1 rfl) ?_
            refine lv_bipush (v := nI 52) hx hb dX5_bitsOf_60 (by decide) ?_
            refine lv_lshl (v := lN 4598175219545276416) hx hb dX5_bitsOf_62 (by decide +kernel) ?_
            refine lv_lload hx hb dX5_bitsOf_63 (lv_at hl 0 rfl) ?_
            refine n_ladd hx hb dX5_bitsOf_65 ?_
            exact r_l C0 hr hlk hw ⟨(by decide +kernel), (fun q  => rfl)⟩ (Nat.le_refl _) (Nat.le_refl _) dX5_bitsOf_66 hQ
  · skip
    exact absurd c_3 (by decide)
set_option maxHeartbeats 4000000 in
set_option maxRecDepth 100000 in
theorem c_X5_bitsOf_4601477859272014780 (l : Launch) (G : Gl) (L : List Nat) (F : Nat → va_E) : CL l yX5_bitsOf cX5_bitsOf 9 (some .long) rm_X5_bitsOf G L F [.double (4601477859272014780)] (fun r F1 => r = (4601477859272014780 : UInt64).toInt64 ∧ ∀ q, F1 q = F q) := by
  refine CG_of (by decide) (Nat.le_of_ble_eq_true rfl) rfl ?_
  intro p e s m args below meth c Q C0 hr hlk hnm hQ hw ls hl
  have hx := C0.x
  have hb := C0.b
  refine lv_dload_n hx hb dX5_bitsOf_0 rfl (lv_at hl 0 rfl) ?_
  refine lv_dconst0 hx hb dX5_bitsOf_1 ?_
  refine n_top (y := .double 0) (congrArg Value.double (by decide +kernel : FP.dconst0 = (0 : UInt64))) ?_
  refine lv_dcmp hx hb dX5_bitsOf_2 ?_
  refine n_top (y := .int (nI 1)) (congrArg Value.int (by decide +kernel : Op.cmpValue (FP.dcmp 4601477859272014780 0) .g = nI 1)) ?_
  refine n_if_gt (tgt := 8) hx hb dX5_bitsOf_3 (by decide) (by decide) (fun c_3 => ?_) (fun c_3 => ?_)
  · skip
    refine lv_dload_n hx hb dX5_bitsOf_8 rfl (lv_at hl 0 rfl) ?_
    refine lv_dstore_n (lv' := [(2, .double (4601477859272014780)), (0, .double (4601477859272014780))]) hx hb dX5_bitsOf_9 rfl hl (by decide) rfl (fun ls hl => ?_)
    refine lv_iconst (v := nI 0) hx hb dX5_bitsOf_10 (by decide) ?_
    refine lv_istore (lv' := [(4, .int (nI (0))), (2, .double (4601477859272014780)), (0, .double (4601477859272014780))]) hx hb dX5_bitsOf_11 hl (by decide) rfl (fun ls hl => ?_)
    refine lv_dload_n hx hb dX5_bitsOf_13 rfl (lv_at hl 1 rfl) ?_
    refine lv_dconst1 hx hb dX5_bitsOf_14 ?_
    refine n_top (y := .double 4607182418800017408) (congrArg Value.double (by decide +kernel : FP.dconst1 = (4607182418800017408 : UInt64))) ?_
    refine lv_dcmp hx hb dX5_bitsOf_15 ?_
    refine n_top (y := .int ((-1))) (congrArg Value.int (by decide +kernel : Op.cmpValue (FP.dcmp 4601477859272014780 4607182418800017408) .g = (-1))) ?_
    refine lv_if_ge (tgt := 39) hx hb dX5_bitsOf_16 (by decide) (fun c_16 => ?_) (fun c_16 => ?_)
    · skip
      exact absurd c_16 (by decide)
    · skip
      refine lv_iload hx hb dX5_bitsOf_19 (lv_at hl 0 rfl) ?_
      refine lv_sipush (v := nI 1022) hx hb dX5_bitsOf_21 (by decide) ?_
      refine n_icmp_ge (tgt := 39) hx hb dX5_bitsOf_24 (by decide) (by decide) (by decide) (fun c_24 => ?_) (fun c_24 => ?_)
      · skip
        exact absurd c_24 (by omega)
      · skip
        refine lv_dload_n hx hb dX5_bitsOf_27 rfl (lv_at hl 1 rfl) ?_
        refine lv_ldc2d (v := 4611686018427387904) hx hb C0.ow (C0.ts _ kw_X5_337) dX5_bitsOf_28 ?_
        refine lv_dmul hx hb dX5_bitsOf_31 (by unfold vf_n64; decide +kernel) ?_
        refine n_top (y := .double 4605981458899385276) (congrArg Value.double (by decide +kernel : FP.dmul 4601477859272014780 4611686018427387904 = (4605981458899385276 : UInt64))) ?_
        refine lv_dstore_n (lv' := [(2, .double (4605981458899385276)), (4, .int (nI (0))), (0, .double (4601477859272014780))]) hx hb dX5_bitsOf_32 rfl hl (by decide) rfl (fun ls hl => ?_)
        refine lv_iinc (v := nI 1) (lv' := [(4, .int (nI (1))), (2, .double (4605981458899385276)), (0, .double (4601477859272014780))]) hx hb dX5_bitsOf_33 hl (k := 1) rfl (by decide) (by decide) rfl (fun ls hl => ?_)
        refine lv_goto (tgt := 13) hx hb dX5_bitsOf_36 (by decide) ?_
        refine lv_dload_n hx hb dX5_bitsOf_13 rfl (lv_at hl 1 rfl) ?_
        refine lv_dconst1 hx hb dX5_bitsOf_14 ?_
        refine n_top (y := .double 4607182418800017408) (congrArg Value.double (by decide +kernel : FP.dconst1 = (4607182418800017408 : UInt64))) ?_
        refine lv_dcmp hx hb dX5_bitsOf_15 ?_
        refine n_top (y := .int ((-1))) (congrArg Value.int (by decide +kernel : Op.cmpValue (FP.dcmp 4605981458899385276 4607182418800017408) .g = (-1))) ?_
        refine lv_if_ge (tgt := 39) hx hb dX5_bitsOf_16 (by decide) (fun c_16 => ?_) (fun c_16 => ?_)
        · skip
          exact absurd c_16 (by decide)
        · skip
          refine lv_iload hx hb dX5_bitsOf_19 (lv_at hl 0 rfl) ?_
          refine lv_sipush (v := nI 1022) hx hb dX5_bitsOf_21 (by decide) ?_
          refine n_icmp_ge (tgt := 39) hx hb dX5_bitsOf_24 (by decide) (by decide) (by decide) (fun c_24 => ?_) (fun c_24 => ?_)
          · skip
            exact absurd c_24 (by omega)
          · skip
            refine lv_dload_n hx hb dX5_bitsOf_27 rfl (lv_at hl 1 rfl) ?_
            refine lv_ldc2d (v := 4611686018427387904) hx hb C0.ow (C0.ts _ kw_X5_337) dX5_bitsOf_28 ?_
            refine lv_dmul hx hb dX5_bitsOf_31 (by unfold vf_n64; decide +kernel) ?_
            refine n_top (y := .double 4610485058526755772) (congrArg Value.double (by decide +kernel : FP.dmul 4605981458899385276 4611686018427387904 = (4610485058526755772 : UInt64))) ?_
            refine lv_dstore_n (lv' := [(2, .double (4610485058526755772)), (4, .int (nI (1))), (0, .double (4601477859272014780))]) hx hb dX5_bitsOf_32 rfl hl (by decide) rfl (fun ls hl => ?_)
            refine lv_iinc (v := nI 2) (lv' := [(4, .int (nI (2))), (2, .double (4610485058526755772)), (0, .double (4601477859272014780))]) hx hb dX5_bitsOf_33 hl (k := 1) rfl (by decide) (by decide) rfl (fun ls hl => ?_)
            refine lv_goto (tgt := 13) hx hb dX5_bitsOf_36 (by decide) ?_
            refine lv_dload_n hx hb dX5_bitsOf_13 rfl (lv_at hl 1 rfl) ?_
            refine lv_dconst1 hx hb dX5_bitsOf_14 ?_
            refine n_top (y := .double 4607182418800017408) (congrArg Value.double (by decide +kernel : FP.dconst1 = (4607182418800017408 : UInt64))) ?_
            refine lv_dcmp hx hb dX5_bitsOf_15 ?_
            refine n_top (y := .int (nI 1)) (congrArg Value.int (by decide +kernel : Op.cmpValue (FP.dcmp 4610485058526755772 4607182418800017408) .g = nI 1)) ?_
            refine n_if_ge (tgt := 39) hx hb dX5_bitsOf_16 (by decide) (by decide) ?_
            refine lv_sipush (v := nI 1023) hx hb dX5_bitsOf_39 (by decide) ?_
            refine lv_iload hx hb dX5_bitsOf_42 (lv_at hl 0 rfl) ?_
            refine n_isub hx hb (by omega) dX5_bitsOf_44 ?_
            refine n_i2l hx hb (by omega) dX5_bitsOf_45 ?_
            refine lv_lstore (lv' := [(5, .long (lN (1023 - 2))), (4, .int (nI (2))), (2, .double (4610485058526755772)), (0, .double (4601477859272014780))]) hx hb dX5_bitsOf_46 hl (by decide) rfl (fun ls hl => ?_)
            refine lv_dload_n hx hb dX5_bitsOf_48 rfl (lv_at hl 2 rfl) ?_
            refine lv_dconst1 hx hb dX5_bitsOf_49 ?_
            refine n_top (y := .double 4607182418800017408) (congrArg Value.double (by decide +kernel : FP.dconst1 = (4607182418800017408 : UInt64))) ?_
            refine lv_dsub hx hb dX5_bitsOf_50 (by unfold vf_n64; decide +kernel) ?_
            refine n_top (y := .double 4604780498998753144) (congrArg Value.double (by decide +kernel : FP.dsub 4610485058526755772 4607182418800017408 = (4604780498998753144 : UInt64))) ?_
            refine lv_ldc2d (v := 4841369599423283200) hx hb C0.ow (C0.ts _ kw_X5_339) dX5_bitsOf_51 ?_
            refine lv_dmul hx hb dX5_bitsOf_54 (by unfold vf_n64; decide +kernel) ?_
            refine n_top (y := .double 4838967679622018936) (congrArg Value.double (by decide +kernel : FP.dmul 4604780498998753144 4841369599423283200 = (4838967679622018936 : UInt64))) ?_
            refine lv_d2l hx hb dX5_bitsOf_55 ?_
            refine n_top (y := .long (lN 3302639726738364)) (congrArg Value.long (by decide +kernel : FP.d2l 4838967679622018936 = lN 3302639726738364)) ?_
            refine lv_lstore (lv' := [(7, .long (lN (3302639726738364))), (5, .long (lN (1023 - 2))), (4, .int (nI (2))), (2, .double (4610485058526755772)), (0, .double (4601477859272014780))]) hx hb dX5_bitsOf_56 hl (by decide) rfl (fun ls hl => ?_)
            refine lv_lload hx hb dX5_bitsOf_58 (lv_at hl 1 rfl) ?_
            refine lv_bipush (v := nI 52) hx hb dX5_bitsOf_60 (by decide) ?_
            refine lv_lshl (v := lN 4598175219545276416) hx hb dX5_bitsOf_62 (by decide +kernel) ?_
            refine lv_lload hx hb dX5_bitsOf_63 (lv_at hl 0 rfl) ?_
            refine n_ladd hx hb dX5_bitsOf_65 ?_
            exact r_l C0 hr hlk hw ⟨(by decide +kernel), (fun q  => rfl)⟩ (Nat.le_refl _) (Nat.le_refl _) dX5_bitsOf_66 hQ
  · skip
    exact absurd c_3 (by decide)
set_option maxHeartbeats 4000000 in
set_option maxRecDepth 100000 in
theorem c_X5_bitsOf_4601678019255453468 (l : Launch) (G : Gl) (L : List Nat) (F : Nat → va_E) : CL l yX5_bitsOf cX5_bitsOf 9 (some .long) rm_X5_bitsOf G L F [.double (4601678019255453468)] (fun r F1 => r = (4601678019255453468 : UInt64).toInt64 ∧ ∀ q, F1 q = F q) := by
  refine CG_of (by decide) (Nat.le_of_ble_eq_true rfl) rfl ?_
  intro p e s m args below meth c Q C0 hr hlk hnm hQ hw ls hl
  have hx := C0.x
  have hb := C0.b
  refine lv_dload_n hx hb dX5_bitsOf_0 rfl (lv_at hl 0 rfl) ?_
  refine lv_dconst0 hx hb dX5_bitsOf_1 ?_
  refine n_top (y := .double 0) (congrArg Value.double (by decide +kernel : FP.dconst0 = (0 : UInt64))) ?_
  refine lv_dcmp hx hb dX5_bitsOf_2 ?_
  refine n_top (y := .int (nI 1)) (congrArg Value.int (by decide +kernel : Op.cmpValue (FP.dcmp 4601678019255453468 0) .g = nI 1)) ?_
  refine n_if_gt (tgt := 8) hx hb dX5_bitsOf_3 (by decide) (by decide) (fun c_3 => ?_) (fun c_3 => ?_)
  · skip
    refine lv_dload_n hx hb dX5_bitsOf_8 rfl (lv_at hl 0 rfl) ?_
    refine lv_dstore_n (lv' := [(2, .double (4601678019255453468)), (0, .double (4601678019255453468))]) hx hb dX5_bitsOf_9 rfl hl (by decide) rfl (fun ls hl => ?_)
    refine lv_iconst (v := nI 0) hx hb dX5_bitsOf_10 (by decide) ?_
    refine lv_istore (lv' := [(4, .int (nI (0))), (2, .double (4601678019255453468)), (0, .double (4601678019255453468))]) hx hb dX5_bitsOf_11 hl (by decide) rfl (fun ls hl => ?_)
    refine lv_dload_n hx hb dX5_bitsOf_13 rfl (lv_at hl 1 rfl) ?_
    refine lv_dconst1 hx hb dX5_bitsOf_14 ?_
    refine n_top (y := .double 4607182418800017408) (congrArg Value.double (by decide +kernel : FP.dconst1 = (4607182418800017408 : UInt64))) ?_
    refine lv_dcmp hx hb dX5_bitsOf_15 ?_
    refine n_top (y := .int ((-1))) (congrArg Value.int (by decide +kernel : Op.cmpValue (FP.dcmp 4601678019255453468 4607182418800017408) .g = (-1))) ?_
    refine lv_if_ge (tgt := 39) hx hb dX5_bitsOf_16 (by decide) (fun c_16 => ?_) (fun c_16 => ?_)
    · skip
      exact absurd c_16 (by decide)
    · skip
      refine lv_iload hx hb dX5_bitsOf_19 (lv_at hl 0 rfl) ?_
      refine lv_sipush (v := nI 1022) hx hb dX5_bitsOf_21 (by decide) ?_
      refine n_icmp_ge (tgt := 39) hx hb dX5_bitsOf_24 (by decide) (by decide) (by decide) (fun c_24 => ?_) (fun c_24 => ?_)
      · skip
        exact absurd c_24 (by omega)
      · skip
        refine lv_dload_n hx hb dX5_bitsOf_27 rfl (lv_at hl 1 rfl) ?_
        refine lv_ldc2d (v := 4611686018427387904) hx hb C0.ow (C0.ts _ kw_X5_337) dX5_bitsOf_28 ?_
        refine lv_dmul hx hb dX5_bitsOf_31 (by unfold vf_n64; decide +kernel) ?_
        refine n_top (y := .double 4606181618882823964) (congrArg Value.double (by decide +kernel : FP.dmul 4601678019255453468 4611686018427387904 = (4606181618882823964 : UInt64))) ?_
        refine lv_dstore_n (lv' := [(2, .double (4606181618882823964)), (4, .int (nI (0))), (0, .double (4601678019255453468))]) hx hb dX5_bitsOf_32 rfl hl (by decide) rfl (fun ls hl => ?_)
        refine lv_iinc (v := nI 1) (lv' := [(4, .int (nI (1))), (2, .double (4606181618882823964)), (0, .double (4601678019255453468))]) hx hb dX5_bitsOf_33 hl (k := 1) rfl (by decide) (by decide) rfl (fun ls hl => ?_)
        refine lv_goto (tgt := 13) hx hb dX5_bitsOf_36 (by decide) ?_
        refine lv_dload_n hx hb dX5_bitsOf_13 rfl (lv_at hl 1 rfl) ?_
        refine lv_dconst1 hx hb dX5_bitsOf_14 ?_
        refine n_top (y := .double 4607182418800017408) (congrArg Value.double (by decide +kernel : FP.dconst1 = (4607182418800017408 : UInt64))) ?_
        refine lv_dcmp hx hb dX5_bitsOf_15 ?_
        refine n_top (y := .int ((-1))) (congrArg Value.int (by decide +kernel : Op.cmpValue (FP.dcmp 4606181618882823964 4607182418800017408) .g = (-1))) ?_
        refine lv_if_ge (tgt := 39) hx hb dX5_bitsOf_16 (by decide) (fun c_16 => ?_) (fun c_16 => ?_)
        · skip
          exact absurd c_16 (by decide)
        · skip
          refine lv_iload hx hb dX5_bitsOf_19 (lv_at hl 0 rfl) ?_
          refine lv_sipush (v := nI 1022) hx hb dX5_bitsOf_21 (by decide) ?_
          refine n_icmp_ge (tgt := 39) hx hb dX5_bitsOf_24 (by decide) (by decide) (by decide) (fun c_24 => ?_) (fun c_24 => ?_)
          · skip
            exact absurd c_24 (by omega)
          · skip
            refine lv_dload_n hx hb dX5_bitsOf_27 rfl (lv_at hl 1 rfl) ?_
            refine lv_ldc2d (v := 4611686018427387904) hx hb C0.ow (C0.ts _ kw_X5_337) dX5_bitsOf_28 ?_
            refine lv_dmul hx hb dX5_bitsOf_31 (by unfold vf_n64; decide +kernel) ?_
            refine n_top (y := .double 4610685218510194460) (congrArg Value.double (by decide +kernel : FP.dmul 4606181618882823964 4611686018427387904 = (4610685218510194460 : UInt64))) ?_
            refine lv_dstore_n (lv' := [(2, .double (4610685218510194460)), (4, .int (nI (1))), (0, .double (4601678019255453468))]) hx hb dX5_bitsOf_32 rfl hl (by decide) rfl (fun ls hl => ?_)
            refine lv_iinc (v := nI 2) (lv' := [(4, .int (nI (2))), (2, .double (4610685218510194460)), (0, .double (4601678019255453468))]) hx hb dX5_bitsOf_33 hl (k := 1) rfl (by decide) (by decide) rfl (fun ls hl => ?_)
            refine lv_goto (tgt := 13) hx hb dX5_bitsOf_36 (by decide) ?_
            refine lv_dload_n hx hb dX5_bitsOf_13 rfl (lv_at hl 1 rfl) ?_
            refine lv_dconst1 hx hb dX5_bitsOf_14 ?_
            refine n_top (y := .double 4607182418800017408) (congrArg Value.double (by decide +kernel : FP.dconst1 = (4607182418800017408 : UInt64))) ?_
            refine lv_dcmp hx hb dX5_bitsOf_15 ?_
            refine n_top (y := .int (nI 1)) (congrArg Value.int (by decide +kernel : Op.cmpValue (FP.dcmp 4610685218510194460 4607182418800017408) .g = nI 1)) ?_
            refine n_if_ge (tgt := 39) hx hb dX5_bitsOf_16 (by decide) (by decide) ?_
            refine lv_sipush (v := nI 1023) hx hb dX5_bitsOf_39 (by decide) ?_
            refine lv_iload hx hb dX5_bitsOf_42 (lv_at hl 0 rfl) ?_
            refine n_isub hx hb (by omega) dX5_bitsOf_44 ?_
            refine n_i2l hx hb (by omega) dX5_bitsOf_45 ?_
            refine lv_lstore (lv' := [(5, .long (lN (1023 - 2))), (4, .int (nI (2))), (2, .double (4610685218510194460)), (0, .double (4601678019255453468))]) hx hb dX5_bitsOf_46 hl (by decide) rfl (fun ls hl => ?_)
            refine lv_dload_n hx hb dX5_bitsOf_48 rfl (lv_at hl 2 rfl) ?_
            refine lv_dconst1 hx hb dX5_bitsOf_49 ?_
            refine n_top (y := .double 4607182418800017408) (congrArg Value.double (by decide +kernel : FP.dconst1 = (4607182418800017408 : UInt64))) ?_
            refine lv_dsub hx hb dX5_bitsOf_50 (by unfold vf_n64; decide +kernel) ?_
            refine n_top (y := .double 4605180818965630520) (congrArg Value.double (by decide +kernel : FP.dsub 4610685218510194460 4607182418800017408 = (4605180818965630520 : UInt64))) ?_
            refine lv_ldc2d (v := 4841369599423283200) hx hb C0.ow (C0.ts _ kw_X5_339) dX5_bitsOf_51 ?_
            refine lv_dmul hx hb dX5_bitsOf_54 (by unfold vf_n64; decide +kernel) ?_
            refine n_top (y := .double 4839367999588896312) (congrArg Value.double (by decide +kernel : FP.dmul 4605180818965630520 4841369599423283200 = (4839367999588896312 : UInt64))) ?_
            refine lv_d2l hx hb dX5_bitsOf_55 ?_
            refine n_top (y := .long (lN 3502799710177052)) (congrArg Value.long (by decide +kernel : FP.d2l 4839367999588896312 = lN 3502799710177052)) ?_
            refine lv_lstore (lv' := [(7, .long (lN (3502799710177052))), (5, .long (lN (1023 - 2))), (4, .int (nI (2))), (2, .double (4610685218510194460)), (0, .double (4601678019255453468))]) hx hb dX5_bitsOf_56 hl (by decide) rfl (fun ls hl => ?_)
            refine lv_lload hx hb dX5_bitsOf_58 (lv_at hl 1 rfl) ?_
            refine lv_bipush (v := nI 52) hx hb dX5_bitsOf_60 (by decide) ?_
            refine lv_lshl (v := lN 4598175219545276416) hx hb dX5_bitsOf_62 (by decide +kernel) ?_
            refine lv_lload hx hb dX5_bitsOf_63 (lv_at hl 0 rfl) ?_
            refine n_ladd hx hb dX5_bitsOf_65 ?_
            exact r_l C0 hr hlk hw ⟨(by decide +kernel), (fun q  => rfl)⟩ (Nat.le_refl _) (Nat.le_refl _) dX5_bitsOf_66 hQ
  · skip
    exact absurd c_3 (by decide)
set_option maxHeartbeats 4000000 in
set_option maxRecDepth 100000 in
theorem c_X5_bitsOf_4601928219234751829 (l : Launch) (G : Gl) (L : List Nat) (F : Nat → va_E) : CL l yX5_bitsOf cX5_bitsOf 9 (some .long) rm_X5_bitsOf G L F [.double (4601928219234751829)] (fun r F1 => r = (4601928219234751829 : UInt64).toInt64 ∧ ∀ q, F1 q = F q) := by
  refine CG_of (by decide) (Nat.le_of_ble_eq_true rfl) rfl ?_
  intro p e s m args below meth c Q C0 hr hlk hnm hQ hw ls hl
  have hx := C0.x
  have hb := C0.b
  refine lv_dload_n hx hb dX5_bitsOf_0 rfl (lv_at hl 0 rfl) ?_
  refine lv_dconst0 hx hb dX5_bitsOf_1 ?_
  refine n_top (y := .double 0) (congrArg Value.double (by decide +kernel : FP.dconst0 = (0 : UInt64))) ?_
  refine lv_dcmp hx hb dX5_bitsOf_2 ?_
  refine n_top (y := .int (nI 1)) (congrArg Value.int (by decide +kernel : Op.cmpValue (FP.dcmp 4601928219234751829 0) .g = nI 1)) ?_
  refine n_if_gt (tgt := 8) hx hb dX5_bitsOf_3 (by decide) (by decide) (fun c_3 => ?_) (fun c_3 => ?_)
  · skip
    refine lv_dload_n hx hb dX5_bitsOf_8 rfl (lv_at hl 0 rfl) ?_
    refine lv_dstore_n (lv' := [(2, .double (4601928219234751829)), (0, .double (4601928219234751829))]) hx hb dX5_bitsOf_9 rfl hl (by decide) rfl (fun ls hl => ?_)
    refine lv_iconst (v := nI 0) hx hb dX5_bitsOf_10 (by decide) ?_
    refine lv_istore (lv' := [(4, .int (nI (0))), (2, .double (4601928219234751829)), (0, .double (4601928219234751829))]) hx hb dX5_bitsOf_11 hl (by decide) rfl (fun ls hl => ?_)
    refine lv_dload_n hx hb dX5_bitsOf_13 rfl (lv_at hl 1 rfl) ?_
    refine lv_dconst1 hx hb dX5_bitsOf_14 ?_
    refine n_top (y := .double 4607182418800017408) (congrArg Value.double (by decide +kernel : FP.dconst1 = (4607182418800017408 : UInt64))) ?_
    refine lv_dcmp hx hb dX5_bitsOf_15 ?_
    refine n_top (y := .int ((-1))) (congrArg Value.int (by decide +kernel : Op.cmpValue (FP.dcmp 4601928219234751829 4607182418800017408) .g = (-1))) ?_
    refine lv_if_ge (tgt := 39) hx hb dX5_bitsOf_16 (by decide) (fun c_16 => ?_) (fun c_16 => ?_)
    · skip
      exact absurd c_16 (by decide)
    · skip
      refine lv_iload hx hb dX5_bitsOf_19 (lv_at hl 0 rfl) ?_
      refine lv_sipush (v := nI 1022) hx hb dX5_bitsOf_21 (by decide) ?_
      refine n_icmp_ge (tgt := 39) hx hb dX5_bitsOf_24 (by decide) (by decide) (by decide) (fun c_24 => ?_) (fun c_24 => ?_)
      · skip
        exact absurd c_24 (by omega)
      · skip
        refine lv_dload_n hx hb dX5_bitsOf_27 rfl (lv_at hl 1 rfl) ?_
        refine lv_ldc2d (v := 4611686018427387904) hx hb C0.ow (C0.ts _ kw_X5_337) dX5_bitsOf_28 ?_
        refine lv_dmul hx hb dX5_bitsOf_31 (by unfold vf_n64; decide +kernel) ?_
        refine n_top (y := .double 4606431818862122325) (congrArg Value.double (by decide +kernel : FP.dmul 4601928219234751829 4611686018427387904 = (4606431818862122325 : UInt64))) ?_
        refine lv_dstore_n (lv' := [(2, .double (4606431818862122325)), (4, .int (nI (0))), (0, .double (4601928219234751829))]) hx hb dX5_bitsOf_32 rfl hl (by decide) rfl (fun ls hl => ?_)
        refine lv_iinc (v := nI 1) (lv' := [(4, .int (nI (1))), (2, .double (4606431818862122325)), (0, .double (4601928219234751829))]) hx hb dX5_bitsOf_33 hl (k := 1) rfl (by decide) (by decide) rfl (fun ls hl => ?_)
        refine lv_goto (tgt := 13) hx hb dX5_bitsOf_36 (by decide) ?_
        refine lv_dload_n hx hb dX5_bitsOf_13 rfl (lv_at hl 1 rfl) ?_
        refine lv_dconst1 hx hb dX5_bitsOf_14 ?_
        refine n_top (y := .double 4607182418800017408) (congrArg Value.double (by decide +kernel : FP.dconst1 = (4607182418800017408 : UInt64))) ?_
        refine lv_dcmp hx hb dX5_bitsOf_15 ?_
        refine n_top (y := .int ((-1))) (congrArg Value.int (by decide +kernel : Op.cmpValue (FP.dcmp 4606431818862122325 4607182418800017408) .g = (-1))) ?_
        refine lv_if_ge (tgt := 39) hx hb dX5_bitsOf_16 (by decide) (fun c_16 => ?_) (fun c_16 => ?_)
        · skip
          exact absurd c_16 (by decide)
        · skip
          refine lv_iload hx hb dX5_bitsOf_19 (lv_at hl 0 rfl) ?_
          refine lv_sipush (v := nI 1022) hx hb dX5_bitsOf_21 (by decide) ?_
          refine n_icmp_ge (tgt := 39) hx hb dX5_bitsOf_24 (by decide) (by decide) (by decide) (fun c_24 => ?_) (fun c_24 => ?_)
          · skip
            exact absurd c_24 (by omega)
          · skip
            refine lv_dload_n hx hb dX5_bitsOf_27 rfl (lv_at hl 1 rfl) ?_
            refine lv_ldc2d (v := 4611686018427387904) hx hb C0.ow (C0.ts _ kw_X5_337) dX5_bitsOf_28 ?_
            refine lv_dmul hx hb dX5_bitsOf_31 (by unfold vf_n64; decide +kernel) ?_
            refine n_top (y := .double 4610935418489492821) (congrArg Value.double (by decide +kernel : FP.dmul 4606431818862122325 4611686018427387904 = (4610935418489492821 : UInt64))) ?_
            refine lv_dstore_n (lv' := [(2, .double (4610935418489492821)), (4, .int (nI (1))), (0, .double (4601928219234751829))]) hx hb dX5_bitsOf_32 rfl hl (by decide) rfl (fun ls hl => ?_)
            refine lv_iinc (v := nI 2) (lv' := [(4, .int (nI (2))), (2, .double (4610935418489492821)), (0, .double (4601928219234751829))]) hx hb dX5_bitsOf_33 hl (k := 1) rfl (by decide) (by decide) rfl (fun ls hl => ?_)
            refine lv_goto (tgt := 13) hx hb dX5_bitsOf_36 (by decide) ?_
            refine lv_dload_n hx hb dX5_bitsOf_13 rfl (lv_at hl 1 rfl) ?_
            refine lv_dconst1 hx hb dX5_bitsOf_14 ?_
            refine n_top (y := .double 4607182418800017408) (congrArg Value.double (by decide +kernel : FP.dconst1 = (4607182418800017408 : UInt64))) ?_
            refine lv_dcmp hx hb dX5_bitsOf_15 ?_
            refine n_top (y := .int (nI 1)) (congrArg Value.int (by decide +kernel : Op.cmpValue (FP.dcmp 4610935418489492821 4607182418800017408) .g = nI 1)) ?_
            refine n_if_ge (tgt := 39) hx hb dX5_bitsOf_16 (by decide) (by decide) ?_
            refine lv_sipush (v := nI 1023) hx hb dX5_bitsOf_39 (by decide) ?_
            refine lv_iload hx hb dX5_bitsOf_42 (lv_at hl 0 rfl) ?_
            refine n_isub hx hb (by omega) dX5_bitsOf_44 ?_
            refine n_i2l hx hb (by omega) dX5_bitsOf_45 ?_
            refine lv_lstore (lv' := [(5, .long (lN (1023 - 2))), (4, .int (nI (2))), (2, .double (4610935418489492821)), (0, .double (4601928219234751829))]) hx hb dX5_bitsOf_46 hl (by decide) rfl (fun ls hl => ?_)
            refine lv_dload_n hx hb dX5_bitsOf_48 rfl (lv_at hl 2 rfl) ?_
            refine lv_dconst1 hx hb dX5_bitsOf_49 ?_
            refine n_top (y := .double 4607182418800017408) (congrArg Value.double (by decide +kernel : FP.dconst1 = (4607182418800017408 : UInt64))) ?_
            refine lv_dsub hx hb dX5_bitsOf_50 (by unfold vf_n64; decide +kernel) ?_
            refine n_top (y := .double 4605681218924227242) (congrArg Value.double (by decide +kernel : FP.dsub 4610935418489492821 4607182418800017408 = (4605681218924227242 : UInt64))) ?_
            refine lv_ldc2d (v := 4841369599423283200) hx hb C0.ow (C0.ts _ kw_X5_339) dX5_bitsOf_51 ?_
            refine lv_dmul hx hb dX5_bitsOf_54 (by unfold vf_n64; decide +kernel) ?_
            refine n_top (y := .double 4839868399547493034) (congrArg Value.double (by decide +kernel : FP.dmul 4605681218924227242 4841369599423283200 = (4839868399547493034 : UInt64))) ?_
            refine lv_d2l hx hb dX5_bitsOf_55 ?_
            refine n_top (y := .long (lN 3752999689475413)) (congrArg Value.long (by decide +kernel : FP.d2l 4839868399547493034 = lN 3752999689475413)) ?_
            refine lv_lstore (lv' := [(7, .long (lN (3752999689475413))), (5, .long (lN (1023 - 2))), (4, .int (nI (2))), (2, .double (4610935418489492821)), (0, .double (4601928219234751829))]) hx hb dX5_bitsOf_56 hl (by decide) rfl (fun ls hl => ?_)
            refine lv_lload hx hb dX5_bitsOf_58 (lv_at hl 1 rfl) ?_
            refine lv_bipush (v := nI 52) hx hb dX5_bitsOf_60 (by decide) ?_
            refine lv_lshl (v := lN 4598175219545276416) hx hb dX5_bitsOf_62 (by decide +kernel) ?_
            refine lv_lload hx hb dX5_bitsOf_63 (lv_at hl 0 rfl) ?_
            refine n_ladd hx hb dX5_bitsOf_65 ?_
            exact r_l C0 hr hlk hw ⟨(by decide +kernel), (fun q  => rfl)⟩ (Nat.le_refl _) (Nat.le_refl _) dX5_bitsOf_66 hQ
  · skip
    exact absurd c_3 (by decide)
set_option maxHeartbeats 4000000 in
set_option maxRecDepth 100000 in
theorem c_X5_bitsOf_4602078339222330846 (l : Launch) (G : Gl) (L : List Nat) (F : Nat → va_E) : CL l yX5_bitsOf cX5_bitsOf 9 (some .long) rm_X5_bitsOf G L F [.double (4602078339222330846)] (fun r F1 => r = (4602078339222330846 : UInt64).toInt64 ∧ ∀ q, F1 q = F q) := by
  refine CG_of (by decide) (Nat.le_of_ble_eq_true rfl) rfl ?_
  intro p e s m args below meth c Q C0 hr hlk hnm hQ hw ls hl
  have hx := C0.x
  have hb := C0.b
  refine lv_dload_n hx hb dX5_bitsOf_0 rfl (lv_at hl 0 rfl) ?_
  refine lv_dconst0 hx hb dX5_bitsOf_1 ?_
  refine n_top (y := .double 0) (congrArg Value.double (by decide +kernel : FP.dconst0 = (0 : UInt64))) ?_
  refine lv_dcmp hx hb dX5_bitsOf_2 ?_
  refine n_top (y := .int (nI 1)) (congrArg Value.int (by decide +kernel : Op.cmpValue (FP.dcmp 4602078339222330846 0) .g = nI 1)) ?_
  refine n_if_gt (tgt := 8) hx hb dX5_bitsOf_3 (by decide) (by decide) (fun c_3 => ?_) (fun c_3 => ?_)
  · skip
    refine lv_dload_n hx hb dX5_bitsOf_8 rfl (lv_at hl 0 rfl) ?_
    refine lv_dstore_n (lv' := [(2, .double (4602078339222330846)), (0, .double (4602078339222330846))]) hx hb dX5_bitsOf_9 rfl hl (by decide) rfl (fun ls hl => ?_)
    refine lv_iconst (v := nI 0) hx hb dX5_bitsOf_10 (by decide) ?_
    refine lv_istore (lv' := [(4, .int (nI (0))), (2, .double (4602078339222330846)), (0, .double (4602078339222330846))]) hx hb dX5_bitsOf_11 hl (by decide) rfl (fun ls hl => ?_)
    refine lv_dload_n hx hb dX5_bitsOf_13 rfl (lv_at hl 1 rfl) ?_
    refine lv_dconst1 hx hb dX5_bitsOf_14 ?_
    refine n_top (y := .double 4607182418800017408) (congrArg Value.double (by decide +kernel : FP.dconst1 = (4607182418800017408 : UInt64))) ?_
    refine lv_dcmp hx hb dX5_bitsOf_15 ?_
    refine n_top (y := .int ((-1))) (congrArg Value.int (by decide +kernel : Op.cmpValue (FP.dcmp 4602078339222330846 4607182418800017408) .g = (-1))) ?_
    refine lv_if_ge (tgt := 39) hx hb dX5_bitsOf_16 (by decide) (fun c_16 => ?_) (fun c_16 => ?_)
    · skip
      exact absurd c_16 (by decide)
    · skip
      refine lv_iload hx hb dX5_bitsOf_19 (lv_at hl 0 rfl) ?_
      refine lv_sipush (v := nI 1022) hx hb dX5_bitsOf_21 (by decide) ?_
      refine n_icmp_ge (tgt := 39) hx hb dX5_bitsOf_24 (by decide) (by decide) (by decide) (fun c_24 => ?_) (fun c_24 => ?_)
      · skip
        exact absurd c_24 (by omega)
      · skip
        refine lv_dload_n hx hb dX5_bitsOf_27 rfl (lv_at hl 1 rfl) ?_
        refine lv_ldc2d (v := 4611686018427387904) hx hb C0.ow (C0.ts _ kw_X5_337) dX5_bitsOf_28 ?_
        refine lv_dmul hx hb dX5_bitsOf_31 (by unfold vf_n64; decide +kernel) ?_
        refine n_top (y := .double 4606581938849701342) (congrArg Value.double (by decide +kernel : FP.dmul 4602078339222330846 4611686018427387904 = (4606581938849701342 : UInt64))) ?_
        refine lv_dstore_n (lv' := [(2, .double (4606581938849701342)), (4, .int (nI (0))), (0, .double (4602078339222330846))]) hx hb dX5_bitsOf_32 rfl hl (by decide) rfl (fun ls hl => ?_)
        refine lv_iinc (v := nI 1) (lv' := [(4, .int (nI (1))), (2, .double (4606581938849701342)), (0, .double (4602078339222330846))]) hx hb dX5_bitsOf_33 hl (k := 1) rfl (by decide) (by decide) rfl (fun ls hl => ?_)
        refine lv_goto (tgt := 13) hx hb dX5_bitsOf_36 (by decide) ?_
        refine lv_dload_n hx hb dX5_bitsOf_13 rfl (lv_at hl 1 rfl) ?_
        refine lv_dconst1 hx hb dX5_bitsOf_14 ?_
        refine n_top (y := .double 4607182418800017408) (congrArg Value.double (by decide +kernel : FP.dconst1 = (4607182418800017408 : UInt64))) ?_
        refine lv_dcmp hx hb dX5_bitsOf_15 ?_
        refine n_top (y := .int ((-1))) (congrArg Value.int (by decide +kernel : Op.cmpValue (FP.dcmp 4606581938849701342 4607182418800017408) .g = (-1))) ?_
        refine lv_if_ge (tgt := 39) hx hb dX5_bitsOf_16 (by decide) (fun c_16 => ?_) (fun c_16 => ?_)
        · skip
          exact absurd c_16 (by decide)
        · skip
          refine lv_iload hx hb dX5_bitsOf_19 (lv_at hl 0 rfl) ?_
          refine lv_sipush (v := nI 1022) hx hb dX5_bitsOf_21 (by decide) ?_
          refine n_icmp_ge (tgt := 39) hx hb dX5_bitsOf_24 (by decide) (by decide) (by decide) (fun c_24 => ?_) (fun c_24 => ?_)
          · skip
            exact absurd c_24 (by omega)
          · skip
            refine lv_dload_n hx hb dX5_bitsOf_27 rfl (lv_at hl 1 rfl) ?_
            refine lv_ldc2d (v := 4611686018427387904) hx hb C0.ow (C0.ts _ kw_X5_337) dX5_bitsOf_28 ?_
            refine lv_dmul hx hb dX5_bitsOf_31 (by unfold vf_n64; decide +kernel) ?_
            refine n_top (y := .double 4611085538477071838) (congrArg Value.double (by decide +kernel : FP.dmul 4606581938849701342 4611686018427387904 = (4611085538477071838 : UInt64))) ?_
            refine lv_dstore_n (lv' := [(2, .double (4611085538477071838)), (4, .int (nI (1))), (0, .double (4602078339222330846))]) hx hb dX5_bitsOf_32 rfl hl (by decide) rfl (fun ls hl => ?_)
            refine lv_iinc (v := nI 2) (lv' := [(4, .int (nI (2))), (2, .double (4611085538477071838)), (0, .double (4602078339222330846))]) hx hb dX5_bitsOf_33 hl (k := 1) rfl (by decide) (by decide) rfl (fun ls hl => ?_)
            refine lv_goto (tgt := 13) hx hb dX5_bitsOf_36 (by decide) ?_
            refine lv_dload_n hx hb dX5_bitsOf_13 rfl (lv_at hl 1 rfl) ?_
            refine lv_dconst1 hx hb dX5_bitsOf_14 ?_
            refine n_top (y := .double 4607182418800017408) (congrArg Value.double (by decide +kernel : FP.dconst1 = (4607182418800017408 : UInt64))) ?_
            refine lv_dcmp hx hb dX5_bitsOf_15 ?_
            refine n_top (y := .int (nI 1)) (congrArg Value.int (by decide +kernel : Op.cmpValue (FP.dcmp 4611085538477071838 4607182418800017408) .g = nI 1)) ?_
            refine n_if_ge (tgt := 39) hx hb dX5_bitsOf_16 (by decide) (by decide) ?_
            refine lv_sipush (v := nI 1023) hx hb dX5_bitsOf_39 (by decide) ?_
            refine lv_iload hx hb dX5_bitsOf_42 (lv_at hl 0 rfl) ?_
            refine n_isub hx hb (by omega) dX5_bitsOf_44 ?_
            refine n_i2l hx hb (by omega) dX5_bitsOf_45 ?_
            refine lv_lstore (lv' := [(5, .long (lN (1023 - 2))), (4, .int (nI (2))), (2, .double (4611085538477071838)), (0, .double (4602078339222330846))]) hx hb dX5_bitsOf_46 hl (by decide) rfl (fun ls hl => ?_)
            refine lv_dload_n hx hb dX5_bitsOf_48 rfl (lv_at hl 2 rfl) ?_
            refine lv_dconst1 hx hb dX5_bitsOf_49 ?_
            refine n_top (y := .double 4607182418800017408) (congrArg Value.double (by decide +kernel : FP.dconst1 = (4607182418800017408 : UInt64))) ?_
            refine lv_dsub hx hb dX5_bitsOf_50 (by unfold vf_n64; decide +kernel) ?_
            refine n_top (y := .double 4605981458899385276) (congrArg Value.double (by decide +kernel : FP.dsub 4611085538477071838 4607182418800017408 = (4605981458899385276 : UInt64))) ?_
            refine lv_ldc2d (v := 4841369599423283200) hx hb C0.ow (C0.ts _ kw_X5_339) dX5_bitsOf_51 ?_
            refine lv_dmul hx hb dX5_bitsOf_54 (by unfold vf_n64; decide +kernel) ?_
            refine n_top (y := .double 4840168639522651068) (congrArg Value.double (by decide +kernel : FP.dmul 4605981458899385276 4841369599423283200 = (4840168639522651068 : UInt64))) ?_
            refine lv_d2l hx hb dX5_bitsOf_55 ?_
            refine n_top (y := .long (lN 3903119677054430)) (congrArg Value.long (by decide +kernel : FP.d2l 4840168639522651068 = lN 3903119677054430)) ?_
            refine lv_lstore (lv' := [(7, .long (lN (3903119677054430))), (5, .long (lN (1023 - 2))), (4, .int (nI (2))), (2, .double (4611085538477071838)), (0, .double (4602078339222330846))]) hx hb dX5_bitsOf_56 hl (by decide) rfl (fun ls hl => ?_)
            refine lv_lload hx hb dX5_bitsOf_58 (lv_at hl 1 rfl) ?_
            refine lv_bipush (v := nI 52) hx hb dX5_bitsOf_60 (by decide) ?_
            refine lv_lshl (v := lN 4598175219545276416) hx hb dX5_bitsOf_62 (by decide +kernel) ?_
            refine lv_lload hx hb dX5_bitsOf_63 (lv_at hl 0 rfl) ?_
            refine n_ladd hx hb dX5_bitsOf_65 ?_
            exact r_l C0 hr hlk hw ⟨(by decide +kernel), (fun q  => rfl)⟩ (Nat.le_refl _) (Nat.le_refl _) dX5_bitsOf_66 hQ
  · skip
    exact absurd c_3 (by decide)
set_option maxHeartbeats 4000000 in
set_option maxRecDepth 100000 in
theorem c_X5_bitsOf_4602678819172646912 (l : Launch) (G : Gl) (L : List Nat) (F : Nat → va_E) : CL l yX5_bitsOf cX5_bitsOf 9 (some .long) rm_X5_bitsOf G L F [.double (4602678819172646912)] (fun r F1 => r = (4602678819172646912 : UInt64).toInt64 ∧ ∀ q, F1 q = F q) := by
  refine CG_of (by decide) (Nat.le_of_ble_eq_true rfl) rfl ?_
  intro p e s m args below meth c Q C0 hr hlk hnm hQ hw ls hl
  have hx := C0.x
  have hb := C0.b
  refine lv_dload_n hx hb dX5_bitsOf_0 rfl (lv_at hl 0 rfl) ?_
  refine lv_dconst0 hx hb dX5_bitsOf_1 ?_
  refine n_top (y := .double 0) (congrArg Value.double (by decide +kernel : FP.dconst0 = (0 : UInt64))) ?_
  refine lv_dcmp hx hb dX5_bitsOf_2 ?_
  refine n_top (y := .int (nI 1)) (congrArg Value.int (by decide +kernel : Op.cmpValue (FP.dcmp 4602678819172646912 0) .g = nI 1)) ?_
  refine n_if_gt (tgt := 8) hx hb dX5_bitsOf_3 (by decide) (by decide) (fun c_3 => ?_) (fun c_3 => ?_)
  · skip
    refine lv_dload_n hx hb dX5_bitsOf_8 rfl (lv_at hl 0 rfl) ?_
    refine lv_dstore_n (lv' := [(2, .double (4602678819172646912)), (0, .double (4602678819172646912))]) hx hb dX5_bitsOf_9 rfl hl (by decide) rfl (fun ls hl => ?_)
    refine lv_iconst (v := nI 0) hx hb dX5_bitsOf_10 (by decide) ?_
    refine lv_istore (lv' := [(4, .int (nI (0))), (2, .double (4602678819172646912)), (0, .double (4602678819172646912))]) hx hb dX5_bitsOf_11 hl (by decide) rfl (fun ls hl => ?_)
    refine lv_dload_n hx hb dX5_bitsOf_13 rfl (lv_at hl 1 rfl) ?_
    refine lv_dconst1 hx hb dX5_bitsOf_14 ?_
    refine n_top (y := .double 4607182418800017408) (congrArg Value.double (by decide +kernel : FP.dconst1 = (4607182418800017408 : UInt64))) ?_
    refine lv_dcmp hx hb dX5_bitsOf_15 ?_
    refine n_top (y := .int ((-1))) (congrArg Value.int (by decide +kernel : Op.cmpValue (FP.dcmp 4602678819172646912 4607182418800017408) .g = (-1))) ?_
    refine lv_if_ge (tgt := 39) hx hb dX5_bitsOf_16 (by decide) (fun c_16 => ?_) (fun c_16 => ?_)
    · skip
      exact absurd c_16 (by decide)
    · skip
      refine lv_iload hx hb dX5_bitsOf_19 (lv_at hl 0 rfl) ?_
      refine lv_sipush (v := nI 1022) hx hb dX5_bitsOf_21 (by decide) ?_
      refine n_icmp_ge (tgt := 39) hx hb dX5_bitsOf_24 (by decide) (by decide) (by decide) (fun c_24 => ?_) (fun c_24 => ?_)
      · skip
        exact absurd c_24 (by omega)
      · skip
        refine lv_dload_n hx hb dX5_bitsOf_27 rfl (lv_at hl 1 rfl) ?_
        refine lv_ldc2d (v := 4611686018427387904) hx hb C0.ow (C0.ts _ kw_X5_337) dX5_bitsOf_28 ?_
        refine lv_dmul hx hb dX5_bitsOf_31 (by unfold vf_n64; decide +kernel) ?_
        refine n_top (y := .double 4607182418800017408) (congrArg Value.double (by decide +kernel : FP.dmul 4602678819172646912 4611686018427387904 = (4607182418800017408 : UInt64))) ?_
        refine lv_dstore_n (lv' := [(2, .double (4607182418800017408)), (4, .int (nI (0))), (0, .double (4602678819172646912))]) hx hb dX5_bitsOf_32 rfl hl (by decide) rfl (fun ls hl => ?_)
        refine lv_iinc (v := nI 1) (lv' := [(4, .int (nI (1))), (2, .double (4607182418800017408)), (0, .double (4602678819172646912))]) hx hb dX5_bitsOf_33 hl (k := 1) rfl (by decide) (by decide) rfl (fun ls hl => ?_)
        refine lv_goto (tgt := 13) hx hb dX5_bitsOf_36 (by decide) ?_
        refine lv_dload_n hx hb dX5_bitsOf_13 rfl (lv_at hl 1 rfl) ?_
        refine lv_dconst1 hx hb dX5_bitsOf_14 ?_
        refine n_top (y := .double 4607182418800017408) (congrArg Value.double (by decide +kernel : FP.dconst1 = (4607182418800017408 : UInt64))) ?_
        refine lv_dcmp hx hb dX5_bitsOf_15 ?_
        refine n_top (y := .int (nI 0)) (congrArg Value.int (by decide +kernel : Op.cmpValue (FP.dcmp 4607182418800017408 4607182418800017408) .g = nI 0)) ?_
        refine n_if_ge (tgt := 39) hx hb dX5_bitsOf_16 (by decide) (by decide) ?_
        refine lv_sipush (v := nI 1023) hx hb dX5_bitsOf_39 (by decide) ?_
        refine lv_iload hx hb dX5_bitsOf_42 (lv_at hl 0 rfl) ?_
        refine n_isub hx hb (by omega) dX5_bitsOf_44 ?_
        refine n_i2l hx hb (by omega) dX5_bitsOf_45 ?_
        refine lv_lstore (lv' := [(5, .long (lN (1023 - 1))), (4, .int (nI (1))), (2, .double (4607182418800017408)), (0, .double (4602678819172646912))]) hx hb dX5_bitsOf_46 hl (by decide) rfl (fun ls hl => ?_)
        refine lv_dload_n hx hb dX5_bitsOf_48 rfl (lv_at hl 2 rfl) ?_
        refine lv_dconst1 hx hb dX5_bitsOf_49 ?_
        refine n_top (y := .double 4607182418800017408) (congrArg Value.double (by decide +kernel : FP.dconst1 = (4607182418800017408 : UInt64))) ?_
        refine lv_dsub hx hb dX5_bitsOf_50 (by unfold vf_n64; decide +kernel) ?_
        refine n_top (y := .double 0) (congrArg Value.double (by decide +kernel : FP.dsub 4607182418800017408 4607182418800017408 = (0 : UInt64))) ?_
        refine lv_ldc2d (v := 4841369599423283200) hx hb C0.ow (C0.ts _ kw_X5_339) dX5_bitsOf_51 ?_
        refine lv_dmul hx hb dX5_bitsOf_54 (by unfold vf_n64; decide +kernel) ?_
        refine n_top (y := .double 0) (congrArg Value.double (by decide +kernel : FP.dmul 0 4841369599423283200 = (0 : UInt64))) ?_
        refine lv_d2l hx hb dX5_bitsOf_55 ?_
        refine n_top (y := .long (lN 0)) (congrArg Value.long (by decide +kernel : FP.d2l 0 = lN 0)) ?_
        refine lv_lstore (lv' := [(7, .long (lN (0))), (5, .long (lN (1023 - 1))), (4, .int (nI (1))), (2, .double (4607182418800017408)), (0, .double (4602678819172646912))]) hx hb dX5_bitsOf_56 hl (by decide) rfl (fun ls hl => ?_)
        refine lv_lload hx hb dX5_bitsOf_58 (lv_at hl 1 rfl) ?_
        refine lv_bipush (v := nI 52) hx hb dX5_bitsOf_60 (by decide) ?_
        refine lv_lshl (v := lN 4602678819172646912) hx hb dX5_bitsOf_62 (by decide +kernel) ?_
        refine lv_lload hx hb dX5_bitsOf_63 (lv_at hl 0 rfl) ?_
        refine n_ladd hx hb dX5_bitsOf_65 ?_
        exact r_l C0 hr hlk hw ⟨(by decide +kernel), (fun q  => rfl)⟩ (Nat.le_refl _) (Nat.le_refl _) dX5_bitsOf_66 hQ
  · skip
    exact absurd c_3 (by decide)
set_option maxHeartbeats 4000000 in
set_option maxRecDepth 100000 in
theorem c_X5_bitsOf_4602979059147804945 (l : Launch) (G : Gl) (L : List Nat) (F : Nat → va_E) : CL l yX5_bitsOf cX5_bitsOf 9 (some .long) rm_X5_bitsOf G L F [.double (4602979059147804945)] (fun r F1 => r = (4602979059147804945 : UInt64).toInt64 ∧ ∀ q, F1 q = F q) := by
  refine CG_of (by decide) (Nat.le_of_ble_eq_true rfl) rfl ?_
  intro p e s m args below meth c Q C0 hr hlk hnm hQ hw ls hl
  have hx := C0.x
  have hb := C0.b
  refine lv_dload_n hx hb dX5_bitsOf_0 rfl (lv_at hl 0 rfl) ?_
  refine lv_dconst0 hx hb dX5_bitsOf_1 ?_
  refine n_top (y := .double 0) (congrArg Value.double (by decide +kernel : FP.dconst0 = (0 : UInt64))) ?_
  refine lv_dcmp hx hb dX5_bitsOf_2 ?_
  refine n_top (y := .int (nI 1)) (congrArg Value.int (by decide +kernel : Op.cmpValue (FP.dcmp 4602979059147804945 0) .g = nI 1)) ?_
  refine n_if_gt (tgt := 8) hx hb dX5_bitsOf_3 (by decide) (by decide) (fun c_3 => ?_) (fun c_3 => ?_)
  · skip
    refine lv_dload_n hx hb dX5_bitsOf_8 rfl (lv_at hl 0 rfl) ?_
    refine lv_dstore_n (lv' := [(2, .double (4602979059147804945)), (0, .double (4602979059147804945))]) hx hb dX5_bitsOf_9 rfl hl (by decide) rfl (fun ls hl => ?_)
    refine lv_iconst (v := nI 0) hx hb dX5_bitsOf_10 (by decide) ?_
    refine lv_istore (lv' := [(4, .int (nI (0))), (2, .double (4602979059147804945)), (0, .double (4602979059147804945))]) hx hb dX5_bitsOf_11 hl (by decide) rfl (fun ls hl => ?_)
    refine lv_dload_n hx hb dX5_bitsOf_13 rfl (lv_at hl 1 rfl) ?_
    refine lv_dconst1 hx hb dX5_bitsOf_14 ?_
    refine n_top (y := .double 4607182418800017408) (congrArg Value.double (by decide +kernel : FP.dconst1 = (4607182418800017408 : UInt64))) ?_
    refine lv_dcmp hx hb dX5_bitsOf_15 ?_
    refine n_top (y := .int ((-1))) (congrArg Value.int (by decide +kernel : Op.cmpValue (FP.dcmp 4602979059147804945 4607182418800017408) .g = (-1))) ?_
    refine lv_if_ge (tgt := 39) hx hb dX5_bitsOf_16 (by decide) (fun c_16 => ?_) (fun c_16 => ?_)
    · skip
      exact absurd c_16 (by decide)
    · skip
      refine lv_iload hx hb dX5_bitsOf_19 (lv_at hl 0 rfl) ?_
      refine lv_sipush (v := nI 1022) hx hb dX5_bitsOf_21 (by decide) ?_
      refine n_icmp_ge (tgt := 39) hx hb dX5_bitsOf_24 (by decide) (by decide) (by decide) (fun c_24 => ?_) (fun c_24 => ?_)
      · skip
        exact absurd c_24 (by omega)
      · skip
        refine lv_dload_n hx hb dX5_bitsOf_27 rfl (lv_at hl 1 rfl) ?_
        refine lv_ldc2d (v := 4611686018427387904) hx hb C0.ow (C0.ts _ kw_X5_337) dX5_bitsOf_28 ?_
        refine lv_dmul hx hb dX5_bitsOf_31 (by unfold vf_n64; decide +kernel) ?_
        refine n_top (y := .double 4607482658775175441) (congrArg Value.double (by decide +kernel : FP.dmul 4602979059147804945 4611686018427387904 = (4607482658775175441 : UInt64))) ?_
        refine lv_dstore_n (lv' := [(2, .double (4607482658775175441)), (4, .int (nI (0))), (0, .double (4602979059147804945))]) hx hb dX5_bitsOf_32 rfl hl (by decide) rfl (fun ls hl => ?_)
        refine lv_iinc (v := nI 1) (lv' := [(4, .int (nI (1))), (2, .double (4607482658775175441)), (0, .double (4602979059147804945))]) hx hb dX5_bitsOf_33 hl (k := 1) rfl (by decide) (by decide) rfl (fun ls hl => ?_)
        refine lv_goto (tgt := 13) hx hb dX5_bitsOf_36 (by decide) ?_
        refine lv_dload_n hx hb dX5_bitsOf_13 rfl (lv_at hl 1 rfl) ?_
        refine lv_dconst1 hx hb dX5_bitsOf_14 ?_
        refine n_top (y := .double 4607182418800017408) (congrArg Value.double (by decide +kernel : FP.dconst1 = (4607182418800017408 : UInt64))) ?_
        refine lv_dcmp hx hb dX5_bitsOf_15 ?_
        refine n_top (y := .int (nI 1)) (congrArg Value.int (by decide +kernel : Op.cmpValue (FP.dcmp 4607482658775175441 4607182418800017408) .g = nI 1)) ?_
        refine n_if_ge (tgt := 39) hx hb dX5_bitsOf_16 (by decide) (by decide) ?_
        refine lv_sipush (v := nI 1023) hx hb dX5_bitsOf_39 (by decide) ?_
        refine lv_iload hx hb dX5_bitsOf_42 (lv_at hl 0 rfl) ?_
        refine n_isub hx hb (by omega) dX5_bitsOf_44 ?_
        refine n_i2l hx hb (by omega) dX5_bitsOf_45 ?_
        refine lv_lstore (lv' := [(5, .long (lN (1023 - 1))), (4, .int (nI (1))), (2, .double (4607482658775175441)), (0, .double (4602979059147804945))]) hx hb dX5_bitsOf_46 hl (by decide) rfl (fun ls hl => ?_)
        refine lv_dload_n hx hb dX5_bitsOf_48 rfl (lv_at hl 2 rfl) ?_
        refine lv_dconst1 hx hb dX5_bitsOf_49 ?_
        refine n_top (y := .double 4607182418800017408) (congrArg Value.double (by decide +kernel : FP.dconst1 = (4607182418800017408 : UInt64))) ?_
        refine lv_dsub hx hb dX5_bitsOf_50 (by unfold vf_n64; decide +kernel) ?_
        refine n_top (y := .double 4589468260265693456) (congrArg Value.double (by decide +kernel : FP.dsub 4607482658775175441 4607182418800017408 = (4589468260265693456 : UInt64))) ?_
        refine lv_ldc2d (v := 4841369599423283200) hx hb C0.ow (C0.ts _ kw_X5_339) dX5_bitsOf_51 ?_
        refine lv_dmul hx hb dX5_bitsOf_54 (by unfold vf_n64; decide +kernel) ?_
        refine n_top (y := .double 4823655440888959248) (congrArg Value.double (by decide +kernel : FP.dmul 4589468260265693456 4841369599423283200 = (4823655440888959248 : UInt64))) ?_
        refine lv_d2l hx hb dX5_bitsOf_55 ?_
        refine n_top (y := .long (lN 300239975158033)) (congrArg Value.long (by decide +kernel : FP.d2l 4823655440888959248 = lN 300239975158033)) ?_
        refine lv_lstore (lv' := [(7, .long (lN (300239975158033))), (5, .long (lN (1023 - 1))), (4, .int (nI (1))), (2, .double (4607482658775175441)), (0, .double (4602979059147804945))]) hx hb dX5_bitsOf_56 hl (by decide) rfl (fun ls hl => ?_)
        refine lv_lload hx hb dX5_bitsOf_58 (lv_at hl 1 rfl) ?_
        refine lv_bipush (v := nI 52) hx hb dX5_bitsOf_60 (by decide) ?_
        refine lv_lshl (v := lN 4602678819172646912) hx hb dX5_bitsOf_62 (by decide +kernel) ?_
        refine lv_lload hx hb dX5_bitsOf_63 (lv_at hl 0 rfl) ?_
        refine n_ladd hx hb dX5_bitsOf_65 ?_
        exact r_l C0 hr hlk hw ⟨(by decide +kernel), (fun q  => rfl)⟩ (Nat.le_refl _) (Nat.le_refl _) dX5_bitsOf_66 hQ
  · skip
    exact absurd c_3 (by decide)
set_option maxHeartbeats 4000000 in
set_option maxRecDepth 100000 in
theorem c_X5_bitsOf_4603054119141594453 (l : Launch) (G : Gl) (L : List Nat) (F : Nat → va_E) : CL l yX5_bitsOf cX5_bitsOf 9 (some .long) rm_X5_bitsOf G L F [.double (4603054119141594453)] (fun r F1 => r = (4603054119141594453 : UInt64).toInt64 ∧ ∀ q, F1 q = F q) := by
  refine CG_of (by decide) (Nat.le_of_ble_eq_true rfl) rfl ?_
  intro p e s m args below meth c Q C0 hr hlk hnm hQ hw ls hl
  have hx := C0.x
  have hb := C0.b
  refine lv_dload_n hx hb dX5_bitsOf_0 rfl (lv_at hl 0 rfl) ?_
  refine lv_dconst0 hx hb dX5_bitsOf_1 ?_
  refine n_top (y := .double 0) (congrArg Value.double (by decide +kernel : FP.dconst0 = (0 : UInt64))) ?_
  refine lv_dcmp hx hb dX5_bitsOf_2 ?_
  refine n_top (y := .int (nI 1)) (congrArg Value.int (by decide +kernel : Op.cmpValue (FP.dcmp 4603054119141594453 0) .g = nI 1)) ?_
  refine n_if_gt (tgt := 8) hx hb dX5_bitsOf_3 (by decide) (by decide) (fun c_3 => ?_) (fun c_3 => ?_)
  · skip
    refine lv_dload_n hx hb dX5_bitsOf_8 rfl (lv_at hl 0 rfl) ?_
    refine lv_dstore_n (lv' := [(2, .double (4603054119141594453)), (0, .double (4603054119141594453))]) hx hb dX5_bitsOf_9 rfl hl (by decide) rfl (fun ls hl => ?_)
    refine lv_iconst (v := nI 0) hx hb dX5_bitsOf_10 (by decide) ?_
    refine lv_istore (lv' := [(4, .int (nI (0))), (2, .double (4603054119141594453)), (0, .double (4603054119141594453))]) hx hb dX5_bitsOf_11 hl (by decide) rfl (fun ls hl => ?_)
    refine lv_dload_n hx hb dX5_bitsOf_13 rfl (lv_at hl 1 rfl) ?_
    refine lv_dconst1 hx hb dX5_bitsOf_14 ?_
    refine n_top (y := .double 4607182418800017408) (congrArg Value.double (by decide +kernel : FP.dconst1 = (4607182418800017408 : UInt64))) ?_
    refine lv_dcmp hx hb dX5_bitsOf_15 ?_
    refine n_top (y := .int ((-1))) (congrArg Value.int (by decide +kernel : Op.cmpValue (FP.dcmp 4603054119141594453 4607182418800017408) .g = (-1))) ?_
    refine lv_if_ge (tgt := 39) hx hb dX5_bitsOf_16 (by decide) (fun c_16 => ?_) (fun c_16 => ?_)
    · skip
      exact absurd c_16 (by decide)
    · skip
      refine lv_iload hx hb dX5_bitsOf_19 (lv_at hl 0 rfl) ?_
      refine lv_sipush (v := nI 1022) hx hb dX5_bitsOf_21 (by decide) ?_
      refine n_icmp_ge (tgt := 39) hx hb dX5_bitsOf_24 (by decide) (by decide) (by decide) (fun c_24 => ?_) (fun c_24 => ?_)
      · skip
        exact absurd c_24 (by omega)
      · skip
        refine lv_dload_n hx hb dX5_bitsOf_27 rfl (lv_at hl 1 rfl) ?_
        refine lv_ldc2d (v := 4611686018427387904) hx hb C0.ow (C0.ts _ kw_X5_337) dX5_bitsOf_28 ?_
        refine lv_dmul hx hb dX5_bitsOf_31 (by unfold vf_n64; decide +kernel) ?_
        refine n_top (y := .double 4607557718768964949) (congrArg Value.double (by decide +kernel : FP.dmul 4603054119141594453 4611686018427387904 = (4607557718768964949 : UInt64))) ?_
        refine lv_dstore_n (lv' := [(2, .double (4607557718768964949)), (4, .int (nI (0))), (0, .double (4603054119141594453))]) hx hb dX5_bitsOf_32 rfl hl (by decide) rfl (fun ls hl => ?_)
        refine lv_iinc (v := nI 1) (lv' := [(4, .int (nI (1))), (2, .double (4607557718768964949)), (0, .double (4603054119141594453))]) hx hb dX5_bitsOf_33 hl (k := 1) rfl (by decide) (by decide) rfl (fun ls hl => ?_)
        refine lv_goto (tgt := 13) hx hb dX5_bitsOf_36 (by decide) ?_
        refine lv_dload_n hx hb dX5_bitsOf_13 rfl (lv_at hl 1 rfl) ?_
        refine lv_dconst1 hx hb dX5_bitsOf_14 ?_
        refine n_top (y := .double 4607182418800017408) (congrArg Value.double (by decide +kernel : FP.dconst1 = (4607182418800017408 : UInt64))) ?_
        refine lv_dcmp hx hb dX5_bitsOf_15 ?_
        refine n_top (y := .int (nI 1)) (congrArg Value.int (by decide +kernel : Op.cmpValue (FP.dcmp 4607557718768964949 4607182418800017408) .g = nI 1)) ?_
        refine n_if_ge (tgt := 39) hx hb dX5_bitsOf_16 (by decide) (by decide) ?_
        refine lv_sipush (v := nI 1023) hx hb dX5_bitsOf_39 (by decide) ?_
        refine lv_iload hx hb dX5_bitsOf_42 (lv_at hl 0 rfl) ?_
        refine n_isub hx hb (by omega) dX5_bitsOf_44 ?_
        refine n_i2l hx hb (by omega) dX5_bitsOf_45 ?_
        refine lv_lstore (lv' := [(5, .long (lN (1023 - 1))), (4, .int (nI (1))), (2, .double (4607557718768964949)), (0, .double (4603054119141594453))]) hx hb dX5_bitsOf_46 hl (by decide) rfl (fun ls hl => ?_)
        refine lv_dload_n hx hb dX5_bitsOf_48 rfl (lv_at hl 2 rfl) ?_
        refine lv_dconst1 hx hb dX5_bitsOf_49 ?_
        refine n_top (y := .double 4607182418800017408) (congrArg Value.double (by decide +kernel : FP.dconst1 = (4607182418800017408 : UInt64))) ?_
        refine lv_dsub hx hb dX5_bitsOf_50 (by unfold vf_n64; decide +kernel) ?_
        refine n_top (y := .double 4590669220166325584) (congrArg Value.double (by decide +kernel : FP.dsub 4607557718768964949 4607182418800017408 = (4590669220166325584 : UInt64))) ?_
        refine lv_ldc2d (v := 4841369599423283200) hx hb C0.ow (C0.ts _ kw_X5_339) dX5_bitsOf_51 ?_
        refine lv_dmul hx hb dX5_bitsOf_54 (by unfold vf_n64; decide +kernel) ?_
        refine n_top (y := .double 4824856400789591376) (congrArg Value.double (by decide +kernel : FP.dmul 4590669220166325584 4841369599423283200 = (4824856400789591376 : UInt64))) ?_
        refine lv_d2l hx hb dX5_bitsOf_55 ?_
        refine n_top (y := .long (lN 375299968947541)) (congrArg Value.long (by decide +kernel : FP.d2l 4824856400789591376 = lN 375299968947541)) ?_
        refine lv_lstore (lv' := [(7, .long (lN (375299968947541))), (5, .long (lN (1023 - 1))), (4, .int (nI (1))), (2, .double (4607557718768964949)), (0, .double (4603054119141594453))]) hx hb dX5_bitsOf_56 hl (by decide) rfl (fun ls hl => ?_)
        refine lv_lload hx hb dX5_bitsOf_58 (lv_at hl 1 rfl) ?_
        refine lv_bipush (v := nI 52) hx hb dX5_bitsOf_60 (by decide) ?_
        refine lv_lshl (v := lN 4602678819172646912) hx hb dX5_bitsOf_62 (by decide +kernel) ?_
        refine lv_lload hx hb dX5_bitsOf_63 (lv_at hl 0 rfl) ?_
        refine n_ladd hx hb dX5_bitsOf_65 ?_
        exact r_l C0 hr hlk hw ⟨(by decide +kernel), (fun q  => rfl)⟩ (Nat.le_refl _) (Nat.le_refl _) dX5_bitsOf_66 hQ
  · skip
    exact absurd c_3 (by decide)
set_option maxHeartbeats 4000000 in
set_option maxRecDepth 100000 in
theorem c_X5_bitsOf_4603179219131243634 (l : Launch) (G : Gl) (L : List Nat) (F : Nat → va_E) : CL l yX5_bitsOf cX5_bitsOf 9 (some .long) rm_X5_bitsOf G L F [.double (4603179219131243634)] (fun r F1 => r = (4603179219131243634 : UInt64).toInt64 ∧ ∀ q, F1 q = F q) := by
  refine CG_of (by decide) (Nat.le_of_ble_eq_true rfl) rfl ?_
  intro p e s m args below meth c Q C0 hr hlk hnm hQ hw ls hl
  have hx := C0.x
  have hb := C0.b
  refine lv_dload_n hx hb dX5_bitsOf_0 rfl (lv_at hl 0 rfl) ?_
  refine lv_dconst0 hx hb dX5_bitsOf_1 ?_
  refine n_top (y := .double 0) (congrArg Value.double (by decide +kernel : FP.dconst0 = (0 : UInt64))) ?_
  refine lv_dcmp hx hb dX5_bitsOf_2 ?_
  refine n_top (y := .int (nI 1)) (congrArg Value.int (by decide +kernel : Op.cmpValue (FP.dcmp 4603179219131243634 0) .g = nI 1)) ?_
  refine n_if_gt (tgt := 8) hx hb dX5_bitsOf_3 (by decide) (by decide) (fun c_3 => ?_) (fun c_3 => ?_)
  · skip
    refine lv_dload_n hx hb dX5_bitsOf_8 rfl (lv_at hl 0 rfl) ?_
    refine lv_dstore_n (lv' := [(2, .double (4603179219131243634)), (0, .double (4603179219131243634))]) hx hb dX5_bitsOf_9 rfl hl (by decide) rfl (fun ls hl => ?_)
    refine lv_iconst (v := nI 0) hx hb dX5_bitsOf_10 (by decide) ?_
    refine lv_istore (lv' := [(4, .int (nI (0))), (2, .double (4603179219131243634)), (0, .double (4603179219131243634))]) hx hb dX5_bitsOf_11 hl (by decide) rfl (fun ls hl => ?_)
    refine lv_dload_n hx hb dX5_bitsOf_13 rfl (lv_at hl 1 rfl) ?_
    refine lv_dconst1 hx hb dX5_bitsOf_14 ?_
    refine n_top (y := .double 4607182418800017408) (congrArg Value.double (by decide +kernel : FP.dconst1 = (4607182418800017408 : UInt64))) ?_
    refine lv_dcmp hx hb dX5_bitsOf_15 ?_
    refine n_top (y := .int ((-1))) (congrArg Value.int (by decide +kernel : Op.cmpValue (FP.dcmp 4603179219131243634 4607182418800017408) .g = (-1))) ?_
    refine lv_if_ge (tgt := 39) hx hb dX5_bitsOf_16 (by decide) (fun c_16 => ?_) (fun c_16 => ?_)
    · skip
      exact absurd c_16 (by decide)
    · skip
      refine lv_iload hx hb dX5_bitsOf_19 (lv_at hl 0 rfl) ?_
      refine lv_sipush (v := nI 1022) hx hb dX5_bitsOf_21 (by decide) ?_
      refine n_icmp_ge (tgt := 39) hx hb dX5_bitsOf_24 (by decide) (by decide) (by decide) (fun c_24 => ?_) (fun c_24 => ?_)
      · skip
        exact absurd c_24 (by omega)
      · skip
        refine lv_dload_n hx hb dX5_bitsOf_27 rfl (lv_at hl 1 rfl) ?_
        refine lv_ldc2d (v := 4611686018427387904) hx hb C0.ow (C0.ts _ kw_X5_337) dX5_bitsOf_28 ?_
        refine lv_dmul hx hb dX5_bitsOf_31 (by unfold vf_n64; decide +kernel) ?_
        refine n_top (y := .double 4607682818758614130) (congrArg Value.double (by decide +kernel : FP.dmul 4603179219131243634 4611686018427387904 = (4607682818758614130 : UInt64))) ?_
        refine lv_dstore_n (lv' := [(2, .double (4607682818758614130)), (4, .int (nI (0))), (0, .double (4603179219131243634))]) hx hb dX5_bitsOf_32 rfl hl (by decide) rfl (fun ls hl => ?_)
        refine lv_iinc (v := nI 1) (lv' := [(4, .int (nI (1))), (2, .double (4607682818758614130)), (0, .double (4603179219131243634))]) hx hb dX5_bitsOf_33 hl (k := 1) rfl (by decide) (by decide) rfl (fun ls hl => ?_)
        refine lv_goto (tgt := 13) hx hb dX5_bitsOf_36 (by decide) ?_
        refine lv_dload_n hx hb dX5_bitsOf_13 rfl (lv_at hl 1 rfl) ?_
        refine lv_dconst1 hx hb dX5_bitsOf_14 ?_
        refine n_top (y := .double 4607182418800017408) (congrArg Value.double (by decide +kernel : FP.dconst1 = (4607182418800017408 : UInt64))) ?_
        refine lv_dcmp hx hb dX5_bitsOf_15 ?_
        refine n_top (y := .int (nI 1)) (congrArg Value.int (by decide +kernel : Op.cmpValue (FP.dcmp 4607682818758614130 4607182418800017408) .g = nI 1)) ?_
        refine n_if_ge (tgt := 39) hx hb dX5_bitsOf_16 (by decide) (by decide) ?_
        refine lv_sipush (v := nI 1023) hx hb dX5_bitsOf_39 (by decide) ?_
        refine lv_iload hx hb dX5_bitsOf_42 (lv_at hl 0 rfl) ?_
        refine n_isub hx hb (by omega) dX5_bitsOf_44 ?_
        refine n_i2l hx hb (by omega) dX5_bitsOf_45 ?_
        refine lv_lstore (lv' := [(5, .long (lN (1023 - 1))), (4, .int (nI (1))), (2, .double (4607682818758614130)), (0, .double (4603179219131243634))]) hx hb dX5_bitsOf_46 hl (by decide) rfl (fun ls hl => ?_)
        refine lv_dload_n hx hb dX5_bitsOf_48 rfl (lv_at hl 2 rfl) ?_
        refine lv_dconst1 hx hb dX5_bitsOf_49 ?_
        refine n_top (y := .double 4607182418800017408) (congrArg Value.double (by decide +kernel : FP.dconst1 = (4607182418800017408 : UInt64))) ?_
        refine lv_dsub hx hb dX5_bitsOf_50 (by unfold vf_n64; decide +kernel) ?_
        refine n_top (y := .double 4592670820000712480) (congrArg Value.double (by decide +kernel : FP.dsub 4607682818758614130 4607182418800017408 = (4592670820000712480 : UInt64))) ?_
        refine lv_ldc2d (v := 4841369599423283200) hx hb C0.ow (C0.ts _ kw_X5_339) dX5_bitsOf_51 ?_
        refine lv_dmul hx hb dX5_bitsOf_54 (by unfold vf_n64; decide +kernel) ?_
        refine n_top (y := .double 4826858000623978272) (congrArg Value.double (by decide +kernel : FP.dmul 4592670820000712480 4841369599423283200 = (4826858000623978272 : UInt64))) ?_
        refine lv_d2l hx hb dX5_bitsOf_55 ?_
        refine n_top (y := .long (lN 500399958596722)) (congrArg Value.long (by decide +kernel : FP.d2l 4826858000623978272 = lN 500399958596722)) ?_
        refine lv_lstore (lv' := [(7, .long (lN (500399958596722))), (5, .long (lN (1023 - 1))), (4, .int (nI (1))), (2, .double (4607682818758614130)), (0, .double (4603179219131243634))]) hx hb dX5_bitsOf_56 hl (by decide) rfl (fun ls hl => ?_)
        refine lv_lload hx hb dX5_bitsOf_58 (lv_at hl 1 rfl) ?_
        refine lv_bipush (v := nI 52) hx hb dX5_bitsOf_60 (by decide) ?_
        refine lv_lshl (v := lN 4602678819172646912) hx hb dX5_bitsOf_62 (by decide +kernel) ?_
        refine lv_lload hx hb dX5_bitsOf_63 (lv_at hl 0 rfl) ?_
        refine n_ladd hx hb dX5_bitsOf_65 ?_
        exact r_l C0 hr hlk hw ⟨(by decide +kernel), (fun q  => rfl)⟩ (Nat.le_refl _) (Nat.le_refl _) dX5_bitsOf_66 hQ
  · skip
    exact absurd c_3 (by decide)
set_option maxHeartbeats 4000000 in
set_option maxRecDepth 100000 in
theorem c_X5_bitsOf_4603279299122962978 (l : Launch) (G : Gl) (L : List Nat) (F : Nat → va_E) : CL l yX5_bitsOf cX5_bitsOf 9 (some .long) rm_X5_bitsOf G L F [.double (4603279299122962978)] (fun r F1 => r = (4603279299122962978 : UInt64).toInt64 ∧ ∀ q, F1 q = F q) := by
  refine CG_of (by decide) (Nat.le_of_ble_eq_true rfl) rfl ?_
  intro p e s m args below meth c Q C0 hr hlk hnm hQ hw ls hl
  have hx := C0.x
  have hb := C0.b
  refine lv_dload_n hx hb dX5_bitsOf_0 rfl (lv_at hl 0 rfl) ?_
  refine lv_dconst0 hx hb dX5_bitsOf_1 ?_
  refine n_top (y := .double 0) (congrArg Value.double (by decide +kernel : FP.dconst0 = (0 : UInt64))) ?_
  refine lv_dcmp hx hb dX5_bitsOf_2 ?_
  refine n_top (y := .int (nI 1)) (congrArg Value.int (by decide +kernel : Op.cmpValue (FP.dcmp 4603279299122962978 0) .g = nI 1)) ?_
  refine n_if_gt (tgt := 8) hx hb dX5_bitsOf_3 (by decide) (by decide) (fun c_3 => ?_) (fun c_3 => ?_)
  · skip
    refine lv_dload_n hx hb dX5_bitsOf_8 rfl (lv_at hl 0 rfl) ?_
    refine lv_dstore_n (lv' := [(2, .double (4603279299122962978)), (0, .double (4603279299122962978))]) hx hb dX5_bitsOf_9 rfl hl (by decide) rfl (fun ls hl => ?_)
    refine lv_iconst (v := nI 0) hx hb dX5_bitsOf_10 (by decide) ?_
    refine lv_istore (lv' := [(4, .int (nI (0))), (2, .double (4603279299122962978)), (0, .double (4603279299122962978))]) hx hb dX5_bitsOf_11 hl (by decide) rfl (fun ls hl => ?_)
    refine lv_dload_n hx hb dX5_bitsOf_13 rfl (lv_at hl 1 rfl) ?_
    refine lv_dconst1 hx hb dX5_bitsOf_14 ?_
    refine n_top (y := .double 4607182418800017408) (congrArg Value.double (by decide +kernel : FP.dconst1 = (4607182418800017408 : UInt64))) ?_
    refine lv_dcmp hx hb dX5_bitsOf_15 ?_
    refine n_top (y := .int ((-1))) (congrArg Value.int (by decide +kernel : Op.cmpValue (FP.dcmp 4603279299122962978 4607182418800017408) .g = (-1))) ?_
    refine lv_if_ge (tgt := 39) hx hb dX5_bitsOf_16 (by decide) (fun c_16 => ?_) (fun c_16 => ?_)
    · skip
      exact absurd c_16 (by decide)
    · skip
      refine lv_iload hx hb dX5_bitsOf_19 (lv_at hl 0 rfl) ?_
      refine lv_sipush (v := nI 1022) hx hb dX5_bitsOf_21 (by decide) ?_
      refine n_icmp_ge (tgt := 39) hx hb dX5_bitsOf_24 (by decide) (by decide) (by decide) (fun c_24 => ?_) (fun c_24 => ?_)
      · skip
        exact absurd c_24 (by omega)
      · skip
        refine lv_dload_n hx hb dX5_bitsOf_27 rfl (lv_at hl 1 rfl) ?_
        refine lv_ldc2d (v := 4611686018427387904) hx hb C0.ow (C0.ts _ kw_X5_337) dX5_bitsOf_28 ?_
        refine lv_dmul hx hb dX5_bitsOf_31 (by unfold vf_n64; decide +kernel) ?_
        refine n_top (y := .double 4607782898750333474) (congrArg Value.double (by decide +kernel : FP.dmul 4603279299122962978 4611686018427387904 = (4607782898750333474 : UInt64))) ?_
        refine lv_dstore_n (lv' := [(2, .double (4607782898750333474)), (4, .int (nI (0))), (0, .double (4603279299122962978))]) hx hb dX5_bitsOf_32 rfl hl (by decide) rfl (fun ls hl => ?_)
        refine lv_iinc (v := nI 1) (lv' := [(4, .int (nI (1))), (2, .double (4607782898750333474)), (0, .double (4603279299122962978))]) hx hb dX5_bitsOf_33 hl (k := 1) rfl (by decide) (by decide) rfl (fun ls hl => ?_)
        refine lv_goto (tgt := 13) hx hb dX5_bitsOf_36 (by decide) ?_
        refine lv_dload_n hx hb dX5_bitsOf_13 rfl (lv_at hl 1 rfl) ?_
        refine lv_dconst1 hx hb dX5_bitsOf_14 ?_
        refine n_top (y := .double 4607182418800017408) (congrArg Value.double (by decide +kernel : FP.dconst1 = (4607182418800017408 : UInt64))) ?_
        refine lv_dcmp hx hb dX5_bitsOf_15 ?_
        refine n_top (y := .int (nI 1)) (congrArg Value.int (by decide +kernel : Op.cmpValue (FP.dcmp 4607782898750333474 4607182418800017408) .g = nI 1)) ?_
        refine n_if_ge (tgt := 39) hx hb dX5_bitsOf_16 (by decide) (by decide) ?_
        refine lv_sipush (v := nI 1023) hx hb dX5_bitsOf_39 (by decide) ?_
        refine lv_iload hx hb dX5_bitsOf_42 (lv_at hl 0 rfl) ?_
        refine n_isub hx hb (by omega) dX5_bitsOf_44 ?_
        refine n_i2l hx hb (by omega) dX5_bitsOf_45 ?_
        refine lv_lstore (lv' := [(5, .long (lN (1023 - 1))), (4, .int (nI (1))), (2, .double (4607782898750333474)), (0, .double (4603279299122962978))]) hx hb dX5_bitsOf_46 hl (by decide) rfl (fun ls hl => ?_)
        refine lv_dload_n hx hb dX5_bitsOf_48 rfl (lv_at hl 2 rfl) ?_
        refine lv_dconst1 hx hb dX5_bitsOf_49 ?_
        refine n_top (y := .double 4607182418800017408) (congrArg Value.double (by decide +kernel : FP.dconst1 = (4607182418800017408 : UInt64))) ?_
        refine lv_dsub hx hb dX5_bitsOf_50 (by unfold vf_n64; decide +kernel) ?_
        refine n_top (y := .double 4593971859893063952) (congrArg Value.double (by decide +kernel : FP.dsub 4607782898750333474 4607182418800017408 = (4593971859893063952 : UInt64))) ?_
        refine lv_ldc2d (v := 4841369599423283200) hx hb C0.ow (C0.ts _ kw_X5_339) dX5_bitsOf_51 ?_
        refine lv_dmul hx hb dX5_bitsOf_54 (by unfold vf_n64; decide +kernel) ?_
        refine n_top (y := .double 4828159040516329744) (congrArg Value.double (by decide +kernel : FP.dmul 4593971859893063952 4841369599423283200 = (4828159040516329744 : UInt64))) ?_
        refine lv_d2l hx hb dX5_bitsOf_55 ?_
        refine n_top (y := .long (lN 600479950316066)) (congrArg Value.long (by decide +kernel : FP.d2l 4828159040516329744 = lN 600479950316066)) ?_
        refine lv_lstore (lv' := [(7, .long (lN (600479950316066))), (5, .long (lN (1023 - 1))), (4, .int (nI (1))), (2, .double (4607782898750333474)), (0, .double (4603279299122962978))]) hx hb dX5_bitsOf_56 hl (by decide) rfl (fun ls hl => ?_)
        refine lv_lload hx hb dX5_bitsOf_58 (lv_at hl 1 rfl) ?_
        refine lv_bipush (v := nI 52) hx hb dX5_bitsOf_60 (by decide) ?_
        refine lv_lshl (v := lN 4602678819172646912) hx hb dX5_bitsOf_62 (by decide +kernel) ?_
        refine lv_lload hx hb dX5_bitsOf_63 (lv_at hl 0 rfl) ?_
        refine n_ladd hx hb dX5_bitsOf_65 ?_
        exact r_l C0 hr hlk hw ⟨(by decide +kernel), (fun q  => rfl)⟩ (Nat.le_refl _) (Nat.le_refl _) dX5_bitsOf_66 hQ
  · skip
    exact absurd c_3 (by decide)
set_option maxHeartbeats 4000000 in
set_option maxRecDepth 100000 in
theorem c_X5_bitsOf_4603429419110541995 (l : Launch) (G : Gl) (L : List Nat) (F : Nat → va_E) : CL l yX5_bitsOf cX5_bitsOf 9 (some .long) rm_X5_bitsOf G L F [.double (4603429419110541995)] (fun r F1 => r = (4603429419110541995 : UInt64).toInt64 ∧ ∀ q, F1 q = F q) := by
  refine CG_of (by decide) (Nat.le_of_ble_eq_true rfl) rfl ?_
  intro p e s m args below meth c Q C0 hr hlk hnm hQ hw ls hl
  have hx := C0.x
  have hb := C0.b
  refine lv_dload_n hx hb dX5_bitsOf_0 rfl (lv_at hl 0 rfl) ?_
  refine lv_dconst0 hx hb dX5_bitsOf_1 ?_
  refine n_top (y := .double 0) (congrArg Value.double (by decide +kernel : FP.dconst0 = (0 : UInt64))) ?_
  refine lv_dcmp hx hb dX5_bitsOf_2 ?_
  refine n_top (y := .int (nI 1)) (congrArg Value.int (by decide +kernel : Op.cmpValue (FP.dcmp 4603429419110541995 0) .g = nI 1)) ?_
  refine n_if_gt (tgt := 8) hx hb dX5_bitsOf_3 (by decide) (by decide) (fun c_3 => ?_) (fun c_3 => ?_)
  · skip
    refine lv_dload_n hx hb dX5_bitsOf_8 rfl (lv_at hl 0 rfl) ?_
    refine lv_dstore_n (lv' := [(2, .double (4603429419110541995)), (0, .double (4603429419110541995))]) hx hb dX5_bitsOf_9 rfl hl (by decide) rfl (fun ls hl => ?_)
    refine lv_iconst (v := nI 0) hx hb dX5_bitsOf_10 (by decide) ?_
    refine lv_istore (lv' := [(4, .int (nI (0))), (2, .double (4603429419110541995)), (0, .double (4603429419110541995))]) hx hb dX5_bitsOf_11 hl (by decide) rfl (fun ls hl => ?_)
    refine lv_dload_n hx hb dX5_bitsOf_13 rfl (lv_at hl 1 rfl) ?_
    refine lv_dconst1 hx hb dX5_bitsOf_14 ?_
    refine n_top (y := .double 4607182418800017408) (congrArg Value.double (by decide +kernel : FP.dconst1 = (4607182418800017408 : UInt64))) ?_
    refine lv_dcmp hx hb dX5_bitsOf_15 ?_
    refine n_top (y := .int ((-1))) (congrArg Value.int (by decide +kernel : Op.cmpValue (FP.dcmp 4603429419110541995 4607182418800017408) .g = (-1))) ?_
    refine lv_if_ge (tgt := 39) hx hb dX5_bitsOf_16 (by decide) (fun c_16 => ?_) (fun c_16 => ?_)
    · skip
      exact absurd c_16 (by decide)
    · skip
      refine lv_iload hx hb dX5_bitsOf_19 (lv_at hl 0 rfl) ?_
      refine lv_sipush (v := nI 1022) hx hb dX5_bitsOf_21 (by decide) ?_
      refine n_icmp_ge (tgt := 39) hx hb dX5_bitsOf_24 (by decide) (by decide) (by decide) (fun c_24 => ?_) (fun c_24 => ?_)
      · skip
        exact absurd c_24 (by omega)
      · skip
        refine lv_dload_n hx hb dX5_bitsOf_27 rfl (lv_at hl 1 rfl) ?_
        refine lv_ldc2d (v := 4611686018427387904) hx hb C0.ow (C0.ts _ kw_X5_337) dX5_bitsOf_28 ?_
        refine lv_dmul hx hb dX5_bitsOf_31 (by unfold vf_n64; decide +kernel) ?_
        refine n_top (y := .double 4607933018737912491) (congrArg Value.double (by decide +kernel : FP.dmul 4603429419110541995 4611686018427387904 = (4607933018737912491 : UInt64))) ?_
        refine lv_dstore_n (lv' := [(2, .double (4607933018737912491)), (4, .int (nI (0))), (0, .double (4603429419110541995))]) hx hb dX5_bitsOf_32 rfl hl (by decide) rfl (fun ls hl => ?_)
        refine lv_iinc (v := nI 1) (lv' := [(4, .int (nI (1))), (2, .double (4607933018737912491)), (0, .double (4603429419110541995))]) hx hb dX5_bitsOf_33 hl (k := 1) rfl (by decide) (by decide) rfl (fun ls hl => ?_)
        refine lv_goto (tgt := 13) hx hb dX5_bitsOf_36 (by decide) ?_
        refine lv_dload_n hx hb dX5_bitsOf_13 rfl (lv_at hl 1 rfl) ?_
        refine lv_dconst1 hx hb dX5_bitsOf_14 ?_
        refine n_top (y := .double 4607182418800017408) (congrArg Value.double (by decide +kernel : FP.dconst1 = (4607182418800017408 : UInt64))) ?_
        refine lv_dcmp hx hb dX5_bitsOf_15 ?_
        refine n_top (y := .int (nI 1)) (congrArg Value.int (by decide +kernel : Op.cmpValue (FP.dcmp 4607933018737912491 4607182418800017408) .g = nI 1)) ?_
        refine n_if_ge (tgt := 39) hx hb dX5_bitsOf_16 (by decide) (by decide) ?_
        refine lv_sipush (v := nI 1023) hx hb dX5_bitsOf_39 (by decide) ?_
        refine lv_iload hx hb dX5_bitsOf_42 (lv_at hl 0 rfl) ?_
        refine n_isub hx hb (by omega) dX5_bitsOf_44 ?_
        refine n_i2l hx hb (by omega) dX5_bitsOf_45 ?_
        refine lv_lstore (lv' := [(5, .long (lN (1023 - 1))), (4, .int (nI (1))), (2, .double (4607933018737912491)), (0, .double (4603429419110541995))]) hx hb dX5_bitsOf_46 hl (by decide) rfl (fun ls hl => ?_)
        refine lv_dload_n hx hb dX5_bitsOf_48 rfl (lv_at hl 2 rfl) ?_
        refine lv_dconst1 hx hb dX5_bitsOf_49 ?_
        refine n_top (y := .double 4607182418800017408) (congrArg Value.double (by decide +kernel : FP.dconst1 = (4607182418800017408 : UInt64))) ?_
        refine lv_dsub hx hb dX5_bitsOf_50 (by unfold vf_n64; decide +kernel) ?_
        refine n_top (y := .double 4595172819793696088) (congrArg Value.double (by decide +kernel : FP.dsub 4607933018737912491 4607182418800017408 = (4595172819793696088 : UInt64))) ?_
        refine lv_ldc2d (v := 4841369599423283200) hx hb C0.ow (C0.ts _ kw_X5_339) dX5_bitsOf_51 ?_
        refine lv_dmul hx hb dX5_bitsOf_54 (by unfold vf_n64; decide +kernel) ?_
        refine n_top (y := .double 4829360000416961880) (congrArg Value.double (by decide +kernel : FP.dmul 4595172819793696088 4841369599423283200 = (4829360000416961880 : UInt64))) ?_
        refine lv_d2l hx hb dX5_bitsOf_55 ?_
        refine n_top (y := .long (lN 750599937895083)) (congrArg Value.long (by decide +kernel : FP.d2l 4829360000416961880 = lN 750599937895083)) ?_
        refine lv_lstore (lv' := [(7, .long (lN (750599937895083))), (5, .long (lN (1023 - 1))), (4, .int (nI (1))), (2, .double (4607933018737912491)), (0, .double (4603429419110541995))]) hx hb dX5_bitsOf_56 hl (by decide) rfl (fun ls hl => ?_)
        refine lv_lload hx hb dX5_bitsOf_58 (lv_at hl 1 rfl) ?_
        refine lv_bipush (v := nI 52) hx hb dX5_bitsOf_60 (by decide) ?_
        refine lv_lshl (v := lN 4602678819172646912) hx hb dX5_bitsOf_62 (by decide +kernel) ?_
        refine lv_lload hx hb dX5_bitsOf_63 (lv_at hl 0 rfl) ?_
        refine n_ladd hx hb dX5_bitsOf_65 ?_
        exact r_l C0 hr hlk hw ⟨(by decide +kernel), (fun q  => rfl)⟩ (Nat.le_refl _) (Nat.le_refl _) dX5_bitsOf_66 hQ
  · skip
    exact absurd c_3 (by decide)
set_option maxHeartbeats 4000000 in
set_option maxRecDepth 100000 in
theorem c_X5_bitsOf_4603579539098121011 (l : Launch) (G : Gl) (L : List Nat) (F : Nat → va_E) : CL l yX5_bitsOf cX5_bitsOf 9 (some .long) rm_X5_bitsOf G L F [.double (4603579539098121011)] (fun r F1 => r = (4603579539098121011 : UInt64).toInt64 ∧ ∀ q, F1 q = F q) := by
  refine CG_of (by decide) (Nat.le_of_ble_eq_true rfl) rfl ?_
  intro p e s m args below meth c Q C0 hr hlk hnm hQ hw ls hl
  have hx := C0.x
  have hb := C0.b
  refine lv_dload_n hx hb dX5_bitsOf_0 rfl (lv_at hl 0 rfl) ?_
  refine lv_dconst0 hx hb dX5_bitsOf_1 ?_
  refine n_top (y := .double 0) (congrArg Value.double (by decide +kernel : FP.dconst0 = (0 : UInt64))) ?_
  refine lv_dcmp hx hb dX5_bitsOf_2 ?_
  refine n_top (y := .int (nI 1)) (congrArg Value.int (by decide +kernel : Op.cmpValue (FP.dcmp 4603579539098121011 0) .g = nI 1)) ?_
  refine n_if_gt (tgt := 8) hx hb dX5_bitsOf_3 (by decide) (by decide) (fun c_3 => ?_) (fun c_3 => ?_)
  · skip
    refine lv_dload_n hx hb dX5_bitsOf_8 rfl (lv_at hl 0 rfl) ?_
    refine lv_dstore_n (lv' := [(2, .double (4603579539098121011)), (0, .double (4603579539098121011))]) hx hb dX5_bitsOf_9 rfl hl (by decide) rfl (fun ls hl => ?_)
    refine lv_iconst (v := nI 0) hx hb dX5_bitsOf_10 (by decide) ?_
    refine lv_istore (lv' := [(4, .int (nI (0))), (2, .double (4603579539098121011)), (0, .double (4603579539098121011))]) hx hb dX5_bitsOf_11 hl (by decide) rfl (fun ls hl => ?_)
    refine lv_dload_n hx hb dX5_bitsOf_13 rfl (lv_at hl 1 rfl) ?_
    refine lv_dconst1 hx hb dX5_bitsOf_14 ?_
    refine n_top (y := .double 4607182418800017408) (congrArg Value.double (by decide +kernel : FP.dconst1 = (4607182418800017408 : UInt64))) ?_
    refine lv_dcmp hx hb dX5_bitsOf_15 ?_
    refine n_top (y := .int ((-1))) (congrArg Value.int (by decide +kernel : Op.cmpValue (FP.dcmp 4603579539098121011 4607182418800017408) .g = (-1))) ?_
    refine lv_if_ge (tgt := 39) hx hb dX5_bitsOf_16 (by decide) (fun c_16 => ?_) (fun c_16 => ?_)
    · skip
      exact absurd c_16 (by decide)
    · skip
      refine lv_iload hx hb dX5_bitsOf_19 (lv_at hl 0 rfl) ?_
      refine lv_sipush (v := nI 1022) hx hb dX5_bitsOf_21 (by decide) ?_
      refine n_icmp_ge (tgt := 39) hx hb dX5_bitsOf_24 (by decide) (by decide) (by decide) (fun c_24 => ?_) (fun c_24 => ?_)
      · skip
        exact absurd c_24 (by omega)
      · skip
        refine lv_dload_n hx hb dX5_bitsOf_27 rfl (lv_at hl 1 rfl) ?_
        refine lv_ldc2d (v := 4611686018427387904) hx hb C0.ow (C0.ts _ kw_X5_337) dX5_bitsOf_28 ?_
        refine lv_dmul hx hb dX5_bitsOf_31 (by unfold vf_n64; decide +kernel) ?_
        refine n_top (y := .double 4608083138725491507) (congrArg Value.double (by decide +kernel : FP.dmul 4603579539098121011 4611686018427387904 = (4608083138725491507 : UInt64))) ?_
        refine lv_dstore_n (lv' := [(2, .double (4608083138725491507)), (4, .int (nI (0))), (0, .double (4603579539098121011))]) hx hb dX5_bitsOf_32 rfl hl (by decide) rfl (fun ls hl => ?_)
        refine lv_iinc (v := nI 1) (lv' := [(4, .int (nI (1))), (2, .double (4608083138725491507)), (0, .double (4603579539098121011))]) hx hb dX5_bitsOf_33 hl (k := 1) rfl (by decide) (by decide) rfl (fun ls hl => ?_)
        refine lv_goto (tgt := 13) hx hb dX5_bitsOf_36 (by decide) ?_
        refine lv_dload_n hx hb dX5_bitsOf_13 rfl (lv_at hl 1 rfl) ?_
        refine lv_dconst1 hx hb dX5_bitsOf_14 ?_
        refine n_top (y := .double 4607182418800017408) (congrArg Value.double (by decide +kernel : FP.dconst1 = (4607182418800017408 : UInt64))) ?_
        refine lv_dcmp hx hb dX5_bitsOf_15 ?_
        refine n_top (y := .int (nI 1)) (congrArg Value.int (by decide +kernel : Op.cmpValue (FP.dcmp 4608083138725491507 4607182418800017408) .g = nI 1)) ?_
        refine n_if_ge (tgt := 39) hx hb dX5_bitsOf_16 (by decide) (by decide) ?_
        refine lv_sipush (v := nI 1023) hx hb dX5_bitsOf_39 (by decide) ?_
        refine lv_iload hx hb dX5_bitsOf_42 (lv_at hl 0 rfl) ?_
        refine n_isub hx hb (by omega) dX5_bitsOf_44 ?_
        refine n_i2l hx hb (by omega) dX5_bitsOf_45 ?_
        refine lv_lstore (lv' := [(5, .long (lN (1023 - 1))), (4, .int (nI (1))), (2, .double (4608083138725491507)), (0, .double (4603579539098121011))]) hx hb dX5_bitsOf_46 hl (by decide) rfl (fun ls hl => ?_)
        refine lv_dload_n hx hb dX5_bitsOf_48 rfl (lv_at hl 2 rfl) ?_
        refine lv_dconst1 hx hb dX5_bitsOf_49 ?_
        refine n_top (y := .double 4607182418800017408) (congrArg Value.double (by decide +kernel : FP.dconst1 = (4607182418800017408 : UInt64))) ?_
        refine lv_dsub hx hb dX5_bitsOf_50 (by unfold vf_n64; decide +kernel) ?_
        refine n_top (y := .double 4596373779694328216) (congrArg Value.double (by decide +kernel : FP.dsub 4608083138725491507 4607182418800017408 = (4596373779694328216 : UInt64))) ?_
        refine lv_ldc2d (v := 4841369599423283200) hx hb C0.ow (C0.ts _ kw_X5_339) dX5_bitsOf_51 ?_
        refine lv_dmul hx hb dX5_bitsOf_54 (by unfold vf_n64; decide +kernel) ?_
        refine n_top (y := .double 4830560960317594008) (congrArg Value.double (by decide +kernel : FP.dmul 4596373779694328216 4841369599423283200 = (4830560960317594008 : UInt64))) ?_
        refine lv_d2l hx hb dX5_bitsOf_55 ?_
        refine n_top (y := .long (lN 900719925474099)) (congrArg Value.long (by decide +kernel : FP.d2l 4830560960317594008 = lN 900719925474099)) ?_
        refine lv_lstore (lv' := [(7, .long (lN (900719925474099))), (5, .long (lN (1023 - 1))), (4, .int (nI (1))), (2, .double (4608083138725491507)), (0, .double (4603579539098121011))]) hx hb dX5_bitsOf_56 hl (by decide) rfl (fun ls hl => ?_)
        refine lv_lload hx hb dX5_bitsOf_58 (lv_at hl 1 rfl) ?_
        refine lv_bipush (v := nI 52) hx hb dX5_bitsOf_60 (by decide) ?_
        refine lv_lshl (v := lN 4602678819172646912) hx hb dX5_bitsOf_62 (by decide +kernel) ?_
        refine lv_lload hx hb dX5_bitsOf_63 (lv_at hl 0 rfl) ?_
        refine n_ladd hx hb dX5_bitsOf_65 ?_
        exact r_l C0 hr hlk hw ⟨(by decide +kernel), (fun q  => rfl)⟩ (Nat.le_refl _) (Nat.le_refl _) dX5_bitsOf_66 hQ
  · skip
    exact absurd c_3 (by decide)
set_option maxHeartbeats 4000000 in
set_option maxRecDepth 100000 in
theorem c_X5_bitsOf_4603679619089840356 (l : Launch) (G : Gl) (L : List Nat) (F : Nat → va_E) : CL l yX5_bitsOf cX5_bitsOf 9 (some .long) rm_X5_bitsOf G L F [.double (4603679619089840356)] (fun r F1 => r = (4603679619089840356 : UInt64).toInt64 ∧ ∀ q, F1 q = F q) := by
  refine CG_of (by decide) (Nat.le_of_ble_eq_true rfl) rfl ?_
  intro p e s m args below meth c Q C0 hr hlk hnm hQ hw ls hl
  have hx := C0.x
  have hb := C0.b
  refine lv_dload_n hx hb dX5_bitsOf_0 rfl (lv_at hl 0 rfl) ?_
  refine lv_dconst0 hx hb dX5_bitsOf_1 ?_
  refine n_top (y := .double 0) (congrArg Value.double (by decide +kernel : FP.dconst0 = (0 : UInt64))) ?_
  refine lv_dcmp hx hb dX5_bitsOf_2 ?_
  refine n_top (y := .int (nI 1)) (congrArg Value.int (by decide +kernel : Op.cmpValue (FP.dcmp 4603679619089840356 0) .g = nI 1)) ?_
  refine n_if_gt (tgt := 8) hx hb dX5_bitsOf_3 (by decide) (by decide) (fun c_3 => ?_) (fun c_3 => ?_)
  · skip
    refine lv_dload_n hx hb dX5_bitsOf_8 rfl (lv_at hl 0 rfl) ?_
    refine lv_dstore_n (lv' := [(2, .double (4603679619089840356)), (0, .double (4603679619089840356))]) hx hb dX5_bitsOf_9 rfl hl (by decide) rfl (fun ls hl => ?_)
    refine lv_iconst (v := nI 0) hx hb dX5_bitsOf_10 (by decide) ?_
    refine lv_istore (lv' := [(4, .int (nI (0))), (2, .double (4603679619089840356)), (0, .double (4603679619089840356))]) hx hb dX5_bitsOf_11 hl (by decide) rfl (fun ls hl => ?_)
    refine lv_dload_n hx hb dX5_bitsOf_13 rfl (lv_at hl 1 rfl) ?_
    refine lv_dconst1 hx hb dX5_bitsOf_14 ?_
    refine n_top (y := .double 4607182418800017408) (congrArg Value.double (by decide +kernel : FP.dconst1 = (4607182418800017408 : UInt64))) ?_
    refine lv_dcmp hx hb dX5_bitsOf_15 ?_
    refine n_top (y := .int ((-1))) (congrArg Value.int (by decide +kernel : Op.cmpValue (FP.dcmp 4603679619089840356 4607182418800017408) .g = (-1))) ?_
    refine lv_if_ge (tgt := 39) hx hb dX5_bitsOf_16 (by decide) (fun c_16 => ?_) (fun c_16 => ?_)
    · skip
      exact absurd c_16 (by decide)
    · skip
      refine lv_iload hx hb dX5_bitsOf_19 (lv_at hl 0 rfl) ?_
      refine lv_sipush (v := nI 1022) hx hb dX5_bitsOf_21 (by decide) ?_
      refine n_icmp_ge (tgt := 39) hx hb dX5_bitsOf_24 (by decide) (by decide) (by decide) (fun c_24 => ?_) (fun c_24 => ?_)
      · skip
        exact absurd c_24 (by omega)
      · skip
        refine lv_dload_n hx hb dX5_bitsOf_27 rfl (lv_at hl 1 rfl) ?_
        refine lv_ldc2d (v := 4611686018427387904) hx hb C0.ow (C0.ts _ kw_X5_337) dX5_bitsOf_28 ?_
        refine lv_dmul hx hb dX5_bitsOf_31 (by unfold vf_n64; decide +kernel) ?_
        refine n_top (y := .double 4608183218717210852) (congrArg Value.double (by decide +kernel : FP.dmul 4603679619089840356 4611686018427387904 = (4608183218717210852 : UInt64))) ?_
        refine lv_dstore_n (lv' := [(2, .double (4608183218717210852)), (4, .int (nI (0))), (0, .double (4603679619089840356))]) hx hb dX5_bitsOf_32 rfl hl (by decide) rfl (fun ls hl => ?_)
        refine lv_iinc (v := nI 1) (lv' := [(4, .int (nI (1))), (2, .double (4608183218717210852)), (0, .double (4603679619089840356))]) hx hb dX5_bitsOf_33 hl (k := 1) rfl (by decide) (by decide) rfl (fun ls hl => ?_)
        refine lv_goto (tgt := 13) hx hb dX5_bitsOf_36 (by decide) ?_
        refine lv_dload_n hx hb dX5_bitsOf_13 rfl (lv_at hl 1 rfl) ?_
        refine lv_dconst1 hx hb dX5_bitsOf_14 ?_
        refine n_top (y := .double 4607182418800017408) (congrArg Value.double (by decide +kernel : FP.dconst1 = (4607182418800017408 : UInt64))) ?_
        refine lv_dcmp hx hb dX5_bitsOf_15 ?_
        refine n_top (y := .int (nI 1)) (congrArg Value.int (by decide +kernel : Op.cmpValue (FP.dcmp 4608183218717210852 4607182418800017408) .g = nI 1)) ?_
        refine n_if_ge (tgt := 39) hx hb dX5_bitsOf_16 (by decide) (by decide) ?_
        refine lv_sipush (v := nI 1023) hx hb dX5_bitsOf_39 (by decide) ?_
        refine lv_iload hx hb dX5_bitsOf_42 (lv_at hl 0 rfl) ?_
        refine n_isub hx hb (by omega) dX5_bitsOf_44 ?_
        refine n_i2l hx hb (by omega) dX5_bitsOf_45 ?_
        refine lv_lstore (lv' := [(5, .long (lN (1023 - 1))), (4, .int (nI (1))), (2, .double (4608183218717210852)), (0, .double (4603679619089840356))]) hx hb dX5_bitsOf_46 hl (by decide) rfl (fun ls hl => ?_)
        refine lv_dload_n hx hb dX5_bitsOf_48 rfl (lv_at hl 2 rfl) ?_
        refine lv_dconst1 hx hb dX5_bitsOf_49 ?_
        refine n_top (y := .double 4607182418800017408) (congrArg Value.double (by decide +kernel : FP.dconst1 = (4607182418800017408 : UInt64))) ?_
        refine lv_dsub hx hb dX5_bitsOf_50 (by unfold vf_n64; decide +kernel) ?_
        refine n_top (y := .double 4597174419628082976) (congrArg Value.double (by decide +kernel : FP.dsub 4608183218717210852 4607182418800017408 = (4597174419628082976 : UInt64))) ?_
        refine lv_ldc2d (v := 4841369599423283200) hx hb C0.ow (C0.ts _ kw_X5_339) dX5_bitsOf_51 ?_
        refine lv_dmul hx hb dX5_bitsOf_54 (by unfold vf_n64; decide +kernel) ?_
        refine n_top (y := .double 4831361600251348768) (congrArg Value.double (by decide +kernel : FP.dmul 4597174419628082976 4841369599423283200 = (4831361600251348768 : UInt64))) ?_
        refine lv_d2l hx hb dX5_bitsOf_55 ?_
        refine n_top (y := .long (lN 1000799917193444)) (congrArg Value.long (by decide +kernel : FP.d2l 4831361600251348768 = lN 1000799917193444)) ?_
        refine lv_lstore (lv' := [(7, .long (lN (1000799917193444))), (5, .long (lN (1023 - 1))), (4, .int (nI (1))), (2, .double (4608183218717210852)), (0, .double (4603679619089840356))]) hx hb dX5_bitsOf_56 hl (by decide) rfl (fun ls hl => ?_)
        refine lv_lload hx hb dX5_bitsOf_58 (lv_at hl 1 rfl) ?_
        refine lv_bipush (v := nI 52) hx hb dX5_bitsOf_60 (by decide) ?_
        refine lv_lshl (v := lN 4602678819172646912) hx hb dX5_bitsOf_62 (by decide +kernel) ?_
        refine lv_lload hx hb dX5_bitsOf_63 (lv_at hl 0 rfl) ?_
        refine n_ladd hx hb dX5_bitsOf_65 ?_
        exact r_l C0 hr hlk hw ⟨(by decide +kernel), (fun q  => rfl)⟩ (Nat.le_refl _) (Nat.le_refl _) dX5_bitsOf_66 hQ
  · skip
    exact absurd c_3 (by decide)
set_option maxHeartbeats 4000000 in
set_option maxRecDepth 100000 in
theorem c_X5_bitsOf_4603804719079489536 (l : Launch) (G : Gl) (L : List Nat) (F : Nat → va_E) : CL l yX5_bitsOf cX5_bitsOf 9 (some .long) rm_X5_bitsOf G L F [.double (4603804719079489536)] (fun r F1 => r = (4603804719079489536 : UInt64).toInt64 ∧ ∀ q, F1 q = F q) := by
  refine CG_of (by decide) (Nat.le_of_ble_eq_true rfl) rfl ?_
  intro p e s m args below meth c Q C0 hr hlk hnm hQ hw ls hl
  have hx := C0.x
  have hb := C0.b
  refine lv_dload_n hx hb dX5_bitsOf_0 rfl (lv_at hl 0 rfl) ?_
  refine lv_dconst0 hx hb dX5_bitsOf_1 ?_
  refine n_top (y := .double 0) (congrArg Value.double (by decide +kernel : FP.dconst0 = (0 : UInt64))) ?_
  refine lv_dcmp hx hb dX5_bitsOf_2 ?_
  refine n_top (y := .int (nI 1)) (congrArg Value.int (by decide +kernel : Op.cmpValue (FP.dcmp 4603804719079489536 0) .g = nI 1)) ?_
  refine n_if_gt (tgt := 8) hx hb dX5_bitsOf_3 (by decide) (by decide) (fun c_3 => ?_) (fun c_3 => ?_)
  · skip
    refine lv_dload_n hx hb dX5_bitsOf_8 rfl (lv_at hl 0 rfl) ?_
    refine lv_dstore_n (lv' := [(2, .double (4603804719079489536)), (0, .double (4603804719079489536))]) hx hb dX5_bitsOf_9 rfl hl (by decide) rfl (fun ls hl => ?_)
    refine lv_iconst (v := nI 0) hx hb dX5_bitsOf_10 (by decide) ?_
    refine lv_istore (lv' := [(4, .int (nI (0))), (2, .double (4603804719079489536)), (0, .double (4603804719079489536))]) hx hb dX5_bitsOf_11 hl (by decide) rfl (fun ls hl => ?_)
    refine lv_dload_n hx hb dX5_bitsOf_13 rfl (lv_at hl 1 rfl) ?_
    refine lv_dconst1 hx hb dX5_bitsOf_14 ?_
    refine n_top (y := .double 4607182418800017408) (congrArg Value.double (by decide +kernel : FP.dconst1 = (4607182418800017408 : UInt64))) ?_
    refine lv_dcmp hx hb dX5_bitsOf_15 ?_
    refine n_top (y := .int ((-1))) (congrArg Value.int (by decide +kernel : Op.cmpValue (FP.dcmp 4603804719079489536 4607182418800017408) .g = (-1))) ?_
    refine lv_if_ge (tgt := 39) hx hb dX5_bitsOf_16 (by decide) (fun c_16 => ?_) (fun c_16 => ?_)
    · skip
      exact absurd c_16 (by decide)
    · skip
      refine lv_iload hx hb dX5_bitsOf_19 (lv_at hl 0 rfl) ?_
      refine lv_sipush (v := nI 1022) hx hb dX5_bitsOf_21 (by decide) ?_
      refine n_icmp_ge (tgt := 39) hx hb dX5_bitsOf_24 (by decide) (by decide) (by decide) (fun c_24 => ?_) (fun c_24 => ?_)
      · skip
        exact absurd c_24 (by omega)
      · skip
        refine lv_dload_n hx hb dX5_bitsOf_27 rfl (lv_at hl 1 rfl) ?_
        refine lv_ldc2d (v := 4611686018427387904) hx hb C0.ow (C0.ts _ kw_X5_337) dX5_bitsOf_28 ?_
        refine lv_dmul hx hb dX5_bitsOf_31 (by unfold vf_n64; decide +kernel) ?_
        refine n_top (y := .double 4608308318706860032) (congrArg Value.double (by decide +kernel : FP.dmul 4603804719079489536 4611686018427387904 = (4608308318706860032 : UInt64))) ?_
        refine lv_dstore_n (lv' := [(2, .double (4608308318706860032)), (4, .int (nI (0))), (0, .double (4603804719079489536))]) hx hb dX5_bitsOf_32 rfl hl (by decide) rfl (fun ls hl => ?_)
        refine lv_iinc (v := nI 1) (lv' := [(4, .int (nI (1))), (2, .double (4608308318706860032)), (0, .double (4603804719079489536))]) hx hb dX5_bitsOf_33 hl (k := 1) rfl (by decide) (by decide) rfl (fun ls hl => ?_)
        refine lv_goto (tgt := 13) hx hb dX5_bitsOf_36 (by decide) ?_
        refine lv_dload_n hx hb dX5_bitsOf_13 rfl (lv_at hl 1 rfl) ?_
        refine lv_dconst1 hx hb dX5_bitsOf_14 ?_
        refine n_top (y := .double 4607182418800017408) (congrArg Value.double (by decide +kernel : FP.dconst1 = (4607182418800017408 : UInt64))) ?_
        refine lv_dcmp hx hb dX5_bitsOf_15 ?_
        refine n_top (y := .int (nI 1)) (congrArg Value.int (by decide +kernel : Op.cmpValue (FP.dcmp 4608308318706860032 4607182418800017408) .g = nI 1)) ?_
        refine n_if_ge (tgt := 39) hx hb dX5_bitsOf_16 (by decide) (by decide) ?_
        refine lv_sipush (v := nI 1023) hx hb dX5_bitsOf_39 (by decide) ?_
        refine lv_iload hx hb dX5_bitsOf_42 (lv_at hl 0 rfl) ?_
        refine n_isub hx hb (by omega) dX5_bitsOf_44 ?_
        refine n_i2l hx hb (by omega) dX5_bitsOf_45 ?_
        refine lv_lstore (lv' := [(5, .long (lN (1023 - 1))), (4, .int (nI (1))), (2, .double (4608308318706860032)), (0, .double (4603804719079489536))]) hx hb dX5_bitsOf_46 hl (by decide) rfl (fun ls hl => ?_)
        refine lv_dload_n hx hb dX5_bitsOf_48 rfl (lv_at hl 2 rfl) ?_
        refine lv_dconst1 hx hb dX5_bitsOf_49 ?_
        refine n_top (y := .double 4607182418800017408) (congrArg Value.double (by decide +kernel : FP.dconst1 = (4607182418800017408 : UInt64))) ?_
        refine lv_dsub hx hb dX5_bitsOf_50 (by unfold vf_n64; decide +kernel) ?_
        refine n_top (y := .double 4598175219545276416) (congrArg Value.double (by decide +kernel : FP.dsub 4608308318706860032 4607182418800017408 = (4598175219545276416 : UInt64))) ?_
        refine lv_ldc2d (v := 4841369599423283200) hx hb C0.ow (C0.ts _ kw_X5_339) dX5_bitsOf_51 ?_
        refine lv_dmul hx hb dX5_bitsOf_54 (by unfold vf_n64; decide +kernel) ?_
        refine n_top (y := .double 4832362400168542208) (congrArg Value.double (by decide +kernel : FP.dmul 4598175219545276416 4841369599423283200 = (4832362400168542208 : UInt64))) ?_
        refine lv_d2l hx hb dX5_bitsOf_55 ?_
        refine n_top (y := .long (lN 1125899906842624)) (congrArg Value.long (by decide +kernel : FP.d2l 4832362400168542208 = lN 1125899906842624)) ?_
        refine lv_lstore (lv' := [(7, .long (lN (1125899906842624))), (5, .long (lN (1023 - 1))), (4, .int (nI (1))), (2, .double (4608308318706860032)), (0, .double (4603804719079489536))]) hx hb dX5_bitsOf_56 hl (by decide) rfl (fun ls hl => ?_)
        refine lv_lload hx hb dX5_bitsOf_58 (lv_at hl 1 rfl) ?_
        refine lv_bipush (v := nI 52) hx hb dX5_bitsOf_60 (by decide) ?_
        refine lv_lshl (v := lN 4602678819172646912) hx hb dX5_bitsOf_62 (by decide +kernel) ?_
        refine lv_lload hx hb dX5_bitsOf_63 (lv_at hl 0 rfl) ?_
        refine n_ladd hx hb dX5_bitsOf_65 ?_
        exact r_l C0 hr hlk hw ⟨(by decide +kernel), (fun q  => rfl)⟩ (Nat.le_refl _) (Nat.le_refl _) dX5_bitsOf_66 hQ
  · skip
    exact absurd c_3 (by decide)
set_option maxHeartbeats 4000000 in
set_option maxRecDepth 100000 in
theorem c_X5_bitsOf_4603879779073279044 (l : Launch) (G : Gl) (L : List Nat) (F : Nat → va_E) : CL l yX5_bitsOf cX5_bitsOf 9 (some .long) rm_X5_bitsOf G L F [.double (4603879779073279044)] (fun r F1 => r = (4603879779073279044 : UInt64).toInt64 ∧ ∀ q, F1 q = F q) := by
  refine CG_of (by decide) (Nat.le_of_ble_eq_true rfl) rfl ?_
  intro p e s m args below meth c Q C0 hr hlk hnm hQ hw ls hl
  have hx := C0.x
  have hb := C0.b
  refine lv_dload_n hx hb dX5_bitsOf_0 rfl (lv_at hl 0 rfl) ?_
  refine lv_dconst0 hx hb dX5_bitsOf_1 ?_
  refine n_top (y := .double 0) (congrArg Value.double (by decide +kernel : FP.dconst0 = (0 : UInt64))) ?_
  refine lv_dcmp hx hb dX5_bitsOf_2 ?_
  refine n_top (y := .int (nI 1)) (congrArg Value.int (by decide +kernel : Op.cmpValue (FP.dcmp 4603879779073279044 0) .g = nI 1)) ?_
  refine n_if_gt (tgt := 8) hx hb dX5_bitsOf_3 (by decide) (by decide) (fun c_3 => ?_) (fun c_3 => ?_)
  · skip
    refine lv_dload_n hx hb dX5_bitsOf_8 rfl (lv_at hl 0 rfl) ?_
    refine lv_dstore_n (lv' := [(2, .double (4603879779073279044)), (0, .double (4603879779073279044))]) hx hb dX5_bitsOf_9 rfl hl (by decide) rfl (fun ls hl => ?_)
    refine lv_iconst (v := nI 0) hx hb dX5_bitsOf_10 (by decide) ?_
    refine lv_istore (lv' := [(4, .int (nI (0))), (2, .double (4603879779073279044)), (0, .double (4603879779073279044))]) hx hb dX5_bitsOf_11 hl (by decide) rfl (fun ls hl => ?_)
    refine lv_dload_n hx hb dX5_bitsOf_13 rfl (lv_at hl 1 rfl) ?_
    refine lv_dconst1 hx hb dX5_bitsOf_14 ?_
    refine n_top (y := .double 4607182418800017408) (congrArg Value.double (by decide +kernel : FP.dconst1 = (4607182418800017408 : UInt64))) ?_
    refine lv_dcmp hx hb dX5_bitsOf_15 ?_
    refine n_top (y := .int ((-1))) (congrArg Value.int (by decide +kernel : Op.cmpValue (FP.dcmp 4603879779073279044 4607182418800017408) .g = (-1))) ?_
    refine lv_if_ge (tgt := 39) hx hb dX5_bitsOf_16 (by decide) (fun c_16 => ?_) (fun c_16 => ?_)
    · skip
      exact absurd c_16 (by decide)
    · skip
      refine lv_iload hx hb dX5_bitsOf_19 (lv_at hl 0 rfl) ?_
      refine lv_sipush (v := nI 1022) hx hb dX5_bitsOf_21 (by decide) ?_
      refine n_icmp_ge (tgt := 39) hx hb dX5_bitsOf_24 (by decide) (by decide) (by decide) (fun c_24 => ?_) (fun c_24 => ?_)
      · skip
        exact absurd c_24 (by omega)
      · skip
        refine lv_dload_n hx hb dX5_bitsOf_27 rfl (lv_at hl 1 rfl) ?_
        refine lv_ldc2d (v := 4611686018427387904) hx hb C0.ow (C0.ts _ kw_X5_337) dX5_bitsOf_28 ?_
        refine lv_dmul hx hb dX5_bitsOf_31 (by unfold vf_n64; decide +kernel) ?_
        refine n_top (y := .double 4608383378700649540) (congrArg Value.double (by decide +kernel : FP.dmul 4603879779073279044 4611686018427387904 = (4608383378700649540 : UInt64))) ?_
        refine lv_dstore_n (lv' := [(2, .double (4608383378700649540)), (4, .int (nI (0))), (0, .double (4603879779073279044))]) hx hb dX5_bitsOf_32 rfl hl (by decide) rfl (fun ls hl => ?_)
        refine lv_iinc (v := nI 1) (lv' := [(4, .int (nI (1))), (2, .double (4608383378700649540)), (0, .double (4603879779073279044))]) hx hb dX5_bitsOf_33 hl (k := 1) rfl (by decide) (by decide) rfl (fun ls hl => ?_)
        refine lv_goto (tgt := 13) hx hb dX5_bitsOf_36 (by decide) ?_
        refine lv_dload_n hx hb dX5_bitsOf_13 rfl (lv_at hl 1 rfl) ?_
        refine lv_dconst1 hx hb dX5_bitsOf_14 ?_
        refine n_top (y := .double 4607182418800017408) (congrArg Value.double (by decide +kernel : FP.dconst1 = (4607182418800017408 : UInt64))) ?_
        refine lv_dcmp hx hb dX5_bitsOf_15 ?_
        refine n_top (y := .int (nI 1)) (congrArg Value.int (by decide +kernel : Op.cmpValue (FP.dcmp 4608383378700649540 4607182418800017408) .g = nI 1)) ?_
        refine n_if_ge (tgt := 39) hx hb dX5_bitsOf_16 (by decide) (by decide) ?_
        refine lv_sipush (v := nI 1023) hx hb dX5_bitsOf_39 (by decide) ?_
        refine lv_iload hx hb dX5_bitsOf_42 (lv_at hl 0 rfl) ?_
        refine n_isub hx hb (by omega) dX5_bitsOf_44 ?_
        refine n_i2l hx hb (by omega) dX5_bitsOf_45 ?_
        refine lv_lstore (lv' := [(5, .long (lN (1023 - 1))), (4, .int (nI (1))), (2, .double (4608383378700649540)), (0, .double (4603879779073279044))]) hx hb dX5_bitsOf_46 hl (by decide) rfl (fun ls hl => ?_)
        refine lv_dload_n hx hb dX5_bitsOf_48 rfl (lv_at hl 2 rfl) ?_
        refine lv_dconst1 hx hb dX5_bitsOf_49 ?_
        refine n_top (y := .double 4607182418800017408) (congrArg Value.double (by decide +kernel : FP.dconst1 = (4607182418800017408 : UInt64))) ?_
        refine lv_dsub hx hb dX5_bitsOf_50 (by unfold vf_n64; decide +kernel) ?_
        refine n_top (y := .double 4598475459520434448) (congrArg Value.double (by decide +kernel : FP.dsub 4608383378700649540 4607182418800017408 = (4598475459520434448 : UInt64))) ?_
        refine lv_ldc2d (v := 4841369599423283200) hx hb C0.ow (C0.ts _ kw_X5_339) dX5_bitsOf_51 ?_
        refine lv_dmul hx hb dX5_bitsOf_54 (by unfold vf_n64; decide +kernel) ?_
        refine n_top (y := .double 4832662640143700240) (congrArg Value.double (by decide +kernel : FP.dmul 4598475459520434448 4841369599423283200 = (4832662640143700240 : UInt64))) ?_
        refine lv_d2l hx hb dX5_bitsOf_55 ?_
        refine n_top (y := .long (lN 1200959900632132)) (congrArg Value.long (by decide +kernel : FP.d2l 4832662640143700240 = lN 1200959900632132)) ?_
        refine lv_lstore (lv' := [(7, .long (lN (1200959900632132))), (5, .long (lN (1023 - 1))), (4, .int (nI (1))), (2, .double (4608383378700649540)), (0, .double (4603879779073279044))]) hx hb dX5_bitsOf_56 hl (by decide) rfl (fun ls hl => ?_)
        refine lv_lload hx hb dX5_bitsOf_58 (lv_at hl 1 rfl) ?_
        refine lv_bipush (v := nI 52) hx hb dX5_bitsOf_60 (by decide) ?_
        refine lv_lshl (v := lN 4602678819172646912) hx hb dX5_bitsOf_62 (by decide +kernel) ?_
        refine lv_lload hx hb dX5_bitsOf_63 (lv_at hl 0 rfl) ?_
        refine n_ladd hx hb dX5_bitsOf_65 ?_
        exact r_l C0 hr hlk hw ⟨(by decide +kernel), (fun q  => rfl)⟩ (Nat.le_refl _) (Nat.le_refl _) dX5_bitsOf_66 hQ
  · skip
    exact absurd c_3 (by decide)
set_option maxHeartbeats 4000000 in
set_option maxRecDepth 100000 in
theorem c_X5_bitsOf_4604180019048437077 (l : Launch) (G : Gl) (L : List Nat) (F : Nat → va_E) : CL l yX5_bitsOf cX5_bitsOf 9 (some .long) rm_X5_bitsOf G L F [.double (4604180019048437077)] (fun r F1 => r = (4604180019048437077 : UInt64).toInt64 ∧ ∀ q, F1 q = F q) := by
  refine CG_of (by decide) (Nat.le_of_ble_eq_true rfl) rfl ?_
  intro p e s m args below meth c Q C0 hr hlk hnm hQ hw ls hl
  have hx := C0.x
  have hb := C0.b
  refine lv_dload_n hx hb dX5_bitsOf_0 rfl (lv_at hl 0 rfl) ?_
  refine lv_dconst0 hx hb dX5_bitsOf_1 ?_
  refine n_top (y := .double 0) (congrArg Value.double (by decide +kernel : FP.dconst0 = (0 : UInt64))) ?_
  refine lv_dcmp hx hb dX5_bitsOf_2 ?_
  refine n_top (y := .int (nI 1)) (congrArg Value.int (by decide +kernel : Op.cmpValue (FP.dcmp 4604180019048437077 0) .g = nI 1)) ?_
  refine n_if_gt (tgt := 8) hx hb dX5_bitsOf_3 (by decide) (by decide) (fun c_3 => ?_) (fun c_3 => ?_)
  · skip
    refine lv_dload_n hx hb dX5_bitsOf_8 rfl (lv_at hl 0 rfl) ?_
    refine lv_dstore_n (lv' := [(2, .double (4604180019048437077)), (0, .double (4604180019048437077))]) hx hb dX5_bitsOf_9 rfl hl (by decide) rfl (fun ls hl => ?_)
    refine lv_iconst (v := nI 0) hx hb dX5_bitsOf_10 (by decide) ?_
    refine lv_istore (lv' := [(4, .int (nI (0))), (2, .double (4604180019048437077)), (0, .double (4604180019048437077))]) hx hb dX5_bitsOf_11 hl (by decide) rfl (fun ls hl => ?_)
    refine lv_dload_n hx hb dX5_bitsOf_13 rfl (lv_at hl 1 rfl) ?_
    refine lv_dconst1 hx hb dX5_bitsOf_14 ?_
    refine n_top (y := .double 4607182418800017408) (congrArg Value.double (by decide +kernel : FP.dconst1 = (4607182418800017408 : UInt64))) ?_
    refine lv_dcmp hx hb dX5_bitsOf_15 ?_
    refine n_top (y := .int ((-1))) (congrArg Value.int (by decide +kernel : Op.cmpValue (FP.dcmp 4604180019048437077 4607182418800017408) .g = (-1))) ?_
    refine lv_if_ge (tgt := 39) hx hb dX5_bitsOf_16 (by decide) (fun c_16 => ?_) (fun c_16 => ?_)
    · skip
      exact absurd c_16 (by decide)
    · skip
      refine lv_iload hx hb dX5_bitsOf_19 (lv_at hl 0 rfl) ?_
      refine lv_sipush (v := nI 1022) hx hb dX5_bitsOf_21 (by decide) ?_
      refine n_icmp_ge (tgt := 39) hx hb dX5_bitsOf_24 (by decide) (by decide) (by decide) (fun c_24 => ?_) (fun c_24 => ?_)
      · skip
        exact absurd c_24 (by omega)
      · skip
        refine lv_dload_n hx hb dX5_bitsOf_27 rfl (lv_at hl 1 rfl) ?_
        refine lv_ldc2d (v := 4611686018427387904) hx hb C0.ow (C0.ts _ kw_X5_337) dX5_bitsOf_28 ?_
        refine lv_dmul hx hb dX5_bitsOf_31 (by unfold vf_n64; decide +kernel) ?_
        refine n_top (y := .double 4608683618675807573) (congrArg Value.double (by decide +kernel : FP.dmul 4604180019048437077 4611686018427387904 = (4608683618675807573 : UInt64))) ?_
        refine lv_dstore_n (lv' := [(2, .double (4608683618675807573)), (4, .int (nI (0))), (0, .double (4604180019048437077))]) hx hb dX5_bitsOf_32 rfl hl (by decide) rfl (fun ls hl => ?_)
        refine lv_iinc (v := nI 1) (lv' := [(4, .int (nI (1))), (2, .double (4608683618675807573)), (0, .double (4604180019048437077))]) hx hb dX5_bitsOf_33 hl (k := 1) rfl (by decide) (by decide) rfl (fun ls hl => ?_)
        refine lv_goto (tgt := 13) hx hb dX5_bitsOf_36 (by decide) ?_
        refine lv_dload_n hx hb dX5_bitsOf_13 rfl (lv_at hl 1 rfl) ?_
        refine lv_dconst1 hx hb dX5_bitsOf_14 ?_
        refine n_top (y := .double 4607182418800017408) (congrArg Value.double (by decide +kernel : FP.dconst1 = (4607182418800017408 : UInt64))) ?_
        refine lv_dcmp hx hb dX5_bitsOf_15 ?_
        refine n_top (y := .int (nI 1)) (congrArg Value.int (by decide +kernel : Op.cmpValue (FP.dcmp 4608683618675807573 4607182418800017408) .g = nI 1)) ?_
        refine n_if_ge (tgt := 39) hx hb dX5_bitsOf_16 (by decide) (by decide) ?_
        refine lv_sipush (v := nI 1023) hx hb dX5_bitsOf_39 (by decide) ?_
        refine lv_iload hx hb dX5_bitsOf_42 (lv_at hl 0 rfl) ?_
        refine n_isub hx hb (by omega) dX5_bitsOf_44 ?_
        refine n_i2l hx hb (by omega) dX5_bitsOf_45 ?_
        refine lv_lstore (lv' := [(5, .long (lN (1023 - 1))), (4, .int (nI (1))), (2, .double (4608683618675807573)), (0, .double (4604180019048437077))]) hx hb dX5_bitsOf_46 hl (by decide) rfl (fun ls hl => ?_)
        refine lv_dload_n hx hb dX5_bitsOf_48 rfl (lv_at hl 2 rfl) ?_
        refine lv_dconst1 hx hb dX5_bitsOf_49 ?_
        refine n_top (y := .double 4607182418800017408) (congrArg Value.double (by decide +kernel : FP.dconst1 = (4607182418800017408 : UInt64))) ?_
        refine lv_dsub hx hb dX5_bitsOf_50 (by unfold vf_n64; decide +kernel) ?_
        refine n_top (y := .double 4599676419421066580) (congrArg Value.double (by decide +kernel : FP.dsub 4608683618675807573 4607182418800017408 = (4599676419421066580 : UInt64))) ?_
        refine lv_ldc2d (v := 4841369599423283200) hx hb C0.ow (C0.ts _ kw_X5_339) dX5_bitsOf_51 ?_
        refine lv_dmul hx hb dX5_bitsOf_54 (by unfold vf_n64; decide +kernel) ?_
        refine n_top (y := .double 4833863600044332372) (congrArg Value.double (by decide +kernel : FP.dmul 4599676419421066580 4841369599423283200 = (4833863600044332372 : UInt64))) ?_
        refine lv_d2l hx hb dX5_bitsOf_55 ?_
        refine n_top (y := .long (lN 1501199875790165)) (congrArg Value.long (by decide +kernel : FP.d2l 4833863600044332372 = lN 1501199875790165)) ?_
        refine lv_lstore (lv' := [(7, .long (lN (1501199875790165))), (5, .long (lN (1023 - 1))), (4, .int (nI (1))), (2, .double (4608683618675807573)), (0, .double (4604180019048437077))]) hx hb dX5_bitsOf_56 hl (by decide) rfl (fun ls hl => ?_)
        refine lv_lload hx hb dX5_bitsOf_58 (lv_at hl 1 rfl) ?_
        refine lv_bipush (v := nI 52) hx hb dX5_bitsOf_60 (by decide) ?_
        refine lv_lshl (v := lN 4602678819172646912) hx hb dX5_bitsOf_62 (by decide +kernel) ?_
        refine lv_lload hx hb dX5_bitsOf_63 (lv_at hl 0 rfl) ?_
        refine n_ladd hx hb dX5_bitsOf_65 ?_
        exact r_l C0 hr hlk hw ⟨(by decide +kernel), (fun q  => rfl)⟩ (Nat.le_refl _) (Nat.le_refl _) dX5_bitsOf_66 hQ
  · skip
    exact absurd c_3 (by decide)
set_option maxHeartbeats 4000000 in
set_option maxRecDepth 100000 in
theorem c_X5_bitsOf_4604480259023595110 (l : Launch) (G : Gl) (L : List Nat) (F : Nat → va_E) : CL l yX5_bitsOf cX5_bitsOf 9 (some .long) rm_X5_bitsOf G L F [.double (4604480259023595110)] (fun r F1 => r = (4604480259023595110 : UInt64).toInt64 ∧ ∀ q, F1 q = F q) := by
  refine CG_of (by decide) (Nat.le_of_ble_eq_true rfl) rfl ?_
  intro p e s m args below meth c Q C0 hr hlk hnm hQ hw ls hl
  have hx := C0.x
  have hb := C0.b
  refine lv_dload_n hx hb dX5_bitsOf_0 rfl (lv_at hl 0 rfl) ?_
  refine lv_dconst0 hx hb dX5_bitsOf_1 ?_
  refine n_top (y := .double 0) (congrArg Value.double (by decide +kernel : FP.dconst0 = (0 : UInt64))) ?_
  refine lv_dcmp hx hb dX5_bitsOf_2 ?_
  refine n_top (y := .int (nI 1)) (congrArg Value.int (by decide +kernel : Op.cmpValue (FP.dcmp 4604480259023595110 0) .g = nI 1)) ?_
  refine n_if_gt (tgt := 8) hx hb dX5_bitsOf_3 (by decide) (by decide) (fun c_3 => ?_) (fun c_3 => ?_)
  · skip
    refine lv_dload_n hx hb dX5_bitsOf_8 rfl (lv_at hl 0 rfl) ?_
    refine lv_dstore_n (lv' := [(2, .double (4604480259023595110)), (0, .double (4604480259023595110))]) hx hb dX5_bitsOf_9 rfl hl (by decide) rfl (fun ls hl => ?_)
    refine lv_iconst (v := nI 0) hx hb dX5_bitsOf_10 (by decide) ?_
    refine lv_istore (lv' := [(4, .int (nI (0))), (2, .double (4604480259023595110)), (0, .double (4604480259023595110))]) hx hb dX5_bitsOf_11 hl (by decide) rfl (fun ls hl => ?_)
    refine lv_dload_n hx hb dX5_bitsOf_13 rfl (lv_at hl 1 rfl) ?_
    refine lv_dconst1 hx hb dX5_bitsOf_14 ?_
    refine n_top (y := .double 4607182418800017408) (congrArg Value.double (by decide +kernel : FP.dconst1 = (4607182418800017408 : UInt64))) ?_
    refine lv_dcmp hx hb dX5_bitsOf_15 ?_
    refine n_top (y := .int ((-1))) (congrArg Value.int (by decide +kernel : Op.cmpValue (FP.dcmp 4604480259023595110 4607182418800017408) .g = (-1))) ?_
    refine lv_if_ge (tgt := 39) hx hb dX5_bitsOf_16 (by decide) (fun c_16 => ?_) (fun c_16 => ?_)
    · skip
      exact absurd c_16 (by decide)
    · skip
      refine lv_iload hx hb dX5_bitsOf_19 (lv_at hl 0 rfl) ?_
      refine lv_sipush (v := nI 1022) hx hb dX5_bitsOf_21 (by decide) ?_
      refine n_icmp_ge (tgt := 39) hx hb dX5_bitsOf_24 (by decide) (by decide) (by decide) (fun c_24 => ?_) (fun c_24 => ?_)
      · skip
        exact absurd c_24 (by omega)
      · skip
        refine lv_dload_n hx hb dX5_bitsOf_27 rfl (lv_at hl 1 rfl) ?_
        refine lv_ldc2d (v := 4611686018427387904) hx hb C0.ow (C0.ts _ kw_X5_337) dX5_bitsOf_28 ?_
        refine lv_dmul hx hb dX5_bitsOf_31 (by unfold vf_n64; decide +kernel) ?_
        refine n_top (y := .double 4608983858650965606) (congrArg Value.double (by decide +kernel : FP.dmul 4604480259023595110 4611686018427387904 = (4608983858650965606 : UInt64))) ?_
        refine lv_dstore_n (lv' := [(2, .double (4608983858650965606)), (4, .int (nI (0))), (0, .double (4604480259023595110))]) hx hb dX5_bitsOf_32 rfl hl (by decide) rfl (fun ls hl => ?_)
        refine lv_iinc (v := nI 1) (lv' := [(4, .int (nI (1))), (2, .double (4608983858650965606)), (0, .double (4604480259023595110))]) hx hb dX5_bitsOf_33 hl (k := 1) rfl (by decide) (by decide) rfl (fun ls hl => ?_)
        refine lv_goto (tgt := 13) hx hb dX5_bitsOf_36 (by decide) ?_
        refine lv_dload_n hx hb dX5_bitsOf_13 rfl (lv_at hl 1 rfl) ?_
        refine lv_dconst1 hx hb dX5_bitsOf_14 ?_
        refine n_top (y := .double 4607182418800017408) (congrArg Value.double (by decide +kernel : FP.dconst1 = (4607182418800017408 : UInt64))) ?_
        refine lv_dcmp hx hb dX5_bitsOf_15 ?_
        refine n_top (y := .int (nI 1)) (congrArg Value.int (by decide +kernel : Op.cmpValue (FP.dcmp 4608983858650965606 4607182418800017408) .g = nI 1)) ?_
        refine n_if_ge (tgt := 39) hx hb dX5_bitsOf_16 (by decide) (by decide) ?_
        refine lv_sipush (v := nI 1023) hx hb dX5_bitsOf_39 (by decide) ?_
        refine lv_iload hx hb dX5_bitsOf_42 (lv_at hl 0 rfl) ?_
        refine n_isub hx hb (by omega) dX5_bitsOf_44 ?_
        refine n_i2l hx hb (by omega) dX5_bitsOf_45 ?_
        refine lv_lstore (lv' := [(5, .long (lN (1023 - 1))), (4, .int (nI (1))), (2, .double (4608983858650965606)), (0, .double (4604480259023595110))]) hx hb dX5_bitsOf_46 hl (by decide) rfl (fun ls hl => ?_)
        refine lv_dload_n hx hb dX5_bitsOf_48 rfl (lv_at hl 2 rfl) ?_
        refine lv_dconst1 hx hb dX5_bitsOf_49 ?_
        refine n_top (y := .double 4607182418800017408) (congrArg Value.double (by decide +kernel : FP.dconst1 = (4607182418800017408 : UInt64))) ?_
        refine lv_dsub hx hb dX5_bitsOf_50 (by unfold vf_n64; decide +kernel) ?_
        refine n_top (y := .double 4600877379321698712) (congrArg Value.double (by decide +kernel : FP.dsub 4608983858650965606 4607182418800017408 = (4600877379321698712 : UInt64))) ?_
        refine lv_ldc2d (v := 4841369599423283200) hx hb C0.ow (C0.ts _ kw_X5_339) dX5_bitsOf_51 ?_
        refine lv_dmul hx hb dX5_bitsOf_54 (by unfold vf_n64; decide +kernel) ?_
        refine n_top (y := .double 4835064559944964504) (congrArg Value.double (by decide +kernel : FP.dmul 4600877379321698712 4841369599423283200 = (4835064559944964504 : UInt64))) ?_
        refine lv_d2l hx hb dX5_bitsOf_55 ?_
        refine n_top (y := .long (lN 1801439850948198)) (congrArg Value.long (by decide +kernel : FP.d2l 4835064559944964504 = lN 1801439850948198)) ?_
        refine lv_lstore (lv' := [(7, .long (lN (1801439850948198))), (5, .long (lN (1023 - 1))), (4, .int (nI (1))), (2, .double (4608983858650965606)), (0, .double (4604480259023595110))]) hx hb dX5_bitsOf_56 hl (by decide) rfl (fun ls hl => ?_)
        refine lv_lload hx hb dX5_bitsOf_58 (lv_at hl 1 rfl) ?_
        refine lv_bipush (v := nI 52) hx hb dX5_bitsOf_60 (by decide) ?_
        refine lv_lshl (v := lN 4602678819172646912) hx hb dX5_bitsOf_62 (by decide +kernel) ?_
        refine lv_lload hx hb dX5_bitsOf_63 (lv_at hl 0 rfl) ?_
        refine n_ladd hx hb dX5_bitsOf_65 ?_
        exact r_l C0 hr hlk hw ⟨(by decide +kernel), (fun q  => rfl)⟩ (Nat.le_refl _) (Nat.le_refl _) dX5_bitsOf_66 hQ
  · skip
    exact absurd c_3 (by decide)
set_option maxHeartbeats 4000000 in
set_option maxRecDepth 100000 in
theorem c_X5_bitsOf_4604555319017384619 (l : Launch) (G : Gl) (L : List Nat) (F : Nat → va_E) : CL l yX5_bitsOf cX5_bitsOf 9 (some .long) rm_X5_bitsOf G L F [.double (4604555319017384619)] (fun r F1 => r = (4604555319017384619 : UInt64).toInt64 ∧ ∀ q, F1 q = F q) := by
  refine CG_of (by decide) (Nat.le_of_ble_eq_true rfl) rfl ?_
  intro p e s m args below meth c Q C0 hr hlk hnm hQ hw ls hl
  have hx := C0.x
  have hb := C0.b
  refine lv_dload_n hx hb dX5_bitsOf_0 rfl (lv_at hl 0 rfl) ?_
  refine lv_dconst0 hx hb dX5_bitsOf_1 ?_
  refine n_top (y := .double 0) (congrArg Value.double (by decide +kernel : FP.dconst0 = (0 : UInt64))) ?_
  refine lv_dcmp hx hb dX5_bitsOf_2 ?_
  refine n_top (y := .int (nI 1)) (congrArg Value.int (by decide +kernel : Op.cmpValue (FP.dcmp 4604555319017384619 0) .g = nI 1)) ?_
  refine n_if_gt (tgt := 8) hx hb dX5_bitsOf_3 (by decide) (by decide) (fun c_3 => ?_) (fun c_3 => ?_)
  · skip
    refine lv_dload_n hx hb dX5_bitsOf_8 rfl (lv_at hl 0 rfl) ?_
    refine lv_dstore_n (lv' := [(2, .double (4604555319017384619)), (0, .double (4604555319017384619))]) hx hb dX5_bitsOf_9 rfl hl (by decide) rfl (fun ls hl => ?_)
    refine lv_iconst (v := nI 0) hx hb dX5_bitsOf_10 (by decide) ?_
    refine lv_istore (lv' := [(4, .int (nI (0))), (2, .double (4604555319017384619)), (0, .double (4604555319017384619))]) hx hb dX5_bitsOf_11 hl (by decide) rfl (fun ls hl => ?_)
    refine lv_dload_n hx hb dX5_bitsOf_13 rfl (lv_at hl 1 rfl) ?_
    refine lv_dconst1 hx hb dX5_bitsOf_14 ?_
    refine n_top (y := .double 4607182418800017408) (congrArg Value.double (by decide +kernel : FP.dconst1 = (4607182418800017408 : UInt64))) ?_
    refine lv_dcmp hx hb dX5_bitsOf_15 ?_
    refine n_top (y := .int ((-1))) (congrArg Value.int (by decide +kernel : Op.cmpValue (FP.dcmp 4604555319017384619 4607182418800017408) .g = (-1))) ?_
    refine lv_if_ge (tgt := 39) hx hb dX5_bitsOf_16 (by decide) (fun c_16 => ?_) (fun c_16 => ?_)
    · skip
      exact absurd c_16 (by decide)
    · skip
      refine lv_iload hx hb dX5_bitsOf_19 (lv_at hl 0 rfl) ?_
      refine lv_sipush (v := nI 1022) hx hb dX5_bitsOf_21 (by decide) ?_
      refine n_icmp_ge (tgt := 39) hx hb dX5_bitsOf_24 (by decide) (by decide) (by decide) (fun c_24 => ?_) (fun c_24 => ?_)
      · skip
        exact absurd c_24 (by omega)
      · skip
        refine lv_dload_n hx hb dX5_bitsOf_27 rfl (lv_at hl 1 rfl) ?_
        refine lv_ldc2d (v := 4611686018427387904) hx hb C0.ow (C0.ts _ kw_X5_337) dX5_bitsOf_28 ?_
        refine lv_dmul hx hb dX5_bitsOf_31 (by unfold vf_n64; decide +kernel) ?_
        refine n_top (y := .double 4609058918644755115) (congrArg Value.double (by decide +kernel : FP.dmul 4604555319017384619 4611686018427387904 = (4609058918644755115 : UInt64))) ?_
        refine lv_dstore_n (lv' := [(2, .double (4609058918644755115)), (4, .int (nI (0))), (0, .double (4604555319017384619))]) hx hb dX5_bitsOf_32 rfl hl (by decide) rfl (fun ls hl => ?_)
        refine lv_iinc (v := nI 1) (lv' := [(4, .int (nI (1))), (2, .double (4609058918644755115)), (0, .double (4604555319017384619))]) hx hb dX5_bitsOf_33 hl (k := 1) rfl (by decide) (by decide) rfl (fun ls hl => ?_)
        refine lv_goto (tgt := 13) hx hb dX5_bitsOf_36 (by decide) ?_
        refine lv_dload_n hx hb dX5_bitsOf_13 rfl (lv_at hl 1 rfl) ?_
        refine lv_dconst1 hx hb dX5_bitsOf_14 ?_
        refine n_top (y := .double 4607182418800017408) (congrArg Value.double (by decide +kernel : FP.dconst1 = (4607182418800017408 : UInt64))) ?_
        refine lv_dcmp hx hb dX5_bitsOf_15 ?_
        refine n_top (y := .int (nI 1)) (congrArg Value.int (by decide +kernel : Op.cmpValue (FP.dcmp 4609058918644755115 4607182418800017408) .g = nI 1)) ?_
        refine n_if_ge (tgt := 39) hx hb dX5_bitsOf_16 (by decide) (by decide) ?_
        refine lv_sipush (v := nI 1023) hx hb dX5_bitsOf_39 (by decide) ?_
        refine lv_iload hx hb dX5_bitsOf_42 (lv_at hl 0 rfl) ?_
        refine n_isub hx hb (by omega) dX5_bitsOf_44 ?_
        refine n_i2l hx hb (by omega) dX5_bitsOf_45 ?_
        refine lv_lstore (lv' := [(5, .long (lN (1023 - 1))), (4, .int (nI (1))), (2, .double (4609058918644755115)), (0, .double (4604555319017384619))]) hx hb dX5_bitsOf_46 hl (by decide) rfl (fun ls hl => ?_)
        refine lv_dload_n hx hb dX5_bitsOf_48 rfl (lv_at hl 2 rfl) ?_
        refine lv_dconst1 hx hb dX5_bitsOf_49 ?_
        refine n_top (y := .double 4607182418800017408) (congrArg Value.double (by decide +kernel : FP.dconst1 = (4607182418800017408 : UInt64))) ?_
        refine lv_dsub hx hb dX5_bitsOf_50 (by unfold vf_n64; decide +kernel) ?_
        refine n_top (y := .double 4601177619296856748) (congrArg Value.double (by decide +kernel : FP.dsub 4609058918644755115 4607182418800017408 = (4601177619296856748 : UInt64))) ?_
        refine lv_ldc2d (v := 4841369599423283200) hx hb C0.ow (C0.ts _ kw_X5_339) dX5_bitsOf_51 ?_
        refine lv_dmul hx hb dX5_bitsOf_54 (by unfold vf_n64; decide +kernel) ?_
        refine n_top (y := .double 4835364799920122540) (congrArg Value.double (by decide +kernel : FP.dmul 4601177619296856748 4841369599423283200 = (4835364799920122540 : UInt64))) ?_
        refine lv_d2l hx hb dX5_bitsOf_55 ?_
        refine n_top (y := .long (lN 1876499844737707)) (congrArg Value.long (by decide +kernel : FP.d2l 4835364799920122540 = lN 1876499844737707)) ?_
        refine lv_lstore (lv' := [(7, .long (lN (1876499844737707))), (5, .long (lN (1023 - 1))), (4, .int (nI (1))), (2, .double (4609058918644755115)), (0, .double (4604555319017384619))]) hx hb dX5_bitsOf_56 hl (by decide) rfl (fun ls hl => ?_)
        refine lv_lload hx hb dX5_bitsOf_58 (lv_at hl 1 rfl) ?_
        refine lv_bipush (v := nI 52) hx hb dX5_bitsOf_60 (by decide) ?_
        refine lv_lshl (v := lN 4602678819172646912) hx hb dX5_bitsOf_62 (by decide +kernel) ?_
        refine lv_lload hx hb dX5_bitsOf_63 (lv_at hl 0 rfl) ?_
        refine n_ladd hx hb dX5_bitsOf_65 ?_
        exact r_l C0 hr hlk hw ⟨(by decide +kernel), (fun q  => rfl)⟩ (Nat.le_refl _) (Nat.le_refl _) dX5_bitsOf_66 hQ
  · skip
    exact absurd c_3 (by decide)
set_option maxHeartbeats 4000000 in
set_option maxRecDepth 100000 in
theorem c_X5_bitsOf_4604680419007033799 (l : Launch) (G : Gl) (L : List Nat) (F : Nat → va_E) : CL l yX5_bitsOf cX5_bitsOf 9 (some .long) rm_X5_bitsOf G L F [.double (4604680419007033799)] (fun r F1 => r = (4604680419007033799 : UInt64).toInt64 ∧ ∀ q, F1 q = F q) := by
  refine CG_of (by decide) (Nat.le_of_ble_eq_true rfl) rfl ?_
  intro p e s m args below meth c Q C0 hr hlk hnm hQ hw ls hl
  have hx := C0.x
  have hb := C0.b
  refine lv_dload_n hx hb dX5_bitsOf_0 rfl (lv_at hl 0 rfl) ?_
  refine lv_dconst0 hx hb dX5_bitsOf_1 ?_
  refine n_top (y := .double 0) (congrArg Value.double (by decide +kernel : FP.dconst0 = (0 : UInt64))) ?_
  refine lv_dcmp hx hb dX5_bitsOf_2 ?_
  refine n_top (y := .int (nI 1)) (congrArg Value.int (by decide +kernel : Op.cmpValue (FP.dcmp 4604680419007033799 0) .g = nI 1)) ?_
  refine n_if_gt (tgt := 8) hx hb dX5_bitsOf_3 (by decide) (by decide) (fun c_3 => ?_) (fun c_3 => ?_)
  · skip
    refine lv_dload_n hx hb dX5_bitsOf_8 rfl (lv_at hl 0 rfl) ?_
    refine lv_dstore_n (lv' := [(2, .double (4604680419007033799)), (0, .double (4604680419007033799))]) hx hb dX5_bitsOf_9 rfl hl (by decide) rfl (fun ls hl => ?_)
    refine lv_iconst (v := nI 0) hx hb dX5_bitsOf_10 (by decide) ?_
    refine lv_istore (lv' := [(4, .int (nI (0))), (2, .double (4604680419007033799)), (0, .double (4604680419007033799))]) hx hb dX5_bitsOf_11 hl (by decide) rfl (fun ls hl => ?_)
    refine lv_dload_n hx hb dX5_bitsOf_13 rfl (lv_at hl 1 rfl) ?_
    refine lv_dconst1 hx hb dX5_bitsOf_14 ?_
    refine n_top (y := .double 4607182418800017408) (congrArg Value.double (by decide +kernel : FP.dconst1 = (4607182418800017408 : UInt64))) ?_
    refine lv_dcmp hx hb dX5_bitsOf_15 ?_
    refine n_top (y := .int ((-1))) (congrArg Value.int (by decide +kernel : Op.cmpValue (FP.dcmp 4604680419007033799 4607182418800017408) .g = (-1))) ?_
    refine lv_if_ge (tgt := 39) hx hb dX5_bitsOf_16 (by decide) (fun c_16 => ?_) (fun c_16 => ?_)
    · skip
      exact absurd c_16 (by decide)
    · skip
      refine lv_iload hx hb dX5_bitsOf_19 (lv_at hl 0 rfl) ?_
      refine lv_sipush (v := nI 1022) hx hb dX5_bitsOf_21 (by decide) ?_
      refine n_icmp_ge (tgt := 39) hx hb dX5_bitsOf_24 (by decide) (by decide) (by decide) (fun c_24 => ?_) (fun c_24 => ?_)
      · skip
        exact absurd c_24 (by omega)
      · skip
        refine lv_dload_n hx hb dX5_bitsOf_27 rfl (lv_at hl 1 rfl) ?_
        refine lv_ldc2d (v := 4611686018427387904) hx hb C0.ow (C0.ts _ kw_X5_337) dX5_bitsOf_28 ?_
        refine lv_dmul hx hb dX5_bitsOf_31 (by unfold vf_n64; decide +kernel) ?_
        refine n_top (y := .double 4609184018634404295) (congrArg Value.double (by decide +kernel : FP.dmul 4604680419007033799 4611686018427387904 = (4609184018634404295 : UInt64))) ?_
        refine lv_dstore_n (lv' := [(2, .double (4609184018634404295)), (4, .int (nI (0))), (0, .double (4604680419007033799))]) hx hb dX5_bitsOf_32 rfl hl (by decide) rfl (fun ls hl => ?_)
        refine lv_iinc (v := nI 1) (lv' := [(4, .int (nI (1))), (2, .double (4609184018634404295)), (0, .double (4604680419007033799))]) hx hb dX5_bitsOf_33 hl (k := 1) rfl (by decide) (by decide) rfl (fun ls hl => ?_)
        refine lv_goto (tgt := 13) hx hb dX5_bitsOf_36 (by decide) ?_
        refine lv_dload_n hx hb dX5_bitsOf_13 rfl (lv_at hl 1 rfl) ?_
        refine lv_dconst1 hx hb dX5_bitsOf_14 ?_
        refine n_top (y := .double 4607182418800017408) (congrArg Value.double (by decide +kernel : FP.dconst1 = (4607182418800017408 : UInt64))) ?_
        refine lv_dcmp hx hb dX5_bitsOf_15 ?_
        refine n_top (y := .int (nI 1)) (congrArg Value.int (by decide +kernel : Op.cmpValue (FP.dcmp 4609184018634404295 4607182418800017408) .g = nI 1)) ?_
        refine n_if_ge (tgt := 39) hx hb dX5_bitsOf_16 (by decide) (by decide) ?_
        refine lv_sipush (v := nI 1023) hx hb dX5_bitsOf_39 (by decide) ?_
        refine lv_iload hx hb dX5_bitsOf_42 (lv_at hl 0 rfl) ?_
        refine n_isub hx hb (by omega) dX5_bitsOf_44 ?_
        refine n_i2l hx hb (by omega) dX5_bitsOf_45 ?_
        refine lv_lstore (lv' := [(5, .long (lN (1023 - 1))), (4, .int (nI (1))), (2, .double (4609184018634404295)), (0, .double (4604680419007033799))]) hx hb dX5_bitsOf_46 hl (by decide) rfl (fun ls hl => ?_)
        refine lv_dload_n hx hb dX5_bitsOf_48 rfl (lv_at hl 2 rfl) ?_
        refine lv_dconst1 hx hb dX5_bitsOf_49 ?_
        refine n_top (y := .double 4607182418800017408) (congrArg Value.double (by decide +kernel : FP.dconst1 = (4607182418800017408 : UInt64))) ?_
        refine lv_dsub hx hb dX5_bitsOf_50 (by unfold vf_n64; decide +kernel) ?_
        refine n_top (y := .double 4601678019255453468) (congrArg Value.double (by decide +kernel : FP.dsub 4609184018634404295 4607182418800017408 = (4601678019255453468 : UInt64))) ?_
        refine lv_ldc2d (v := 4841369599423283200) hx hb C0.ow (C0.ts _ kw_X5_339) dX5_bitsOf_51 ?_
        refine lv_dmul hx hb dX5_bitsOf_54 (by unfold vf_n64; decide +kernel) ?_
        refine n_top (y := .double 4835865199878719260) (congrArg Value.double (by decide +kernel : FP.dmul 4601678019255453468 4841369599423283200 = (4835865199878719260 : UInt64))) ?_
        refine lv_d2l hx hb dX5_bitsOf_55 ?_
        refine n_top (y := .long (lN 2001599834386887)) (congrArg Value.long (by decide +kernel : FP.d2l 4835865199878719260 = lN 2001599834386887)) ?_
        refine lv_lstore (lv' := [(7, .long (lN (2001599834386887))), (5, .long (lN (1023 - 1))), (4, .int (nI (1))), (2, .double (4609184018634404295)), (0, .double (4604680419007033799))]) hx hb dX5_bitsOf_56 hl (by decide) rfl (fun ls hl => ?_)
        refine lv_lload hx hb dX5_bitsOf_58 (lv_at hl 1 rfl) ?_
        refine lv_bipush (v := nI 52) hx hb dX5_bitsOf_60 (by decide) ?_
        refine lv_lshl (v := lN 4602678819172646912) hx hb dX5_bitsOf_62 (by decide +kernel) ?_
        refine lv_lload hx hb dX5_bitsOf_63 (lv_at hl 0 rfl) ?_
        refine n_ladd hx hb dX5_bitsOf_65 ?_
        exact r_l C0 hr hlk hw ⟨(by decide +kernel), (fun q  => rfl)⟩ (Nat.le_refl _) (Nat.le_refl _) dX5_bitsOf_66 hQ
  · skip
    exact absurd c_3 (by decide)
set_option maxHeartbeats 4000000 in
set_option maxRecDepth 100000 in
theorem c_X5_bitsOf_4604780498998753143 (l : Launch) (G : Gl) (L : List Nat) (F : Nat → va_E) : CL l yX5_bitsOf cX5_bitsOf 9 (some .long) rm_X5_bitsOf G L F [.double (4604780498998753143)] (fun r F1 => r = (4604780498998753143 : UInt64).toInt64 ∧ ∀ q, F1 q = F q) := by
  refine CG_of (by decide) (Nat.le_of_ble_eq_true rfl) rfl ?_
  intro p e s m args below meth c Q C0 hr hlk hnm hQ hw ls hl
  have hx := C0.x
  have hb := C0.b
  refine lv_dload_n hx hb dX5_bitsOf_0 rfl (lv_at hl 0 rfl) ?_
  refine lv_dconst0 hx hb dX5_bitsOf_1 ?_
  refine n_top (y := .double 0) (congrArg Value.double (by decide +kernel : FP.dconst0 = (0 : UInt64))) ?_
  refine lv_dcmp hx hb dX5_bitsOf_2 ?_
  refine n_top (y := .int (nI 1)) (congrArg Value.int (by decide +kernel : Op.cmpValue (FP.dcmp 4604780498998753143 0) .g = nI 1)) ?_
  refine n_if_gt (tgt := 8) hx hb dX5_bitsOf_3 (by decide) (by decide) (fun c_3 => ?_) (fun c_3 => ?_)
  · skip
    refine lv_dload_n hx hb dX5_bitsOf_8 rfl (lv_at hl 0 rfl) ?_
    refine lv_dstore_n (lv' := [(2, .double (4604780498998753143)), (0, .double (4604780498998753143))]) hx hb dX5_bitsOf_9 rfl hl (by decide) rfl (fun ls hl => ?_)
    refine lv_iconst (v := nI 0) hx hb dX5_bitsOf_10 (by decide) ?_
    refine lv_istore (lv' := [(4, .int (nI (0))), (2, .double (4604780498998753143)), (0, .double (4604780498998753143))]) hx hb dX5_bitsOf_11 hl (by decide) rfl (fun ls hl => ?_)
    refine lv_dload_n hx hb dX5_bitsOf_13 rfl (lv_at hl 1 rfl) ?_
    refine lv_dconst1 hx hb dX5_bitsOf_14 ?_
    refine n_top (y := .double 4607182418800017408) (congrArg Value.double (by decide +kernel : FP.dconst1 = (4607182418800017408 : UInt64))) ?_
    refine lv_dcmp hx hb dX5_bitsOf_15 ?_
    refine n_top (y := .int ((-1))) (congrArg Value.int (by decide +kernel : Op.cmpValue (FP.dcmp 4604780498998753143 4607182418800017408) .g = (-1))) ?_
    refine lv_if_ge (tgt := 39) hx hb dX5_bitsOf_16 (by decide) (fun c_16 => ?_) (fun c_16 => ?_)
    · skip
      exact absurd c_16 (by decide)
    · skip
      refine lv_iload hx hb dX5_bitsOf_19 (lv_at hl 0 rfl) ?_
      refine lv_sipush (v := nI 1022) hx hb dX5_bitsOf_21 (by decide) ?_
      refine n_icmp_ge (tgt := 39) hx hb dX5_bitsOf_24 (by decide) (by decide) (by decide) (fun c_24 => ?_) (fun c_24 => ?_)
      · skip
        exact absurd c_24 (by omega)
      · skip
        refine lv_dload_n hx hb dX5_bitsOf_27 rfl (lv_at hl 1 rfl) ?_
        refine lv_ldc2d (v := 4611686018427387904) hx hb C0.ow (C0.ts _ kw_X5_337) dX5_bitsOf_28 ?_
        refine lv_dmul hx hb dX5_bitsOf_31 (by unfold vf_n64; decide +kernel) ?_
        refine n_top (y := .double 4609284098626123639) (congrArg Value.double (by decide +kernel : FP.dmul 4604780498998753143 4611686018427387904 = (4609284098626123639 : UInt64))) ?_
        refine lv_dstore_n (lv' := [(2, .double (4609284098626123639)), (4, .int (nI (0))), (0, .double (4604780498998753143))]) hx hb dX5_bitsOf_32 rfl hl (by decide) rfl (fun ls hl => ?_)
        refine lv_iinc (v := nI 1) (lv' := [(4, .int (nI (1))), (2, .double (4609284098626123639)), (0, .double (4604780498998753143))]) hx hb dX5_bitsOf_33 hl (k := 1) rfl (by decide) (by decide) rfl (fun ls hl => ?_)
        refine lv_goto (tgt := 13) hx hb dX5_bitsOf_36 (by decide) ?_
        refine lv_dload_n hx hb dX5_bitsOf_13 rfl (lv_at hl 1 rfl) ?_
        refine lv_dconst1 hx hb dX5_bitsOf_14 ?_
        refine n_top (y := .double 4607182418800017408) (congrArg Value.double (by decide +kernel : FP.dconst1 = (4607182418800017408 : UInt64))) ?_
        refine lv_dcmp hx hb dX5_bitsOf_15 ?_
        refine n_top (y := .int (nI 1)) (congrArg Value.int (by decide +kernel : Op.cmpValue (FP.dcmp 4609284098626123639 4607182418800017408) .g = nI 1)) ?_
        refine n_if_ge (tgt := 39) hx hb dX5_bitsOf_16 (by decide) (by decide) ?_
        refine lv_sipush (v := nI 1023) hx hb dX5_bitsOf_39 (by decide) ?_
        refine lv_iload hx hb dX5_bitsOf_42 (lv_at hl 0 rfl) ?_
        refine n_isub hx hb (by omega) dX5_bitsOf_44 ?_
        refine n_i2l hx hb (by omega) dX5_bitsOf_45 ?_
        refine lv_lstore (lv' := [(5, .long (lN (1023 - 1))), (4, .int (nI (1))), (2, .double (4609284098626123639)), (0, .double (4604780498998753143))]) hx hb dX5_bitsOf_46 hl (by decide) rfl (fun ls hl => ?_)
        refine lv_dload_n hx hb dX5_bitsOf_48 rfl (lv_at hl 2 rfl) ?_
        refine lv_dconst1 hx hb dX5_bitsOf_49 ?_
        refine n_top (y := .double 4607182418800017408) (congrArg Value.double (by decide +kernel : FP.dconst1 = (4607182418800017408 : UInt64))) ?_
        refine lv_dsub hx hb dX5_bitsOf_50 (by unfold vf_n64; decide +kernel) ?_
        refine n_top (y := .double 4602078339222330844) (congrArg Value.double (by decide +kernel : FP.dsub 4609284098626123639 4607182418800017408 = (4602078339222330844 : UInt64))) ?_
        refine lv_ldc2d (v := 4841369599423283200) hx hb C0.ow (C0.ts _ kw_X5_339) dX5_bitsOf_51 ?_
        refine lv_dmul hx hb dX5_bitsOf_54 (by unfold vf_n64; decide +kernel) ?_
        refine n_top (y := .double 4836265519845596636) (congrArg Value.double (by decide +kernel : FP.dmul 4602078339222330844 4841369599423283200 = (4836265519845596636 : UInt64))) ?_
        refine lv_d2l hx hb dX5_bitsOf_55 ?_
        refine n_top (y := .long (lN 2101679826106231)) (congrArg Value.long (by decide +kernel : FP.d2l 4836265519845596636 = lN 2101679826106231)) ?_
        refine lv_lstore (lv' := [(7, .long (lN (2101679826106231))), (5, .long (lN (1023 - 1))), (4, .int (nI (1))), (2, .double (4609284098626123639)), (0, .double (4604780498998753143))]) hx hb dX5_bitsOf_56 hl (by decide) rfl (fun ls hl => ?_)
        refine lv_lload hx hb dX5_bitsOf_58 (lv_at hl 1 rfl) ?_
        refine lv_bipush (v := nI 52) hx hb dX5_bitsOf_60 (by decide) ?_
        refine lv_lshl (v := lN 4602678819172646912) hx hb dX5_bitsOf_62 (by decide +kernel) ?_
        refine lv_lload hx hb dX5_bitsOf_63 (lv_at hl 0 rfl) ?_
        refine n_ladd hx hb dX5_bitsOf_65 ?_
        exact r_l C0 hr hlk hw ⟨(by decide +kernel), (fun q  => rfl)⟩ (Nat.le_refl _) (Nat.le_refl _) dX5_bitsOf_66 hQ
  · skip
    exact absurd c_3 (by decide)
set_option maxHeartbeats 4000000 in
set_option maxRecDepth 100000 in
theorem c_X5_bitsOf_4604930618986332160 (l : Launch) (G : Gl) (L : List Nat) (F : Nat → va_E) : CL l yX5_bitsOf cX5_bitsOf 9 (some .long) rm_X5_bitsOf G L F [.double (4604930618986332160)] (fun r F1 => r = (4604930618986332160 : UInt64).toInt64 ∧ ∀ q, F1 q = F q) := by
  refine CG_of (by decide) (Nat.le_of_ble_eq_true rfl) rfl ?_
  intro p e s m args below meth c Q C0 hr hlk hnm hQ hw ls hl
  have hx := C0.x
  have hb := C0.b
  refine lv_dload_n hx hb dX5_bitsOf_0 rfl (lv_at hl 0 rfl) ?_
  refine lv_dconst0 hx hb dX5_bitsOf_1 ?_
  refine n_top (y := .double 0) (congrArg Value.double (by decide +kernel : FP.dconst0 = (0 : UInt64))) ?_
  refine lv_dcmp hx hb dX5_bitsOf_2 ?_
  refine n_top (y := .int (nI 1)) (congrArg Value.int (by decide +kernel : Op.cmpValue (FP.dcmp 4604930618986332160 0) .g = nI 1)) ?_
  refine n_if_gt (tgt := 8) hx hb dX5_bitsOf_3 (by decide) (by decide) (fun c_3 => ?_) (fun c_3 => ?_)
  · skip
    refine lv_dload_n hx hb dX5_bitsOf_8 rfl (lv_at hl 0 rfl) ?_
    refine lv_dstore_n (lv' := [(2, .double (4604930618986332160)), (0, .double (4604930618986332160))]) hx hb dX5_bitsOf_9 rfl hl (by decide) rfl (fun ls hl => ?_)
    refine lv_iconst (v := nI 0) hx hb dX5_bitsOf_10 (by decide) ?_
    refine lv_istore (lv' := [(4, .int (nI (0))), (2, .double (4604930618986332160)), (0, .double (4604930618986332160))]) hx hb dX5_bitsOf_11 hl (by decide) rfl (fun ls hl => ?_)
    refine lv_dload_n hx hb dX5_bitsOf_13 rfl (lv_at hl 1 rfl) ?_
    refine lv_dconst1 hx hb dX5_bitsOf_14 ?_
    refine n_top (y := .double 4607182418800017408) (congrArg Value.double (by decide +kernel : FP.dconst1 = (4607182418800017408 : UInt64))) ?_
    refine lv_dcmp hx hb dX5_bitsOf_15 ?_
    refine n_top (y := .int ((-1))) (congrArg Value.int (by decide +kernel : Op.cmpValue (FP.dcmp 4604930618986332160 4607182418800017408) .g = (-1))) ?_
    refine lv_if_ge (tgt := 39) hx hb dX5_bitsOf_16 (by decide) (fun c_16 => ?_) (fun c_16 => ?_)
    · skip
      exact absurd c_16 (by decide)
    · skip
      refine lv_iload hx hb dX5_bitsOf_19 (lv_at hl 0 rfl) ?_
      refine lv_sipush (v := nI 1022) hx hb dX5_bitsOf_21 (by decide) ?_
      refine n_icmp_ge (tgt := 39) hx hb dX5_bitsOf_24 (by decide) (by decide) (by decide) (fun c_24 => ?_) (fun c_24 => ?_)
      · skip
        exact absurd c_24 (by omega)
      · skip
        refine lv_dload_n hx hb dX5_bitsOf_27 rfl (lv_at hl 1 rfl) ?_
        refine lv_ldc2d (v := 4611686018427387904) hx hb C0.ow (C0.ts _ kw_X5_337) dX5_bitsOf_28 ?_
        refine lv_dmul hx hb dX5_bitsOf_31 (by unfold vf_n64; decide +kernel) ?_
        refine n_top (y := .double 4609434218613702656) (congrArg Value.double (by decide +kernel : FP.dmul 4604930618986332160 4611686018427387904 = (4609434218613702656 : UInt64))) ?_
        refine lv_dstore_n (lv' := [(2, .double (4609434218613702656)), (4, .int (nI (0))), (0, .double (4604930618986332160))]) hx hb dX5_bitsOf_32 rfl hl (by decide) rfl (fun ls hl => ?_)
        refine lv_iinc (v := nI 1) (lv' := [(4, .int (nI (1))), (2, .double (4609434218613702656)), (0, .double (4604930618986332160))]) hx hb dX5_bitsOf_33 hl (k := 1) rfl (by decide) (by decide) rfl (fun ls hl => ?_)
        refine lv_goto (tgt := 13) hx hb dX5_bitsOf_36 (by decide) ?_
        refine lv_dload_n hx hb dX5_bitsOf_13 rfl (lv_at hl 1 rfl) ?_
        refine lv_dconst1 hx hb dX5_bitsOf_14 ?_
        refine n_top (y := .double 4607182418800017408) (congrArg Value.double (by decide +kernel : FP.dconst1 = (4607182418800017408 : UInt64))) ?_
        refine lv_dcmp hx hb dX5_bitsOf_15 ?_
        refine n_top (y := .int (nI 1)) (congrArg Value.int (by decide +kernel : Op.cmpValue (FP.dcmp 4609434218613702656 4607182418800017408) .g = nI 1)) ?_
        refine n_if_ge (tgt := 39) hx hb dX5_bitsOf_16 (by decide) (by decide) ?_
        refine lv_sipush (v := nI 1023) hx hb dX5_bitsOf_39 (by decide) ?_
        refine lv_iload hx hb dX5_bitsOf_42 (lv_at hl 0 rfl) ?_
        refine n_isub hx hb (by omega) dX5_bitsOf_44 ?_
        refine n_i2l hx hb (by omega) dX5_bitsOf_45 ?_
        refine lv_lstore (lv' := [(5, .long (lN (1023 - 1))), (4, .int (nI (1))), (2, .double (4609434218613702656)), (0, .double (4604930618986332160))]) hx hb dX5_bitsOf_46 hl (by decide) rfl (fun ls hl => ?_)
        refine lv_dload_n hx hb dX5_bitsOf_48 rfl (lv_at hl 2 rfl) ?_
        refine lv_dconst1 hx hb dX5_bitsOf_49 ?_
        refine n_top (y := .double 4607182418800017408) (congrArg Value.double (by decide +kernel : FP.dconst1 = (4607182418800017408 : UInt64))) ?_
        refine lv_dsub hx hb dX5_bitsOf_50 (by unfold vf_n64; decide +kernel) ?_
        refine n_top (y := .double 4602678819172646912) (congrArg Value.double (by decide +kernel : FP.dsub 4609434218613702656 4607182418800017408 = (4602678819172646912 : UInt64))) ?_
        refine lv_ldc2d (v := 4841369599423283200) hx hb C0.ow (C0.ts _ kw_X5_339) dX5_bitsOf_51 ?_
        refine lv_dmul hx hb dX5_bitsOf_54 (by unfold vf_n64; decide +kernel) ?_
        refine n_top (y := .double 4836865999795912704) (congrArg Value.double (by decide +kernel : FP.dmul 4602678819172646912 4841369599423283200 = (4836865999795912704 : UInt64))) ?_
        refine lv_d2l hx hb dX5_bitsOf_55 ?_
        refine n_top (y := .long (lN 2251799813685248)) (congrArg Value.long (by decide +kernel : FP.d2l 4836865999795912704 = lN 2251799813685248)) ?_
        refine lv_lstore (lv' := [(7, .long (lN (2251799813685248))), (5, .long (lN (1023 - 1))), (4, .int (nI (1))), (2, .double (4609434218613702656)), (0, .double (4604930618986332160))]) hx hb dX5_bitsOf_56 hl (by decide) rfl (fun ls hl => ?_)
        refine lv_lload hx hb dX5_bitsOf_58 (lv_at hl 1 rfl) ?_
        refine lv_bipush (v := nI 52) hx hb dX5_bitsOf_60 (by decide) ?_
        refine lv_lshl (v := lN 4602678819172646912) hx hb dX5_bitsOf_62 (by decide +kernel) ?_
        refine lv_lload hx hb dX5_bitsOf_63 (lv_at hl 0 rfl) ?_
        refine n_ladd hx hb dX5_bitsOf_65 ?_
        exact r_l C0 hr hlk hw ⟨(by decide +kernel), (fun q  => rfl)⟩ (Nat.le_refl _) (Nat.le_refl _) dX5_bitsOf_66 hQ
  · skip
    exact absurd c_3 (by decide)
set_option maxHeartbeats 4000000 in
set_option maxRecDepth 100000 in
theorem c_X5_bitsOf_4605080738973911177 (l : Launch) (G : Gl) (L : List Nat) (F : Nat → va_E) : CL l yX5_bitsOf cX5_bitsOf 9 (some .long) rm_X5_bitsOf G L F [.double (4605080738973911177)] (fun r F1 => r = (4605080738973911177 : UInt64).toInt64 ∧ ∀ q, F1 q = F q) := by
  refine CG_of (by decide) (Nat.le_of_ble_eq_true rfl) rfl ?_
  intro p e s m args below meth c Q C0 hr hlk hnm hQ hw ls hl
  have hx := C0.x
  have hb := C0.b
  refine lv_dload_n hx hb dX5_bitsOf_0 rfl (lv_at hl 0 rfl) ?_
  refine lv_dconst0 hx hb dX5_bitsOf_1 ?_
  refine n_top (y := .double 0) (congrArg Value.double (by decide +kernel : FP.dconst0 = (0 : UInt64))) ?_
  refine lv_dcmp hx hb dX5_bitsOf_2 ?_
  refine n_top (y := .int (nI 1)) (congrArg Value.int (by decide +kernel : Op.cmpValue (FP.dcmp 4605080738973911177 0) .g = nI 1)) ?_
  refine n_if_gt (tgt := 8) hx hb dX5_bitsOf_3 (by decide) (by decide) (fun c_3 => ?_) (fun c_3 => ?_)
  · skip
    refine lv_dload_n hx hb dX5_bitsOf_8 rfl (lv_at hl 0 rfl) ?_
    refine lv_dstore_n (lv' := [(2, .double (4605080738973911177)), (0, .double (4605080738973911177))]) hx hb dX5_bitsOf_9 rfl hl (by decide) rfl (fun ls hl => ?_)
    refine lv_iconst (v := nI 0) hx hb dX5_bitsOf_10 (by decide) ?_
    refine lv_istore (lv' := [(4, .int (nI (0))), (2, .double (4605080738973911177)), (0, .double (4605080738973911177))]) hx hb dX5_bitsOf_11 hl (by decide) rfl (fun ls hl => ?_)
    refine lv_dload_n hx hb dX5_bitsOf_13 rfl (lv_at hl 1 rfl) ?_
    refine lv_dconst1 hx hb dX5_bitsOf_14 ?_
    refine n_top (y := .double 4607182418800017408) (congrArg Value.double (by decide +kernel : FP.dconst1 = (4607182418800017408 : UInt64))) ?_
    refine lv_dcmp hx hb dX5_bitsOf_15 ?_
    refine n_top (y := .int ((-1))) (congrArg Value.int (by decide +kernel : Op.cmpValue (FP.dcmp 4605080738973911177 4607182418800017408) .g = (-1))) ?_
    refine lv_if_ge (tgt := 39) hx hb dX5_bitsOf_16 (by decide) (fun c_16 => ?_) (fun c_16 => ?_)
    · skip
      exact absurd c_16 (by decide)
    · skip
      refine lv_iload hx hb dX5_bitsOf_19 (lv_at hl 0 rfl) ?_
      refine lv_sipush (v := nI 1022) hx hb dX5_bitsOf_21 (by decide) ?_
      refine n_icmp_ge (tgt := 39) hx hb dX5_bitsOf_24 (by decide) (by decide) (by decide) (fun c_24 => ?_) (fun c_24 => ?_)
      · skip
        exact absurd c_24 (by omega)
      · skip
        refine lv_dload_n hx hb dX5_bitsOf_27 rfl (lv_at hl 1 rfl) ?_
        refine lv_ldc2d (v := 4611686018427387904) hx hb C0.ow (C0.ts _ kw_X5_337) dX5_bitsOf_28 ?_
        refine lv_dmul hx hb dX5_bitsOf_31 (by unfold vf_n64; decide +kernel) ?_
        refine n_top (y := .double 4609584338601281673) (congrArg Value.double (by decide +kernel : FP.dmul 4605080738973911177 4611686018427387904 = (4609584338601281673 : UInt64))) ?_
        refine lv_dstore_n (lv' := [(2, .double (4609584338601281673)), (4, .int (nI (0))), (0, .double (4605080738973911177))]) hx hb dX5_bitsOf_32 rfl hl (by decide) rfl (fun ls hl => ?_)
        refine lv_iinc (v := nI 1) (lv' := [(4, .int (nI (1))), (2, .double (4609584338601281673)), (0, .double (4605080738973911177))]) hx hb dX5_bitsOf_33 hl (k := 1) rfl (by decide) (by decide) rfl (fun ls hl => ?_)
        refine lv_goto (tgt := 13) hx hb dX5_bitsOf_36 (by decide) ?_
        refine lv_dload_n hx hb dX5_bitsOf_13 rfl (lv_at hl 1 rfl) ?_
        refine lv_dconst1 hx hb dX5_bitsOf_14 ?_
        refine n_top (y := .double 4607182418800017408) (congrArg Value.double (by decide +kernel : FP.dconst1 = (4607182418800017408 : UInt64))) ?_
        refine lv_dcmp hx hb dX5_bitsOf_15 ?_
        refine n_top (y := .int (nI 1)) (congrArg Value.int (by decide +kernel : Op.cmpValue (FP.dcmp 4609584338601281673 4607182418800017408) .g = nI 1)) ?_
        refine n_if_ge (tgt := 39) hx hb dX5_bitsOf_16 (by decide) (by decide) ?_
        refine lv_sipush (v := nI 1023) hx hb dX5_bitsOf_39 (by decide) ?_
        refine lv_iload hx hb dX5_bitsOf_42 (lv_at hl 0 rfl) ?_
        refine n_isub hx hb (by omega) dX5_bitsOf_44 ?_
        refine n_i2l hx hb (by omega) dX5_bitsOf_45 ?_
        refine lv_lstore (lv' := [(5, .long (lN (1023 - 1))), (4, .int (nI (1))), (2, .double (4609584338601281673)), (0, .double (4605080738973911177))]) hx hb dX5_bitsOf_46 hl (by decide) rfl (fun ls hl => ?_)
        refine lv_dload_n hx hb dX5_bitsOf_48 rfl (lv_at hl 2 rfl) ?_
        refine lv_dconst1 hx hb dX5_bitsOf_49 ?_
        refine n_top (y := .double 4607182418800017408) (congrArg Value.double (by decide +kernel : FP.dconst1 = (4607182418800017408 : UInt64))) ?_
        refine lv_dsub hx hb dX5_bitsOf_50 (by unfold vf_n64; decide +kernel) ?_
        refine n_top (y := .double 4602979059147804946) (congrArg Value.double (by decide +kernel : FP.dsub 4609584338601281673 4607182418800017408 = (4602979059147804946 : UInt64))) ?_
        refine lv_ldc2d (v := 4841369599423283200) hx hb C0.ow (C0.ts _ kw_X5_339) dX5_bitsOf_51 ?_
        refine lv_dmul hx hb dX5_bitsOf_54 (by unfold vf_n64; decide +kernel) ?_
        refine n_top (y := .double 4837166239771070738) (congrArg Value.double (by decide +kernel : FP.dmul 4602979059147804946 4841369599423283200 = (4837166239771070738 : UInt64))) ?_
        refine lv_d2l hx hb dX5_bitsOf_55 ?_
        refine n_top (y := .long (lN 2401919801264265)) (congrArg Value.long (by decide +kernel : FP.d2l 4837166239771070738 = lN 2401919801264265)) ?_
        refine lv_lstore (lv' := [(7, .long (lN (2401919801264265))), (5, .long (lN (1023 - 1))), (4, .int (nI (1))), (2, .double (4609584338601281673)), (0, .double (4605080738973911177))]) hx hb dX5_bitsOf_56 hl (by decide) rfl (fun ls hl => ?_)
        refine lv_lload hx hb dX5_bitsOf_58 (lv_at hl 1 rfl) ?_
        refine lv_bipush (v := nI 52) hx hb dX5_bitsOf_60 (by decide) ?_
        refine lv_lshl (v := lN 4602678819172646912) hx hb dX5_bitsOf_62 (by decide +kernel) ?_
        refine lv_lload hx hb dX5_bitsOf_63 (lv_at hl 0 rfl) ?_
        refine n_ladd hx hb dX5_bitsOf_65 ?_
        exact r_l C0 hr hlk hw ⟨(by decide +kernel), (fun q  => rfl)⟩ (Nat.le_refl _) (Nat.le_refl _) dX5_bitsOf_66 hQ
  · skip
    exact absurd c_3 (by decide)
set_option maxHeartbeats 4000000 in
set_option maxRecDepth 100000 in
theorem c_X5_bitsOf_4605180818965630521 (l : Launch) (G : Gl) (L : List Nat) (F : Nat → va_E) : CL l yX5_bitsOf cX5_bitsOf 9 (some .long) rm_X5_bitsOf G L F [.double (4605180818965630521)] (fun r F1 => r = (4605180818965630521 : UInt64).toInt64 ∧ ∀ q, F1 q = F q) := by
  refine CG_of (by decide) (Nat.le_of_ble_eq_true rfl) rfl ?_
  intro p e s m args below meth c Q C0 hr hlk hnm hQ hw ls hl
  have hx := C0.x
  have hb := C0.b
  refine lv_dload_n hx hb dX5_bitsOf_0 rfl (lv_at hl 0 rfl) ?_
  refine lv_dconst0 hx hb dX5_bitsOf_1 ?_
  refine n_top (y := .double 0) (congrArg Value.double (by decide +kernel : FP.dconst0 = (0 : UInt64))) ?_
  refine lv_dcmp hx hb dX5_bitsOf_2 ?_
  refine n_top (y := .int (nI 1)) (congrArg Value.int (by decide +kernel : Op.cmpValue (FP.dcmp 4605180818965630521 0) .g = nI 1)) ?_
  refine n_if_gt (tgt := 8) hx hb dX5_bitsOf_3 (by decide) (by decide) (fun c_3 => ?_) (fun c_3 => ?_)
  · skip
    refine lv_dload_n hx hb dX5_bitsOf_8 rfl (lv_at hl 0 rfl) ?_
    refine lv_dstore_n (lv' := [(2, .double (4605180818965630521)), (0, .double (4605180818965630521))]) hx hb dX5_bitsOf_9 rfl hl (by decide) rfl (fun ls hl => ?_)
    refine lv_iconst (v := nI 0) hx hb dX5_bitsOf_10 (by decide) ?_
    refine lv_istore (lv' := [(4, .int (nI (0))), (2, .double (4605180818965630521)), (0, .double (4605180818965630521))]) hx hb dX5_bitsOf_11 hl (by decide) rfl (fun ls hl => ?_)
    refine lv_dload_n hx hb dX5_bitsOf_13 rfl (lv_at hl 1 rfl) ?_
    refine lv_dconst1 hx hb dX5_bitsOf_14 ?_
    refine n_top (y := .double 4607182418800017408) (congrArg Value.double (by decide +kernel : FP.dconst1 = (4607182418800017408 : UInt64))) ?_
    refine lv_dcmp hx hb dX5_bitsOf_15 ?_
    refine n_top (y := .int ((-1))) (congrArg Value.int (by decide +kernel : Op.cmpValue (FP.dcmp 4605180818965630521 4607182418800017408) .g = (-1))) ?_
    refine lv_if_ge (tgt := 39) hx hb dX5_bitsOf_16 (by decide) (fun c_16 => ?_) (fun c_16 => ?_)
    · skip
      exact absurd c_16 (by decide)
    · skip
      refine lv_iload hx hb dX5_bitsOf_19 (lv_at hl 0 rfl) ?_
      refine lv_sipush (v := nI 1022) hx hb dX5_bitsOf_21 (by decide) ?_
      refine n_icmp_ge (tgt := 39) hx hb dX5_bitsOf_24 (by decide) (by decide) (by decide) (fun c_24 => ?_) (fun c_24 => ?_)
      · skip
        exact absurd c_24 (by omega)
      · skip
        refine lv_dload_n hx hb dX5_bitsOf_27 rfl (lv_at hl 1 rfl) ?_
        refine lv_ldc2d (v := 4611686018427387904) hx hb C0.ow (C0.ts _ kw_X5_337) dX5_bitsOf_28 ?_
        refine lv_dmul hx hb dX5_bitsOf_31 (by unfold vf_n64; decide +kernel) ?_
        refine n_top (y := .double 4609684418593001017) (congrArg Value.double (by decide +kernel : FP.dmul 4605180818965630521 4611686018427387904 = (4609684418593001017 : UInt64))) ?_
        refine lv_dstore_n (lv' := [(2, .double (4609684418593001017)), (4, .int (nI (0))), (0, .double (4605180818965630521))]) hx hb dX5_bitsOf_32 rfl hl (by decide) rfl (fun ls hl => ?_)
        refine lv_iinc (v := nI 1) (lv' := [(4, .int (nI (1))), (2, .double (4609684418593001017)), (0, .double (4605180818965630521))]) hx hb dX5_bitsOf_33 hl (k := 1) rfl (by decide) (by decide) rfl (fun ls hl => ?_)
        refine lv_goto (tgt := 13) hx hb dX5_bitsOf_36 (by decide) ?_
        refine lv_dload_n hx hb dX5_bitsOf_13 rfl (lv_at hl 1 rfl) ?_
        refine lv_dconst1 hx hb dX5_bitsOf_14 ?_
        refine n_top (y := .double 4607182418800017408) (congrArg Value.double (by decide +kernel : FP.dconst1 = (4607182418800017408 : UInt64))) ?_
        refine lv_dcmp hx hb dX5_bitsOf_15 ?_
        refine n_top (y := .int (nI 1)) (congrArg Value.int (by decide +kernel : Op.cmpValue (FP.dcmp 4609684418593001017 4607182418800017408) .g = nI 1)) ?_
        refine n_if_ge (tgt := 39) hx hb dX5_bitsOf_16 (by decide) (by decide) ?_
        refine lv_sipush (v := nI 1023) hx hb dX5_bitsOf_39 (by decide) ?_
        refine lv_iload hx hb dX5_bitsOf_42 (lv_at hl 0 rfl) ?_
        refine n_isub hx hb (by omega) dX5_bitsOf_44 ?_
        refine n_i2l hx hb (by omega) dX5_bitsOf_45 ?_
        refine lv_lstore (lv' := [(5, .long (lN (1023 - 1))), (4, .int (nI (1))), (2, .double (4609684418593001017)), (0, .double (4605180818965630521))]) hx hb dX5_bitsOf_46 hl (by decide) rfl (fun ls hl => ?_)
        refine lv_dload_n hx hb dX5_bitsOf_48 rfl (lv_at hl 2 rfl) ?_
        refine lv_dconst1 hx hb dX5_bitsOf_49 ?_
        refine n_top (y := .double 4607182418800017408) (congrArg Value.double (by decide +kernel : FP.dconst1 = (4607182418800017408 : UInt64))) ?_
        refine lv_dsub hx hb dX5_bitsOf_50 (by unfold vf_n64; decide +kernel) ?_
        refine n_top (y := .double 4603179219131243634) (congrArg Value.double (by decide +kernel : FP.dsub 4609684418593001017 4607182418800017408 = (4603179219131243634 : UInt64))) ?_
        refine lv_ldc2d (v := 4841369599423283200) hx hb C0.ow (C0.ts _ kw_X5_339) dX5_bitsOf_51 ?_
        refine lv_dmul hx hb dX5_bitsOf_54 (by unfold vf_n64; decide +kernel) ?_
        refine n_top (y := .double 4837366399754509426) (congrArg Value.double (by decide +kernel : FP.dmul 4603179219131243634 4841369599423283200 = (4837366399754509426 : UInt64))) ?_
        refine lv_d2l hx hb dX5_bitsOf_55 ?_
        refine n_top (y := .long (lN 2501999792983609)) (congrArg Value.long (by decide +kernel : FP.d2l 4837366399754509426 = lN 2501999792983609)) ?_
        refine lv_lstore (lv' := [(7, .long (lN (2501999792983609))), (5, .long (lN (1023 - 1))), (4, .int (nI (1))), (2, .double (4609684418593001017)), (0, .double (4605180818965630521))]) hx hb dX5_bitsOf_56 hl (by decide) rfl (fun ls hl => ?_)
        refine lv_lload hx hb dX5_bitsOf_58 (lv_at hl 1 rfl) ?_
        refine lv_bipush (v := nI 52) hx hb dX5_bitsOf_60 (by decide) ?_
        refine lv_lshl (v := lN 4602678819172646912) hx hb dX5_bitsOf_62 (by decide +kernel) ?_
        refine lv_lload hx hb dX5_bitsOf_63 (lv_at hl 0 rfl) ?_
        refine n_ladd hx hb dX5_bitsOf_65 ?_
        exact r_l C0 hr hlk hw ⟨(by decide +kernel), (fun q  => rfl)⟩ (Nat.le_refl _) (Nat.le_refl _) dX5_bitsOf_66 hQ
  · skip
    exact absurd c_3 (by decide)
set_option maxHeartbeats 4000000 in
set_option maxRecDepth 100000 in
theorem c_X5_bitsOf_4605305918955279701 (l : Launch) (G : Gl) (L : List Nat) (F : Nat → va_E) : CL l yX5_bitsOf cX5_bitsOf 9 (some .long) rm_X5_bitsOf G L F [.double (4605305918955279701)] (fun r F1 => r = (4605305918955279701 : UInt64).toInt64 ∧ ∀ q, F1 q = F q) := by
  refine CG_of (by decide) (Nat.le_of_ble_eq_true rfl) rfl ?_
  intro p e s m args below meth c Q C0 hr hlk hnm hQ hw ls hl
  have hx := C0.x
  have hb := C0.b
  refine lv_dload_n hx hb dX5_bitsOf_0 rfl (lv_at hl 0 rfl) ?_
  refine lv_dconst0 hx hb dX5_bitsOf_1 ?_
  refine n_top (y := .double 0) (congrArg Value.double (by decide +kernel : FP.dconst0 = (0 : UInt64))) ?_
  refine lv_dcmp hx hb dX5_bitsOf_2 ?_
  refine n_top (y := .int (nI 1)) (congrArg Value.int (by decide +kernel : Op.cmpValue (FP.dcmp 4605305918955279701 0) .g = nI 1)) ?_
  refine n_if_gt (tgt := 8) hx hb dX5_bitsOf_3 (by decide) (by decide) (fun c_3 => ?_) (fun c_3 => ?_)
  · skip
    refine lv_dload_n hx hb dX5_bitsOf_8 rfl (lv_at hl 0 rfl) ?_
    refine lv_dstore_n (lv' := [(2, .double (4605305918955279701)), (0, .double (4605305918955279701))]) hx hb dX5_bitsOf_9 rfl hl (by decide) rfl (fun ls hl => ?_)
    refine lv_iconst (v := nI 0) hx hb dX5_bitsOf_10 (by decide) ?_
    refine lv_istore (lv' := [(4, .int (nI (0))), (2, .double (4605305918955279701)), (0, .double (4605305918955279701))]) hx hb dX5_bitsOf_11 hl (by decide) rfl (fun ls hl => ?_)
    refine lv_dload_n hx hb dX5_bitsOf_13 rfl (lv_at hl 1 rfl) ?_
    refine lv_dconst1 hx hb dX5_bitsOf_14 ?_
    refine n_top (y := .double 4607182418800017408) (congrArg Value.double (by decide +kernel : FP.dconst1 = (4607182418800017408 : UInt64))) ?_
    refine lv_dcmp hx hb dX5_bitsOf_15 ?_
    refine n_top (y := .int ((-1))) (congrArg Value.int (by decide +kernel : Op.cmpValue (FP.dcmp 4605305918955279701 4607182418800017408) .g = (-1))) ?_
    refine lv_if_ge (tgt := 39) hx hb dX5_bitsOf_16 (by decide) (fun c_16 => ?_) (fun c_16 => ?_)
    · skip
      exact absurd c_16 (by decide)
    · skip
      refine lv_iload hx hb dX5_bitsOf_19 (lv_at hl 0 rfl) ?_
      refine lv_sipush (v := nI 1022) hx hb dX5_bitsOf_21 (by decide) ?_
      refine n_icmp_ge (tgt := 39) hx hb dX5_bitsOf_24 (by decide) (by decide) (by decide) (fun c_24 => ?_) (fun c_24 => ?_)
      · skip
        exact absurd c_24 (by omega)
      · skip
        refine lv_dload_n hx hb dX5_bitsOf_27 rfl (lv_at hl 1 rfl) ?_
        refine lv_ldc2d (v := 4611686018427387904) hx hb C0.ow (C0.ts _ kw_X5_337) dX5_bitsOf_28 ?_
        refine lv_dmul hx hb dX5_bitsOf_31 (by unfold vf_n64; decide +kernel) ?_
        refine n_top (y := .double 4609809518582650197) (congrArg Value.double (by decide +kernel : FP.dmul 4605305918955279701 4611686018427387904 = (4609809518582650197 : UInt64))) ?_
        refine lv_dstore_n (lv' := [(2, .double (4609809518582650197)), (4, .int (nI (0))), (0, .double (4605305918955279701))]) hx hb dX5_bitsOf_32 rfl hl (by decide) rfl (fun ls hl => ?_)
        refine lv_iinc (v := nI 1) (lv' := [(4, .int (nI (1))), (2, .double (4609809518582650197)), (0, .double (4605305918955279701))]) hx hb dX5_bitsOf_33 hl (k := 1) rfl (by decide) (by decide) rfl (fun ls hl => ?_)
        refine lv_goto (tgt := 13) hx hb dX5_bitsOf_36 (by decide) ?_
        refine lv_dload_n hx hb dX5_bitsOf_13 rfl (lv_at hl 1 rfl) ?_
        refine lv_dconst1 hx hb dX5_bitsOf_14 ?_
        refine n_top (y := .double 4607182418800017408) (congrArg Value.double (by decide +kernel : FP.dconst1 = (4607182418800017408 : UInt64))) ?_
        refine lv_dcmp hx hb dX5_bitsOf_15 ?_
        refine n_top (y := .int (nI 1)) (congrArg Value.int (by decide +kernel : Op.cmpValue (FP.dcmp 4609809518582650197 4607182418800017408) .g = nI 1)) ?_
        refine n_if_ge (tgt := 39) hx hb dX5_bitsOf_16 (by decide) (by decide) ?_
        refine lv_sipush (v := nI 1023) hx hb dX5_bitsOf_39 (by decide) ?_
        refine lv_iload hx hb dX5_bitsOf_42 (lv_at hl 0 rfl) ?_
        refine n_isub hx hb (by omega) dX5_bitsOf_44 ?_
        refine n_i2l hx hb (by omega) dX5_bitsOf_45 ?_
        refine lv_lstore (lv' := [(5, .long (lN (1023 - 1))), (4, .int (nI (1))), (2, .double (4609809518582650197)), (0, .double (4605305918955279701))]) hx hb dX5_bitsOf_46 hl (by decide) rfl (fun ls hl => ?_)
        refine lv_dload_n hx hb dX5_bitsOf_48 rfl (lv_at hl 2 rfl) ?_
        refine lv_dconst1 hx hb dX5_bitsOf_49 ?_
        refine n_top (y := .double 4607182418800017408) (congrArg Value.double (by decide +kernel : FP.dconst1 = (4607182418800017408 : UInt64))) ?_
        refine lv_dsub hx hb dX5_bitsOf_50 (by unfold vf_n64; decide +kernel) ?_
        refine n_top (y := .double 4603429419110541994) (congrArg Value.double (by decide +kernel : FP.dsub 4609809518582650197 4607182418800017408 = (4603429419110541994 : UInt64))) ?_
        refine lv_ldc2d (v := 4841369599423283200) hx hb C0.ow (C0.ts _ kw_X5_339) dX5_bitsOf_51 ?_
        refine lv_dmul hx hb dX5_bitsOf_54 (by unfold vf_n64; decide +kernel) ?_
        refine n_top (y := .double 4837616599733807786) (congrArg Value.double (by decide +kernel : FP.dmul 4603429419110541994 4841369599423283200 = (4837616599733807786 : UInt64))) ?_
        refine lv_d2l hx hb dX5_bitsOf_55 ?_
        refine n_top (y := .long (lN 2627099782632789)) (congrArg Value.long (by decide +kernel : FP.d2l 4837616599733807786 = lN 2627099782632789)) ?_
        refine lv_lstore (lv' := [(7, .long (lN (2627099782632789))), (5, .long (lN (1023 - 1))), (4, .int (nI (1))), (2, .double (4609809518582650197)), (0, .double (4605305918955279701))]) hx hb dX5_bitsOf_56 hl (by decide) rfl (fun ls hl => ?_)
        refine lv_lload hx hb dX5_bitsOf_58 (lv_at hl 1 rfl) ?_
        refine lv_bipush (v := nI 52) hx hb dX5_bitsOf_60 (by decide) ?_
        refine lv_lshl (v := lN 4602678819172646912) hx hb dX5_bitsOf_62 (by decide +kernel) ?_
        refine lv_lload hx hb dX5_bitsOf_63 (lv_at hl 0 rfl) ?_
        refine n_ladd hx hb dX5_bitsOf_65 ?_
        exact r_l C0 hr hlk hw ⟨(by decide +kernel), (fun q  => rfl)⟩ (Nat.le_refl _) (Nat.le_refl _) dX5_bitsOf_66 hQ
  · skip
    exact absurd c_3 (by decide)
set_option maxHeartbeats 4000000 in
set_option maxRecDepth 100000 in
theorem c_X5_bitsOf_4605380978949069210 (l : Launch) (G : Gl) (L : List Nat) (F : Nat → va_E) : CL l yX5_bitsOf cX5_bitsOf 9 (some .long) rm_X5_bitsOf G L F [.double (4605380978949069210)] (fun r F1 => r = (4605380978949069210 : UInt64).toInt64 ∧ ∀ q, F1 q = F q) := by
  refine CG_of (by decide) (Nat.le_of_ble_eq_true rfl) rfl ?_
  intro p e s m args below meth c Q C0 hr hlk hnm hQ hw ls hl
  have hx := C0.x
  have hb := C0.b
  refine lv_dload_n hx hb dX5_bitsOf_0 rfl (lv_at hl 0 rfl) ?_
  refine lv_dconst0 hx hb dX5_bitsOf_1 ?_
  refine n_top (y := .double 0) (congrArg Value.double (by decide +kernel : FP.dconst0 = (0 : UInt64))) ?_
  refine lv_dcmp hx hb dX5_bitsOf_2 ?_
  refine n_top (y := .int (nI 1)) (congrArg Value.int (by decide +kernel : Op.cmpValue (FP.dcmp 4605380978949069210 0) .g = nI 1)) ?_
  refine n_if_gt (tgt := 8) hx hb dX5_bitsOf_3 (by decide) (by decide) (fun c_3 => ?_) (fun c_3 => ?_)
  · skip
    refine lv_dload_n hx hb dX5_bitsOf_8 rfl (lv_at hl 0 rfl) ?_
    refine lv_dstore_n (lv' := [(2, .double (4605380978949069210)), (0, .double (4605380978949069210))]) hx hb dX5_bitsOf_9 rfl hl (by decide) rfl (fun ls hl => ?_)
    refine lv_iconst (v := nI 0) hx hb dX5_bitsOf_10 (by decide) ?_
    refine lv_istore (lv' := [(4, .int (nI (0))), (2, .double (4605380978949069210)), (0, .double (4605380978949069210))]) hx hb dX5_bitsOf_11 hl (by decide) rfl (fun ls hl => ?_)
    refine lv_dload_n hx hb dX5_bitsOf_13 rfl (lv_at hl 1 rfl) ?_
    refine lv_dconst1 hx hb dX5_bitsOf_14 ?_
    refine n_top (y := .double 4607182418800017408) (congrArg Value.double (by decide +kernel : FP.dconst1 = (4607182418800017408 : UInt64))) ?_
    refine lv_dcmp hx hb dX5_bitsOf_15 ?_
    refine n_top (y := .int ((-1))) (congrArg Value.int (by decide +kernel : Op.cmpValue (FP.dcmp 4605380978949069210 4607182418800017408) .g = (-1))) ?_
    refine lv_if_ge (tgt := 39) hx hb dX5_bitsOf_16 (by decide) (fun c_16 => ?_) (fun c_16 => ?_)
    · skip
      exact absurd c_16 (by decide)
    · skip
      refine lv_iload hx hb dX5_bitsOf_19 (lv_at hl 0 rfl) ?_
      refine lv_sipush (v := nI 1022) hx hb dX5_bitsOf_21 (by decide) ?_
      refine n_icmp_ge (tgt := 39) hx hb dX5_bitsOf_24 (by decide) (by decide) (by decide) (fun c_24 => ?_) (fun c_24 => ?_)
      · skip
        exact absurd c_24 (by omega)
      · skip
        refine lv_dload_n hx hb dX5_bitsOf_27 rfl (lv_at hl 1 rfl) ?_
        refine lv_ldc2d (v := 4611686018427387904) hx hb C0.ow (C0.ts _ kw_X5_337) dX5_bitsOf_28 ?_
        refine lv_dmul hx hb dX5_bitsOf_31 (by unfold vf_n64; decide +kernel) ?_
        refine n_top (y := .double 4609884578576439706) (congrArg Value.double (by decide +kernel : FP.dmul 4605380978949069210 4611686018427387904 = (4609884578576439706 : UInt64))) ?_
        refine lv_dstore_n (lv' := [(2, .double (4609884578576439706)), (4, .int (nI (0))), (0, .double (4605380978949069210))]) hx hb dX5_bitsOf_32 rfl hl (by decide) rfl (fun ls hl => ?_)
        refine lv_iinc (v := nI 1) (lv' := [(4, .int (nI (1))), (2, .double (4609884578576439706)), (0, .double (4605380978949069210))]) hx hb dX5_bitsOf_33 hl (k := 1) rfl (by decide) (by decide) rfl (fun ls hl => ?_)
        refine lv_goto (tgt := 13) hx hb dX5_bitsOf_36 (by decide) ?_
        refine lv_dload_n hx hb dX5_bitsOf_13 rfl (lv_at hl 1 rfl) ?_
        refine lv_dconst1 hx hb dX5_bitsOf_14 ?_
        refine n_top (y := .double 4607182418800017408) (congrArg Value.double (by decide +kernel : FP.dconst1 = (4607182418800017408 : UInt64))) ?_
        refine lv_dcmp hx hb dX5_bitsOf_15 ?_
        refine n_top (y := .int (nI 1)) (congrArg Value.int (by decide +kernel : Op.cmpValue (FP.dcmp 4609884578576439706 4607182418800017408) .g = nI 1)) ?_
        refine n_if_ge (tgt := 39) hx hb dX5_bitsOf_16 (by decide) (by decide) ?_
        refine lv_sipush (v := nI 1023) hx hb dX5_bitsOf_39 (by decide) ?_
        refine lv_iload hx hb dX5_bitsOf_42 (lv_at hl 0 rfl) ?_
        refine n_isub hx hb (by omega) dX5_bitsOf_44 ?_
        refine n_i2l hx hb (by omega) dX5_bitsOf_45 ?_
        refine lv_lstore (lv' := [(5, .long (lN (1023 - 1))), (4, .int (nI (1))), (2, .double (4609884578576439706)), (0, .double (4605380978949069210))]) hx hb dX5_bitsOf_46 hl (by decide) rfl (fun ls hl => ?_)
        refine lv_dload_n hx hb dX5_bitsOf_48 rfl (lv_at hl 2 rfl) ?_
        refine lv_dconst1 hx hb dX5_bitsOf_49 ?_
        refine n_top (y := .double 4607182418800017408) (congrArg Value.double (by decide +kernel : FP.dconst1 = (4607182418800017408 : UInt64))) ?_
        refine lv_dsub hx hb dX5_bitsOf_50 (by unfold vf_n64; decide +kernel) ?_
        refine n_top (y := .double 4603579539098121012) (congrArg Value.double (by decide +kernel : FP.dsub 4609884578576439706 4607182418800017408 = (4603579539098121012 : UInt64))) ?_
        refine lv_ldc2d (v := 4841369599423283200) hx hb C0.ow (C0.ts _ kw_X5_339) dX5_bitsOf_51 ?_
        refine lv_dmul hx hb dX5_bitsOf_54 (by unfold vf_n64; decide +kernel) ?_
        refine n_top (y := .double 4837766719721386804) (congrArg Value.double (by decide +kernel : FP.dmul 4603579539098121012 4841369599423283200 = (4837766719721386804 : UInt64))) ?_
        refine lv_d2l hx hb dX5_bitsOf_55 ?_
        refine n_top (y := .long (lN 2702159776422298)) (congrArg Value.long (by decide +kernel : FP.d2l 4837766719721386804 = lN 2702159776422298)) ?_
        refine lv_lstore (lv' := [(7, .long (lN (2702159776422298))), (5, .long (lN (1023 - 1))), (4, .int (nI (1))), (2, .double (4609884578576439706)), (0, .double (4605380978949069210))]) hx hb dX5_bitsOf_56 hl (by decide) rfl (fun ls hl => ?_)
        refine lv_lload hx hb dX5_bitsOf_58 (lv_at hl 1 rfl) ?_
        refine lv_bipush (v := nI 52) hx hb dX5_bitsOf_60 (by decide) ?_
        refine lv_lshl (v := lN 4602678819172646912) hx hb dX5_bitsOf_62 (by decide +kernel) ?_
        refine lv_lload hx hb dX5_bitsOf_63 (lv_at hl 0 rfl) ?_
        refine n_ladd hx hb dX5_bitsOf_65 ?_
        exact r_l C0 hr hlk hw ⟨(by decide +kernel), (fun q  => rfl)⟩ (Nat.le_refl _) (Nat.le_refl _) dX5_bitsOf_66 hQ
  · skip
    exact absurd c_3 (by decide)
set_option maxHeartbeats 4000000 in
set_option maxRecDepth 100000 in
theorem c_X5_bitsOf_4605681218924227243 (l : Launch) (G : Gl) (L : List Nat) (F : Nat → va_E) : CL l yX5_bitsOf cX5_bitsOf 9 (some .long) rm_X5_bitsOf G L F [.double (4605681218924227243)] (fun r F1 => r = (4605681218924227243 : UInt64).toInt64 ∧ ∀ q, F1 q = F q) := by
  refine CG_of (by decide) (Nat.le_of_ble_eq_true rfl) rfl ?_
  intro p e s m args below meth c Q C0 hr hlk hnm hQ hw ls hl
  have hx := C0.x
  have hb := C0.b
  refine lv_dload_n hx hb dX5_bitsOf_0 rfl (lv_at hl 0 rfl) ?_
  refine lv_dconst0 hx hb dX5_bitsOf_1 ?_
  refine n_top (y := .double 0) (congrArg Value.double (by decide +kernel : FP.dconst0 = (0 : UInt64))) ?_
  refine lv_dcmp hx hb dX5_bitsOf_2 ?_
  refine n_top (y := .int (nI 1)) (congrArg Value.int (by decide +kernel : Op.cmpValue (FP.dcmp 4605681218924227243 0) .g = nI 1)) ?_
  refine n_if_gt (tgt := 8) hx hb dX5_bitsOf_3 (by decide) (by decide) (fun c_3 => ?_) (fun c_3 => ?_)
  · skip
    refine lv_dload_n hx hb dX5_bitsOf_8 rfl (lv_at hl 0 rfl) ?_
    refine lv_dstore_n (lv' := [(2, .double (4605681218924227243)), (0, .double (4605681218924227243))]) hx hb dX5_bitsOf_9 rfl hl (by decide) rfl (fun ls hl => ?_)
    refine lv_iconst (v := nI 0) hx hb dX5_bitsOf_10 (by decide) ?_
    refine lv_istore (lv' := [(4, .int (nI (0))), (2, .double (4605681218924227243)), (0, .double (4605681218924227243))]) hx hb dX5_bitsOf_11 hl (by decide) rfl (fun ls hl => ?_)
    refine lv_dload_n hx hb dX5_bitsOf_13 rfl (lv_at hl 1 rfl) ?_
    refine lv_dconst1 hx hb dX5_bitsOf_14 ?_
    refine n_top (y := .double 4607182418800017408) (congrArg Value.double (by decide +kernel : FP.dconst1 = (4607182418800017408 : UInt64))) ?_
    refine lv_dcmp hx hb dX5_bitsOf_15 ?_
    refine n_top (y := .int ((-1))) (congrArg Value.int (by decide +kernel : Op.cmpValue (FP.dcmp 4605681218924227243 4607182418800017408) .g = (-1))) ?_
    refine lv_if_ge (tgt := 39) hx hb dX5_bitsOf_16 (by decide) (fun c_16 => ?_) (fun c_16 => ?_)
    · skip
      exact absurd c_16 (by decide)
    · skip
      refine lv_iload hx hb dX5_bitsOf_19 (lv_at hl 0 rfl) ?_
      refine lv_sipush (v := nI 1022) hx hb dX5_bitsOf_21 (by decide) ?_
      refine n_icmp_ge (tgt := 39) hx hb dX5_bitsOf_24 (by decide) (by decide) (by decide) (fun c_24 => ?_) (fun c_24 => ?_)
      · skip
        exact absurd c_24 (by omega)
      · skip
        refine lv_dload_n hx hb dX5_bitsOf_27 rfl (lv_at hl 1 rfl) ?_
        refine lv_ldc2d (v := 4611686018427387904) hx hb C0.ow (C0.ts _ kw_X5_337) dX5_bitsOf_28 ?_
        refine lv_dmul hx hb dX5_bitsOf_31 (by unfold vf_n64; decide +kernel) ?_
        refine n_top (y := .double 4610184818551597739) (congrArg Value.double (by decide +kernel : FP.dmul 4605681218924227243 4611686018427387904 = (4610184818551597739 : UInt64))) ?_
        refine lv_dstore_n (lv' := [(2, .double (4610184818551597739)), (4, .int (nI (0))), (0, .double (4605681218924227243))]) hx hb dX5_bitsOf_32 rfl hl (by decide) rfl (fun ls hl => ?_)
        refine lv_iinc (v := nI 1) (lv' := [(4, .int (nI (1))), (2, .double (4610184818551597739)), (0, .double (4605681218924227243))]) hx hb dX5_bitsOf_33 hl (k := 1) rfl (by decide) (by decide) rfl (fun ls hl => ?_)
        refine lv_goto (tgt := 13) hx hb dX5_bitsOf_36 (by decide) ?_
        refine lv_dload_n hx hb dX5_bitsOf_13 rfl (lv_at hl 1 rfl) ?_
        refine lv_dconst1 hx hb dX5_bitsOf_14 ?_
        refine n_top (y := .double 4607182418800017408) (congrArg Value.double (by decide +kernel : FP.dconst1 = (4607182418800017408 : UInt64))) ?_
        refine lv_dcmp hx hb dX5_bitsOf_15 ?_
        refine n_top (y := .int (nI 1)) (congrArg Value.int (by decide +kernel : Op.cmpValue (FP.dcmp 4610184818551597739 4607182418800017408) .g = nI 1)) ?_
        refine n_if_ge (tgt := 39) hx hb dX5_bitsOf_16 (by decide) (by decide) ?_
        refine lv_sipush (v := nI 1023) hx hb dX5_bitsOf_39 (by decide) ?_
        refine lv_iload hx hb dX5_bitsOf_42 (lv_at hl 0 rfl) ?_
        refine n_isub hx hb (by omega) dX5_bitsOf_44 ?_
        refine n_i2l hx hb (by omega) dX5_bitsOf_45 ?_
        refine lv_lstore (lv' := [(5, .long (lN (1023 - 1))), (4, .int (nI (1))), (2, .double (4610184818551597739)), (0, .double (4605681218924227243))]) hx hb dX5_bitsOf_46 hl (by decide) rfl (fun ls hl => ?_)
        refine lv_dload_n hx hb dX5_bitsOf_48 rfl (lv_at hl 2 rfl) ?_
        refine lv_dconst1 hx hb dX5_bitsOf_49 ?_
        refine n_top (y := .double 4607182418800017408) (congrArg Value.double (by decide +kernel : FP.dconst1 = (4607182418800017408 : UInt64))) ?_
        refine lv_dsub hx hb dX5_bitsOf_50 (by unfold vf_n64; decide +kernel) ?_
        refine n_top (y := .double 4604180019048437078) (congrArg Value.double (by decide +kernel : FP.dsub 4610184818551597739 4607182418800017408 = (4604180019048437078 : UInt64))) ?_
        refine lv_ldc2d (v := 4841369599423283200) hx hb C0.ow (C0.ts _ kw_X5_339) dX5_bitsOf_51 ?_
        refine lv_dmul hx hb dX5_bitsOf_54 (by unfold vf_n64; decide +kernel) ?_
        refine n_top (y := .double 4838367199671702870) (congrArg Value.double (by decide +kernel : FP.dmul 4604180019048437078 4841369599423283200 = (4838367199671702870 : UInt64))) ?_
        refine lv_d2l hx hb dX5_bitsOf_55 ?_
        refine n_top (y := .long (lN 3002399751580331)) (congrArg Value.long (by decide +kernel : FP.d2l 4838367199671702870 = lN 3002399751580331)) ?_
        refine lv_lstore (lv' := [(7, .long (lN (3002399751580331))), (5, .long (lN (1023 - 1))), (4, .int (nI (1))), (2, .double (4610184818551597739)), (0, .double (4605681218924227243))]) hx hb dX5_bitsOf_56 hl (by decide) rfl (fun ls hl => ?_)
        refine lv_lload hx hb dX5_bitsOf_58 (lv_at hl 1 rfl) ?_
        refine lv_bipush (v := nI 52) hx hb dX5_bitsOf_60 (by decide) ?_
        refine lv_lshl (v := lN 4602678819172646912) hx hb dX5_bitsOf_62 (by decide +kernel) ?_
        refine lv_lload hx hb dX5_bitsOf_63 (lv_at hl 0 rfl) ?_
        refine n_ladd hx hb dX5_bitsOf_65 ?_
        exact r_l C0 hr hlk hw ⟨(by decide +kernel), (fun q  => rfl)⟩ (Nat.le_refl _) (Nat.le_refl _) dX5_bitsOf_66 hQ
  · skip
    exact absurd c_3 (by decide)
set_option maxHeartbeats 4000000 in
set_option maxRecDepth 100000 in
theorem c_X5_bitsOf_4605981458899385276 (l : Launch) (G : Gl) (L : List Nat) (F : Nat → va_E) : CL l yX5_bitsOf cX5_bitsOf 9 (some .long) rm_X5_bitsOf G L F [.double (4605981458899385276)] (fun r F1 => r = (4605981458899385276 : UInt64).toInt64 ∧ ∀ q, F1 q = F q) := by
  refine CG_of (by decide) (Nat.le_of_ble_eq_true rfl) rfl ?_
  intro p e s m args below meth c Q C0 hr hlk hnm hQ hw ls hl
  have hx := C0.x
  have hb := C0.b
  refine lv_dload_n hx hb dX5_bitsOf_0 rfl (lv_at hl 0 rfl) ?_
  refine lv_dconst0 hx hb dX5_bitsOf_1 ?_
  refine n_top (y := .double 0) (congrArg Value.double (by decide +kernel : FP.dconst0 = (0 : UInt64))) ?_
  refine lv_dcmp hx hb dX5_bitsOf_2 ?_
  refine n_top (y := .int (nI 1)) (congrArg Value.int (by decide +kernel : Op.cmpValue (FP.dcmp 4605981458899385276 0) .g = nI 1)) ?_
  refine n_if_gt (tgt := 8) hx hb dX5_bitsOf_3 (by decide) (by decide) (fun c_3 => ?_) (fun c_3 => ?_)
  · skip
    refine lv_dload_n hx hb dX5_bitsOf_8 rfl (lv_at hl 0 rfl) ?_
    refine lv_dstore_n (lv' := [(2, .double (4605981458899385276)), (0, .double (4605981458899385276))]) hx hb dX5_bitsOf_9 rfl hl (by decide) rfl (fun ls hl => ?_)
    refine lv_iconst (v := nI 0) hx hb dX5_bitsOf_10 (by decide) ?_
    refine lv_istore (lv' := [(4, .int (nI (0))), (2, .double (4605981458899385276)), (0, .double (4605981458899385276))]) hx hb dX5_bitsOf_11 hl (by decide) rfl (fun ls hl => ?_)
    refine lv_dload_n hx hb dX5_bitsOf_13 rfl (lv_at hl 1 rfl) ?_
    refine lv_dconst1 hx hb dX5_bitsOf_14 ?_
    refine n_top (y := .double 4607182418800017408) (congrArg Value.double (by decide +kernel : FP.dconst1 = (4607182418800017408 : UInt64))) ?_
    refine lv_dcmp hx hb dX5_bitsOf_15 ?_
    refine n_top (y := .int ((-1))) (congrArg Value.int (by decide +kernel : Op.cmpValue (FP.dcmp 4605981458899385276 4607182418800017408) .g = (-1))) ?_
    refine lv_if_ge (tgt := 39) hx hb dX5_bitsOf_16 (by decide) (fun c_16 => ?_) (fun c_16 => ?_)
    · skip
      exact absurd c_16 (by decide)
    · skip
      refine lv_iload hx hb dX5_bitsOf_19 (lv_at hl 0 rfl) ?_
      refine lv_sipush (v := nI 1022) hx hb dX5_bitsOf_21 (by decide) ?_
      refine n_icmp_ge (tgt := 39) hx hb dX5_bitsOf_24 (by decide) (by decide) (by decide) (fun c_24 => ?_) (fun c_24 => ?_)
      · skip
        exact absurd c_24 (by omega)
      · skip
        refine lv_dload_n hx hb dX5_bitsOf_27 rfl (lv_at hl 1 rfl) ?_
        refine lv_ldc2d (v := 4611686018427387904) hx hb C0.ow (C0.ts _ kw_X5_337) dX5_bitsOf_28 ?_
        refine lv_dmul hx hb dX5_bitsOf_31 (by unfold vf_n64; decide +kernel) ?_
        refine n_top (y := .double 4610485058526755772) (congrArg Value.double (by decide +kernel : FP.dmul 4605981458899385276 4611686018427387904 = (4610485058526755772 : UInt64))) ?_
        refine lv_dstore_n (lv' := [(2, .double (4610485058526755772)), (4, .int (nI (0))), (0, .double (4605981458899385276))]) hx hb dX5_bitsOf_32 rfl hl (by decide) rfl (fun ls hl => ?_)
        refine lv_iinc (v := nI 1) (lv' := [(4, .int (nI (1))), (2, .double (4610485058526755772)), (0, .double (4605981458899385276))]) hx hb dX5_bitsOf_33 hl (k := 1) rfl (by decide) (by decide) rfl (fun ls hl => ?_)
        refine lv_goto (tgt := 13) hx hb dX5_bitsOf_36 (by decide) ?_
        refine lv_dload_n hx hb dX5_bitsOf_13 rfl (lv_at hl 1 rfl) ?_
        refine lv_dconst1 hx hb dX5_bitsOf_14 ?_
        refine n_top (y := .double 4607182418800017408) (congrArg Value.double (by decide +kernel : FP.dconst1 = (4607182418800017408 : UInt64))) ?_
        refine lv_dcmp hx hb dX5_bitsOf_15 ?_
        refine n_top (y := .int (nI 1)) (congrArg Value.int (by decide +kernel : Op.cmpValue (FP.dcmp 4610485058526755772 4607182418800017408) .g = nI 1)) ?_
        refine n_if_ge (tgt := 39) hx hb dX5_bitsOf_16 (by decide) (by decide) ?_
        refine lv_sipush (v := nI 1023) hx hb dX5_bitsOf_39 (by decide) ?_
        refine lv_iload hx hb dX5_bitsOf_42 (lv_at hl 0 rfl) ?_
        refine n_isub hx hb (by omega) dX5_bitsOf_44 ?_
        refine n_i2l hx hb (by omega) dX5_bitsOf_45 ?_
        refine lv_lstore (lv' := [(5, .long (lN (1023 - 1))), (4, .int (nI (1))), (2, .double (4610485058526755772)), (0, .double (4605981458899385276))]) hx hb dX5_bitsOf_46 hl (by decide) rfl (fun ls hl => ?_)
        refine lv_dload_n hx hb dX5_bitsOf_48 rfl (lv_at hl 2 rfl) ?_
        refine lv_dconst1 hx hb dX5_bitsOf_49 ?_
        refine n_top (y := .double 4607182418800017408) (congrArg Value.double (by decide +kernel : FP.dconst1 = (4607182418800017408 : UInt64))) ?_
        refine lv_dsub hx hb dX5_bitsOf_50 (by unfold vf_n64; decide +kernel) ?_
        refine n_top (y := .double 4604780498998753144) (congrArg Value.double (by decide +kernel : FP.dsub 4610485058526755772 4607182418800017408 = (4604780498998753144 : UInt64))) ?_
        refine lv_ldc2d (v := 4841369599423283200) hx hb C0.ow (C0.ts _ kw_X5_339) dX5_bitsOf_51 ?_
        refine lv_dmul hx hb dX5_bitsOf_54 (by unfold vf_n64; decide +kernel) ?_
        refine n_top (y := .double 4838967679622018936) (congrArg Value.double (by decide +kernel : FP.dmul 4604780498998753144 4841369599423283200 = (4838967679622018936 : UInt64))) ?_
        refine lv_d2l hx hb dX5_bitsOf_55 ?_
        refine n_top (y := .long (lN 3302639726738364)) (congrArg Value.long (by decide +kernel : FP.d2l 4838967679622018936 = lN 3302639726738364)) ?_
        refine lv_lstore (lv' := [(7, .long (lN (3302639726738364))), (5, .long (lN (1023 - 1))), (4, .int (nI (1))), (2, .double (4610485058526755772)), (0, .double (4605981458899385276))]) hx hb dX5_bitsOf_56 hl (by decide) rfl (fun ls hl => ?_)
        refine lv_lload hx hb dX5_bitsOf_58 (lv_at hl 1 rfl) ?_
        refine lv_bipush (v := nI 52) hx hb dX5_bitsOf_60 (by decide) ?_
        refine lv_lshl (v := lN 4602678819172646912) hx hb dX5_bitsOf_62 (by decide +kernel) ?_
        refine lv_lload hx hb dX5_bitsOf_63 (lv_at hl 0 rfl) ?_
        refine n_ladd hx hb dX5_bitsOf_65 ?_
        exact r_l C0 hr hlk hw ⟨(by decide +kernel), (fun q  => rfl)⟩ (Nat.le_refl _) (Nat.le_refl _) dX5_bitsOf_66 hQ
  · skip
    exact absurd c_3 (by decide)
set_option maxHeartbeats 4000000 in
set_option maxRecDepth 100000 in
theorem c_X5_bitsOf_4606056518893174784 (l : Launch) (G : Gl) (L : List Nat) (F : Nat → va_E) : CL l yX5_bitsOf cX5_bitsOf 9 (some .long) rm_X5_bitsOf G L F [.double (4606056518893174784)] (fun r F1 => r = (4606056518893174784 : UInt64).toInt64 ∧ ∀ q, F1 q = F q) := by
  refine CG_of (by decide) (Nat.le_of_ble_eq_true rfl) rfl ?_
  intro p e s m args below meth c Q C0 hr hlk hnm hQ hw ls hl
  have hx := C0.x
  have hb := C0.b
  refine lv_dload_n hx hb dX5_bitsOf_0 rfl (lv_at hl 0 rfl) ?_
  refine lv_dconst0 hx hb dX5_bitsOf_1 ?_
  refine n_top (y := .double 0) (congrArg Value.double (by decide +kernel : FP.dconst0 = (0 : UInt64))) ?_
  refine lv_dcmp hx hb dX5_bitsOf_2 ?_
  refine n_top (y := .int (nI 1)) (congrArg Value.int (by decide +kernel : Op.cmpValue (FP.dcmp 4606056518893174784 0) .g = nI 1)) ?_
  refine n_if_gt (tgt := 8) hx hb dX5_bitsOf_3 (by decide) (by decide) (fun c_3 => ?_) (fun c_3 => ?_)
  · skip
    refine lv_dload_n hx hb dX5_bitsOf_8 rfl (lv_at hl 0 rfl) ?_
    refine lv_dstore_n (lv' := [(2, .double (4606056518893174784)), (0, .double (4606056518893174784))]) hx hb dX5_bitsOf_9 rfl hl (by decide) rfl (fun ls hl => ?_)
    refine lv_iconst (v := nI 0) hx hb dX5_bitsOf_10 (by decide) ?_
    refine lv_istore (lv' := [(4, .int (nI (0))), (2, .double (4606056518893174784)), (0, .double (4606056518893174784))]) hx hb dX5_bitsOf_11 hl (by decide) rfl (fun ls hl => ?_)
    refine lv_dload_n hx hb dX5_bitsOf_13 rfl (lv_at hl 1 rfl) ?_
    refine lv_dconst1 hx hb dX5_bitsOf_14 ?_
    refine n_top (y := .double 4607182418800017408) (congrArg Value.double (by decide +kernel : FP.dconst1 = (4607182418800017408 : UInt64))) ?_
    refine lv_dcmp hx hb dX5_bitsOf_15 ?_
    refine n_top (y := .int ((-1))) (congrArg Value.int (by decide +kernel : Op.cmpValue (FP.dcmp 4606056518893174784 4607182418800017408) .g = (-1))) ?_
    refine lv_if_ge (tgt := 39) hx hb dX5_bitsOf_16 (by decide) (fun c_16 => ?_) (fun c_16 => ?_)
    · skip
      exact absurd c_16 (by decide)
    · skip
      refine lv_iload hx hb dX5_bitsOf_19 (lv_at hl 0 rfl) ?_
      refine lv_sipush (v := nI 1022) hx hb dX5_bitsOf_21 (by decide) ?_
      refine n_icmp_ge (tgt := 39) hx hb dX5_bitsOf_24 (by decide) (by decide) (by decide) (fun c_24 => ?_) (fun c_24 => ?_)
      · skip
        exact absurd c_24 (by omega)
      · skip
        refine lv_dload_n hx hb dX5_bitsOf_27 rfl (lv_at hl 1 rfl) ?_
        refine lv_ldc2d (v := 4611686018427387904) hx hb C0.ow (C0.ts _ kw_X5_337) dX5_bitsOf_28 ?_
        refine lv_dmul hx hb dX5_bitsOf_31 (by unfold vf_n64; decide +kernel) ?_
        refine n_top (y := .double 4610560118520545280) (congrArg Value.double (by decide +kernel : FP.dmul 4606056518893174784 4611686018427387904 = (4610560118520545280 : UInt64))) ?_
        refine lv_dstore_n (lv' := [(2, .double (4610560118520545280)), (4, .int (nI (0))), (0, .double (4606056518893174784))]) hx hb dX5_bitsOf_32 rfl hl (by decide) rfl (fun ls hl => ?_)
        refine lv_iinc (v := nI 1) (lv' := [(4, .int (nI (1))), (2, .double (4610560118520545280)), (0, .double (4606056518893174784))]) hx hb dX5_bitsOf_33 hl (k := 1) rfl (by decide) (by decide) rfl (fun ls hl => ?_)
        refine lv_goto (tgt := 13) hx hb dX5_bitsOf_36 (by decide) ?_
        refine lv_dload_n hx hb dX5_bitsOf_13 rfl (lv_at hl 1 rfl) ?_
        refine lv_dconst1 hx hb dX5_bitsOf_14 ?_
        refine n_top (y := .double 4607182418800017408) (congrArg Value.double (by decide +kernel : FP.dconst1 = (4607182418800017408 : UInt64))) ?_
        refine lv_dcmp hx hb dX5_bitsOf_15 ?_
        refine n_top (y := .int (nI 1)) (congrArg Value.int (by decide +kernel : Op.cmpValue (FP.dcmp 4610560118520545280 4607182418800017408) .g = nI 1)) ?_
        refine n_if_ge (tgt := 39) hx hb dX5_bitsOf_16 (by decide) (by decide) ?_
        refine lv_sipush (v := nI 1023) hx hb dX5_bitsOf_39 (by decide) ?_
        refine lv_iload hx hb dX5_bitsOf_42 (lv_at hl 0 rfl) ?_
        refine n_isub hx hb (by omega) dX5_bitsOf_44 ?_
        refine n_i2l hx hb (by omega) dX5_bitsOf_45 ?_
        refine lv_lstore (lv' := [(5, .long (lN (1023 - 1))), (4, .int (nI (1))), (2, .double (4610560118520545280)), (0, .double (4606056518893174784))]) hx hb dX5_bitsOf_46 hl (by decide) rfl (fun ls hl => ?_)
        refine lv_dload_n hx hb dX5_bitsOf_48 rfl (lv_at hl 2 rfl) ?_
        refine lv_dconst1 hx hb dX5_bitsOf_49 ?_
        refine n_top (y := .double 4607182418800017408) (congrArg Value.double (by decide +kernel : FP.dconst1 = (4607182418800017408 : UInt64))) ?_
        refine lv_dsub hx hb dX5_bitsOf_50 (by unfold vf_n64; decide +kernel) ?_
        refine n_top (y := .double 4604930618986332160) (congrArg Value.double (by decide +kernel : FP.dsub 4610560118520545280 4607182418800017408 = (4604930618986332160 : UInt64))) ?_
        refine lv_ldc2d (v := 4841369599423283200) hx hb C0.ow (C0.ts _ kw_X5_339) dX5_bitsOf_51 ?_
        refine lv_dmul hx hb dX5_bitsOf_54 (by unfold vf_n64; decide +kernel) ?_
        refine n_top (y := .double 4839117799609597952) (congrArg Value.double (by decide +kernel : FP.dmul 4604930618986332160 4841369599423283200 = (4839117799609597952 : UInt64))) ?_
        refine lv_d2l hx hb dX5_bitsOf_55 ?_
        refine n_top (y := .long (lN 3377699720527872)) (congrArg Value.long (by decide +kernel : FP.d2l 4839117799609597952 = lN 3377699720527872)) ?_
        refine lv_lstore (lv' := [(7, .long (lN (3377699720527872))), (5, .long (lN (1023 - 1))), (4, .int (nI (1))), (2, .double (4610560118520545280)), (0, .double (4606056518893174784))]) hx hb dX5_bitsOf_56 hl (by decide) rfl (fun ls hl => ?_)
        refine lv_lload hx hb dX5_bitsOf_58 (lv_at hl 1 rfl) ?_
        refine lv_bipush (v := nI 52) hx hb dX5_bitsOf_60 (by decide) ?_
        refine lv_lshl (v := lN 4602678819172646912) hx hb dX5_bitsOf_62 (by decide +kernel) ?_
        refine lv_lload hx hb dX5_bitsOf_63 (lv_at hl 0 rfl) ?_
        refine n_ladd hx hb dX5_bitsOf_65 ?_
        exact r_l C0 hr hlk hw ⟨(by decide +kernel), (fun q  => rfl)⟩ (Nat.le_refl _) (Nat.le_refl _) dX5_bitsOf_66 hQ
  · skip
    exact absurd c_3 (by decide)
set_option maxHeartbeats 4000000 in
set_option maxRecDepth 100000 in
theorem c_X5_bitsOf_4606181618882823964 (l : Launch) (G : Gl) (L : List Nat) (F : Nat → va_E) : CL l yX5_bitsOf cX5_bitsOf 9 (some .long) rm_X5_bitsOf G L F [.double (4606181618882823964)] (fun r F1 => r = (4606181618882823964 : UInt64).toInt64 ∧ ∀ q, F1 q = F q) := by
  refine CG_of (by decide) (Nat.le_of_ble_eq_true rfl) rfl ?_
  intro p e s m args below meth c Q C0 hr hlk hnm hQ hw ls hl
  have hx := C0.x
  have hb := C0.b
  refine lv_dload_n hx hb dX5_bitsOf_0 rfl (lv_at hl 0 rfl) ?_
  refine lv_dconst0 hx hb dX5_bitsOf_1 ?_
  refine n_top (y := .double 0) (congrArg Value.double (by decide +kernel : FP.dconst0 = (0 : UInt64))) ?_
  refine lv_dcmp hx hb dX5_bitsOf_2 ?_
  refine n_top (y := .int (nI 1)) (congrArg Value.int (by decide +kernel : Op.cmpValue (FP.dcmp 4606181618882823964 0) .g = nI 1)) ?_
  refine n_if_gt (tgt := 8) hx hb dX5_bitsOf_3 (by decide) (by decide) (fun c_3 => ?_) (fun c_3 => ?_)
  · skip
    refine lv_dload_n hx hb dX5_bitsOf_8 rfl (lv_at hl 0 rfl) ?_
    refine lv_dstore_n (lv' := [(2, .double (4606181618882823964)), (0, .double (4606181618882823964))]) hx hb dX5_bitsOf_9 rfl hl (by decide) rfl (fun ls hl => ?_)
    refine lv_iconst (v := nI 0) hx hb dX5_bitsOf_10 (by decide) ?_
    refine lv_istore (lv' := [(4, .int (nI (0))), (2, .double (4606181618882823964)), (0, .double (4606181618882823964))]) hx hb dX5_bitsOf_11 hl (by decide) rfl (fun ls hl => ?_)
    refine lv_dload_n hx hb dX5_bitsOf_13 rfl (lv_at hl 1 rfl) ?_
    refine lv_dconst1 hx hb dX5_bitsOf_14 ?_
    refine n_top (y := .double 4607182418800017408) (congrArg Value.double (by decide +kernel : FP.dconst1 = (4607182418800017408 : UInt64))) ?_
    refine lv_dcmp hx hb dX5_bitsOf_15 ?_
    refine n_top (y := .int ((-1))) (congrArg Value.int (by decide +kernel : Op.cmpValue (FP.dcmp 4606181618882823964 4607182418800017408) .g = (-1))) ?_
    refine lv_if_ge (tgt := 39) hx hb dX5_bitsOf_16 (by decide) (fun c_16 => ?_) (fun c_16 => ?_)
    · skip
      exact absurd c_16 (by decide)
    · skip
      refine lv_iload hx hb dX5_bitsOf_19 (lv_at hl 0 rfl) ?_
      refine lv_sipush (v := nI 1022) hx hb dX5_bitsOf_21 (by decide) ?_
      refine n_icmp_ge (tgt := 39) hx hb dX5_bitsOf_24 (by decide) (by decide) (by decide) (fun c_24 => ?_) (fun c_24 => ?_)
      · skip
        exact absurd c_24 (by omega)
      · skip
        refine lv_dload_n hx hb dX5_bitsOf_27 rfl (lv_at hl 1 rfl) ?_
        refine lv_ldc2d (v := 4611686018427387904) hx hb C0.ow (C0.ts _ kw_X5_337) dX5_bitsOf_28 ?_
        refine lv_dmul hx hb dX5_bitsOf_31 (by unfold vf_n64; decide +kernel) ?_
        refine n_top (y := .double 4610685218510194460) (congrArg Value.double (by decide +kernel : FP.dmul 4606181618882823964 4611686018427387904 = (4610685218510194460 : UInt64))) ?_
        refine lv_dstore_n (lv' := [(2, .double (4610685218510194460)), (4, .int (nI (0))), (0, .double (4606181618882823964))]) hx hb dX5_bitsOf_32 rfl hl (by decide) rfl (fun ls hl => ?_)
        refine lv_iinc (v := nI 1) (lv' := [(4, .int (nI (1))), (2, .double (4610685218510194460)), (0, .double (4606181618882823964))]) hx hb dX5_bitsOf_33 hl (k := 1) rfl (by decide) (by decide) rfl (fun ls hl => ?_)
        refine lv_goto (tgt := 13) hx hb dX5_bitsOf_36 (by decide) ?_
        refine lv_dload_n hx hb dX5_bitsOf_13 rfl (lv_at hl 1 rfl) ?_
        refine lv_dconst1 hx hb dX5_bitsOf_14 ?_
        refine n_top (y := .double 4607182418800017408) (congrArg Value.double (by decide +kernel : FP.dconst1 = (4607182418800017408 : UInt64))) ?_
        refine lv_dcmp hx hb dX5_bitsOf_15 ?_
        refine n_top (y := .int (nI 1)) (congrArg Value.int (by decide +kernel : Op.cmpValue (FP.dcmp 4610685218510194460 4607182418800017408) .g = nI 1)) ?_
        refine n_if_ge (tgt := 39) hx hb dX5_bitsOf_16 (by decide) (by decide) ?_
        refine lv_sipush (v := nI 1023) hx hb dX5_bitsOf_39 (by decide) ?_
        refine lv_iload hx hb dX5_bitsOf_42 (lv_at hl 0 rfl) ?_
        refine n_isub hx hb (by omega) dX5_bitsOf_44 ?_
        refine n_i2l hx hb (by omega) dX5_bitsOf_45 ?_
        refine lv_lstore (lv' := [(5, .long (lN (1023 - 1))), (4, .int (nI (1))), (2, .double (4610685218510194460)), (0, .double (4606181618882823964))]) hx hb dX5_bitsOf_46 hl (by decide) rfl (fun ls hl => ?_)
        refine lv_dload_n hx hb dX5_bitsOf_48 rfl (lv_at hl 2 rfl) ?_
        refine lv_dconst1 hx hb dX5_bitsOf_49 ?_
        refine n_top (y := .double 4607182418800017408) (congrArg Value.double (by decide +kernel : FP.dconst1 = (4607182418800017408 : UInt64))) ?_
        refine lv_dsub hx hb dX5_bitsOf_50 (by unfold vf_n64; decide +kernel) ?_
        refine n_top (y := .double 4605180818965630520) (congrArg Value.double (by decide +kernel : FP.dsub 4610685218510194460 4607182418800017408 = (4605180818965630520 : UInt64))) ?_
        refine lv_ldc2d (v := 4841369599423283200) hx hb C0.ow (C0.ts _ kw_X5_339) dX5_bitsOf_51 ?_
        refine lv_dmul hx hb dX5_bitsOf_54 (by unfold vf_n64; decide +kernel) ?_
        refine n_top (y := .double 4839367999588896312) (congrArg Value.double (by decide +kernel : FP.dmul 4605180818965630520 4841369599423283200 = (4839367999588896312 : UInt64))) ?_
        refine lv_d2l hx hb dX5_bitsOf_55 ?_
        refine n_top (y := .long (lN 3502799710177052)) (congrArg Value.long (by decide +kernel : FP.d2l 4839367999588896312 = lN 3502799710177052)) ?_
        refine lv_lstore (lv' := [(7, .long (lN (3502799710177052))), (5, .long (lN (1023 - 1))), (4, .int (nI (1))), (2, .double (4610685218510194460)), (0, .double (4606181618882823964))]) hx hb dX5_bitsOf_56 hl (by decide) rfl (fun ls hl => ?_)
        refine lv_lload hx hb dX5_bitsOf_58 (lv_at hl 1 rfl) ?_
        refine lv_bipush (v := nI 52) hx hb dX5_bitsOf_60 (by decide) ?_
        refine lv_lshl (v := lN 4602678819172646912) hx hb dX5_bitsOf_62 (by decide +kernel) ?_
        refine lv_lload hx hb dX5_bitsOf_63 (lv_at hl 0 rfl) ?_
        refine n_ladd hx hb dX5_bitsOf_65 ?_
        exact r_l C0 hr hlk hw ⟨(by decide +kernel), (fun q  => rfl)⟩ (Nat.le_refl _) (Nat.le_refl _) dX5_bitsOf_66 hQ
  · skip
    exact absurd c_3 (by decide)
set_option maxHeartbeats 4000000 in
set_option maxRecDepth 100000 in
theorem c_X5_bitsOf_4606281698874543309 (l : Launch) (G : Gl) (L : List Nat) (F : Nat → va_E) : CL l yX5_bitsOf cX5_bitsOf 9 (some .long) rm_X5_bitsOf G L F [.double (4606281698874543309)] (fun r F1 => r = (4606281698874543309 : UInt64).toInt64 ∧ ∀ q, F1 q = F q) := by
  refine CG_of (by decide) (Nat.le_of_ble_eq_true rfl) rfl ?_
  intro p e s m args below meth c Q C0 hr hlk hnm hQ hw ls hl
  have hx := C0.x
  have hb := C0.b
  refine lv_dload_n hx hb dX5_bitsOf_0 rfl (lv_at hl 0 rfl) ?_
  refine lv_dconst0 hx hb dX5_bitsOf_1 ?_
  refine n_top (y := .double 0) (congrArg Value.double (by decide +kernel : FP.dconst0 = (0 : UInt64))) ?_
  refine lv_dcmp hx hb dX5_bitsOf_2 ?_
  refine n_top (y := .int (nI 1)) (congrArg Value.int (by decide +kernel : Op.cmpValue (FP.dcmp 4606281698874543309 0) .g = nI 1)) ?_
  refine n_if_gt (tgt := 8) hx hb dX5_bitsOf_3 (by decide) (by decide) (fun c_3 => ?_) (fun c_3 => ?_)
  · skip
    refine lv_dload_n hx hb dX5_bitsOf_8 rfl (lv_at hl 0 rfl) ?_
    refine lv_dstore_n (lv' := [(2, .double (4606281698874543309)), (0, .double (4606281698874543309))]) hx hb dX5_bitsOf_9 rfl hl (by decide) rfl (fun ls hl => ?_)
    refine lv_iconst (v := nI 0) hx hb dX5_bitsOf_10 (by decide) ?_
    refine lv_istore (lv' := [(4, .int (nI (0))), (2, .double (4606281698874543309)), (0, .double (4606281698874543309))]) hx hb dX5_bitsOf_11 hl (by decide) rfl (fun ls hl => ?_)
    refine lv_dload_n hx hb dX5_bitsOf_13 rfl (lv_at hl 1 rfl) ?_
    refine lv_dconst1 hx hb dX5_bitsOf_14 ?_
    refine n_top (y := .double 4607182418800017408) (congrArg Value.double (by decide +kernel : FP.dconst1 = (4607182418800017408 : UInt64))) ?_
    refine lv_dcmp hx hb dX5_bitsOf_15 ?_
    refine n_top (y := .int ((-1))) (congrArg Value.int (by decide +kernel : Op.cmpValue (FP.dcmp 4606281698874543309 4607182418800017408) .g = (-1))) ?_
    refine lv_if_ge (tgt := 39) hx hb dX5_bitsOf_16 (by decide) (fun c_16 => ?_) (fun c_16 => ?_)
    · skip
      exact absurd c_16 (by decide)
    · skip
      refine lv_iload hx hb dX5_bitsOf_19 (lv_at hl 0 rfl) ?_
      refine lv_sipush (v := nI 1022) hx hb dX5_bitsOf_21 (by decide) ?_
      refine n_icmp_ge (tgt := 39) hx hb dX5_bitsOf_24 (by decide) (by decide) (by decide) (fun c_24 => ?_) (fun c_24 => ?_)
      · skip
        exact absurd c_24 (by omega)
      · skip
        refine lv_dload_n hx hb dX5_bitsOf_27 rfl (lv_at hl 1 rfl) ?_
        refine lv_ldc2d (v := 4611686018427387904) hx hb C0.ow (C0.ts _ kw_X5_337) dX5_bitsOf_28 ?_
        refine lv_dmul hx hb dX5_bitsOf_31 (by unfold vf_n64; decide +kernel) ?_
        refine n_top (y := .double 4610785298501913805) (congrArg Value.double (by decide +kernel : FP.dmul 4606281698874543309 4611686018427387904 = (4610785298501913805 : UInt64))) ?_
        refine lv_dstore_n (lv' := [(2, .double (4610785298501913805)), (4, .int (nI (0))), (0, .double (4606281698874543309))]) hx hb dX5_bitsOf_32 rfl hl (by decide) rfl (fun ls hl => ?_)
        refine lv_iinc (v := nI 1) (lv' := [(4, .int (nI (1))), (2, .double (4610785298501913805)), (0, .double (4606281698874543309))]) hx hb dX5_bitsOf_33 hl (k := 1) rfl (by decide) (by decide) rfl (fun ls hl => ?_)
        refine lv_goto (tgt := 13) hx hb dX5_bitsOf_36 (by decide) ?_
        refine lv_dload_n hx hb dX5_bitsOf_13 rfl (lv_at hl 1 rfl) ?_
        refine lv_dconst1 hx hb dX5_bitsOf_14 ?_
        refine n_top (y := .double 4607182418800017408) (congrArg Value.double (by decide +kernel : FP.dconst1 = (4607182418800017408 : UInt64))) ?_
        refine lv_dcmp hx hb dX5_bitsOf_15 ?_
        refine n_top (y := .int (nI 1)) (congrArg Value.int (by decide +kernel : Op.cmpValue (FP.dcmp 4610785298501913805 4607182418800017408) .g = nI 1)) ?_
        refine n_if_ge (tgt := 39) hx hb dX5_bitsOf_16 (by decide) (by decide) ?_
        refine lv_sipush (v := nI 1023) hx hb dX5_bitsOf_39 (by decide) ?_
        refine lv_iload hx hb dX5_bitsOf_42 (lv_at hl 0 rfl) ?_
        refine n_isub hx hb (by omega) dX5_bitsOf_44 ?_
        refine n_i2l hx hb (by omega) dX5_bitsOf_45 ?_
        refine lv_lstore (lv' := [(5, .long (lN (1023 - 1))), (4, .int (nI (1))), (2, .double (4610785298501913805)), (0, .double (4606281698874543309))]) hx hb dX5_bitsOf_46 hl (by decide) rfl (fun ls hl => ?_)
        refine lv_dload_n hx hb dX5_bitsOf_48 rfl (lv_at hl 2 rfl) ?_
        refine lv_dconst1 hx hb dX5_bitsOf_49 ?_
        refine n_top (y := .double 4607182418800017408) (congrArg Value.double (by decide +kernel : FP.dconst1 = (4607182418800017408 : UInt64))) ?_
        refine lv_dsub hx hb dX5_bitsOf_50 (by unfold vf_n64; decide +kernel) ?_
        refine n_top (y := .double 4605380978949069210) (congrArg Value.double (by decide +kernel : FP.dsub 4610785298501913805 4607182418800017408 = (4605380978949069210 : UInt64))) ?_
        refine lv_ldc2d (v := 4841369599423283200) hx hb C0.ow (C0.ts _ kw_X5_339) dX5_bitsOf_51 ?_
        refine lv_dmul hx hb dX5_bitsOf_54 (by unfold vf_n64; decide +kernel) ?_
        refine n_top (y := .double 4839568159572335002) (congrArg Value.double (by decide +kernel : FP.dmul 4605380978949069210 4841369599423283200 = (4839568159572335002 : UInt64))) ?_
        refine lv_d2l hx hb dX5_bitsOf_55 ?_
        refine n_top (y := .long (lN 3602879701896397)) (congrArg Value.long (by decide +kernel : FP.d2l 4839568159572335002 = lN 3602879701896397)) ?_
        refine lv_lstore (lv' := [(7, .long (lN (3602879701896397))), (5, .long (lN (1023 - 1))), (4, .int (nI (1))), (2, .double (4610785298501913805)), (0, .double (4606281698874543309))]) hx hb dX5_bitsOf_56 hl (by decide) rfl (fun ls hl => ?_)
        refine lv_lload hx hb dX5_bitsOf_58 (lv_at hl 1 rfl) ?_
        refine lv_bipush (v := nI 52) hx hb dX5_bitsOf_60 (by decide) ?_
        refine lv_lshl (v := lN 4602678819172646912) hx hb dX5_bitsOf_62 (by decide +kernel) ?_
        refine lv_lload hx hb dX5_bitsOf_63 (lv_at hl 0 rfl) ?_
        refine n_ladd hx hb dX5_bitsOf_65 ?_
        exact r_l C0 hr hlk hw ⟨(by decide +kernel), (fun q  => rfl)⟩ (Nat.le_refl _) (Nat.le_refl _) dX5_bitsOf_66 hQ
  · skip
    exact absurd c_3 (by decide)
set_option maxHeartbeats 4000000 in
set_option maxRecDepth 100000 in
theorem c_X5_bitsOf_4606431818862122325 (l : Launch) (G : Gl) (L : List Nat) (F : Nat → va_E) : CL l yX5_bitsOf cX5_bitsOf 9 (some .long) rm_X5_bitsOf G L F [.double (4606431818862122325)] (fun r F1 => r = (4606431818862122325 : UInt64).toInt64 ∧ ∀ q, F1 q = F q) := by
  refine CG_of (by decide) (Nat.le_of_ble_eq_true rfl) rfl ?_
  intro p e s m args below meth c Q C0 hr hlk hnm hQ hw ls hl
  have hx := C0.x
  have hb := C0.b
  refine lv_dload_n hx hb dX5_bitsOf_0 rfl (lv_at hl 0 rfl) ?_
  refine lv_dconst0 hx hb dX5_bitsOf_1 ?_
  refine n_top (y := .double 0) (congrArg Value.double (by decide +kernel : FP.dconst0 = (0 : UInt64))) ?_
  refine lv_dcmp hx hb dX5_bitsOf_2 ?_
  refine n_top (y := .int (nI 1)) (congrArg Value.int (by decide +kernel : Op.cmpValue (FP.dcmp 4606431818862122325 0) .g = nI 1)) ?_
  refine n_if_gt (tgt := 8) hx hb dX5_bitsOf_3 (by decide) (by decide) (fun c_3 => ?_) (fun c_3 => ?_)
  · skip
    refine lv_dload_n hx hb dX5_bitsOf_8 rfl (lv_at hl 0 rfl) ?_
    refine lv_dstore_n (lv' := [(2, .double (4606431818862122325)), (0, .double (4606431818862122325))]) hx hb dX5_bitsOf_9 rfl hl (by decide) rfl (fun ls hl => ?_)
    refine lv_iconst (v := nI 0) hx hb dX5_bitsOf_10 (by decide) ?_
    refine lv_istore (lv' := [(4, .int (nI (0))), (2, .double (4606431818862122325)), (0, .double (4606431818862122325))]) hx hb dX5_bitsOf_11 hl (by decide) rfl (fun ls hl => ?_)
    refine lv_dload_n hx hb dX5_bitsOf_13 rfl (lv_at hl 1 rfl) ?_
    refine lv_dconst1 hx hb dX5_bitsOf_14 ?_
    refine n_top (y := .double 4607182418800017408) (congrArg Value.double (by decide +kernel : FP.dconst1 = (4607182418800017408 : UInt64))) ?_
    refine lv_dcmp hx hb dX5_bitsOf_15 ?_
    refine n_top (y := .int ((-1))) (congrArg Value.int (by decide +kernel : Op.cmpValue (FP.dcmp 4606431818862122325 4607182418800017408) .g = (-1))) ?_
    refine lv_if_ge (tgt := 39) hx hb dX5_bitsOf_16 (by decide) (fun c_16 => ?_) (fun c_16 => ?_)
    · skip
      exact absurd c_16 (by decide)
    · skip
      refine lv_iload hx hb dX5_bitsOf_19 (lv_at hl 0 rfl) ?_
      refine lv_sipush (v := nI 1022) hx hb dX5_bitsOf_21 (by decide) ?_
      refine n_icmp_ge (tgt := 39) hx hb dX5_bitsOf_24 (by decide) (by decide) (by decide) (fun c_24 => ?_) (fun c_24 => ?_)
      · skip
        exact absurd c_24 (by omega)
      · skip
        refine lv_dload_n hx hb dX5_bitsOf_27 rfl (lv_at hl 1 rfl) ?_
        refine lv_ldc2d (v := 4611686018427387904) hx hb C0.ow (C0.ts _ kw_X5_337) dX5_bitsOf_28 ?_
        refine lv_dmul hx hb dX5_bitsOf_31 (by unfold vf_n64; decide +kernel) ?_
        refine n_top (y := .double 4610935418489492821) (congrArg Value.double (by decide +kernel : FP.dmul 4606431818862122325 4611686018427387904 = (4610935418489492821 : UInt64))) ?_
        refine lv_dstore_n (lv' := [(2, .double (4610935418489492821)), (4, .int (nI (0))), (0, .double (4606431818862122325))]) hx hb dX5_bitsOf_32 rfl hl (by decide) rfl (fun ls hl => ?_)
        refine lv_iinc (v := nI 1) (lv' := [(4, .int (nI (1))), (2, .double (4610935418489492821)), (0, .double (4606431818862122325))]) hx hb dX5_bitsOf_33 hl (k := 1) rfl (by decide) (by decide) rfl (fun ls hl => ?_)
        refine lv_goto (tgt := 13) hx hb dX5_bitsOf_36 (by decide) ?_
        refine lv_dload_n hx hb dX5_bitsOf_13 rfl (lv_at hl 1 rfl) ?_
        refine lv_dconst1 hx hb dX5_bitsOf_14 ?_
        refine n_top (y := .double 4607182418800017408) (congrArg Value.double (by decide +kernel : FP.dconst1 = (4607182418800017408 : UInt64))) ?_
        refine lv_dcmp hx hb dX5_bitsOf_15 ?_
        refine n_top (y := .int (nI 1)) (congrArg Value.int (by decide +kernel : Op.cmpValue (FP.dcmp 4610935418489492821 4607182418800017408) .g = nI 1)) ?_
        refine n_if_ge (tgt := 39) hx hb dX5_bitsOf_16 (by decide) (by decide) ?_
        refine lv_sipush (v := nI 1023) hx hb dX5_bitsOf_39 (by decide) ?_
        refine lv_iload hx hb dX5_bitsOf_42 (lv_at hl 0 rfl) ?_
        refine n_isub hx hb (by omega) dX5_bitsOf_44 ?_
        refine n_i2l hx hb (by omega) dX5_bitsOf_45 ?_
        refine lv_lstore (lv' := [(5, .long (lN (1023 - 1))), (4, .int (nI (1))), (2, .double (4610935418489492821)), (0, .double (4606431818862122325))]) hx hb dX5_bitsOf_46 hl (by decide) rfl (fun ls hl => ?_)
        refine lv_dload_n hx hb dX5_bitsOf_48 rfl (lv_at hl 2 rfl) ?_
        refine lv_dconst1 hx hb dX5_bitsOf_49 ?_
        refine n_top (y := .double 4607182418800017408) (congrArg Value.double (by decide +kernel : FP.dconst1 = (4607182418800017408 : UInt64))) ?_
        refine lv_dsub hx hb dX5_bitsOf_50 (by unfold vf_n64; decide +kernel) ?_
        refine n_top (y := .double 4605681218924227242) (congrArg Value.double (by decide +kernel : FP.dsub 4610935418489492821 4607182418800017408 = (4605681218924227242 : UInt64))) ?_
        refine lv_ldc2d (v := 4841369599423283200) hx hb C0.ow (C0.ts _ kw_X5_339) dX5_bitsOf_51 ?_
        refine lv_dmul hx hb dX5_bitsOf_54 (by unfold vf_n64; decide +kernel) ?_
        refine n_top (y := .double 4839868399547493034) (congrArg Value.double (by decide +kernel : FP.dmul 4605681218924227242 4841369599423283200 = (4839868399547493034 : UInt64))) ?_
        refine lv_d2l hx hb dX5_bitsOf_55 ?_
        refine n_top (y := .long (lN 3752999689475413)) (congrArg Value.long (by decide +kernel : FP.d2l 4839868399547493034 = lN 3752999689475413)) ?_
        refine lv_lstore (lv' := [(7, .long (lN (3752999689475413))), (5, .long (lN (1023 - 1))), (4, .int (nI (1))), (2, .double (4610935418489492821)), (0, .double (4606431818862122325))]) hx hb dX5_bitsOf_56 hl (by decide) rfl (fun ls hl => ?_)
        refine lv_lload hx hb dX5_bitsOf_58 (lv_at hl 1 rfl) ?_
        refine lv_bipush (v := nI 52) hx hb dX5_bitsOf_60 (by decide) ?_
        refine lv_lshl (v := lN 4602678819172646912) hx hb dX5_bitsOf_62 (by decide +kernel) ?_
        refine lv_lload hx hb dX5_bitsOf_63 (lv_at hl 0 rfl) ?_
        refine n_ladd hx hb dX5_bitsOf_65 ?_
        exact r_l C0 hr hlk hw ⟨(by decide +kernel), (fun q  => rfl)⟩ (Nat.le_refl _) (Nat.le_refl _) dX5_bitsOf_66 hQ
  · skip
    exact absurd c_3 (by decide)
set_option maxHeartbeats 4000000 in
set_option maxRecDepth 100000 in
theorem c_X5_bitsOf_4606581938849701342 (l : Launch) (G : Gl) (L : List Nat) (F : Nat → va_E) : CL l yX5_bitsOf cX5_bitsOf 9 (some .long) rm_X5_bitsOf G L F [.double (4606581938849701342)] (fun r F1 => r = (4606581938849701342 : UInt64).toInt64 ∧ ∀ q, F1 q = F q) := by
  refine CG_of (by decide) (Nat.le_of_ble_eq_true rfl) rfl ?_
  intro p e s m args below meth c Q C0 hr hlk hnm hQ hw ls hl
  have hx := C0.x
  have hb := C0.b
  refine lv_dload_n hx hb dX5_bitsOf_0 rfl (lv_at hl 0 rfl) ?_
  refine lv_dconst0 hx hb dX5_bitsOf_1 ?_
  refine n_top (y := .double 0) (congrArg Value.double (by decide +kernel : FP.dconst0 = (0 : UInt64))) ?_
  refine lv_dcmp hx hb dX5_bitsOf_2 ?_
  refine n_top (y := .int (nI 1)) (congrArg Value.int (by decide +kernel : Op.cmpValue (FP.dcmp 4606581938849701342 0) .g = nI 1)) ?_
  refine n_if_gt (tgt := 8) hx hb dX5_bitsOf_3 (by decide) (by decide) (fun c_3 => ?_) (fun c_3 => ?_)
  · skip
    refine lv_dload_n hx hb dX5_bitsOf_8 rfl (lv_at hl 0 rfl) ?_
    refine lv_dstore_n (lv' := [(2, .double (4606581938849701342)), (0, .double (4606581938849701342))]) hx hb dX5_bitsOf_9 rfl hl (by decide) rfl (fun ls hl => ?_)
    refine lv_iconst (v := nI 0) hx hb dX5_bitsOf_10 (by decide) ?_
    refine lv_istore (lv' := [(4, .int (nI (0))), (2, .double (4606581938849701342)), (0, .double (4606581938849701342))]) hx hb dX5_bitsOf_11 hl (by decide) rfl (fun ls hl => ?_)
    refine lv_dload_n hx hb dX5_bitsOf_13 rfl (lv_at hl 1 rfl) ?_
    refine lv_dconst1 hx hb dX5_bitsOf_14 ?_
    refine n_top (y := .double 4607182418800017408) (congrArg Value.double (by decide +kernel : FP.dconst1 = (4607182418800017408 : UInt64))) ?_
    refine lv_dcmp hx hb dX5_bitsOf_15 ?_
    refine n_top (y := .int ((-1))) (congrArg Value.int (by decide +kernel : Op.cmpValue (FP.dcmp 4606581938849701342 4607182418800017408) .g = (-1))) ?_
    refine lv_if_ge (tgt := 39) hx hb dX5_bitsOf_16 (by decide) (fun c_16 => ?_) (fun c_16 => ?_)
    · skip
      exact absurd c_16 (by decide)
    · skip
      refine lv_iload hx hb dX5_bitsOf_19 (lv_at hl 0 rfl) ?_
      refine lv_sipush (v := nI 1022) hx hb dX5_bitsOf_21 (by decide) ?_
      refine n_icmp_ge (tgt := 39) hx hb dX5_bitsOf_24 (by decide) (by decide) (by decide) (fun c_24 => ?_) (fun c_24 => ?_)
      · skip
        exact absurd c_24 (by omega)
      · skip
        refine lv_dload_n hx hb dX5_bitsOf_27 rfl (lv_at hl 1 rfl) ?_
        refine lv_ldc2d (v := 4611686018427387904) hx hb C0.ow (C0.ts _ kw_X5_337) dX5_bitsOf_28 ?_
        refine lv_dmul hx hb dX5_bitsOf_31 (by unfold vf_n64; decide +kernel) ?_
        refine n_top (y := .double 4611085538477071838) (congrArg Value.double (by decide +kernel : FP.dmul 4606581938849701342 4611686018427387904 = (4611085538477071838 : UInt64))) ?_
        refine lv_dstore_n (lv' := [(2, .double (4611085538477071838)), (4, .int (nI (0))), (0, .double (4606581938849701342))]) hx hb dX5_bitsOf_32 rfl hl (by decide) rfl (fun ls hl => ?_)
        refine lv_iinc (v := nI 1) (lv' := [(4, .int (nI (1))), (2, .double (4611085538477071838)), (0, .double (4606581938849701342))]) hx hb dX5_bitsOf_33 hl (k := 1) rfl (by decide) (by decide) rfl (fun ls hl => ?_)
        refine lv_goto (tgt := 13) hx hb dX5_bitsOf_36 (by decide) ?_
        refine lv_dload_n hx hb dX5_bitsOf_13 rfl (lv_at hl 1 rfl) ?_
        refine lv_dconst1 hx hb dX5_bitsOf_14 ?_
        refine n_top (y := .double 4607182418800017408) (congrArg Value.double (by decide +kernel : FP.dconst1 = (4607182418800017408 : UInt64))) ?_
        refine lv_dcmp hx hb dX5_bitsOf_15 ?_
        refine n_top (y := .int (nI 1)) (congrArg Value.int (by decide +kernel : Op.cmpValue (FP.dcmp 4611085538477071838 4607182418800017408) .g = nI 1)) ?_
        refine n_if_ge (tgt := 39) hx hb dX5_bitsOf_16 (by decide) (by decide) ?_
        refine lv_sipush (v := nI 1023) hx hb dX5_bitsOf_39 (by decide) ?_
        refine lv_iload hx hb dX5_bitsOf_42 (lv_at hl 0 rfl) ?_
        refine n_isub hx hb (by omega) dX5_bitsOf_44 ?_
        refine n_i2l hx hb (by omega) dX5_bitsOf_45 ?_
        refine lv_lstore (lv' := [(5, .long (lN (1023 - 1))), (4, .int (nI (1))), (2, .double (4611085538477071838)), (0, .double (4606581938849701342))]) hx hb dX5_bitsOf_46 hl (by decide) rfl (fun ls hl => ?_)
        refine lv_dload_n hx hb dX5_bitsOf_48 rfl (lv_at hl 2 rfl) ?_
        refine lv_dconst1 hx hb dX5_bitsOf_49 ?_
        refine n_top (y := .double 4607182418800017408) (congrArg Value.double (by decide +kernel : FP.dconst1 = (4607182418800017408 : UInt64))) ?_
        refine lv_dsub hx hb dX5_bitsOf_50 (by unfold vf_n64; decide +kernel) ?_
        refine n_top (y := .double 4605981458899385276) (congrArg Value.double (by decide +kernel : FP.dsub 4611085538477071838 4607182418800017408 = (4605981458899385276 : UInt64))) ?_
        refine lv_ldc2d (v := 4841369599423283200) hx hb C0.ow (C0.ts _ kw_X5_339) dX5_bitsOf_51 ?_
        refine lv_dmul hx hb dX5_bitsOf_54 (by unfold vf_n64; decide +kernel) ?_
        refine n_top (y := .double 4840168639522651068) (congrArg Value.double (by decide +kernel : FP.dmul 4605981458899385276 4841369599423283200 = (4840168639522651068 : UInt64))) ?_
        refine lv_d2l hx hb dX5_bitsOf_55 ?_
        refine n_top (y := .long (lN 3903119677054430)) (congrArg Value.long (by decide +kernel : FP.d2l 4840168639522651068 = lN 3903119677054430)) ?_
        refine lv_lstore (lv' := [(7, .long (lN (3903119677054430))), (5, .long (lN (1023 - 1))), (4, .int (nI (1))), (2, .double (4611085538477071838)), (0, .double (4606581938849701342))]) hx hb dX5_bitsOf_56 hl (by decide) rfl (fun ls hl => ?_)
        refine lv_lload hx hb dX5_bitsOf_58 (lv_at hl 1 rfl) ?_
        refine lv_bipush (v := nI 52) hx hb dX5_bitsOf_60 (by decide) ?_
        refine lv_lshl (v := lN 4602678819172646912) hx hb dX5_bitsOf_62 (by decide +kernel) ?_
        refine lv_lload hx hb dX5_bitsOf_63 (lv_at hl 0 rfl) ?_
        refine n_ladd hx hb dX5_bitsOf_65 ?_
        exact r_l C0 hr hlk hw ⟨(by decide +kernel), (fun q  => rfl)⟩ (Nat.le_refl _) (Nat.le_refl _) dX5_bitsOf_66 hQ
  · skip
    exact absurd c_3 (by decide)
set_option maxHeartbeats 4000000 in
set_option maxRecDepth 100000 in
theorem c_X5_bitsOf_4606682018841420686 (l : Launch) (G : Gl) (L : List Nat) (F : Nat → va_E) : CL l yX5_bitsOf cX5_bitsOf 9 (some .long) rm_X5_bitsOf G L F [.double (4606682018841420686)] (fun r F1 => r = (4606682018841420686 : UInt64).toInt64 ∧ ∀ q, F1 q = F q) := by
  refine CG_of (by decide) (Nat.le_of_ble_eq_true rfl) rfl ?_
  intro p e s m args below meth c Q C0 hr hlk hnm hQ hw ls hl
  have hx := C0.x
  have hb := C0.b
  refine lv_dload_n hx hb dX5_bitsOf_0 rfl (lv_at hl 0 rfl) ?_
  refine lv_dconst0 hx hb dX5_bitsOf_1 ?_
  refine n_top (y := .double 0) (congrArg Value.double (by decide +kernel : FP.dconst0 = (0 : UInt64))) ?_
  refine lv_dcmp hx hb dX5_bitsOf_2 ?_
  refine n_top (y := .int (nI 1)) (congrArg Value.int (by decide +kernel : Op.cmpValue (FP.dcmp 4606682018841420686 0) .g = nI 1)) ?_
  refine n_if_gt (tgt := 8) hx hb dX5_bitsOf_3 (by decide) (by decide) (fun c_3 => ?_) (fun c_3 => ?_)
  · skip
    refine lv_dload_n hx hb dX5_bitsOf_8 rfl (lv_at hl 0 rfl) ?_
    refine lv_dstore_n (lv' := [(2, .double (4606682018841420686)), (0, .double (4606682018841420686))]) hx hb dX5_bitsOf_9 rfl hl (by decide) rfl (fun ls hl => ?_)
    refine lv_iconst (v := nI 0) hx hb dX5_bitsOf_10 (by decide) ?_
    refine lv_istore (lv' := [(4, .int (nI (0))), (2, .double (4606682018841420686)), (0, .double (4606682018841420686))]) hx hb dX5_bitsOf_11 hl (by decide) rfl (fun ls hl => ?_)
    refine lv_dload_n hx hb dX5_bitsOf_13 rfl (lv_at hl 1 rfl) ?_
    refine lv_dconst1 hx hb dX5_bitsOf_14 ?_
    refine n_top (y := .double 4607182418800017408) (congrArg Value.double (by decide +kernel : FP.dconst1 = (4607182418800017408 : UInt64))) ?_
    refine lv_dcmp hx hb dX5_bitsOf_15 ?_
    refine n_top (y := .int ((-1))) (congrArg Value.int (by decide +kernel : Op.cmpValue (FP.dcmp 4606682018841420686 4607182418800017408) .g = (-1))) ?_
    refine lv_if_ge (tgt := 39) hx hb dX5_bitsOf_16 (by decide) (fun c_16 => ?_) (fun c_16 => ?_)
    · skip
      exact absurd c_16 (by decide)
    · skip
      refine lv_iload hx hb dX5_bitsOf_19 (lv_at hl 0 rfl) ?_
      refine lv_sipush (v := nI 1022) hx hb dX5_bitsOf_21 (by decide) ?_
      refine n_icmp_ge (tgt := 39) hx hb dX5_bitsOf_24 (by decide) (by decide) (by decide) (fun c_24 => ?_) (fun c_24 => ?_)
      · skip
        exact absurd c_24 (by omega)
      · skip
        refine lv_dload_n hx hb dX5_bitsOf_27 rfl (lv_at hl 1 rfl) ?_
        refine lv_ldc2d (v := 4611686018427387904) hx hb C0.ow (C0.ts _ kw_X5_337) dX5_bitsOf_28 ?_
        refine lv_dmul hx hb dX5_bitsOf_31 (by unfold vf_n64; decide +kernel) ?_
        refine n_top (y := .double 4611185618468791182) (congrArg Value.double (by decide +kernel : FP.dmul 4606682018841420686 4611686018427387904 = (4611185618468791182 : UInt64))) ?_
        refine lv_dstore_n (lv' := [(2, .double (4611185618468791182)), (4, .int (nI (0))), (0, .double (4606682018841420686))]) hx hb dX5_bitsOf_32 rfl hl (by decide) rfl (fun ls hl => ?_)
        refine lv_iinc (v := nI 1) (lv' := [(4, .int (nI (1))), (2, .double (4611185618468791182)), (0, .double (4606682018841420686))]) hx hb dX5_bitsOf_33 hl (k := 1) rfl (by decide) (by decide) rfl (fun ls hl => ?_)
        refine lv_goto (tgt := 13) hx hb dX5_bitsOf_36 (by decide) ?_
        refine lv_dload_n hx hb dX5_bitsOf_13 rfl (lv_at hl 1 rfl) ?_
        refine lv_dconst1 hx hb dX5_bitsOf_14 ?_
        refine n_top (y := .double 4607182418800017408) (congrArg Value.double (by decide +kernel : FP.dconst1 = (4607182418800017408 : UInt64))) ?_
        refine lv_dcmp hx hb dX5_bitsOf_15 ?_
        refine n_top (y := .int (nI 1)) (congrArg Value.int (by decide +kernel : Op.cmpValue (FP.dcmp 4611185618468791182 4607182418800017408) .g = nI 1)) ?_
        refine n_if_ge (tgt := 39) hx hb dX5_bitsOf_16 (by decide) (by decide) ?_
        refine lv_sipush (v := nI 1023) hx hb dX5_bitsOf_39 (by decide) ?_
        refine lv_iload hx hb dX5_bitsOf_42 (lv_at hl 0 rfl) ?_
        refine n_isub hx hb (by omega) dX5_bitsOf_44 ?_
        refine n_i2l hx hb (by omega) dX5_bitsOf_45 ?_
        refine lv_lstore (lv' := [(5, .long (lN (1023 - 1))), (4, .int (nI (1))), (2, .double (4611185618468791182)), (0, .double (4606682018841420686))]) hx hb dX5_bitsOf_46 hl (by decide) rfl (fun ls hl => ?_)
        refine lv_dload_n hx hb dX5_bitsOf_48 rfl (lv_at hl 2 rfl) ?_
        refine lv_dconst1 hx hb dX5_bitsOf_49 ?_
        refine n_top (y := .double 4607182418800017408) (congrArg Value.double (by decide +kernel : FP.dconst1 = (4607182418800017408 : UInt64))) ?_
        refine lv_dsub hx hb dX5_bitsOf_50 (by unfold vf_n64; decide +kernel) ?_
        refine n_top (y := .double 4606181618882823964) (congrArg Value.double (by decide +kernel : FP.dsub 4611185618468791182 4607182418800017408 = (4606181618882823964 : UInt64))) ?_
        refine lv_ldc2d (v := 4841369599423283200) hx hb C0.ow (C0.ts _ kw_X5_339) dX5_bitsOf_51 ?_
        refine lv_dmul hx hb dX5_bitsOf_54 (by unfold vf_n64; decide +kernel) ?_
        refine n_top (y := .double 4840368799506089756) (congrArg Value.double (by decide +kernel : FP.dmul 4606181618882823964 4841369599423283200 = (4840368799506089756 : UInt64))) ?_
        refine lv_d2l hx hb dX5_bitsOf_55 ?_
        refine n_top (y := .long (lN 4003199668773774)) (congrArg Value.long (by decide +kernel : FP.d2l 4840368799506089756 = lN 4003199668773774)) ?_
        refine lv_lstore (lv' := [(7, .long (lN (4003199668773774))), (5, .long (lN (1023 - 1))), (4, .int (nI (1))), (2, .double (4611185618468791182)), (0, .double (4606682018841420686))]) hx hb dX5_bitsOf_56 hl (by decide) rfl (fun ls hl => ?_)
        refine lv_lload hx hb dX5_bitsOf_58 (lv_at hl 1 rfl) ?_
        refine lv_bipush (v := nI 52) hx hb dX5_bitsOf_60 (by decide) ?_
        refine lv_lshl (v := lN 4602678819172646912) hx hb dX5_bitsOf_62 (by decide +kernel) ?_
        refine lv_lload hx hb dX5_bitsOf_63 (lv_at hl 0 rfl) ?_
        refine n_ladd hx hb dX5_bitsOf_65 ?_
        exact r_l C0 hr hlk hw ⟨(by decide +kernel), (fun q  => rfl)⟩ (Nat.le_refl _) (Nat.le_refl _) dX5_bitsOf_66 hQ
  · skip
    exact absurd c_3 (by decide)
set_option maxHeartbeats 4000000 in
set_option maxRecDepth 100000 in
theorem c_X5_bitsOf_4606807118831069867 (l : Launch) (G : Gl) (L : List Nat) (F : Nat → va_E) : CL l yX5_bitsOf cX5_bitsOf 9 (some .long) rm_X5_bitsOf G L F [.double (4606807118831069867)] (fun r F1 => r = (4606807118831069867 : UInt64).toInt64 ∧ ∀ q, F1 q = F q) := by
  refine CG_of (by decide) (Nat.le_of_ble_eq_true rfl) rfl ?_
  intro p e s m args below meth c Q C0 hr hlk hnm hQ hw ls hl
  have hx := C0.x
  have hb := C0.b
  refine lv_dload_n hx hb dX5_bitsOf_0 rfl (lv_at hl 0 rfl) ?_
  refine lv_dconst0 hx hb dX5_bitsOf_1 ?_
  refine n_top (y := .double 0) (congrArg Value.double (by decide +kernel : FP.dconst0 = (0 : UInt64))) ?_
  refine lv_dcmp hx hb dX5_bitsOf_2 ?_
  refine n_top (y := .int (nI 1)) (congrArg Value.int (by decide +kernel : Op.cmpValue (FP.dcmp 4606807118831069867 0) .g = nI 1)) ?_
  refine n_if_gt (tgt := 8) hx hb dX5_bitsOf_3 (by decide) (by decide) (fun c_3 => ?_) (fun c_3 => ?_)
  · skip
    refine lv_dload_n hx hb dX5_bitsOf_8 rfl (lv_at hl 0 rfl) ?_
    refine lv_dstore_n (lv' := [(2, .double (4606807118831069867)), (0, .double (4606807118831069867))]) hx hb dX5_bitsOf_9 rfl hl (by decide) rfl (fun ls hl => ?_)
    refine lv_iconst (v := nI 0) hx hb dX5_bitsOf_10 (by decide) ?_
    refine lv_istore (lv' := [(4, .int (nI (0))), (2, .double (4606807118831069867)), (0, .double (4606807118831069867))]) hx hb dX5_bitsOf_11 hl (by decide) rfl (fun ls hl => ?_)
    refine lv_dload_n hx hb dX5_bitsOf_13 rfl (lv_at hl 1 rfl) ?_
    refine lv_dconst1 hx hb dX5_bitsOf_14 ?_
    refine n_top (y := .double 4607182418800017408) (congrArg Value.double (by decide +kernel : FP.dconst1 = (4607182418800017408 : UInt64))) ?_
    refine lv_dcmp hx hb dX5_bitsOf_15 ?_
    refine n_top (y := .int ((-1))) (congrArg Value.int (by decide +kernel : Op.cmpValue (FP.dcmp 4606807118831069867 4607182418800017408) .g = (-1))) ?_
    refine lv_if_ge (tgt := 39) hx hb dX5_bitsOf_16 (by decide) (fun c_16 => ?_) (fun c_16 => ?_)
    · skip
      exact absurd c_16 (by decide)
    · skip
      refine lv_iload hx hb dX5_bitsOf_19 (lv_at hl 0 rfl) ?_
      refine lv_sipush (v := nI 1022) hx hb dX5_bitsOf_21 (by decide) ?_
      refine n_icmp_ge (tgt := 39) hx hb dX5_bitsOf_24 (by decide) (by decide) (by decide) (fun c_24 => ?_) (fun c_24 => ?_)
      · skip
        exact absurd c_24 (by omega)
      · skip
        refine lv_dload_n hx hb dX5_bitsOf_27 rfl (lv_at hl 1 rfl) ?_
        refine lv_ldc2d (v := 4611686018427387904) hx hb C0.ow (C0.ts _ kw_X5_337) dX5_bitsOf_28 ?_
        refine lv_dmul hx hb dX5_bitsOf_31 (by unfold vf_n64; decide +kernel) ?_
        refine n_top (y := .double 4611310718458440363) (congrArg Value.double (by decide +kernel : FP.dmul 4606807118831069867 4611686018427387904 = (4611310718458440363 : UInt64))) ?_
        refine lv_dstore_n (lv' := [(2, .double (4611310718458440363)), (4, .int (nI (0))), (0, .double (4606807118831069867))]) hx hb dX5_bitsOf_32 rfl hl (by decide) rfl (fun ls hl => ?_)
        refine lv_iinc (v := nI 1) (lv' := [(4, .int (nI (1))), (2, .double (4611310718458440363)), (0, .double (4606807118831069867))]) hx hb dX5_bitsOf_33 hl (k := 1) rfl (by decide) (by decide) rfl (fun ls hl => ?_)
        refine lv_goto (tgt := 13) hx hb dX5_bitsOf_36 (by decide) ?_
        refine lv_dload_n hx hb dX5_bitsOf_13 rfl (lv_at hl 1 rfl) ?_
        refine lv_dconst1 hx hb dX5_bitsOf_14 ?_
        refine n_top (y := .double 4607182418800017408) (congrArg Value.double (by decide +kernel : FP.dconst1 = (4607182418800017408 : UInt64))) ?_
        refine lv_dcmp hx hb dX5_bitsOf_15 ?_
        refine n_top (y := .int (nI 1)) (congrArg Value.int (by decide +kernel : Op.cmpValue (FP.dcmp 4611310718458440363 4607182418800017408) .g = nI 1)) ?_
        refine n_if_ge (tgt := 39) hx hb dX5_bitsOf_16 (by decide) (by decide) ?_
        refine lv_sipush (v := nI 1023) hx hb dX5_bitsOf_39 (by decide) ?_
        refine lv_iload hx hb dX5_bitsOf_42 (lv_at hl 0 rfl) ?_
        refine n_isub hx hb (by omega) dX5_bitsOf_44 ?_
        refine n_i2l hx hb (by omega) dX5_bitsOf_45 ?_
        refine lv_lstore (lv' := [(5, .long (lN (1023 - 1))), (4, .int (nI (1))), (2, .double (4611310718458440363)), (0, .double (4606807118831069867))]) hx hb dX5_bitsOf_46 hl (by decide) rfl (fun ls hl => ?_)
        refine lv_dload_n hx hb dX5_bitsOf_48 rfl (lv_at hl 2 rfl) ?_
        refine lv_dconst1 hx hb dX5_bitsOf_49 ?_
        refine n_top (y := .double 4607182418800017408) (congrArg Value.double (by decide +kernel : FP.dconst1 = (4607182418800017408 : UInt64))) ?_
        refine lv_dsub hx hb dX5_bitsOf_50 (by unfold vf_n64; decide +kernel) ?_
        refine n_top (y := .double 4606431818862122326) (congrArg Value.double (by decide +kernel : FP.dsub 4611310718458440363 4607182418800017408 = (4606431818862122326 : UInt64))) ?_
        refine lv_ldc2d (v := 4841369599423283200) hx hb C0.ow (C0.ts _ kw_X5_339) dX5_bitsOf_51 ?_
        refine lv_dmul hx hb dX5_bitsOf_54 (by unfold vf_n64; decide +kernel) ?_
        refine n_top (y := .double 4840618999485388118) (congrArg Value.double (by decide +kernel : FP.dmul 4606431818862122326 4841369599423283200 = (4840618999485388118 : UInt64))) ?_
        refine lv_d2l hx hb dX5_bitsOf_55 ?_
        refine n_top (y := .long (lN 4128299658422955)) (congrArg Value.long (by decide +kernel : FP.d2l 4840618999485388118 = lN 4128299658422955)) ?_
        refine lv_lstore (lv' := [(7, .long (lN (4128299658422955))), (5, .long (lN (1023 - 1))), (4, .int (nI (1))), (2, .double (4611310718458440363)), (0, .double (4606807118831069867))]) hx hb dX5_bitsOf_56 hl (by decide) rfl (fun ls hl => ?_)
        refine lv_lload hx hb dX5_bitsOf_58 (lv_at hl 1 rfl) ?_
        refine lv_bipush (v := nI 52) hx hb dX5_bitsOf_60 (by decide) ?_
        refine lv_lshl (v := lN 4602678819172646912) hx hb dX5_bitsOf_62 (by decide +kernel) ?_
        refine lv_lload hx hb dX5_bitsOf_63 (lv_at hl 0 rfl) ?_
        refine n_ladd hx hb dX5_bitsOf_65 ?_
        exact r_l C0 hr hlk hw ⟨(by decide +kernel), (fun q  => rfl)⟩ (Nat.le_refl _) (Nat.le_refl _) dX5_bitsOf_66 hQ
  · skip
    exact absurd c_3 (by decide)
set_option maxHeartbeats 4000000 in
set_option maxRecDepth 100000 in
theorem c_X5_bitsOf_4606882178824859375 (l : Launch) (G : Gl) (L : List Nat) (F : Nat → va_E) : CL l yX5_bitsOf cX5_bitsOf 9 (some .long) rm_X5_bitsOf G L F [.double (4606882178824859375)] (fun r F1 => r = (4606882178824859375 : UInt64).toInt64 ∧ ∀ q, F1 q = F q) := by
  refine CG_of (by decide) (Nat.le_of_ble_eq_true rfl) rfl ?_
  intro p e s m args below meth c Q C0 hr hlk hnm hQ hw ls hl
  have hx := C0.x
  have hb := C0.b
  refine lv_dload_n hx hb dX5_bitsOf_0 rfl (lv_at hl 0 rfl) ?_
  refine lv_dconst0 hx hb dX5_bitsOf_1 ?_
  refine n_top (y := .double 0) (congrArg Value.double (by decide +kernel : FP.dconst0 = (0 : UInt64))) ?_
  refine lv_dcmp hx hb dX5_bitsOf_2 ?_
  refine n_top (y := .int (nI 1)) (congrArg Value.int (by decide +kernel : Op.cmpValue (FP.dcmp 4606882178824859375 0) .g = nI 1)) ?_
  refine n_if_gt (tgt := 8) hx hb dX5_bitsOf_3 (by decide) (by decide) (fun c_3 => ?_) (fun c_3 => ?_)
  · skip
    refine lv_dload_n hx hb dX5_bitsOf_8 rfl (lv_at hl 0 rfl) ?_
    refine lv_dstore_n (lv' := [(2, .double (4606882178824859375)), (0, .double (4606882178824859375))]) hx hb dX5_bitsOf_9 rfl hl (by decide) rfl (fun ls hl => ?_)
    refine lv_iconst (v := nI 0) hx hb dX5_bitsOf_10 (by decide) ?_
    refine lv_istore (lv' := [(4, .int (nI (0))), (2, .double (4606882178824859375)), (0, .double (4606882178824859375))]) hx hb dX5_bitsOf_11 hl (by decide) rfl (fun ls hl => ?_)
    refine lv_dload_n hx hb dX5_bitsOf_13 rfl (lv_at hl 1 rfl) ?_
    refine lv_dconst1 hx hb dX5_bitsOf_14 ?_
    refine n_top (y := .double 4607182418800017408) (congrArg Value.double (by decide +kernel : FP.dconst1 = (4607182418800017408 : UInt64))) ?_
    refine lv_dcmp hx hb dX5_bitsOf_15 ?_
    refine n_top (y := .int ((-1))) (congrArg Value.int (by decide +kernel : Op.cmpValue (FP.dcmp 4606882178824859375 4607182418800017408) .g = (-1))) ?_
    refine lv_if_ge (tgt := 39) hx hb dX5_bitsOf_16 (by decide) (fun c_16 => ?_) (fun c_16 => ?_)
    · skip
      exact absurd c_16 (by decide)
    · skip
      refine lv_iload hx hb dX5_bitsOf_19 (lv_at hl 0 rfl) ?_
      refine lv_sipush (v := nI 1022) hx hb dX5_bitsOf_21 (by decide) ?_
      refine n_icmp_ge (tgt := 39) hx hb dX5_bitsOf_24 (by decide) (by decide) (by decide) (fun c_24 => ?_) (fun c_24 => ?_)
      · skip
        exact absurd c_24 (by omega)
      · skip
        refine lv_dload_n hx hb dX5_bitsOf_27 rfl (lv_at hl 1 rfl) ?_
        refine lv_ldc2d (v := 4611686018427387904) hx hb C0.ow (C0.ts _ kw_X5_337) dX5_bitsOf_28 ?_
        refine lv_dmul hx hb dX5_bitsOf_31 (by unfold vf_n64; decide +kernel) ?_
        refine n_top (y := .double 4611385778452229871) (congrArg Value.double (by decide +kernel : FP.dmul 4606882178824859375 4611686018427387904 = (4611385778452229871 : UInt64))) ?_
        refine lv_dstore_n (lv' := [(2, .double (4611385778452229871)), (4, .int (nI (0))), (0, .double (4606882178824859375))]) hx hb dX5_bitsOf_32 rfl hl (by decide) rfl (fun ls hl => ?_)
        refine lv_iinc (v := nI 1) (lv' := [(4, .int (nI (1))), (2, .double (4611385778452229871)), (0, .double (4606882178824859375))]) hx hb dX5_bitsOf_33 hl (k := 1) rfl (by decide) (by decide) rfl (fun ls hl => ?_)
        refine lv_goto (tgt := 13) hx hb dX5_bitsOf_36 (by decide) ?_
        refine lv_dload_n hx hb dX5_bitsOf_13 rfl (lv_at hl 1 rfl) ?_
        refine lv_dconst1 hx hb dX5_bitsOf_14 ?_
        refine n_top (y := .double 4607182418800017408) (congrArg Value.double (by decide +kernel : FP.dconst1 = (4607182418800017408 : UInt64))) ?_
        refine lv_dcmp hx hb dX5_bitsOf_15 ?_
        refine n_top (y := .int (nI 1)) (congrArg Value.int (by decide +kernel : Op.cmpValue (FP.dcmp 4611385778452229871 4607182418800017408) .g = nI 1)) ?_
        refine n_if_ge (tgt := 39) hx hb dX5_bitsOf_16 (by decide) (by decide) ?_
        refine lv_sipush (v := nI 1023) hx hb dX5_bitsOf_39 (by decide) ?_
        refine lv_iload hx hb dX5_bitsOf_42 (lv_at hl 0 rfl) ?_
        refine n_isub hx hb (by omega) dX5_bitsOf_44 ?_
        refine n_i2l hx hb (by omega) dX5_bitsOf_45 ?_
        refine lv_lstore (lv' := [(5, .long (lN (1023 - 1))), (4, .int (nI (1))), (2, .double (4611385778452229871)), (0, .double (4606882178824859375))]) hx hb dX5_bitsOf_46 hl (by decide) rfl (fun ls hl => ?_)
        refine lv_dload_n hx hb dX5_bitsOf_48 rfl (lv_at hl 2 rfl) ?_
        refine lv_dconst1 hx hb dX5_bitsOf_49 ?_
        refine n_top (y := .double 4607182418800017408) (congrArg Value.double (by decide +kernel : FP.dconst1 = (4607182418800017408 : UInt64))) ?_
        refine lv_dsub hx hb dX5_bitsOf_50 (by unfold vf_n64; decide +kernel) ?_
        refine n_top (y := .double 4606581938849701342) (congrArg Value.double (by decide +kernel : FP.dsub 4611385778452229871 4607182418800017408 = (4606581938849701342 : UInt64))) ?_
        refine lv_ldc2d (v := 4841369599423283200) hx hb C0.ow (C0.ts _ kw_X5_339) dX5_bitsOf_51 ?_
        refine lv_dmul hx hb dX5_bitsOf_54 (by unfold vf_n64; decide +kernel) ?_
        refine n_top (y := .double 4840769119472967134) (congrArg Value.double (by decide +kernel : FP.dmul 4606581938849701342 4841369599423283200 = (4840769119472967134 : UInt64))) ?_
        refine lv_d2l hx hb dX5_bitsOf_55 ?_
        refine n_top (y := .long (lN 4203359652212463)) (congrArg Value.long (by decide +kernel : FP.d2l 4840769119472967134 = lN 4203359652212463)) ?_
        refine lv_lstore (lv' := [(7, .long (lN (4203359652212463))), (5, .long (lN (1023 - 1))), (4, .int (nI (1))), (2, .double (4611385778452229871)), (0, .double (4606882178824859375))]) hx hb dX5_bitsOf_56 hl (by decide) rfl (fun ls hl => ?_)
        refine lv_lload hx hb dX5_bitsOf_58 (lv_at hl 1 rfl) ?_
        refine lv_bipush (v := nI 52) hx hb dX5_bitsOf_60 (by decide) ?_
        refine lv_lshl (v := lN 4602678819172646912) hx hb dX5_bitsOf_62 (by decide +kernel) ?_
        refine lv_lload hx hb dX5_bitsOf_63 (lv_at hl 0 rfl) ?_
        refine n_ladd hx hb dX5_bitsOf_65 ?_
        exact r_l C0 hr hlk hw ⟨(by decide +kernel), (fun q  => rfl)⟩ (Nat.le_refl _) (Nat.le_refl _) dX5_bitsOf_66 hQ
  · skip
    exact absurd c_3 (by decide)
set_option maxHeartbeats 4000000 in
set_option maxRecDepth 100000 in
theorem c_X5_bitsOf_4607182418800017408 (l : Launch) (G : Gl) (L : List Nat) (F : Nat → va_E) : CL l yX5_bitsOf cX5_bitsOf 9 (some .long) rm_X5_bitsOf G L F [.double (4607182418800017408)] (fun r F1 => r = (4607182418800017408 : UInt64).toInt64 ∧ ∀ q, F1 q = F q) := by
  refine CG_of (by decide) (Nat.le_of_ble_eq_true rfl) rfl ?_
  intro p e s m args below meth c Q C0 hr hlk hnm hQ hw ls hl
  have hx := C0.x
  have hb := C0.b
  refine lv_dload_n hx hb dX5_bitsOf_0 rfl (lv_at hl 0 rfl) ?_
  refine lv_dconst0 hx hb dX5_bitsOf_1 ?_
  refine n_top (y := .double 0) (congrArg Value.double (by decide +kernel : FP.dconst0 = (0 : UInt64))) ?_
  refine lv_dcmp hx hb dX5_bitsOf_2 ?_
  refine n_top (y := .int (nI 1)) (congrArg Value.int (by decide +kernel : Op.cmpValue (FP.dcmp 4607182418800017408 0) .g = nI 1)) ?_
  refine n_if_gt (tgt := 8) hx hb dX5_bitsOf_3 (by decide) (by decide) (fun c_3 => ?_) (fun c_3 => ?_)
  · skip
    refine lv_dload_n hx hb dX5_bitsOf_8 rfl (lv_at hl 0 rfl) ?_
    refine lv_dstore_n (lv' := [(2, .double (4607182418800017408)), (0, .double (4607182418800017408))]) hx hb dX5_bitsOf_9 rfl hl (by decide) rfl (fun ls hl => ?_)
    refine lv_iconst (v := nI 0) hx hb dX5_bitsOf_10 (by decide) ?_
    refine lv_istore (lv' := [(4, .int (nI (0))), (2, .double (4607182418800017408)), (0, .double (4607182418800017408))]) hx hb dX5_bitsOf_11 hl (by decide) rfl (fun ls hl => ?_)
    refine lv_dload_n hx hb dX5_bitsOf_13 rfl (lv_at hl 1 rfl) ?_
    refine lv_dconst1 hx hb dX5_bitsOf_14 ?_
    refine n_top (y := .double 4607182418800017408) (congrArg Value.double (by decide +kernel : FP.dconst1 = (4607182418800017408 : UInt64))) ?_
    refine lv_dcmp hx hb dX5_bitsOf_15 ?_
    refine n_top (y := .int (nI 0)) (congrArg Value.int (by decide +kernel : Op.cmpValue (FP.dcmp 4607182418800017408 4607182418800017408) .g = nI 0)) ?_
    refine n_if_ge (tgt := 39) hx hb dX5_bitsOf_16 (by decide) (by decide) ?_
    refine lv_sipush (v := nI 1023) hx hb dX5_bitsOf_39 (by decide) ?_
    refine lv_iload hx hb dX5_bitsOf_42 (lv_at hl 0 rfl) ?_
    refine n_isub hx hb (by omega) dX5_bitsOf_44 ?_
    refine n_i2l hx hb (by omega) dX5_bitsOf_45 ?_
    refine lv_lstore (lv' := [(5, .long (lN (1023 - 0))), (4, .int (nI (0))), (2, .double (4607182418800017408)), (0, .double (4607182418800017408))]) hx hb dX5_bitsOf_46 hl (by decide) rfl (fun ls hl => ?_)
    refine lv_dload_n hx hb dX5_bitsOf_48 rfl (lv_at hl 2 rfl) ?_
    refine lv_dconst1 hx hb dX5_bitsOf_49 ?_
    refine n_top (y := .double 4607182418800017408) (congrArg Value.double (by decide +kernel : FP.dconst1 = (4607182418800017408 : UInt64))) ?_
    refine lv_dsub hx hb dX5_bitsOf_50 (by unfold vf_n64; decide +kernel) ?_
    refine n_top (y := .double 0) (congrArg Value.double (by decide +kernel : FP.dsub 4607182418800017408 4607182418800017408 = (0 : UInt64))) ?_
    refine lv_ldc2d (v := 4841369599423283200) hx hb C0.ow (C0.ts _ kw_X5_339) dX5_bitsOf_51 ?_
    refine lv_dmul hx hb dX5_bitsOf_54 (by unfold vf_n64; decide +kernel) ?_
    refine n_top (y := .double 0) (congrArg Value.double (by decide +kernel : FP.dmul 0 4841369599423283200 = (0 : UInt64))) ?_
    refine lv_d2l hx hb dX5_bitsOf_55 ?_
    refine n_top (y := .long (lN 0)) (congrArg Value.long (by decide +kernel : FP.d2l 0 = lN 0)) ?_
    refine lv_lstore (lv' := [(7, .long (lN (0))), (5, .long (lN (1023 - 0))), (4, .int (nI (0))), (2, .double (4607182418800017408)), (0, .double (4607182418800017408))]) hx hb dX5_bitsOf_56 hl (by decide) rfl (fun ls hl => ?_)
    refine lv_lload hx hb dX5_bitsOf_58 (lv_at hl 1 rfl) ?_
    refine lv_bipush (v := nI 52) hx hb dX5_bitsOf_60 (by decide) ?_
    refine lv_lshl (v := lN 4607182418800017408) hx hb dX5_bitsOf_62 (by decide +kernel) ?_
    refine lv_lload hx hb dX5_bitsOf_63 (lv_at hl 0 rfl) ?_
    refine n_ladd hx hb dX5_bitsOf_65 ?_
    exact r_l C0 hr hlk hw ⟨(by decide +kernel), (fun q  => rfl)⟩ (Nat.le_refl _) (Nat.le_refl _) dX5_bitsOf_66 hQ
  · skip
    exact absurd c_3 (by decide)
theorem c_X5_bitsOf (l : Launch) (G : Gl) (L : List Nat) (F : Nat → va_E) (n c : Nat) (h2 : 2 ≤ c) (h6 : c ≤ 6) (hn : n ≤ 6 * (c - 1)) : CL l yX5_bitsOf cX5_bitsOf 9 (some .long) rm_X5_bitsOf G L F [.double (dens n c)] (fun r F1 => r = (dens n c).toInt64 ∧ ∀ q, F1 q = F q) := by
  obtain ⟨c, rfl⟩ : ∃ d, c = d + 2 := ⟨c - 2, by omega⟩
  have hn2 : n ≤ 6 * (c + 1) := by omega
  have hc4 : c < 5 := by omega
  clear hn h2 h6
  match c, hc4, n, hn2 with
  | 0, _, 0, _ => exact (show dens 0 2 = 0 by decide +kernel) ▸ c_X5_bitsOf_0 l G L F
  | 0, _, 1, _ => exact (show dens 1 2 = 4595172819793696085 by decide +kernel) ▸ c_X5_bitsOf_4595172819793696085 l G L F
  | 0, _, 2, _ => exact (show dens 2 2 = 4599676419421066581 by decide +kernel) ▸ c_X5_bitsOf_4599676419421066581 l G L F
  | 0, _, 3, _ => exact (show dens 3 2 = 4602678819172646912 by decide +kernel) ▸ c_X5_bitsOf_4602678819172646912 l G L F
  | 0, _, 4, _ => exact (show dens 4 2 = 4604180019048437077 by decide +kernel) ▸ c_X5_bitsOf_4604180019048437077 l G L F
  | 0, _, 5, _ => exact (show dens 5 2 = 4605681218924227243 by decide +kernel) ▸ c_X5_bitsOf_4605681218924227243 l G L F
  | 0, _, 6, _ => exact (show dens 6 2 = 4607182418800017408 by decide +kernel) ▸ c_X5_bitsOf_4607182418800017408 l G L F
  | 1, _, 0, _ => exact (show dens 0 3 = 0 by decide +kernel) ▸ c_X5_bitsOf_0 l G L F
  | 1, _, 1, _ => exact (show dens 1 3 = 4590669220166325589 by decide +kernel) ▸ c_X5_bitsOf_4590669220166325589 l G L F
  | 1, _, 2, _ => exact (show dens 2 3 = 4595172819793696085 by decide +kernel) ▸ c_X5_bitsOf_4595172819793696085 l G L F
  | 1, _, 3, _ => exact (show dens 3 3 = 4598175219545276416 by decide +kernel) ▸ c_X5_bitsOf_4598175219545276416 l G L F
  | 1, _, 4, _ => exact (show dens 4 3 = 4599676419421066581 by decide +kernel) ▸ c_X5_bitsOf_4599676419421066581 l G L F
  | 1, _, 5, _ => exact (show dens 5 3 = 4601177619296856747 by decide +kernel) ▸ c_X5_bitsOf_4601177619296856747 l G L F
  | 1, _, 6, _ => exact (show dens 6 3 = 4602678819172646912 by decide +kernel) ▸ c_X5_bitsOf_4602678819172646912 l G L F
  | 1, _, 7, _ => exact (show dens 7 3 = 4603429419110541995 by decide +kernel) ▸ c_X5_bitsOf_4603429419110541995 l G L F
  | 1, _, 8, _ => exact (show dens 8 3 = 4604180019048437077 by decide +kernel) ▸ c_X5_bitsOf_4604180019048437077 l G L F
  | 1, _, 9, _ => exact (show dens 9 3 = 4604930618986332160 by decide +kernel) ▸ c_X5_bitsOf_4604930618986332160 l G L F
  | 1, _, 10, _ => exact (show dens 10 3 = 4605681218924227243 by decide +kernel) ▸ c_X5_bitsOf_4605681218924227243 l G L F
  | 1, _, 11, _ => exact (show dens 11 3 = 4606431818862122325 by decide +kernel) ▸ c_X5_bitsOf_4606431818862122325 l G L F
  | 1, _, 12, _ => exact (show dens 12 3 = 4607182418800017408 by decide +kernel) ▸ c_X5_bitsOf_4607182418800017408 l G L F
  | 2, _, 0, _ => exact (show dens 0 4 = 0 by decide +kernel) ▸ c_X5_bitsOf_0 l G L F
  | 2, _, 1, _ => exact (show dens 1 4 = 4588167220373341980 by decide +kernel) ▸ c_X5_bitsOf_4588167220373341980 l G L F
  | 2, _, 2, _ => exact (show dens 2 4 = 4592670820000712476 by decide +kernel) ▸ c_X5_bitsOf_4592670820000712476 l G L F
  | 2, _, 3, _ => exact (show dens 3 4 = 4595172819793696085 by decide +kernel) ▸ c_X5_bitsOf_4595172819793696085 l G L F
  | 2, _, 4, _ => exact (show dens 4 4 = 4597174419628082972 by decide +kernel) ▸ c_X5_bitsOf_4597174419628082972 l G L F
  | 2, _, 5, _ => exact (show dens 5 4 = 4598675619503873138 by decide +kernel) ▸ c_X5_bitsOf_4598675619503873138 l G L F
  | 2, _, 6, _ => exact (show dens 6 4 = 4599676419421066581 by decide +kernel) ▸ c_X5_bitsOf_4599676419421066581 l G L F
  | 2, _, 7, _ => exact (show dens 7 4 = 4600677219338260025 by decide +kernel) ▸ c_X5_bitsOf_4600677219338260025 l G L F
  | 2, _, 8, _ => exact (show dens 8 4 = 4601678019255453468 by decide +kernel) ▸ c_X5_bitsOf_4601678019255453468 l G L F
  | 2, _, 9, _ => exact (show dens 9 4 = 4602678819172646912 by decide +kernel) ▸ c_X5_bitsOf_4602678819172646912 l G L F
  | 2, _, 10, _ => exact (show dens 10 4 = 4603179219131243634 by decide +kernel) ▸ c_X5_bitsOf_4603179219131243634 l G L F
  | 2, _, 11, _ => exact (show dens 11 4 = 4603679619089840356 by decide +kernel) ▸ c_X5_bitsOf_4603679619089840356 l G L F
  | 2, _, 12, _ => exact (show dens 12 4 = 4604180019048437077 by decide +kernel) ▸ c_X5_bitsOf_4604180019048437077 l G L F
  | 2, _, 13, _ => exact (show dens 13 4 = 4604680419007033799 by decide +kernel) ▸ c_X5_bitsOf_4604680419007033799 l G L F
  | 2, _, 14, _ => exact (show dens 14 4 = 4605180818965630521 by decide +kernel) ▸ c_X5_bitsOf_4605180818965630521 l G L F
  | 2, _, 15, _ => exact (show dens 15 4 = 4605681218924227243 by decide +kernel) ▸ c_X5_bitsOf_4605681218924227243 l G L F
  | 2, _, 16, _ => exact (show dens 16 4 = 4606181618882823964 by decide +kernel) ▸ c_X5_bitsOf_4606181618882823964 l G L F
  | 2, _, 17, _ => exact (show dens 17 4 = 4606682018841420686 by decide +kernel) ▸ c_X5_bitsOf_4606682018841420686 l G L F
  | 2, _, 18, _ => exact (show dens 18 4 = 4607182418800017408 by decide +kernel) ▸ c_X5_bitsOf_4607182418800017408 l G L F
  | 3, _, 0, _ => exact (show dens 0 5 = 0 by decide +kernel) ▸ c_X5_bitsOf_0 l G L F
  | 3, _, 1, _ => exact (show dens 1 5 = 4586165620538955093 by decide +kernel) ▸ c_X5_bitsOf_4586165620538955093 l G L F
  | 3, _, 2, _ => exact (show dens 2 5 = 4590669220166325589 by decide +kernel) ▸ c_X5_bitsOf_4590669220166325589 l G L F
  | 3, _, 3, _ => exact (show dens 3 5 = 4593671619917905920 by decide +kernel) ▸ c_X5_bitsOf_4593671619917905920 l G L F
  | 3, _, 4, _ => exact (show dens 4 5 = 4595172819793696085 by decide +kernel) ▸ c_X5_bitsOf_4595172819793696085 l G L F
  | 3, _, 5, _ => exact (show dens 5 5 = 4596674019669486251 by decide +kernel) ▸ c_X5_bitsOf_4596674019669486251 l G L F
  | 3, _, 6, _ => exact (show dens 6 5 = 4598175219545276416 by decide +kernel) ▸ c_X5_bitsOf_4598175219545276416 l G L F
  | 3, _, 7, _ => exact (show dens 7 5 = 4598925819483171499 by decide +kernel) ▸ c_X5_bitsOf_4598925819483171499 l G L F
  | 3, _, 8, _ => exact (show dens 8 5 = 4599676419421066581 by decide +kernel) ▸ c_X5_bitsOf_4599676419421066581 l G L F
  | 3, _, 9, _ => exact (show dens 9 5 = 4600427019358961664 by decide +kernel) ▸ c_X5_bitsOf_4600427019358961664 l G L F
  | 3, _, 10, _ => exact (show dens 10 5 = 4601177619296856747 by decide +kernel) ▸ c_X5_bitsOf_4601177619296856747 l G L F
  | 3, _, 11, _ => exact (show dens 11 5 = 4601928219234751829 by decide +kernel) ▸ c_X5_bitsOf_4601928219234751829 l G L F
  | 3, _, 12, _ => exact (show dens 12 5 = 4602678819172646912 by decide +kernel) ▸ c_X5_bitsOf_4602678819172646912 l G L F
  | 3, _, 13, _ => exact (show dens 13 5 = 4603054119141594453 by decide +kernel) ▸ c_X5_bitsOf_4603054119141594453 l G L F
  | 3, _, 14, _ => exact (show dens 14 5 = 4603429419110541995 by decide +kernel) ▸ c_X5_bitsOf_4603429419110541995 l G L F
  | 3, _, 15, _ => exact (show dens 15 5 = 4603804719079489536 by decide +kernel) ▸ c_X5_bitsOf_4603804719079489536 l G L F
  | 3, _, 16, _ => exact (show dens 16 5 = 4604180019048437077 by decide +kernel) ▸ c_X5_bitsOf_4604180019048437077 l G L F
  | 3, _, 17, _ => exact (show dens 17 5 = 4604555319017384619 by decide +kernel) ▸ c_X5_bitsOf_4604555319017384619 l G L F
  | 3, _, 18, _ => exact (show dens 18 5 = 4604930618986332160 by decide +kernel) ▸ c_X5_bitsOf_4604930618986332160 l G L F
  | 3, _, 19, _ => exact (show dens 19 5 = 4605305918955279701 by decide +kernel) ▸ c_X5_bitsOf_4605305918955279701 l G L F
  | 3, _, 20, _ => exact (show dens 20 5 = 4605681218924227243 by decide +kernel) ▸ c_X5_bitsOf_4605681218924227243 l G L F
  | 3, _, 21, _ => exact (show dens 21 5 = 4606056518893174784 by decide +kernel) ▸ c_X5_bitsOf_4606056518893174784 l G L F
  | 3, _, 22, _ => exact (show dens 22 5 = 4606431818862122325 by decide +kernel) ▸ c_X5_bitsOf_4606431818862122325 l G L F
  | 3, _, 23, _ => exact (show dens 23 5 = 4606807118831069867 by decide +kernel) ▸ c_X5_bitsOf_4606807118831069867 l G L F
  | 3, _, 24, _ => exact (show dens 24 5 = 4607182418800017408 by decide +kernel) ▸ c_X5_bitsOf_4607182418800017408 l G L F
  | 4, _, 0, _ => exact (show dens 0 6 = 0 by decide +kernel) ▸ c_X5_bitsOf_0 l G L F
  | 4, _, 1, _ => exact (show dens 1 6 = 4584964660638322961 by decide +kernel) ▸ c_X5_bitsOf_4584964660638322961 l G L F
  | 4, _, 2, _ => exact (show dens 2 6 = 4589468260265693457 by decide +kernel) ▸ c_X5_bitsOf_4589468260265693457 l G L F
  | 4, _, 3, _ => exact (show dens 3 6 = 4591870180066957722 by decide +kernel) ▸ c_X5_bitsOf_4591870180066957722 l G L F
  | 4, _, 4, _ => exact (show dens 4 6 = 4593971859893063953 by decide +kernel) ▸ c_X5_bitsOf_4593971859893063953 l G L F
  | 4, _, 5, _ => exact (show dens 5 6 = 4595172819793696085 by decide +kernel) ▸ c_X5_bitsOf_4595172819793696085 l G L F
  | 4, _, 6, _ => exact (show dens 6 6 = 4596373779694328218 by decide +kernel) ▸ c_X5_bitsOf_4596373779694328218 l G L F
  | 4, _, 7, _ => exact (show dens 7 6 = 4597574739594960350 by decide +kernel) ▸ c_X5_bitsOf_4597574739594960350 l G L F
  | 4, _, 8, _ => exact (show dens 8 6 = 4598475459520434449 by decide +kernel) ▸ c_X5_bitsOf_4598475459520434449 l G L F
  | 4, _, 9, _ => exact (show dens 9 6 = 4599075939470750515 by decide +kernel) ▸ c_X5_bitsOf_4599075939470750515 l G L F
  | 4, _, 10, _ => exact (show dens 10 6 = 4599676419421066581 by decide +kernel) ▸ c_X5_bitsOf_4599676419421066581 l G L F
  | 4, _, 11, _ => exact (show dens 11 6 = 4600276899371382647 by decide +kernel) ▸ c_X5_bitsOf_4600276899371382647 l G L F
  | 4, _, 12, _ => exact (show dens 12 6 = 4600877379321698714 by decide +kernel) ▸ c_X5_bitsOf_4600877379321698714 l G L F
  | 4, _, 13, _ => exact (show dens 13 6 = 4601477859272014780 by decide +kernel) ▸ c_X5_bitsOf_4601477859272014780 l G L F
  | 4, _, 14, _ => exact (show dens 14 6 = 4602078339222330846 by decide +kernel) ▸ c_X5_bitsOf_4602078339222330846 l G L F
  | 4, _, 15, _ => exact (show dens 15 6 = 4602678819172646912 by decide +kernel) ▸ c_X5_bitsOf_4602678819172646912 l G L F
  | 4, _, 16, _ => exact (show dens 16 6 = 4602979059147804945 by decide +kernel) ▸ c_X5_bitsOf_4602979059147804945 l G L F
  | 4, _, 17, _ => exact (show dens 17 6 = 4603279299122962978 by decide +kernel) ▸ c_X5_bitsOf_4603279299122962978 l G L F
  | 4, _, 18, _ => exact (show dens 18 6 = 4603579539098121011 by decide +kernel) ▸ c_X5_bitsOf_4603579539098121011 l G L F
  | 4, _, 19, _ => exact (show dens 19 6 = 4603879779073279044 by decide +kernel) ▸ c_X5_bitsOf_4603879779073279044 l G L F
  | 4, _, 20, _ => exact (show dens 20 6 = 4604180019048437077 by decide +kernel) ▸ c_X5_bitsOf_4604180019048437077 l G L F
  | 4, _, 21, _ => exact (show dens 21 6 = 4604480259023595110 by decide +kernel) ▸ c_X5_bitsOf_4604480259023595110 l G L F
  | 4, _, 22, _ => exact (show dens 22 6 = 4604780498998753143 by decide +kernel) ▸ c_X5_bitsOf_4604780498998753143 l G L F
  | 4, _, 23, _ => exact (show dens 23 6 = 4605080738973911177 by decide +kernel) ▸ c_X5_bitsOf_4605080738973911177 l G L F
  | 4, _, 24, _ => exact (show dens 24 6 = 4605380978949069210 by decide +kernel) ▸ c_X5_bitsOf_4605380978949069210 l G L F
  | 4, _, 25, _ => exact (show dens 25 6 = 4605681218924227243 by decide +kernel) ▸ c_X5_bitsOf_4605681218924227243 l G L F
  | 4, _, 26, _ => exact (show dens 26 6 = 4605981458899385276 by decide +kernel) ▸ c_X5_bitsOf_4605981458899385276 l G L F
  | 4, _, 27, _ => exact (show dens 27 6 = 4606281698874543309 by decide +kernel) ▸ c_X5_bitsOf_4606281698874543309 l G L F
  | 4, _, 28, _ => exact (show dens 28 6 = 4606581938849701342 by decide +kernel) ▸ c_X5_bitsOf_4606581938849701342 l G L F
  | 4, _, 29, _ => exact (show dens 29 6 = 4606882178824859375 by decide +kernel) ▸ c_X5_bitsOf_4606882178824859375 l G L F
  | 4, _, 30, _ => exact (show dens 30 6 = 4607182418800017408 by decide +kernel) ▸ c_X5_bitsOf_4607182418800017408 l G L F
  | 0, _, n + 7, h9 => exact absurd h9 (by omega)
  | 1, _, n + 13, h9 => exact absurd h9 (by omega)
  | 2, _, n + 19, h9 => exact absurd h9 (by omega)
  | 3, _, n + 25, h9 => exact absurd h9 (by omega)
  | 4, _, n + 31, h9 => exact absurd h9 (by omega)
  | c + 5, h9, _, _ => exact absurd h9 (by omega)
abbrev rm_X5_hashCoefficients : Room := { frames := 0, cells := 0, slots := 0, locals := 0 }
set_option maxHeartbeats 4000000 in
set_option maxRecDepth 100000 in
theorem c_X5_hashCoefficients (l : Launch) (G : Gl) (L : List Nat) (F : Nat → va_E) (h9 : Int64) (a9 : Nat) (u : Nat → ZP) (ha : a9 ∈ L) (hf : F a9 = rw7 G u) : CL l yX5_hashCoefficients cX5_hashCoefficients 6 (some .long) rm_X5_hashCoefficients G L F [.long (h9), .ref a9] (fun r F1 => r = hC h9 u ∧ ∀ q, F1 q = F q) := by
  refine CG_of (by decide) (Nat.le_of_ble_eq_true rfl) rfl ?_
  intro p e s m args below meth c Q C0 hr hlk hnm hQ hw ls hl
  have hx := C0.x
  have hb := C0.b
  refine lv_lload_n hx hb dX5_hashCoefficients_0 rfl (lv_at hl 0 rfl) ?_
  refine lv_lstore_n (lv' := [(3, .long (h9)), (0, .long (h9)), (2, .ref a9)]) hx hb dX5_hashCoefficients_1 rfl hl (by decide) rfl (fun ls hl => ?_)
  refine lv_iconst (v := nI 2) hx hb dX5_hashCoefficients_2 (by decide) ?_
  refine lv_istore (lv' := [(5, .int (nI (2))), (3, .long (h9)), (0, .long (h9)), (2, .ref a9)]) hx hb dX5_hashCoefficients_3 hl (by decide) rfl (fun ls hl => ?_)
  refine lv_iload hx hb dX5_hashCoefficients_5 (lv_at hl 0 rfl) ?_
  refine lv_bipush (v := nI 6) hx hb dX5_hashCoefficients_7 (by decide) ?_
  refine n_icmp_gt (tgt := 30) hx hb dX5_hashCoefficients_9 (by decide) (by decide) (by decide) (fun c_9 => ?_) (fun c_9 => ?_)
  · skip
    exact absurd c_9 (by omega)
  · skip
    refine lv_ldc2 (v := lN (31)) hx hb C0.ow (C0.ts _ kw_X5_253) dX5_hashCoefficients_12 ?_
    refine lv_lload_n hx hb dX5_hashCoefficients_15 rfl (lv_at hl 1 rfl) ?_
    refine lv_lmul hx hb dX5_hashCoefficients_16 ?_
    refine lv_aload_n hx hb dX5_hashCoefficients_17 rfl (lv_at hl 3 rfl) ?_
    refine lv_iload hx hb dX5_hashCoefficients_18 (lv_at hl 0 rfl) ?_
    refine q_rld C0 hw ha hf (2) (by omega) dX5_hashCoefficients_20 (fun z_3779 => ?_)
    refine n_i2l hx hb (by omega) dX5_hashCoefficients_21 ?_
    refine lv_ladd hx hb dX5_hashCoefficients_22 ?_
    refine lv_lstore_n (lv' := [(3, .long ((lN (31) * (h9)) + lN ((u (2)).val))), (5, .int (nI (2))), (0, .long (h9)), (2, .ref a9)]) hx hb dX5_hashCoefficients_23 rfl hl (by decide) rfl (fun ls hl => ?_)
    refine lv_iinc (v := nI 3) (lv' := [(5, .int (nI (3))), (3, .long ((lN (31) * (h9)) + lN ((u (2)).val))), (0, .long (h9)), (2, .ref a9)]) hx hb dX5_hashCoefficients_24 hl (k := 1) rfl (by decide) (by decide) rfl (fun ls hl => ?_)
    refine lv_goto (tgt := 5) hx hb dX5_hashCoefficients_27 (by decide) ?_
    refine lv_iload hx hb dX5_hashCoefficients_5 (lv_at hl 0 rfl) ?_
    refine lv_bipush (v := nI 6) hx hb dX5_hashCoefficients_7 (by decide) ?_
    refine n_icmp_gt (tgt := 30) hx hb dX5_hashCoefficients_9 (by decide) (by decide) (by decide) (fun c_9 => ?_) (fun c_9 => ?_)
    · skip
      exact absurd c_9 (by omega)
    · skip
      refine lv_ldc2 (v := lN (31)) hx hb C0.ow (C0.ts _ kw_X5_253) dX5_hashCoefficients_12 ?_
      refine lv_lload_n hx hb dX5_hashCoefficients_15 rfl (lv_at hl 1 rfl) ?_
      refine lv_lmul hx hb dX5_hashCoefficients_16 ?_
      refine lv_aload_n hx hb dX5_hashCoefficients_17 rfl (lv_at hl 3 rfl) ?_
      refine lv_iload hx hb dX5_hashCoefficients_18 (lv_at hl 0 rfl) ?_
      refine q_rld C0 hw ha hf (3) (by omega) dX5_hashCoefficients_20 (fun z_3780 => ?_)
      refine n_i2l hx hb (by omega) dX5_hashCoefficients_21 ?_
      refine lv_ladd hx hb dX5_hashCoefficients_22 ?_
      refine lv_lstore_n (lv' := [(3, .long ((lN (31) * ((lN (31) * (h9)) + lN ((u (2)).val))) + lN ((u (3)).val))), (5, .int (nI (3))), (0, .long (h9)), (2, .ref a9)]) hx hb dX5_hashCoefficients_23 rfl hl (by decide) rfl (fun ls hl => ?_)
      refine lv_iinc (v := nI 4) (lv' := [(5, .int (nI (4))), (3, .long ((lN (31) * ((lN (31) * (h9)) + lN ((u (2)).val))) + lN ((u (3)).val))), (0, .long (h9)), (2, .ref a9)]) hx hb dX5_hashCoefficients_24 hl (k := 1) rfl (by decide) (by decide) rfl (fun ls hl => ?_)
      refine lv_goto (tgt := 5) hx hb dX5_hashCoefficients_27 (by decide) ?_
      refine lv_iload hx hb dX5_hashCoefficients_5 (lv_at hl 0 rfl) ?_
      refine lv_bipush (v := nI 6) hx hb dX5_hashCoefficients_7 (by decide) ?_
      refine n_icmp_gt (tgt := 30) hx hb dX5_hashCoefficients_9 (by decide) (by decide) (by decide) (fun c_9 => ?_) (fun c_9 => ?_)
      · skip
        exact absurd c_9 (by omega)
      · skip
        refine lv_ldc2 (v := lN (31)) hx hb C0.ow (C0.ts _ kw_X5_253) dX5_hashCoefficients_12 ?_
        refine lv_lload_n hx hb dX5_hashCoefficients_15 rfl (lv_at hl 1 rfl) ?_
        refine lv_lmul hx hb dX5_hashCoefficients_16 ?_
        refine lv_aload_n hx hb dX5_hashCoefficients_17 rfl (lv_at hl 3 rfl) ?_
        refine lv_iload hx hb dX5_hashCoefficients_18 (lv_at hl 0 rfl) ?_
        refine q_rld C0 hw ha hf (4) (by omega) dX5_hashCoefficients_20 (fun z_3781 => ?_)
        refine n_i2l hx hb (by omega) dX5_hashCoefficients_21 ?_
        refine lv_ladd hx hb dX5_hashCoefficients_22 ?_
        refine lv_lstore_n (lv' := [(3, .long ((lN (31) * ((lN (31) * ((lN (31) * (h9)) + lN ((u (2)).val))) + lN ((u (3)).val))) + lN ((u (4)).val))), (5, .int (nI (4))), (0, .long (h9)), (2, .ref a9)]) hx hb dX5_hashCoefficients_23 rfl hl (by decide) rfl (fun ls hl => ?_)
        refine lv_iinc (v := nI 5) (lv' := [(5, .int (nI (5))), (3, .long ((lN (31) * ((lN (31) * ((lN (31) * (h9)) + lN ((u (2)).val))) + lN ((u (3)).val))) + lN ((u (4)).val))), (0, .long (h9)), (2, .ref a9)]) hx hb dX5_hashCoefficients_24 hl (k := 1) rfl (by decide) (by decide) rfl (fun ls hl => ?_)
        refine lv_goto (tgt := 5) hx hb dX5_hashCoefficients_27 (by decide) ?_
        refine lv_iload hx hb dX5_hashCoefficients_5 (lv_at hl 0 rfl) ?_
        refine lv_bipush (v := nI 6) hx hb dX5_hashCoefficients_7 (by decide) ?_
        refine n_icmp_gt (tgt := 30) hx hb dX5_hashCoefficients_9 (by decide) (by decide) (by decide) (fun c_9 => ?_) (fun c_9 => ?_)
        · skip
          exact absurd c_9 (by omega)
        · skip
          refine lv_ldc2 (v := lN (31)) hx hb C0.ow (C0.ts _ kw_X5_253) dX5_hashCoefficients_12 ?_
          refine lv_lload_n hx hb dX5_hashCoefficients_15 rfl (lv_at hl 1 rfl) ?_
          refine lv_lmul hx hb dX5_hashCoefficients_16 ?_
          refine lv_aload_n hx hb dX5_hashCoefficients_17 rfl (lv_at hl 3 rfl) ?_
          refine lv_iload hx hb dX5_hashCoefficients_18 (lv_at hl 0 rfl) ?_
          refine q_rld C0 hw ha hf (5) (by omega) dX5_hashCoefficients_20 (fun z_3782 => ?_)
          refine n_i2l hx hb (by omega) dX5_hashCoefficients_21 ?_
          refine lv_ladd hx hb dX5_hashCoefficients_22 ?_
          refine lv_lstore_n (lv' := [(3, .long ((lN (31) * ((lN (31) * ((lN (31) * ((lN (31) * (h9)) + lN ((u (2)).val))) + lN ((u (3)).val))) + lN ((u (4)).val))) + lN ((u (5)).val))), (5, .int (nI (5))), (0, .long (h9)), (2, .ref a9)]) hx hb dX5_hashCoefficients_23 rfl hl (by decide) rfl (fun ls hl => ?_)
          refine lv_iinc (v := nI 6) (lv' := [(5, .int (nI (6))), (3, .long ((lN (31) * ((lN (31) * ((lN (31) * ((lN (31) * (h9)) + lN ((u (2)).val))) + lN ((u (3)).val))) + lN ((u (4)).val))) + lN ((u (5)).val))), (0, .long (h9)), (2, .ref a9)]) hx hb dX5_hashCoefficients_24 hl (k := 1) rfl (by decide) (by decide) rfl (fun ls hl => ?_)
          refine lv_goto (tgt := 5) hx hb dX5_hashCoefficients_27 (by decide) ?_
          refine lv_iload hx hb dX5_hashCoefficients_5 (lv_at hl 0 rfl) ?_
          refine lv_bipush (v := nI 6) hx hb dX5_hashCoefficients_7 (by decide) ?_
          refine n_icmp_gt (tgt := 30) hx hb dX5_hashCoefficients_9 (by decide) (by decide) (by decide) (fun c_9 => ?_) (fun c_9 => ?_)
          · skip
            exact absurd c_9 (by omega)
          · skip
            refine lv_ldc2 (v := lN (31)) hx hb C0.ow (C0.ts _ kw_X5_253) dX5_hashCoefficients_12 ?_
            refine lv_lload_n hx hb dX5_hashCoefficients_15 rfl (lv_at hl 1 rfl) ?_
            refine lv_lmul hx hb dX5_hashCoefficients_16 ?_
            refine lv_aload_n hx hb dX5_hashCoefficients_17 rfl (lv_at hl 3 rfl) ?_
            refine lv_iload hx hb dX5_hashCoefficients_18 (lv_at hl 0 rfl) ?_
            refine q_rld C0 hw ha hf (6) (by omega) dX5_hashCoefficients_20 (fun z_3783 => ?_)
            refine n_i2l hx hb (by omega) dX5_hashCoefficients_21 ?_
            refine lv_ladd hx hb dX5_hashCoefficients_22 ?_
            refine lv_lstore_n (lv' := [(3, .long ((lN (31) * ((lN (31) * ((lN (31) * ((lN (31) * ((lN (31) * (h9)) + lN ((u (2)).val))) + lN ((u (3)).val))) + lN ((u (4)).val))) + lN ((u (5)).val))) + lN ((u (6)).val))), (5, .int (nI (6))), (0, .long (h9)), (2, .ref a9)]) hx hb dX5_hashCoefficients_23 rfl hl (by decide) rfl (fun ls hl => ?_)
            refine lv_iinc (v := nI 7) (lv' := [(5, .int (nI (7))), (3, .long ((lN (31) * ((lN (31) * ((lN (31) * ((lN (31) * ((lN (31) * (h9)) + lN ((u (2)).val))) + lN ((u (3)).val))) + lN ((u (4)).val))) + lN ((u (5)).val))) + lN ((u (6)).val))), (0, .long (h9)), (2, .ref a9)]) hx hb dX5_hashCoefficients_24 hl (k := 1) rfl (by decide) (by decide) rfl (fun ls hl => ?_)
            refine lv_goto (tgt := 5) hx hb dX5_hashCoefficients_27 (by decide) ?_
            refine lv_iload hx hb dX5_hashCoefficients_5 (lv_at hl 0 rfl) ?_
            refine lv_bipush (v := nI 6) hx hb dX5_hashCoefficients_7 (by decide) ?_
            refine n_icmp_gt (tgt := 30) hx hb dX5_hashCoefficients_9 (by decide) (by decide) (by decide) (fun c_9 => ?_) (fun c_9 => ?_)
            · skip
              refine lv_lload_n hx hb dX5_hashCoefficients_30 rfl (lv_at hl 1 rfl) ?_
              exact r_l C0 hr hlk hw ⟨rfl, (fun q  => rfl)⟩ (Nat.le_refl _) (Nat.le_refl _) dX5_hashCoefficients_31 hQ
            · skip
              exact absurd c_9 (by omega)
