abbrev rm_X6_digest : Room := { frames := 8, cells := 0, slots := 0, locals := 183 }
set_option maxHeartbeats 4000000 in
set_option maxRecDepth 100000 in
theorem k_X6_digest (l : Launch) (G : Gl) (L : List Nat) (F : Nat → va_E) (b : Nat) (ma : Nat → Nat) (A : AB) (th : Nat) (mb : b ∈ L) (hma : ∀ i, i < 7 → ma i ∈ L) (hM : MW G F b ma A th) (hA : okA A) (hn9 : cfR A.1.2.2.2.2.2 6 ≤ 6 * (A.1.1 - 1)) : CL l yX6_digest cX6_digest 2 (some .long) rm_X6_digest G L F [.ref b] (fun r F1 => r = dgst A ∧ MW G F1 b ma A 0 ∧ mFr F F1 b ma) := by
  obtain ⟨mi, hh, zf, hf, sf, kf, tf, pf, pl, fb, ⟨hm0, hm1, hm2⟩, ⟨fz, hz⟩, ⟨fh, hhf⟩, ⟨fs, hsf⟩, ⟨fk, hkf⟩, fp, ⟨ft, htf⟩, fq⟩ := hM
  obtain ⟨hz0, hz1, hz2, hz3, hz4⟩ := ne_z zf hz
  have hc : A.1.1 ≤ 6 := hA.1.2.1
  have hc2 : 2 ≤ A.1.1 := hA.1.1
  have hpu : A.1.2.1 ≤ 100000 := hA.1.2.2.1
  have hrw : ∀ i k, i < 12 → k < 7 → zf (5 + 7 * i + k) = nI (A.1.2.2.2.2.2 i k).val := hz.row
  have hl60 : A.2.2.2.1 ≤ 60 := hA.2.2.2.1
  refine CG_of (by decide) (Nat.le_of_ble_eq_true rfl) rfl ?_
  intro p e s m args below meth c Q C0 hr hlk hnm hQ hw ls hl
  have hx := C0.x
  have hb := C0.b
  refine lv_aload_n hx hb dX6_digest_0 rfl (lv_at hl 0 rfl) ?_
  refine lv_iconst (v := nI 0) hx hb dX6_digest_1 (by decide) ?_
  refine q_put C0 hw mb fb fw_X6_31 pw_X6_8 rfl rfl rfl (Nat.le_of_ble_eq_true rfl) dX6_digest_2 (fun F_11384 H locs hw f_11385 o_11386 => ?_)
  have f_11385 : F_11384 b = .inr (6, [.ref (ma 0), .int (mi 0), .ref (ma 1), .ref (ma 2), .ref (ma 3), .ref (ma 4), .int (mi 1), .ref (ma 5), .int (nI (0)), .ref (ma 6), .int (mi 3), .int (mi 4), .long (hh)]) := f_11385
  refine lv_aload_n hx hb dX6_digest_5 rfl (lv_at hl 0 rfl) ?_
  refine lv_ldc2 (v := lN (2473)) hx hb C0.ow (C0.ts _ kw_X6_244) dX6_digest_6 ?_
  refine q_put C0 hw mb f_11385 fw_X6_236 pw_X6_12 rfl rfl rfl (Nat.le_of_ble_eq_true rfl) dX6_digest_9 (fun F_11387 H locs hw f_11388 o_11389 => ?_)
  have f_11388 : F_11387 b = .inr (6, [.ref (ma 0), .int (mi 0), .ref (ma 1), .ref (ma 2), .ref (ma 3), .ref (ma 4), .int (mi 1), .ref (ma 5), .int (nI (0)), .ref (ma 6), .int (mi 3), .int (mi 4), .long (lN (2473))]) := f_11388
  have fbx_11390 := f_11388
  rw [hm1] at fbx_11390
  have fbx_11391 : F_11387 b = mO ma (va_up (va_up mi 2 (nI 0)) 1 (nI A.2.2.2.1)) (lN 2473) := fbx_11390
  refine lv_iconst (v := nI 0) hx hb dX6_digest_12 (by decide) ?_
  refine lv_istore_n (lv' := [(1, .int (nI (0))), (0, .ref b)]) hx hb dX6_digest_13 rfl hl (by decide) rfl (fun ls hl => ?_)
  refine lv_iload_n hx hb dX6_digest_14 rfl (lv_at hl 0 rfl) ?_
  refine lv_bipush (v := nI 9) hx hb dX6_digest_15 (by decide) ?_
  refine n_icmp_ge (tgt := 36) hx hb dX6_digest_17 (by decide) (by decide) (by decide) (fun c_17 => ?_) (fun c_17 => ?_)
  · skip
    exact absurd c_17 (by omega)
  · skip
    refine lv_aload_n hx hb dX6_digest_20 rfl (lv_at hl 1 rfl) ?_
    refine lv_aload_n hx hb dX6_digest_21 rfl (lv_at hl 1 rfl) ?_
    refine lv_iload_n hx hb dX6_digest_22 rfl (lv_at hl 0 rfl) ?_
    have f_11392 : F_11384 (ma 0) = .inl (G.2 0, 89, .inl zf) := (o_11386 (ma 0) (ne_ao fz fb)).trans fz
    have f_11393 : F_11387 (ma 0) = .inl (G.2 0, 89, .inl zf) := (o_11389 (ma 0) (ne_ao f_11392 f_11385)).trans f_11392
    have f_11394 : F_11384 (ma 3) = .inl (G.2 0, 2, .inl kf) := (o_11386 (ma 3) (ne_ao fk fb)).trans fk
    have f_11395 : F_11387 (ma 3) = .inl (G.2 0, 2, .inl kf) := (o_11389 (ma 3) (ne_ao f_11394 f_11385)).trans f_11394
    have f_11396 : F_11384 (ma 4) = pcE G pl := (o_11386 (ma 4) (ne_ao fp fb)).trans fp
    have f_11397 : F_11387 (ma 4) = pcE G pl := (o_11389 (ma 4) (ne_ao f_11396 f_11385)).trans f_11396
    refine q_calli hw (q_runV (As := [.int (nI (0))]) (c_X6_counted_0 l G L F_11387 b ma ((va_up (va_up mi 2 (nI 0)) 1 (nI A.2.2.2.1))) ((lN 2473)) zf kf pl A  mb fbx_11391 hma hm0 f_11393 hz f_11395 hkf f_11397 hA ) C0 hw vw_X6_227 mb fbx_11391 rfl rfl rfl hl.1 rfl (Nat.le_of_ble_eq_true rfl) dX6_digest_23 ⟨by decide, by decide⟩ ⟨by decide, by decide⟩) rfl rfl (fun r_11400 F_11398 H locs hw hp_11399 => ?_)
    obtain ⟨f_11402, ⟨P_11401, f_11403⟩, f_11404⟩ := hp_11399
    subst f_11402
    refine lv_i2l (v := (nI (cntA A 0)).toInt64) hx hb dX6_digest_26 rfl ?_
    have f_11405 : F_11398 b = mO ma ((va_up (va_up mi 2 (nI 0)) 1 (nI A.2.2.2.1))) ((lN 2473)) := (f_11404 b (ne_oa fbx_11391 f_11397)).trans fbx_11391
    refine q_callv hw (q_runV (As := [.long ((nI (cntA A 0)).toInt64)]) (c_X6_mix l G L F_11398 b ma ((va_up (va_up mi 2 (nI 0)) 1 (nI A.2.2.2.1))) ((lN 2473)) (((nI (cntA A 0)).toInt64)) mb f_11405) C0 hw vw_X6_240 mb f_11405 rfl rfl rfl hl.1 rfl (Nat.le_of_ble_eq_true rfl) dX6_digest_27 ⟨by decide, by decide⟩ ⟨by decide, by decide⟩) rfl rfl (fun F_11406 H locs hw hp_11407 => ?_)
    obtain ⟨hs_11408, eh_11409⟩ : ∃ h9 : Int64, h9 = lN 31 * ((lN 2473)) + ((nI (cntA A 0)).toInt64) := ⟨_, rfl⟩
    have f_11410 : F_11406 b = mO ma ((va_up (va_up mi 2 (nI 0)) 1 (nI A.2.2.2.1))) hs_11408 := by rw [eh_11409]; exact hp_11407.1
    refine lv_iinc (v := nI 1) (lv' := [(1, .int (nI (1))), (0, .ref b)]) hx hb dX6_digest_30 hl (k := 0) rfl (by decide) (by decide) rfl (fun ls hl => ?_)
    refine lv_goto (tgt := 14) hx hb dX6_digest_33 (by decide) ?_
    refine lv_iload_n hx hb dX6_digest_14 rfl (lv_at hl 0 rfl) ?_
    refine lv_bipush (v := nI 9) hx hb dX6_digest_15 (by decide) ?_
    refine n_icmp_ge (tgt := 36) hx hb dX6_digest_17 (by decide) (by decide) (by decide) (fun c_17 => ?_) (fun c_17 => ?_)
    · skip
      exact absurd c_17 (by omega)
    · skip
      refine lv_aload_n hx hb dX6_digest_20 rfl (lv_at hl 1 rfl) ?_
      refine lv_aload_n hx hb dX6_digest_21 rfl (lv_at hl 1 rfl) ?_
      refine lv_iload_n hx hb dX6_digest_22 rfl (lv_at hl 0 rfl) ?_
      have f_11411 : F_11398 (ma 0) = .inl (G.2 0, 89, .inl zf) := (f_11404 (ma 0) (ne_aa (by decide) f_11393 f_11397)).trans f_11393
      have f_11412 : F_11406 (ma 0) = .inl (G.2 0, 89, .inl zf) := (hp_11407.2 (ma 0) (ne_ao f_11411 f_11405)).trans f_11411
      have f_11413 : F_11398 (ma 3) = .inl (G.2 0, 2, .inl kf) := (f_11404 (ma 3) (ne_aa (by decide) f_11395 f_11397)).trans f_11395
      have f_11414 : F_11406 (ma 3) = .inl (G.2 0, 2, .inl kf) := (hp_11407.2 (ma 3) (ne_ao f_11413 f_11405)).trans f_11413
      have f_11415 : F_11406 (ma 4) = pcE G P_11401 := (hp_11407.2 (ma 4) (ne_ao f_11403 f_11405)).trans f_11403
      refine q_calli hw (q_runV (As := [.int (nI (1))]) (c_X6_counted_1 l G L F_11406 b ma ((va_up (va_up mi 2 (nI 0)) 1 (nI A.2.2.2.1))) hs_11408 zf kf P_11401 A  mb f_11410 hma hm0 f_11412 hz f_11414 hkf f_11415 hA ) C0 hw vw_X6_227 mb f_11410 rfl rfl rfl hl.1 rfl (Nat.le_of_ble_eq_true rfl) dX6_digest_23 ⟨by decide, by decide⟩ ⟨by decide, by decide⟩) rfl rfl (fun r_11418 F_11416 H locs hw hp_11417 => ?_)
      obtain ⟨f_11420, ⟨P_11419, f_11421⟩, f_11422⟩ := hp_11417
      subst f_11420
      refine lv_i2l (v := (nI (cntA A 1)).toInt64) hx hb dX6_digest_26 rfl ?_
      have f_11423 : F_11416 b = mO ma ((va_up (va_up mi 2 (nI 0)) 1 (nI A.2.2.2.1))) hs_11408 := (f_11422 b (ne_oa f_11410 f_11415)).trans f_11410
      refine q_callv hw (q_runV (As := [.long ((nI (cntA A 1)).toInt64)]) (c_X6_mix l G L F_11416 b ma ((va_up (va_up mi 2 (nI 0)) 1 (nI A.2.2.2.1))) hs_11408 (((nI (cntA A 1)).toInt64)) mb f_11423) C0 hw vw_X6_240 mb f_11423 rfl rfl rfl hl.1 rfl (Nat.le_of_ble_eq_true rfl) dX6_digest_27 ⟨by decide, by decide⟩ ⟨by decide, by decide⟩) rfl rfl (fun F_11424 H locs hw hp_11425 => ?_)
      obtain ⟨hs_11426, eh_11427⟩ : ∃ h9 : Int64, h9 = lN 31 * hs_11408 + ((nI (cntA A 1)).toInt64) := ⟨_, rfl⟩
      have f_11428 : F_11424 b = mO ma ((va_up (va_up mi 2 (nI 0)) 1 (nI A.2.2.2.1))) hs_11426 := by rw [eh_11427]; exact hp_11425.1
      refine lv_iinc (v := nI 2) (lv' := [(1, .int (nI (2))), (0, .ref b)]) hx hb dX6_digest_30 hl (k := 0) rfl (by decide) (by decide) rfl (fun ls hl => ?_)
      refine lv_goto (tgt := 14) hx hb dX6_digest_33 (by decide) ?_
      refine lv_iload_n hx hb dX6_digest_14 rfl (lv_at hl 0 rfl) ?_
      refine lv_bipush (v := nI 9) hx hb dX6_digest_15 (by decide) ?_
      refine n_icmp_ge (tgt := 36) hx hb dX6_digest_17 (by decide) (by decide) (by decide) (fun c_17 => ?_) (fun c_17 => ?_)
      · skip
        exact absurd c_17 (by omega)
      · skip
        refine lv_aload_n hx hb dX6_digest_20 rfl (lv_at hl 1 rfl) ?_
        refine lv_aload_n hx hb dX6_digest_21 rfl (lv_at hl 1 rfl) ?_
        refine lv_iload_n hx hb dX6_digest_22 rfl (lv_at hl 0 rfl) ?_
        have f_11429 : F_11416 (ma 0) = .inl (G.2 0, 89, .inl zf) := (f_11422 (ma 0) (ne_aa (by decide) f_11412 f_11415)).trans f_11412
        have f_11430 : F_11424 (ma 0) = .inl (G.2 0, 89, .inl zf) := (hp_11425.2 (ma 0) (ne_ao f_11429 f_11423)).trans f_11429
        have f_11431 : F_11416 (ma 3) = .inl (G.2 0, 2, .inl kf) := (f_11422 (ma 3) (ne_aa (by decide) f_11414 f_11415)).trans f_11414
        have f_11432 : F_11424 (ma 3) = .inl (G.2 0, 2, .inl kf) := (hp_11425.2 (ma 3) (ne_ao f_11431 f_11423)).trans f_11431
        have f_11433 : F_11424 (ma 4) = pcE G P_11419 := (hp_11425.2 (ma 4) (ne_ao f_11421 f_11423)).trans f_11421
        refine q_calli hw (q_runV (As := [.int (nI (2))]) (c_X6_counted_2 l G L F_11424 b ma ((va_up (va_up mi 2 (nI 0)) 1 (nI A.2.2.2.1))) hs_11426 zf kf P_11419 A  mb f_11428 hma hm0 f_11430 hz f_11432 hkf f_11433 hA ) C0 hw vw_X6_227 mb f_11428 rfl rfl rfl hl.1 rfl (Nat.le_of_ble_eq_true rfl) dX6_digest_23 ⟨by decide, by decide⟩ ⟨by decide, by decide⟩) rfl rfl (fun r_11436 F_11434 H locs hw hp_11435 => ?_)
        obtain ⟨f_11438, ⟨P_11437, f_11439⟩, f_11440⟩ := hp_11435
        subst f_11438
        refine lv_i2l (v := (nI (cntA A 2)).toInt64) hx hb dX6_digest_26 rfl ?_
        have f_11441 : F_11434 b = mO ma ((va_up (va_up mi 2 (nI 0)) 1 (nI A.2.2.2.1))) hs_11426 := (f_11440 b (ne_oa f_11428 f_11433)).trans f_11428
        refine q_callv hw (q_runV (As := [.long ((nI (cntA A 2)).toInt64)]) (c_X6_mix l G L F_11434 b ma ((va_up (va_up mi 2 (nI 0)) 1 (nI A.2.2.2.1))) hs_11426 (((nI (cntA A 2)).toInt64)) mb f_11441) C0 hw vw_X6_240 mb f_11441 rfl rfl rfl hl.1 rfl (Nat.le_of_ble_eq_true rfl) dX6_digest_27 ⟨by decide, by decide⟩ ⟨by decide, by decide⟩) rfl rfl (fun F_11442 H locs hw hp_11443 => ?_)
        obtain ⟨hs_11444, eh_11445⟩ : ∃ h9 : Int64, h9 = lN 31 * hs_11426 + ((nI (cntA A 2)).toInt64) := ⟨_, rfl⟩
        have f_11446 : F_11442 b = mO ma ((va_up (va_up mi 2 (nI 0)) 1 (nI A.2.2.2.1))) hs_11444 := by rw [eh_11445]; exact hp_11443.1
        refine lv_iinc (v := nI 3) (lv' := [(1, .int (nI (3))), (0, .ref b)]) hx hb dX6_digest_30 hl (k := 0) rfl (by decide) (by decide) rfl (fun ls hl => ?_)
        refine lv_goto (tgt := 14) hx hb dX6_digest_33 (by decide) ?_
        refine lv_iload_n hx hb dX6_digest_14 rfl (lv_at hl 0 rfl) ?_
        refine lv_bipush (v := nI 9) hx hb dX6_digest_15 (by decide) ?_
        refine n_icmp_ge (tgt := 36) hx hb dX6_digest_17 (by decide) (by decide) (by decide) (fun c_17 => ?_) (fun c_17 => ?_)
        · skip
          exact absurd c_17 (by omega)
        · skip
          refine lv_aload_n hx hb dX6_digest_20 rfl (lv_at hl 1 rfl) ?_
          refine lv_aload_n hx hb dX6_digest_21 rfl (lv_at hl 1 rfl) ?_
          refine lv_iload_n hx hb dX6_digest_22 rfl (lv_at hl 0 rfl) ?_
          have f_11447 : F_11434 (ma 0) = .inl (G.2 0, 89, .inl zf) := (f_11440 (ma 0) (ne_aa (by decide) f_11430 f_11433)).trans f_11430
          have f_11448 : F_11442 (ma 0) = .inl (G.2 0, 89, .inl zf) := (hp_11443.2 (ma 0) (ne_ao f_11447 f_11441)).trans f_11447
          have f_11449 : F_11434 (ma 3) = .inl (G.2 0, 2, .inl kf) := (f_11440 (ma 3) (ne_aa (by decide) f_11432 f_11433)).trans f_11432
          have f_11450 : F_11442 (ma 3) = .inl (G.2 0, 2, .inl kf) := (hp_11443.2 (ma 3) (ne_ao f_11449 f_11441)).trans f_11449
          have f_11451 : F_11442 (ma 4) = pcE G P_11437 := (hp_11443.2 (ma 4) (ne_ao f_11439 f_11441)).trans f_11439
          refine q_calli hw (q_runV (As := [.int (nI (3))]) (c_X6_counted_3 l G L F_11442 b ma ((va_up (va_up mi 2 (nI 0)) 1 (nI A.2.2.2.1))) hs_11444 zf kf P_11437 A  mb f_11446 hma hm0 f_11448 hz f_11450 hkf f_11451 hA ) C0 hw vw_X6_227 mb f_11446 rfl rfl rfl hl.1 rfl (Nat.le_of_ble_eq_true rfl) dX6_digest_23 ⟨by decide, by decide⟩ ⟨by decide, by decide⟩) rfl rfl (fun r_11454 F_11452 H locs hw hp_11453 => ?_)
          obtain ⟨f_11456, ⟨P_11455, f_11457⟩, f_11458⟩ := hp_11453
          subst f_11456
          refine lv_i2l (v := (nI (cntA A 3)).toInt64) hx hb dX6_digest_26 rfl ?_
          have f_11459 : F_11452 b = mO ma ((va_up (va_up mi 2 (nI 0)) 1 (nI A.2.2.2.1))) hs_11444 := (f_11458 b (ne_oa f_11446 f_11451)).trans f_11446
          refine q_callv hw (q_runV (As := [.long ((nI (cntA A 3)).toInt64)]) (c_X6_mix l G L F_11452 b ma ((va_up (va_up mi 2 (nI 0)) 1 (nI A.2.2.2.1))) hs_11444 (((nI (cntA A 3)).toInt64)) mb f_11459) C0 hw vw_X6_240 mb f_11459 rfl rfl rfl hl.1 rfl (Nat.le_of_ble_eq_true rfl) dX6_digest_27 ⟨by decide, by decide⟩ ⟨by decide, by decide⟩) rfl rfl (fun F_11460 H locs hw hp_11461 => ?_)
          obtain ⟨hs_11462, eh_11463⟩ : ∃ h9 : Int64, h9 = lN 31 * hs_11444 + ((nI (cntA A 3)).toInt64) := ⟨_, rfl⟩
          have f_11464 : F_11460 b = mO ma ((va_up (va_up mi 2 (nI 0)) 1 (nI A.2.2.2.1))) hs_11462 := by rw [eh_11463]; exact hp_11461.1
          refine lv_iinc (v := nI 4) (lv' := [(1, .int (nI (4))), (0, .ref b)]) hx hb dX6_digest_30 hl (k := 0) rfl (by decide) (by decide) rfl (fun ls hl => ?_)
          refine lv_goto (tgt := 14) hx hb dX6_digest_33 (by decide) ?_
          refine lv_iload_n hx hb dX6_digest_14 rfl (lv_at hl 0 rfl) ?_
          refine lv_bipush (v := nI 9) hx hb dX6_digest_15 (by decide) ?_
          refine n_icmp_ge (tgt := 36) hx hb dX6_digest_17 (by decide) (by decide) (by decide) (fun c_17 => ?_) (fun c_17 => ?_)
          · skip
            exact absurd c_17 (by omega)
          · skip
            refine lv_aload_n hx hb dX6_digest_20 rfl (lv_at hl 1 rfl) ?_
            refine lv_aload_n hx hb dX6_digest_21 rfl (lv_at hl 1 rfl) ?_
            refine lv_iload_n hx hb dX6_digest_22 rfl (lv_at hl 0 rfl) ?_
            have f_11465 : F_11452 (ma 0) = .inl (G.2 0, 89, .inl zf) := (f_11458 (ma 0) (ne_aa (by decide) f_11448 f_11451)).trans f_11448
            have f_11466 : F_11460 (ma 0) = .inl (G.2 0, 89, .inl zf) := (hp_11461.2 (ma 0) (ne_ao f_11465 f_11459)).trans f_11465
            have f_11467 : F_11452 (ma 3) = .inl (G.2 0, 2, .inl kf) := (f_11458 (ma 3) (ne_aa (by decide) f_11450 f_11451)).trans f_11450
            have f_11468 : F_11460 (ma 3) = .inl (G.2 0, 2, .inl kf) := (hp_11461.2 (ma 3) (ne_ao f_11467 f_11459)).trans f_11467
            have f_11469 : F_11460 (ma 4) = pcE G P_11455 := (hp_11461.2 (ma 4) (ne_ao f_11457 f_11459)).trans f_11457
            refine q_calli hw (q_runV (As := [.int (nI (4))]) (c_X6_counted_4 l G L F_11460 b ma ((va_up (va_up mi 2 (nI 0)) 1 (nI A.2.2.2.1))) hs_11462 zf kf P_11455 A  mb f_11464 hma hm0 f_11466 hz f_11468 hkf f_11469 hA ) C0 hw vw_X6_227 mb f_11464 rfl rfl rfl hl.1 rfl (Nat.le_of_ble_eq_true rfl) dX6_digest_23 ⟨by decide, by decide⟩ ⟨by decide, by decide⟩) rfl rfl (fun r_11472 F_11470 H locs hw hp_11471 => ?_)
            obtain ⟨f_11474, ⟨P_11473, f_11475⟩, f_11476⟩ := hp_11471
            subst f_11474
            refine lv_i2l (v := (nI (cntA A 4)).toInt64) hx hb dX6_digest_26 rfl ?_
            have f_11477 : F_11470 b = mO ma ((va_up (va_up mi 2 (nI 0)) 1 (nI A.2.2.2.1))) hs_11462 := (f_11476 b (ne_oa f_11464 f_11469)).trans f_11464
            refine q_callv hw (q_runV (As := [.long ((nI (cntA A 4)).toInt64)]) (c_X6_mix l G L F_11470 b ma ((va_up (va_up mi 2 (nI 0)) 1 (nI A.2.2.2.1))) hs_11462 (((nI (cntA A 4)).toInt64)) mb f_11477) C0 hw vw_X6_240 mb f_11477 rfl rfl rfl hl.1 rfl (Nat.le_of_ble_eq_true rfl) dX6_digest_27 ⟨by decide, by decide⟩ ⟨by decide, by decide⟩) rfl rfl (fun F_11478 H locs hw hp_11479 => ?_)
            obtain ⟨hs_11480, eh_11481⟩ : ∃ h9 : Int64, h9 = lN 31 * hs_11462 + ((nI (cntA A 4)).toInt64) := ⟨_, rfl⟩
            have f_11482 : F_11478 b = mO ma ((va_up (va_up mi 2 (nI 0)) 1 (nI A.2.2.2.1))) hs_11480 := by rw [eh_11481]; exact hp_11479.1
            refine lv_iinc (v := nI 5) (lv' := [(1, .int (nI (5))), (0, .ref b)]) hx hb dX6_digest_30 hl (k := 0) rfl (by decide) (by decide) rfl (fun ls hl => ?_)
            refine lv_goto (tgt := 14) hx hb dX6_digest_33 (by decide) ?_
            refine lv_iload_n hx hb dX6_digest_14 rfl (lv_at hl 0 rfl) ?_
            refine lv_bipush (v := nI 9) hx hb dX6_digest_15 (by decide) ?_
            refine n_icmp_ge (tgt := 36) hx hb dX6_digest_17 (by decide) (by decide) (by decide) (fun c_17 => ?_) (fun c_17 => ?_)
            · skip
              exact absurd c_17 (by omega)
            · skip
              refine lv_aload_n hx hb dX6_digest_20 rfl (lv_at hl 1 rfl) ?_
              refine lv_aload_n hx hb dX6_digest_21 rfl (lv_at hl 1 rfl) ?_
              refine lv_iload_n hx hb dX6_digest_22 rfl (lv_at hl 0 rfl) ?_
              have f_11483 : F_11470 (ma 0) = .inl (G.2 0, 89, .inl zf) := (f_11476 (ma 0) (ne_aa (by decide) f_11466 f_11469)).trans f_11466
              have f_11484 : F_11478 (ma 0) = .inl (G.2 0, 89, .inl zf) := (hp_11479.2 (ma 0) (ne_ao f_11483 f_11477)).trans f_11483
              have f_11485 : F_11470 (ma 3) = .inl (G.2 0, 2, .inl kf) := (f_11476 (ma 3) (ne_aa (by decide) f_11468 f_11469)).trans f_11468
              have f_11486 : F_11478 (ma 3) = .inl (G.2 0, 2, .inl kf) := (hp_11479.2 (ma 3) (ne_ao f_11485 f_11477)).trans f_11485
              have f_11487 : F_11478 (ma 4) = pcE G P_11473 := (hp_11479.2 (ma 4) (ne_ao f_11475 f_11477)).trans f_11475
              refine q_calli hw (q_runV (As := [.int (nI (5))]) (c_X6_counted_5 l G L F_11478 b ma ((va_up (va_up mi 2 (nI 0)) 1 (nI A.2.2.2.1))) hs_11480 zf kf P_11473 A  mb f_11482 hma hm0 f_11484 hz f_11486 hkf f_11487 hA ) C0 hw vw_X6_227 mb f_11482 rfl rfl rfl hl.1 rfl (Nat.le_of_ble_eq_true rfl) dX6_digest_23 ⟨by decide, by decide⟩ ⟨by decide, by decide⟩) rfl rfl (fun r_11490 F_11488 H locs hw hp_11489 => ?_)
              obtain ⟨f_11492, ⟨P_11491, f_11493⟩, f_11494⟩ := hp_11489
              subst f_11492
              refine lv_i2l (v := (nI (cntA A 5)).toInt64) hx hb dX6_digest_26 rfl ?_
              have f_11495 : F_11488 b = mO ma ((va_up (va_up mi 2 (nI 0)) 1 (nI A.2.2.2.1))) hs_11480 := (f_11494 b (ne_oa f_11482 f_11487)).trans f_11482
              refine q_callv hw (q_runV (As := [.long ((nI (cntA A 5)).toInt64)]) (c_X6_mix l G L F_11488 b ma ((va_up (va_up mi 2 (nI 0)) 1 (nI A.2.2.2.1))) hs_11480 (((nI (cntA A 5)).toInt64)) mb f_11495) C0 hw vw_X6_240 mb f_11495 rfl rfl rfl hl.1 rfl (Nat.le_of_ble_eq_true rfl) dX6_digest_27 ⟨by decide, by decide⟩ ⟨by decide, by decide⟩) rfl rfl (fun F_11496 H locs hw hp_11497 => ?_)
              obtain ⟨hs_11498, eh_11499⟩ : ∃ h9 : Int64, h9 = lN 31 * hs_11480 + ((nI (cntA A 5)).toInt64) := ⟨_, rfl⟩
              have f_11500 : F_11496 b = mO ma ((va_up (va_up mi 2 (nI 0)) 1 (nI A.2.2.2.1))) hs_11498 := by rw [eh_11499]; exact hp_11497.1
              refine lv_iinc (v := nI 6) (lv' := [(1, .int (nI (6))), (0, .ref b)]) hx hb dX6_digest_30 hl (k := 0) rfl (by decide) (by decide) rfl (fun ls hl => ?_)
              refine lv_goto (tgt := 14) hx hb dX6_digest_33 (by decide) ?_
              refine lv_iload_n hx hb dX6_digest_14 rfl (lv_at hl 0 rfl) ?_
              refine lv_bipush (v := nI 9) hx hb dX6_digest_15 (by decide) ?_
              refine n_icmp_ge (tgt := 36) hx hb dX6_digest_17 (by decide) (by decide) (by decide) (fun c_17 => ?_) (fun c_17 => ?_)
              · skip
                exact absurd c_17 (by omega)
              · skip
                refine lv_aload_n hx hb dX6_digest_20 rfl (lv_at hl 1 rfl) ?_
                refine lv_aload_n hx hb dX6_digest_21 rfl (lv_at hl 1 rfl) ?_
                refine lv_iload_n hx hb dX6_digest_22 rfl (lv_at hl 0 rfl) ?_
                have f_11501 : F_11488 (ma 0) = .inl (G.2 0, 89, .inl zf) := (f_11494 (ma 0) (ne_aa (by decide) f_11484 f_11487)).trans f_11484
                have f_11502 : F_11496 (ma 0) = .inl (G.2 0, 89, .inl zf) := (hp_11497.2 (ma 0) (ne_ao f_11501 f_11495)).trans f_11501
                have f_11503 : F_11488 (ma 3) = .inl (G.2 0, 2, .inl kf) := (f_11494 (ma 3) (ne_aa (by decide) f_11486 f_11487)).trans f_11486
                have f_11504 : F_11496 (ma 3) = .inl (G.2 0, 2, .inl kf) := (hp_11497.2 (ma 3) (ne_ao f_11503 f_11495)).trans f_11503
                have f_11505 : F_11496 (ma 4) = pcE G P_11491 := (hp_11497.2 (ma 4) (ne_ao f_11493 f_11495)).trans f_11493
                refine q_calli hw (q_runV (As := [.int (nI (6))]) (c_X6_counted_6 l G L F_11496 b ma ((va_up (va_up mi 2 (nI 0)) 1 (nI A.2.2.2.1))) hs_11498 zf kf P_11491 A  mb f_11500 hma hm0 f_11502 hz f_11504 hkf f_11505 hA ) C0 hw vw_X6_227 mb f_11500 rfl rfl rfl hl.1 rfl (Nat.le_of_ble_eq_true rfl) dX6_digest_23 ⟨by decide, by decide⟩ ⟨by decide, by decide⟩) rfl rfl (fun r_11508 F_11506 H locs hw hp_11507 => ?_)
                obtain ⟨f_11510, ⟨P_11509, f_11511⟩, f_11512⟩ := hp_11507
                subst f_11510
                refine lv_i2l (v := (nI (cntA A 6)).toInt64) hx hb dX6_digest_26 rfl ?_
                have f_11513 : F_11506 b = mO ma ((va_up (va_up mi 2 (nI 0)) 1 (nI A.2.2.2.1))) hs_11498 := (f_11512 b (ne_oa f_11500 f_11505)).trans f_11500
                refine q_callv hw (q_runV (As := [.long ((nI (cntA A 6)).toInt64)]) (c_X6_mix l G L F_11506 b ma ((va_up (va_up mi 2 (nI 0)) 1 (nI A.2.2.2.1))) hs_11498 (((nI (cntA A 6)).toInt64)) mb f_11513) C0 hw vw_X6_240 mb f_11513 rfl rfl rfl hl.1 rfl (Nat.le_of_ble_eq_true rfl) dX6_digest_27 ⟨by decide, by decide⟩ ⟨by decide, by decide⟩) rfl rfl (fun F_11514 H locs hw hp_11515 => ?_)
                obtain ⟨hs_11516, eh_11517⟩ : ∃ h9 : Int64, h9 = lN 31 * hs_11498 + ((nI (cntA A 6)).toInt64) := ⟨_, rfl⟩
                have f_11518 : F_11514 b = mO ma ((va_up (va_up mi 2 (nI 0)) 1 (nI A.2.2.2.1))) hs_11516 := by rw [eh_11517]; exact hp_11515.1
                refine lv_iinc (v := nI 7) (lv' := [(1, .int (nI (7))), (0, .ref b)]) hx hb dX6_digest_30 hl (k := 0) rfl (by decide) (by decide) rfl (fun ls hl => ?_)
                refine lv_goto (tgt := 14) hx hb dX6_digest_33 (by decide) ?_
                refine lv_iload_n hx hb dX6_digest_14 rfl (lv_at hl 0 rfl) ?_
                refine lv_bipush (v := nI 9) hx hb dX6_digest_15 (by decide) ?_
                refine n_icmp_ge (tgt := 36) hx hb dX6_digest_17 (by decide) (by decide) (by decide) (fun c_17 => ?_) (fun c_17 => ?_)
                · skip
                  exact absurd c_17 (by omega)
                · skip
                  refine lv_aload_n hx hb dX6_digest_20 rfl (lv_at hl 1 rfl) ?_
                  refine lv_aload_n hx hb dX6_digest_21 rfl (lv_at hl 1 rfl) ?_
                  refine lv_iload_n hx hb dX6_digest_22 rfl (lv_at hl 0 rfl) ?_
                  have f_11519 : F_11506 (ma 0) = .inl (G.2 0, 89, .inl zf) := (f_11512 (ma 0) (ne_aa (by decide) f_11502 f_11505)).trans f_11502
                  have f_11520 : F_11514 (ma 0) = .inl (G.2 0, 89, .inl zf) := (hp_11515.2 (ma 0) (ne_ao f_11519 f_11513)).trans f_11519
                  have f_11521 : F_11506 (ma 3) = .inl (G.2 0, 2, .inl kf) := (f_11512 (ma 3) (ne_aa (by decide) f_11504 f_11505)).trans f_11504
                  have f_11522 : F_11514 (ma 3) = .inl (G.2 0, 2, .inl kf) := (hp_11515.2 (ma 3) (ne_ao f_11521 f_11513)).trans f_11521
                  have f_11523 : F_11514 (ma 4) = pcE G P_11509 := (hp_11515.2 (ma 4) (ne_ao f_11511 f_11513)).trans f_11511
                  refine q_calli hw (q_runV (As := [.int (nI (7))]) (c_X6_counted_7 l G L F_11514 b ma ((va_up (va_up mi 2 (nI 0)) 1 (nI A.2.2.2.1))) hs_11516 zf kf P_11509 A  mb f_11518 hma hm0 f_11520 hz f_11522 hkf f_11523 hA ) C0 hw vw_X6_227 mb f_11518 rfl rfl rfl hl.1 rfl (Nat.le_of_ble_eq_true rfl) dX6_digest_23 ⟨by decide, by decide⟩ ⟨by decide, by decide⟩) rfl rfl (fun r_11526 F_11524 H locs hw hp_11525 => ?_)
                  obtain ⟨f_11528, ⟨P_11527, f_11529⟩, f_11530⟩ := hp_11525
                  subst f_11528
                  refine lv_i2l (v := (nI (cntA A 7)).toInt64) hx hb dX6_digest_26 rfl ?_
                  have f_11531 : F_11524 b = mO ma ((va_up (va_up mi 2 (nI 0)) 1 (nI A.2.2.2.1))) hs_11516 := (f_11530 b (ne_oa f_11518 f_11523)).trans f_11518
                  refine q_callv hw (q_runV (As := [.long ((nI (cntA A 7)).toInt64)]) (c_X6_mix l G L F_11524 b ma ((va_up (va_up mi 2 (nI 0)) 1 (nI A.2.2.2.1))) hs_11516 (((nI (cntA A 7)).toInt64)) mb f_11531) C0 hw vw_X6_240 mb f_11531 rfl rfl rfl hl.1 rfl (Nat.le_of_ble_eq_true rfl) dX6_digest_27 ⟨by decide, by decide⟩ ⟨by decide, by decide⟩) rfl rfl (fun F_11532 H locs hw hp_11533 => ?_)
                  obtain ⟨hs_11534, eh_11535⟩ : ∃ h9 : Int64, h9 = lN 31 * hs_11516 + ((nI (cntA A 7)).toInt64) := ⟨_, rfl⟩
                  have f_11536 : F_11532 b = mO ma ((va_up (va_up mi 2 (nI 0)) 1 (nI A.2.2.2.1))) hs_11534 := by rw [eh_11535]; exact hp_11533.1
                  refine lv_iinc (v := nI 8) (lv' := [(1, .int (nI (8))), (0, .ref b)]) hx hb dX6_digest_30 hl (k := 0) rfl (by decide) (by decide) rfl (fun ls hl => ?_)
                  refine lv_goto (tgt := 14) hx hb dX6_digest_33 (by decide) ?_
                  refine lv_iload_n hx hb dX6_digest_14 rfl (lv_at hl 0 rfl) ?_
                  refine lv_bipush (v := nI 9) hx hb dX6_digest_15 (by decide) ?_
                  refine n_icmp_ge (tgt := 36) hx hb dX6_digest_17 (by decide) (by decide) (by decide) (fun c_17 => ?_) (fun c_17 => ?_)
                  · skip
                    exact absurd c_17 (by omega)
                  · skip
                    refine lv_aload_n hx hb dX6_digest_20 rfl (lv_at hl 1 rfl) ?_
                    refine lv_aload_n hx hb dX6_digest_21 rfl (lv_at hl 1 rfl) ?_
                    refine lv_iload_n hx hb dX6_digest_22 rfl (lv_at hl 0 rfl) ?_
                    have f_11537 : F_11524 (ma 0) = .inl (G.2 0, 89, .inl zf) := (f_11530 (ma 0) (ne_aa (by decide) f_11520 f_11523)).trans f_11520
                    have f_11538 : F_11532 (ma 0) = .inl (G.2 0, 89, .inl zf) := (hp_11533.2 (ma 0) (ne_ao f_11537 f_11531)).trans f_11537
                    have f_11539 : F_11524 (ma 3) = .inl (G.2 0, 2, .inl kf) := (f_11530 (ma 3) (ne_aa (by decide) f_11522 f_11523)).trans f_11522
                    have f_11540 : F_11532 (ma 3) = .inl (G.2 0, 2, .inl kf) := (hp_11533.2 (ma 3) (ne_ao f_11539 f_11531)).trans f_11539
                    have f_11541 : F_11532 (ma 4) = pcE G P_11527 := (hp_11533.2 (ma 4) (ne_ao f_11529 f_11531)).trans f_11529
                    refine q_calli hw (q_runV (As := [.int (nI (8))]) (c_X6_counted_8 l G L F_11532 b ma ((va_up (va_up mi 2 (nI 0)) 1 (nI A.2.2.2.1))) hs_11534 zf kf P_11527 A  mb f_11536 hma hm0 f_11538 hz f_11540 hkf f_11541 hA ) C0 hw vw_X6_227 mb f_11536 rfl rfl rfl hl.1 rfl (Nat.le_of_ble_eq_true rfl) dX6_digest_23 ⟨by decide, by decide⟩ ⟨by decide, by decide⟩) rfl rfl (fun r_11544 F_11542 H locs hw hp_11543 => ?_)
                    obtain ⟨f_11546, ⟨P_11545, f_11547⟩, f_11548⟩ := hp_11543
                    subst f_11546
                    refine lv_i2l (v := (nI (cntA A 8)).toInt64) hx hb dX6_digest_26 rfl ?_
                    have f_11549 : F_11542 b = mO ma ((va_up (va_up mi 2 (nI 0)) 1 (nI A.2.2.2.1))) hs_11534 := (f_11548 b (ne_oa f_11536 f_11541)).trans f_11536
                    refine q_callv hw (q_runV (As := [.long ((nI (cntA A 8)).toInt64)]) (c_X6_mix l G L F_11542 b ma ((va_up (va_up mi 2 (nI 0)) 1 (nI A.2.2.2.1))) hs_11534 (((nI (cntA A 8)).toInt64)) mb f_11549) C0 hw vw_X6_240 mb f_11549 rfl rfl rfl hl.1 rfl (Nat.le_of_ble_eq_true rfl) dX6_digest_27 ⟨by decide, by decide⟩ ⟨by decide, by decide⟩) rfl rfl (fun F_11550 H locs hw hp_11551 => ?_)
                    obtain ⟨hs_11552, eh_11553⟩ : ∃ h9 : Int64, h9 = lN 31 * hs_11534 + ((nI (cntA A 8)).toInt64) := ⟨_, rfl⟩
                    have f_11554 : F_11550 b = mO ma ((va_up (va_up mi 2 (nI 0)) 1 (nI A.2.2.2.1))) hs_11552 := by rw [eh_11553]; exact hp_11551.1
                    refine lv_iinc (v := nI 9) (lv' := [(1, .int (nI (9))), (0, .ref b)]) hx hb dX6_digest_30 hl (k := 0) rfl (by decide) (by decide) rfl (fun ls hl => ?_)
                    refine lv_goto (tgt := 14) hx hb dX6_digest_33 (by decide) ?_
                    refine lv_iload_n hx hb dX6_digest_14 rfl (lv_at hl 0 rfl) ?_
                    refine lv_bipush (v := nI 9) hx hb dX6_digest_15 (by decide) ?_
                    refine n_icmp_ge (tgt := 36) hx hb dX6_digest_17 (by decide) (by decide) (by decide) (fun c_17 => ?_) (fun c_17 => ?_)
                    · skip
                      have hq36 : hs_11552 = dgC9 A := by rw [eh_11553, eh_11535, eh_11517, eh_11499, eh_11481, eh_11463, eh_11445, eh_11427, eh_11409]; rfl
                      refine lv_iconst (v := nI 0) hx hb dX6_digest_36 (by decide) ?_
                      refine lv_istore_n (lv' := [(1, .int (nI (0))), (0, .ref b)]) hx hb dX6_digest_37 rfl hl (by decide) rfl (fun ls hl => ?_)
                      refine lv_iload_n hx hb dX6_digest_38 rfl (lv_at hl 0 rfl) ?_
                      refine lv_bipush (v := nI 6) hx hb dX6_digest_39 (by decide) ?_
                      refine n_icmp_ge (tgt := 55) hx hb dX6_digest_41 (by decide) (by decide) (by decide) (fun c_41 => ?_) (fun c_41 => ?_)
                      · skip
                        exact absurd c_41 (by omega)
                      · skip
                        refine lv_aload_n hx hb dX6_digest_44 rfl (lv_at hl 1 rfl) ?_
                        refine lv_iload_n hx hb dX6_digest_45 rfl (lv_at hl 0 rfl) ?_
                        have f_11555 : F_11542 (ma 0) = .inl (G.2 0, 89, .inl zf) := (f_11548 (ma 0) (ne_aa (by decide) f_11538 f_11541)).trans f_11538
                        have f_11556 : F_11550 (ma 0) = .inl (G.2 0, 89, .inl zf) := (hp_11551.2 (ma 0) (ne_ao f_11555 f_11549)).trans f_11555
                        have f_11557 : F_11542 (ma 3) = .inl (G.2 0, 2, .inl kf) := (f_11548 (ma 3) (ne_aa (by decide) f_11540 f_11541)).trans f_11540
                        have f_11558 : F_11550 (ma 3) = .inl (G.2 0, 2, .inl kf) := (hp_11551.2 (ma 3) (ne_ao f_11557 f_11549)).trans f_11557
                        have f_11559 : F_11550 (ma 4) = pcE G P_11545 := (hp_11551.2 (ma 4) (ne_ao f_11547 f_11549)).trans f_11547
                        refine q_callv hw (q_runV (As := [.int (nI (0))]) (c_X6_mixSlot l G L F_11550 b ma ((va_up (va_up mi 2 (nI 0)) 1 (nI A.2.2.2.1))) hs_11552 zf kf P_11545 A 0 mb f_11554 hma hm0 f_11556 hz f_11558 hkf f_11559 hA (by decide)) C0 hw vw_X6_246 mb f_11554 rfl rfl rfl hl.1 rfl (Nat.le_of_ble_eq_true rfl) dX6_digest_46 ⟨by decide, by decide⟩ ⟨by decide, by decide⟩) rfl rfl (fun F_11560 H locs hw hp_11561 => ?_)
                        obtain ⟨f_11564, ⟨P_11566, f_11567⟩, o_11568⟩ := hp_11561
                        obtain ⟨hs_11562, eh_11563⟩ : ∃ h9 : Int64, h9 = hLk A 0 (hC (hC hs_11552 (A.1.2.2.2.2.2 0)) (A.1.2.2.2.2.2 (6 + 0))) := ⟨_, rfl⟩
                        have f_11565 : F_11560 b = mO ma ((va_up (va_up mi 2 (nI 0)) 1 (nI A.2.2.2.1))) hs_11562 := by rw [eh_11563]; exact f_11564
                        refine lv_iinc (v := nI 1) (lv' := [(1, .int (nI (1))), (0, .ref b)]) hx hb dX6_digest_49 hl (k := 0) rfl (by decide) (by decide) rfl (fun ls hl => ?_)
                        refine lv_goto (tgt := 38) hx hb dX6_digest_52 (by decide) ?_
                        refine lv_iload_n hx hb dX6_digest_38 rfl (lv_at hl 0 rfl) ?_
                        refine lv_bipush (v := nI 6) hx hb dX6_digest_39 (by decide) ?_
                        refine n_icmp_ge (tgt := 55) hx hb dX6_digest_41 (by decide) (by decide) (by decide) (fun c_41 => ?_) (fun c_41 => ?_)
                        · skip
                          exact absurd c_41 (by omega)
                        · skip
                          refine lv_aload_n hx hb dX6_digest_44 rfl (lv_at hl 1 rfl) ?_
                          refine lv_iload_n hx hb dX6_digest_45 rfl (lv_at hl 0 rfl) ?_
                          have f_11569 : F_11560 (ma 0) = .inl (G.2 0, 89, .inl zf) := (o_11568 (ma 0) (ne_ao f_11556 f_11554) (ne_aa (by decide) f_11556 f_11559)).trans f_11556
                          have f_11570 : F_11560 (ma 3) = .inl (G.2 0, 2, .inl kf) := (o_11568 (ma 3) (ne_ao f_11558 f_11554) (ne_aa (by decide) f_11558 f_11559)).trans f_11558
                          refine q_callv hw (q_runV (As := [.int (nI (1))]) (c_X6_mixSlot l G L F_11560 b ma ((va_up (va_up mi 2 (nI 0)) 1 (nI A.2.2.2.1))) hs_11562 zf kf P_11566 A 1 mb f_11565 hma hm0 f_11569 hz f_11570 hkf f_11567 hA (by decide)) C0 hw vw_X6_246 mb f_11565 rfl rfl rfl hl.1 rfl (Nat.le_of_ble_eq_true rfl) dX6_digest_46 ⟨by decide, by decide⟩ ⟨by decide, by decide⟩) rfl rfl (fun F_11571 H locs hw hp_11572 => ?_)
                          obtain ⟨f_11575, ⟨P_11577, f_11578⟩, o_11579⟩ := hp_11572
                          obtain ⟨hs_11573, eh_11574⟩ : ∃ h9 : Int64, h9 = hLk A 1 (hC (hC hs_11562 (A.1.2.2.2.2.2 1)) (A.1.2.2.2.2.2 (6 + 1))) := ⟨_, rfl⟩
                          have f_11576 : F_11571 b = mO ma ((va_up (va_up mi 2 (nI 0)) 1 (nI A.2.2.2.1))) hs_11573 := by rw [eh_11574]; exact f_11575
                          refine lv_iinc (v := nI 2) (lv' := [(1, .int (nI (2))), (0, .ref b)]) hx hb dX6_digest_49 hl (k := 0) rfl (by decide) (by decide) rfl (fun ls hl => ?_)
                          refine lv_goto (tgt := 38) hx hb dX6_digest_52 (by decide) ?_
                          refine lv_iload_n hx hb dX6_digest_38 rfl (lv_at hl 0 rfl) ?_
                          refine lv_bipush (v := nI 6) hx hb dX6_digest_39 (by decide) ?_
                          refine n_icmp_ge (tgt := 55) hx hb dX6_digest_41 (by decide) (by decide) (by decide) (fun c_41 => ?_) (fun c_41 => ?_)
                          · skip
                            exact absurd c_41 (by omega)
                          · skip
                            refine lv_aload_n hx hb dX6_digest_44 rfl (lv_at hl 1 rfl) ?_
                            refine lv_iload_n hx hb dX6_digest_45 rfl (lv_at hl 0 rfl) ?_
                            have f_11580 : F_11571 (ma 0) = .inl (G.2 0, 89, .inl zf) := (o_11579 (ma 0) (ne_ao f_11569 f_11565) (ne_aa (by decide) f_11569 f_11567)).trans f_11569
                            have f_11581 : F_11571 (ma 3) = .inl (G.2 0, 2, .inl kf) := (o_11579 (ma 3) (ne_ao f_11570 f_11565) (ne_aa (by decide) f_11570 f_11567)).trans f_11570
                            refine q_callv hw (q_runV (As := [.int (nI (2))]) (c_X6_mixSlot l G L F_11571 b ma ((va_up (va_up mi 2 (nI 0)) 1 (nI A.2.2.2.1))) hs_11573 zf kf P_11577 A 2 mb f_11576 hma hm0 f_11580 hz f_11581 hkf f_11578 hA (by decide)) C0 hw vw_X6_246 mb f_11576 rfl rfl rfl hl.1 rfl (Nat.le_of_ble_eq_true rfl) dX6_digest_46 ⟨by decide, by decide⟩ ⟨by decide, by decide⟩) rfl rfl (fun F_11582 H locs hw hp_11583 => ?_)
                            obtain ⟨f_11586, ⟨P_11588, f_11589⟩, o_11590⟩ := hp_11583
                            obtain ⟨hs_11584, eh_11585⟩ : ∃ h9 : Int64, h9 = hLk A 2 (hC (hC hs_11573 (A.1.2.2.2.2.2 2)) (A.1.2.2.2.2.2 (6 + 2))) := ⟨_, rfl⟩
                            have f_11587 : F_11582 b = mO ma ((va_up (va_up mi 2 (nI 0)) 1 (nI A.2.2.2.1))) hs_11584 := by rw [eh_11585]; exact f_11586
                            refine lv_iinc (v := nI 3) (lv' := [(1, .int (nI (3))), (0, .ref b)]) hx hb dX6_digest_49 hl (k := 0) rfl (by decide) (by decide) rfl (fun ls hl => ?_)
                            refine lv_goto (tgt := 38) hx hb dX6_digest_52 (by decide) ?_
                            refine lv_iload_n hx hb dX6_digest_38 rfl (lv_at hl 0 rfl) ?_
                            refine lv_bipush (v := nI 6) hx hb dX6_digest_39 (by decide) ?_
                            refine n_icmp_ge (tgt := 55) hx hb dX6_digest_41 (by decide) (by decide) (by decide) (fun c_41 => ?_) (fun c_41 => ?_)
                            · skip
                              exact absurd c_41 (by omega)
                            · skip
                              refine lv_aload_n hx hb dX6_digest_44 rfl (lv_at hl 1 rfl) ?_
                              refine lv_iload_n hx hb dX6_digest_45 rfl (lv_at hl 0 rfl) ?_
                              have f_11591 : F_11582 (ma 0) = .inl (G.2 0, 89, .inl zf) := (o_11590 (ma 0) (ne_ao f_11580 f_11576) (ne_aa (by decide) f_11580 f_11578)).trans f_11580
                              have f_11592 : F_11582 (ma 3) = .inl (G.2 0, 2, .inl kf) := (o_11590 (ma 3) (ne_ao f_11581 f_11576) (ne_aa (by decide) f_11581 f_11578)).trans f_11581
                              refine q_callv hw (q_runV (As := [.int (nI (3))]) (c_X6_mixSlot l G L F_11582 b ma ((va_up (va_up mi 2 (nI 0)) 1 (nI A.2.2.2.1))) hs_11584 zf kf P_11588 A 3 mb f_11587 hma hm0 f_11591 hz f_11592 hkf f_11589 hA (by decide)) C0 hw vw_X6_246 mb f_11587 rfl rfl rfl hl.1 rfl (Nat.le_of_ble_eq_true rfl) dX6_digest_46 ⟨by decide, by decide⟩ ⟨by decide, by decide⟩) rfl rfl (fun F_11593 H locs hw hp_11594 => ?_)
                              obtain ⟨f_11597, ⟨P_11599, f_11600⟩, o_11601⟩ := hp_11594
                              obtain ⟨hs_11595, eh_11596⟩ : ∃ h9 : Int64, h9 = hLk A 3 (hC (hC hs_11584 (A.1.2.2.2.2.2 3)) (A.1.2.2.2.2.2 (6 + 3))) := ⟨_, rfl⟩
                              have f_11598 : F_11593 b = mO ma ((va_up (va_up mi 2 (nI 0)) 1 (nI A.2.2.2.1))) hs_11595 := by rw [eh_11596]; exact f_11597
                              refine lv_iinc (v := nI 4) (lv' := [(1, .int (nI (4))), (0, .ref b)]) hx hb dX6_digest_49 hl (k := 0) rfl (by decide) (by decide) rfl (fun ls hl => ?_)
                              refine lv_goto (tgt := 38) hx hb dX6_digest_52 (by decide) ?_
                              refine lv_iload_n hx hb dX6_digest_38 rfl (lv_at hl 0 rfl) ?_
                              refine lv_bipush (v := nI 6) hx hb dX6_digest_39 (by decide) ?_
                              refine n_icmp_ge (tgt := 55) hx hb dX6_digest_41 (by decide) (by decide) (by decide) (fun c_41 => ?_) (fun c_41 => ?_)
                              · skip
                                exact absurd c_41 (by omega)
                              · skip
                                refine lv_aload_n hx hb dX6_digest_44 rfl (lv_at hl 1 rfl) ?_
                                refine lv_iload_n hx hb dX6_digest_45 rfl (lv_at hl 0 rfl) ?_
                                have f_11602 : F_11593 (ma 0) = .inl (G.2 0, 89, .inl zf) := (o_11601 (ma 0) (ne_ao f_11591 f_11587) (ne_aa (by decide) f_11591 f_11589)).trans f_11591
                                have f_11603 : F_11593 (ma 3) = .inl (G.2 0, 2, .inl kf) := (o_11601 (ma 3) (ne_ao f_11592 f_11587) (ne_aa (by decide) f_11592 f_11589)).trans f_11592
                                refine q_callv hw (q_runV (As := [.int (nI (4))]) (c_X6_mixSlot l G L F_11593 b ma ((va_up (va_up mi 2 (nI 0)) 1 (nI A.2.2.2.1))) hs_11595 zf kf P_11599 A 4 mb f_11598 hma hm0 f_11602 hz f_11603 hkf f_11600 hA (by decide)) C0 hw vw_X6_246 mb f_11598 rfl rfl rfl hl.1 rfl (Nat.le_of_ble_eq_true rfl) dX6_digest_46 ⟨by decide, by decide⟩ ⟨by decide, by decide⟩) rfl rfl (fun F_11604 H locs hw hp_11605 => ?_)
                                obtain ⟨f_11608, ⟨P_11610, f_11611⟩, o_11612⟩ := hp_11605
                                obtain ⟨hs_11606, eh_11607⟩ : ∃ h9 : Int64, h9 = hLk A 4 (hC (hC hs_11595 (A.1.2.2.2.2.2 4)) (A.1.2.2.2.2.2 (6 + 4))) := ⟨_, rfl⟩
                                have f_11609 : F_11604 b = mO ma ((va_up (va_up mi 2 (nI 0)) 1 (nI A.2.2.2.1))) hs_11606 := by rw [eh_11607]; exact f_11608
                                refine lv_iinc (v := nI 5) (lv' := [(1, .int (nI (5))), (0, .ref b)]) hx hb dX6_digest_49 hl (k := 0) rfl (by decide) (by decide) rfl (fun ls hl => ?_)
                                refine lv_goto (tgt := 38) hx hb dX6_digest_52 (by decide) ?_
                                refine lv_iload_n hx hb dX6_digest_38 rfl (lv_at hl 0 rfl) ?_
                                refine lv_bipush (v := nI 6) hx hb dX6_digest_39 (by decide) ?_
                                refine n_icmp_ge (tgt := 55) hx hb dX6_digest_41 (by decide) (by decide) (by decide) (fun c_41 => ?_) (fun c_41 => ?_)
                                · skip
                                  exact absurd c_41 (by omega)
                                · skip
                                  refine lv_aload_n hx hb dX6_digest_44 rfl (lv_at hl 1 rfl) ?_
                                  refine lv_iload_n hx hb dX6_digest_45 rfl (lv_at hl 0 rfl) ?_
                                  have f_11613 : F_11604 (ma 0) = .inl (G.2 0, 89, .inl zf) := (o_11612 (ma 0) (ne_ao f_11602 f_11598) (ne_aa (by decide) f_11602 f_11600)).trans f_11602
                                  have f_11614 : F_11604 (ma 3) = .inl (G.2 0, 2, .inl kf) := (o_11612 (ma 3) (ne_ao f_11603 f_11598) (ne_aa (by decide) f_11603 f_11600)).trans f_11603
                                  refine q_callv hw (q_runV (As := [.int (nI (5))]) (c_X6_mixSlot l G L F_11604 b ma ((va_up (va_up mi 2 (nI 0)) 1 (nI A.2.2.2.1))) hs_11606 zf kf P_11610 A 5 mb f_11609 hma hm0 f_11613 hz f_11614 hkf f_11611 hA (by decide)) C0 hw vw_X6_246 mb f_11609 rfl rfl rfl hl.1 rfl (Nat.le_of_ble_eq_true rfl) dX6_digest_46 ⟨by decide, by decide⟩ ⟨by decide, by decide⟩) rfl rfl (fun F_11615 H locs hw hp_11616 => ?_)
                                  obtain ⟨f_11619, ⟨P_11621, f_11622⟩, o_11623⟩ := hp_11616
                                  obtain ⟨hs_11617, eh_11618⟩ : ∃ h9 : Int64, h9 = hLk A 5 (hC (hC hs_11606 (A.1.2.2.2.2.2 5)) (A.1.2.2.2.2.2 (6 + 5))) := ⟨_, rfl⟩
                                  have f_11620 : F_11615 b = mO ma ((va_up (va_up mi 2 (nI 0)) 1 (nI A.2.2.2.1))) hs_11617 := by rw [eh_11618]; exact f_11619
                                  refine lv_iinc (v := nI 6) (lv' := [(1, .int (nI (6))), (0, .ref b)]) hx hb dX6_digest_49 hl (k := 0) rfl (by decide) (by decide) rfl (fun ls hl => ?_)
                                  refine lv_goto (tgt := 38) hx hb dX6_digest_52 (by decide) ?_
                                  refine lv_iload_n hx hb dX6_digest_38 rfl (lv_at hl 0 rfl) ?_
                                  refine lv_bipush (v := nI 6) hx hb dX6_digest_39 (by decide) ?_
                                  refine n_icmp_ge (tgt := 55) hx hb dX6_digest_41 (by decide) (by decide) (by decide) (fun c_41 => ?_) (fun c_41 => ?_)
                                  · skip
                                    have hq55 : hs_11617 = dgS6 A := by rw [eh_11618, eh_11607, eh_11596, eh_11585, eh_11574, eh_11563, hq36]; rfl
                                    refine lv_aload_n hx hb dX6_digest_55 rfl (lv_at hl 1 rfl) ?_
                                    refine lv_aload_n hx hb dX6_digest_56 rfl (lv_at hl 1 rfl) ?_
                                    have f_11624 : F_11615 (ma 0) = .inl (G.2 0, 89, .inl zf) := (o_11623 (ma 0) (ne_ao f_11613 f_11609) (ne_aa (by decide) f_11613 f_11611)).trans f_11613
                                    have f_11625 : F_11615 (ma 3) = .inl (G.2 0, 2, .inl kf) := (o_11623 (ma 3) (ne_ao f_11614 f_11609) (ne_aa (by decide) f_11614 f_11611)).trans f_11614
                                    refine q_calld hw (q_runV (As := []) (c_X6_dense l G L F_11615 b ma ((va_up (va_up mi 2 (nI 0)) 1 (nI A.2.2.2.1))) hs_11617 zf kf P_11621 A  mb f_11620 hma hm0 f_11624 hz f_11625 hkf f_11622 hA hn9) C0 hw vw_X6_230 mb f_11620 rfl rfl rfl hl.1 rfl (Nat.le_of_ble_eq_true rfl) dX6_digest_57 ⟨by decide, by decide⟩ ⟨by decide, by decide⟩) rfl rfl (fun r_11628 F_11626 H locs hw hp_11627 => ?_)
                                    obtain ⟨he_11629, o_11630⟩ := hp_11627
                                    subst he_11629
                                    refine q_calll hw (q_runS (As := [.double (dens (cfR A.1.2.2.2.2.2 6) A.1.1)]) (c_Jxe99ae_doubleToLongBits_ccdee l G L F_11626 (cfR A.1.2.2.2.2.2 6) A.1.1 hc2 hc hn9) C0 hw sw_X6_249 rfl hl.1 rfl (Nat.le_of_ble_eq_true rfl) dX6_digest_60 ⟨by decide, by decide⟩ ⟨by decide, by decide⟩) rfl rfl (fun r_11633 F_11631 H locs hw hp_11632 => ?_)
                                    obtain ⟨he_11634, o_11635⟩ := hp_11632
                                    subst he_11634
                                    have f_11636 : F_11626 b = mO ma ((va_up (va_up mi 2 (nI 0)) 1 (nI A.2.2.2.1))) hs_11617 := (o_11630 b ).trans f_11620
                                    have f_11637 : F_11631 b = mO ma ((va_up (va_up mi 2 (nI 0)) 1 (nI A.2.2.2.1))) hs_11617 := (o_11635 b ).trans f_11636
                                    refine q_callv hw (q_runV (As := [.long ((dens (cfR A.1.2.2.2.2.2 6) A.1.1).toInt64)]) (c_X6_mix l G L F_11631 b ma ((va_up (va_up mi 2 (nI 0)) 1 (nI A.2.2.2.1))) hs_11617 (((dens (cfR A.1.2.2.2.2.2 6) A.1.1).toInt64)) mb f_11637) C0 hw vw_X6_240 mb f_11637 rfl rfl rfl hl.1 rfl (Nat.le_of_ble_eq_true rfl) dX6_digest_63 ⟨by decide, by decide⟩ ⟨by decide, by decide⟩) rfl rfl (fun F_11638 H locs hw hp_11639 => ?_)
                                    obtain ⟨hs_11640, eh_11641⟩ : ∃ h9 : Int64, h9 = lN 31 * hs_11617 + ((dens (cfR A.1.2.2.2.2.2 6) A.1.1).toInt64) := ⟨_, rfl⟩
                                    have f_11642 : F_11638 b = mO ma ((va_up (va_up mi 2 (nI 0)) 1 (nI A.2.2.2.1))) hs_11640 := by rw [eh_11641]; exact hp_11639.1
                                    have hHD : hs_11640 = lN 31 * dgS6 A + (dens (cfR A.1.2.2.2.2.2 6) A.1.1).toInt64 := by rw [eh_11641, hq55]
                                    have fbx_11643 : F_11638 b = .inr (6, [.ref (ma 0), .int (((va_up (va_up mi 2 (nI 0)) 1 (nI A.2.2.2.1))) 0), .ref (ma 1), .ref (ma 2), .ref (ma 3), .ref (ma 4), .int (nI (A.2.2.2.1)), .ref (ma 5), .int (((va_up (va_up mi 2 (nI 0)) 1 (nI A.2.2.2.1))) 2), .ref (ma 6), .int (((va_up (va_up mi 2 (nI 0)) 1 (nI A.2.2.2.1))) 3), .int (((va_up (va_up mi 2 (nI 0)) 1 (nI A.2.2.2.1))) 4), .long (hs_11640)]) := f_11642
                                    refine lv_aload_n hx hb dX6_digest_66 rfl (lv_at hl 1 rfl) ?_
                                    refine lv_aload_n hx hb dX6_digest_67 rfl (lv_at hl 1 rfl) ?_
                                    refine q_get C0 hw mb fbx_11643 fw_X6_165 rfl dX6_digest_68 ?_
                                    refine n_i2l hx hb (by omega) dX6_digest_71 ?_
                                    refine q_callv hw (q_runV (As := [.long (lN (A.2.2.2.1))]) (c_X6_mix l G L F_11638 b ma ((va_up (va_up mi 2 (nI 0)) 1 (nI A.2.2.2.1))) hs_11640 (lN (A.2.2.2.1)) mb fbx_11643) C0 hw vw_X6_240 mb fbx_11643 rfl rfl rfl hl.1 rfl (Nat.le_of_ble_eq_true rfl) dX6_digest_72 ⟨by decide, by decide⟩ ⟨by decide, by decide⟩) rfl rfl (fun F_11644 H locs hw hp_11645 => ?_)
                                    obtain ⟨hs_11646, eh_11647⟩ : ∃ h9 : Int64, h9 = lN 31 * hs_11640 + lN (A.2.2.2.1) := ⟨_, rfl⟩
                                    have f_11648 : F_11644 b = mO ma ((va_up (va_up mi 2 (nI 0)) 1 (nI A.2.2.2.1))) hs_11646 := by rw [eh_11647]; exact hp_11645.1
                                    refine lv_iconst (v := nI 0) hx hb dX6_digest_75 (by decide) ?_
                                    refine lv_istore_n (lv' := [(1, .int (nI (0))), (0, .ref b)]) hx hb dX6_digest_76 rfl hl (by decide) rfl (fun ls hl => ?_)
                                    have fb_11649 : F_11644 b = mO ma (va_up (va_up mi 2 (nI 0)) 1 (nI A.2.2.2.1)) (hfN A.2.2.2 hs_11640 0) := by rw [f_11648, eh_11647]; rfl
                                    have f_11650 : F_11626 (ma 4) = pcE G P_11621 := (o_11630 (ma 4) ).trans f_11622
                                    have f_11651 : F_11631 (ma 4) = pcE G P_11621 := (o_11635 (ma 4) ).trans f_11650
                                    have f_11652 : F_11638 (ma 4) = pcE G P_11621 := (hp_11639.2 (ma 4) (ne_ao f_11651 f_11637)).trans f_11651
                                    have f_11653 : F_11644 (ma 4) = pcE G P_11621 := (hp_11645.2 (ma 4) (ne_ao f_11652 fbx_11643)).trans f_11652
                                    have lp77 : ∀ (n : Nat) (k9 : Nat), 0 ≤ k9 → k9 ≤ A.2.2.2.1 → A.2.2.2.1 + 1 - k9 < n → ∀ (F_11654 : Nat → va_E) (H : Heap) (locs : List Loc), wD G L F_11654 s H locs → F_11654 b = mO ma ((va_up (va_up mi 2 (nI 0)) 1 (nI A.2.2.2.1))) ((hfN A.2.2.2 hs_11640 k9)) → F_11654 (ma 4) = pcE G P_11621 → (∀ q, q ≠ b → q ≠ (ma 4) → F_11654 q = F q) → ∀ ls : Array Slot, lv_has ls 2 [(0, .ref b), (1, .int (nI (k9)))] → W p l e rm_X6_digest s m args below meth c H locs 0 0 Q (F0 m 77 ls []) := by
                                      intro n
                                      induction n with
                                      | zero => intro k9 hlo hhi hm; exact absurd hm (Nat.not_lt_zero _)
                                      | succ n ih_77 =>
                                        intro k9 hlo hhi hm F_11654 H locs hw f_11655 f_11656 fr_11657 ls hl
                                        have fbx_11658 : F_11654 b = .inr (6, [.ref (ma 0), .int (((va_up (va_up mi 2 (nI 0)) 1 (nI A.2.2.2.1))) 0), .ref (ma 1), .ref (ma 2), .ref (ma 3), .ref (ma 4), .int (nI (A.2.2.2.1)), .ref (ma 5), .int (((va_up (va_up mi 2 (nI 0)) 1 (nI A.2.2.2.1))) 2), .ref (ma 6), .int (((va_up (va_up mi 2 (nI 0)) 1 (nI A.2.2.2.1))) 3), .int (((va_up (va_up mi 2 (nI 0)) 1 (nI A.2.2.2.1))) 4), .long ((hfN A.2.2.2 hs_11640 k9))]) := f_11655
                                        refine lv_iload_n hx hb dX6_digest_77 rfl (lv_at hl 1 rfl) ?_
                                        refine lv_aload_n hx hb dX6_digest_78 rfl (lv_at hl 0 rfl) ?_
                                        refine q_get C0 hw mb fbx_11658 fw_X6_165 rfl dX6_digest_79 ?_
                                        refine n_icmp_ge (tgt := 102) hx hb dX6_digest_82 (by decide) (by omega) (by omega) (fun c_82 => ?_) (fun c_82 => ?_)
                                        · skip
                                          obtain rfl : k9 = A.2.2.2.1 := by omega
                                          refine lv_aload_n hx hb dX6_digest_102 rfl (lv_at hl 0 rfl) ?_
                                          refine q_get C0 hw mb fbx_11658 fw_X6_236 rfl dX6_digest_103 ?_
                                          have f_11659 : F_11654 (ma 0) = .inl (G.2 0, 89, .inl zf) := (fr_11657 (ma 0) (ne_ao fz fb) (ne_aa (by decide) fz fp)).trans fz
                                          have f_11660 : F_11654 (ma 1) = .inl (G.2 0, 534, .inl hf) := (fr_11657 (ma 1) (ne_ao fh fb) (ne_aa (by decide) fh fp)).trans fh
                                          have f_11661 : F_11654 (ma 2) = .inl (G.2 0, 178, .inl sf) := (fr_11657 (ma 2) (ne_ao fs fb) (ne_aa (by decide) fs fp)).trans fs
                                          have f_11662 : F_11654 (ma 3) = .inl (G.2 0, 2, .inl kf) := (fr_11657 (ma 3) (ne_ao fk fb) (ne_aa (by decide) fk fp)).trans fk
                                          have f_11663 : F_11654 (ma 5) = .inl (G.2 0, 60, .inl tf) := (fr_11657 (ma 5) (ne_ao ft fb) (ne_aa (by decide) ft fp)).trans ft
                                          have f_11664 : F_11654 (ma 6) = .inl (G.2 0, 52, .inl pf) := (fr_11657 (ma 6) (ne_ao fq fb) (ne_aa (by decide) fq fp)).trans fq
                                          exact r_l C0 hr hlk hw ⟨by rw [hHD]; rfl, ⟨_, _, _, _, _, _, _, _, _, fbx_11658, ⟨hm0, rfl, rfl⟩, ⟨f_11659, hz⟩, ⟨f_11660, hhf⟩, ⟨f_11661, hsf⟩, ⟨f_11662, hkf⟩, f_11656, ⟨f_11663, htf⟩, f_11664⟩, (fun q k0 k1 => (fr_11657 q k0 (k1 4 (by decide))))⟩ (Nat.le_refl _) (Nat.le_refl _) dX6_digest_106 hQ
                                        · skip
                                          refine lv_aload_n hx hb dX6_digest_85 rfl (lv_at hl 0 rfl) ?_
                                          refine lv_aload_n hx hb dX6_digest_86 rfl (lv_at hl 0 rfl) ?_
                                          refine q_get C0 hw mb fbx_11658 fw_X6_25 rfl dX6_digest_87 ?_
                                          refine lv_iload_n hx hb dX6_digest_90 rfl (lv_at hl 1 rfl) ?_
                                          have f_11665 : F_11654 (ma 5) = .inl (G.2 0, 60, .inl tf) := (fr_11657 (ma 5) (ne_ao ft fb) (ne_aa (by decide) ft fp)).trans ft
                                          refine q_iald C0 hw ((hma 5 (by decide))) f_11665 (k9) (by omega) (by decide) (v := nI (A.2.2.2.2 k9)) (htf k9 (by omega)) dX6_digest_91 ?_
                                          have := (hA.2.2.2.2 k9 (by omega)).2
                                          refine n_i2l hx hb (by omega) dX6_digest_92 ?_
                                          refine q_callv hw (q_runV (As := [.long (lN (A.2.2.2.2 k9))]) (c_X6_mix l G L F_11654 b ma ((va_up (va_up mi 2 (nI 0)) 1 (nI A.2.2.2.1))) ((hfN A.2.2.2 hs_11640 k9)) (lN (A.2.2.2.2 k9)) mb fbx_11658) C0 hw vw_X6_240 mb fbx_11658 rfl rfl rfl hl.1 rfl (Nat.le_of_ble_eq_true rfl) dX6_digest_93 ⟨by decide, by decide⟩ ⟨by decide, by decide⟩) rfl rfl (fun F_11666 H locs hw hp_11667 => ?_)
                                          obtain ⟨hs_11668, eh_11669⟩ : ∃ h9 : Int64, h9 = lN 31 * ((hfN A.2.2.2 hs_11640 k9)) + lN (A.2.2.2.2 k9) := ⟨_, rfl⟩
                                          have f_11670 : F_11666 b = mO ma ((va_up (va_up mi 2 (nI 0)) 1 (nI A.2.2.2.1))) hs_11668 := by rw [eh_11669]; exact hp_11667.1
                                          refine lv_iinc (v := nI (k9 + 1)) (lv' := [(1, .int (nI (k9 + 1))), (0, .ref b)]) hx hb dX6_digest_96 hl (k := 1) rfl (nI_add _ _) (by decide) rfl (fun ls hl => ?_)
                                          refine lv_goto (tgt := 77) hx hb dX6_digest_99 (by decide) ?_
                                          have f_11671 : F_11666 (ma 4) = pcE G P_11621 := (hp_11667.2 (ma 4) (ne_ao f_11656 fbx_11658)).trans f_11656
                                          exact ih_77 (k9 + 1) ((by omega)) ((by omega)) (by omega) F_11666 _ _ hw (f_11670.trans (by rw [eh_11669]; rfl)) (f_11671) (fun q k0 k1 => ((hp_11667.2 q k0).trans (fr_11657 q k0 k1))) ls (lv_sub hl [1, 0] rfl)
                                    exact lp77 _ (0) ((by omega)) ((by omega)) (Nat.lt_succ_self _) F_11644 _ _ hw (fb_11649) (f_11653) (fun q k0 k1 => ((hp_11645.2 q k0).trans ((hp_11639.2 q k0).trans ((o_11635 q ).trans ((o_11630 q ).trans ((o_11623 q k0 k1).trans ((o_11612 q k0 k1).trans ((o_11601 q k0 k1).trans ((o_11590 q k0 k1).trans ((o_11579 q k0 k1).trans ((o_11568 q k0 k1).trans ((hp_11551.2 q k0).trans ((f_11548 q k1).trans ((hp_11533.2 q k0).trans ((f_11530 q k1).trans ((hp_11515.2 q k0).trans ((f_11512 q k1).trans ((hp_11497.2 q k0).trans ((f_11494 q k1).trans ((hp_11479.2 q k0).trans ((f_11476 q k1).trans ((hp_11461.2 q k0).trans ((f_11458 q k1).trans ((hp_11443.2 q k0).trans ((f_11440 q k1).trans ((hp_11425.2 q k0).trans ((f_11422 q k1).trans ((hp_11407.2 q k0).trans ((f_11404 q k1).trans ((o_11389 q k0).trans (o_11386 q k0))))))))))))))))))))))))))))))) ls (lv_sub hl [1, 0] rfl)
                                  · skip
                                    exact absurd c_41 (by omega)
                    · skip
                      exact absurd c_17 (by omega)
