abbrev rm_X5_hashLooks : Room := { frames := 5, cells := 0, slots := 0, locals := 123 }
def hLk (A : AB) (f9 : Nat) (h9 : Int64) : Int64 := (lN (31) * ((lN (31) * ((lN (31) * ((lN (31) * ((lN (31) * ((lN (31) * ((lN (31) * ((lN (31) * (h9)) + ((nI (m_val (A.1.2.2.2.2.2 f9) (zi (nI 3))).val).toInt64))) + ((nI (m_val (A.1.2.2.2.2.2 (6 + f9)) (zi (nI 3))).val).toInt64))) + ((lowR (m_br (A.1.2.2.2.2.2 f9) (A.1.2.2.2.2.2 0) A.1.1)).toInt64))) + ((m_low (fun k => decide ((m_sub (A.1.2.2.2.2.2 (6 + f9)) (A.1.2.2.2.2.2 (6 + 0)) A.1.1) k ≠ (m_sub (A.1.2.2.2.2.2 (6 + 0)) (A.1.2.2.2.2.2 (6 + f9)) A.1.1) k))).toInt64))) + ((m_low (fun k => decide ((m_way (A.1.2.2.2.2.2 0) (A.1.2.2.2.2.2 f9) 2 A.1.1) k ≠ (m_cf ((A.1.2.2.2.2.2 0)) ((A.1.2.2.2.2.2 f9)) (A.1.1)) k))).toInt64))) + ((m_low (fun k => decide ((m_way (A.1.2.2.2.2.2 0) (A.1.2.2.2.2.2 f9) 3 A.1.1) k ≠ (m_cf ((A.1.2.2.2.2.2 0)) ((A.1.2.2.2.2.2 f9)) (A.1.1)) k))).toInt64))) + ((m_low (fun k => decide ((m_way (A.1.2.2.2.2.2 0) (A.1.2.2.2.2.2 f9) 4 A.1.1) k ≠ (m_cf ((A.1.2.2.2.2.2 0)) ((A.1.2.2.2.2.2 f9)) (A.1.1)) k))).toInt64))) + ((m_low (fun k => decide ((m_way (A.1.2.2.2.2.2 0) (A.1.2.2.2.2.2 f9) 5 A.1.1) k ≠ (m_cf ((A.1.2.2.2.2.2 0)) ((A.1.2.2.2.2.2 f9)) (A.1.1)) k))).toInt64)
set_option maxHeartbeats 4000000 in
set_option maxRecDepth 100000 in
theorem c_X5_hashLooks (l : Launch) (G : Gl) (L : List Nat) (F : Nat → va_E) (ad : Nat → Nat) (hL : ∀ i, i < 166 → ad i ∈ L) (hin : ∀ i j, i < 166 → j < 166 → i ≠ j → ad i ≠ ad j) (A : AB) (h9 : Int64) (f9 : Nat) (hf9 : f9 < 6) (hX : XW G F ad A) (hA : okA A) : CL l yX5_hashLooks cX5_hashLooks 7 (some .long) rm_X5_hashLooks G L F [.ref (ad 0), .long (h9), .int (nI (f9))] (fun r F1 => r = hLk A f9 h9 ∧ XW G F1 ad A ∧ ∀ q, (∀ i, (i < 166) → q ≠ ad i) → F1 q = F q) := by
  have hX9 := hX
  obtain ⟨fx, hn, hh, hsn, htx, hrk, ⟨u9, h134⟩, ⟨v9, h150⟩⟩ := hX
  obtain ⟨⟨hc2, hc, hpu, hok⟩, ⟨hh6, hho⟩, hso, hl60, hco⟩ := id hA
  refine CG_of (by decide) (Nat.le_of_ble_eq_true rfl) rfl ?_
  intro p e s m args below meth c Q C0 hr hlk hnm hQ hw ls hl
  have hx := C0.x
  have hb := C0.b
  refine lv_ldc2 (v := lN (31)) hx hb C0.ow (C0.ts _ kw_X5_253) dX5_hashLooks_0 ?_
  refine lv_lload_n hx hb dX5_hashLooks_3 rfl (lv_at hl 1 rfl) ?_
  refine lv_lmul hx hb dX5_hashLooks_4 ?_
  refine lv_aload_n hx hb dX5_hashLooks_5 rfl (lv_at hl 0 rfl) ?_
  refine lv_iconst (v := nI 0) hx hb dX5_hashLooks_6 (by decide) ?_
  refine lv_iload_n hx hb dX5_hashLooks_7 rfl (lv_at hl 2 rfl) ?_
  refine lv_iconst (v := nI 3) hx hb dX5_hashLooks_8 (by decide) ?_
  refine q_calli hw (q_runV (As := [.int (nI (0)), .int (nI (f9)), .int (nI (3))]) (c_X5_value_0 l G L F ad hL hin A f9 (nI 3) (by omega) hX9 hA) C0 hw vw_X5_328 ((hL 0 (by omega))) fx rfl rfl rfl hl.1 rfl (Nat.le_of_ble_eq_true rfl) dX5_hashLooks_9 ⟨by decide, by decide⟩ ⟨by decide, by decide⟩) rfl rfl (fun r_4464 F_4462 H locs hw hp_4463 => ?_)
  obtain ⟨h_4465, h_4466, h_4467⟩ := hp_4463
  subst h_4465
  obtain ⟨fxx_4468, hnx_4468, hhx_4468, hsnx_4468, htxx_4468, hrkx_4468, ⟨ux_4468, h134x_4468⟩, ⟨vx_4468, h150x_4468⟩⟩ := id h_4466
  refine lv_i2l (v := (nI (m_val (A.1.2.2.2.2.2 f9) (zi (nI 3))).val).toInt64) hx hb dX5_hashLooks_12 rfl ?_
  refine lv_ladd hx hb dX5_hashLooks_13 ?_
  refine lv_lstore (lv' := [(4, .long ((lN (31) * (h9)) + ((nI (m_val (A.1.2.2.2.2.2 f9) (zi (nI 3))).val).toInt64))), (0, .ref (ad 0)), (1, .long (h9)), (3, .int (nI (f9)))]) hx hb dX5_hashLooks_14 hl (by decide) rfl (fun ls hl => ?_)
  refine lv_ldc2 (v := lN (31)) hx hb C0.ow (C0.ts _ kw_X5_253) dX5_hashLooks_16 ?_
  refine lv_lload hx hb dX5_hashLooks_19 (lv_at hl 0 rfl) ?_
  refine lv_lmul hx hb dX5_hashLooks_21 ?_
  refine lv_aload_n hx hb dX5_hashLooks_22 rfl (lv_at hl 1 rfl) ?_
  refine lv_iconst (v := nI 1) hx hb dX5_hashLooks_23 (by decide) ?_
  refine lv_iload_n hx hb dX5_hashLooks_24 rfl (lv_at hl 3 rfl) ?_
  refine lv_iconst (v := nI 3) hx hb dX5_hashLooks_25 (by decide) ?_
  refine q_calli hw (q_runV (As := [.int (nI (1)), .int (nI (f9)), .int (nI (3))]) (c_X5_value_1 l G L F_4462 ad hL hin A f9 (nI 3) (by omega) h_4466 hA) C0 hw vw_X5_328 ((hL 0 (by omega))) fxx_4468 rfl rfl rfl hl.1 rfl (Nat.le_of_ble_eq_true rfl) dX5_hashLooks_26 ⟨by decide, by decide⟩ ⟨by decide, by decide⟩) rfl rfl (fun r_4471 F_4469 H locs hw hp_4470 => ?_)
  obtain ⟨h_4472, h_4473, h_4474⟩ := hp_4470
  subst h_4472
  obtain ⟨fxx_4475, hnx_4475, hhx_4475, hsnx_4475, htxx_4475, hrkx_4475, ⟨ux_4475, h134x_4475⟩, ⟨vx_4475, h150x_4475⟩⟩ := id h_4473
  refine lv_i2l (v := (nI (m_val (A.1.2.2.2.2.2 (6 + f9)) (zi (nI 3))).val).toInt64) hx hb dX5_hashLooks_29 rfl ?_
  refine lv_ladd hx hb dX5_hashLooks_30 ?_
  refine lv_lstore (lv' := [(4, .long ((lN (31) * ((lN (31) * (h9)) + ((nI (m_val (A.1.2.2.2.2.2 f9) (zi (nI 3))).val).toInt64))) + ((nI (m_val (A.1.2.2.2.2.2 (6 + f9)) (zi (nI 3))).val).toInt64))), (0, .ref (ad 0)), (1, .long (h9)), (3, .int (nI (f9)))]) hx hb dX5_hashLooks_31 hl (by decide) rfl (fun ls hl => ?_)
  refine lv_ldc2 (v := lN (31)) hx hb C0.ow (C0.ts _ kw_X5_253) dX5_hashLooks_33 ?_
  refine lv_lload hx hb dX5_hashLooks_36 (lv_at hl 0 rfl) ?_
  refine lv_lmul hx hb dX5_hashLooks_38 ?_
  refine lv_aload_n hx hb dX5_hashLooks_39 rfl (lv_at hl 1 rfl) ?_
  refine lv_iload_n hx hb dX5_hashLooks_40 rfl (lv_at hl 3 rfl) ?_
  refine lv_iconst (v := nI 0) hx hb dX5_hashLooks_41 (by decide) ?_
  refine q_calli hw (q_runV (As := [.int (nI (f9)), .int (nI (0))]) (c_X5_clash l G L F_4469 ad hL hin A f9 0 (by omega) (by omega) h_4473 hA) C0 hw vw_X5_331 ((hL 0 (by omega))) fxx_4475 rfl rfl rfl hl.1 rfl (Nat.le_of_ble_eq_true rfl) dX5_hashLooks_42 ⟨by decide, by decide⟩ ⟨by decide, by decide⟩) rfl rfl (fun r_4478 F_4476 H locs hw hp_4477 => ?_)
  obtain ⟨h_4479, h_4480, h_4481⟩ := hp_4477
  subst h_4479
  obtain ⟨fxx_4482, hnx_4482, hhx_4482, hsnx_4482, htxx_4482, hrkx_4482, ⟨ux_4482, h134x_4482⟩, ⟨vx_4482, h150x_4482⟩⟩ := id h_4480
  refine lv_i2l (v := (lowR (m_br (A.1.2.2.2.2.2 f9) (A.1.2.2.2.2.2 0) A.1.1)).toInt64) hx hb dX5_hashLooks_45 rfl ?_
  refine lv_ladd hx hb dX5_hashLooks_46 ?_
  refine lv_lstore (lv' := [(4, .long ((lN (31) * ((lN (31) * ((lN (31) * (h9)) + ((nI (m_val (A.1.2.2.2.2.2 f9) (zi (nI 3))).val).toInt64))) + ((nI (m_val (A.1.2.2.2.2.2 (6 + f9)) (zi (nI 3))).val).toInt64))) + ((lowR (m_br (A.1.2.2.2.2.2 f9) (A.1.2.2.2.2.2 0) A.1.1)).toInt64))), (0, .ref (ad 0)), (1, .long (h9)), (3, .int (nI (f9)))]) hx hb dX5_hashLooks_47 hl (by decide) rfl (fun ls hl => ?_)
  refine lv_ldc2 (v := lN (31)) hx hb C0.ow (C0.ts _ kw_X5_253) dX5_hashLooks_49 ?_
  refine lv_lload hx hb dX5_hashLooks_52 (lv_at hl 0 rfl) ?_
  refine lv_lmul hx hb dX5_hashLooks_54 ?_
  refine lv_aload_n hx hb dX5_hashLooks_55 rfl (lv_at hl 1 rfl) ?_
  refine lv_iload_n hx hb dX5_hashLooks_56 rfl (lv_at hl 3 rfl) ?_
  refine lv_iconst (v := nI 0) hx hb dX5_hashLooks_57 (by decide) ?_
  refine q_calli hw (q_runV (As := [.int (nI (f9)), .int (nI (0))]) (c_X5_apart l G L F_4476 ad hL hin A f9 0 (by omega) (by omega) h_4480 hA) C0 hw vw_X5_334 ((hL 0 (by omega))) fxx_4482 rfl rfl rfl hl.1 rfl (Nat.le_of_ble_eq_true rfl) dX5_hashLooks_58 ⟨by decide, by decide⟩ ⟨by decide, by decide⟩) rfl rfl (fun r_4485 F_4483 H locs hw hp_4484 => ?_)
  obtain ⟨h_4486, h_4487, h_4488⟩ := hp_4484
  subst h_4486
  obtain ⟨fxx_4489, hnx_4489, hhx_4489, hsnx_4489, htxx_4489, hrkx_4489, ⟨ux_4489, h134x_4489⟩, ⟨vx_4489, h150x_4489⟩⟩ := id h_4487
  obtain ⟨sx_4489_0, hsx_4489_0⟩ := hrkx_4489.2 0 (by decide)
  obtain ⟨sx_4489_1, hsx_4489_1⟩ := hrkx_4489.2 1 (by decide)
  obtain ⟨sx_4489_2, hsx_4489_2⟩ := hrkx_4489.2 2 (by decide)
  obtain ⟨sx_4489_3, hsx_4489_3⟩ := hrkx_4489.2 3 (by decide)
  obtain ⟨sx_4489_4, hsx_4489_4⟩ := hrkx_4489.2 4 (by decide)
  obtain ⟨sx_4489_5, hsx_4489_5⟩ := hrkx_4489.2 5 (by decide)
  obtain ⟨sx_4489_6, hsx_4489_6⟩ := hrkx_4489.2 6 (by decide)
  obtain ⟨sx_4489_7, hsx_4489_7⟩ := hrkx_4489.2 7 (by decide)
  obtain ⟨sx_4489_8, hsx_4489_8⟩ := hrkx_4489.2 8 (by decide)
  obtain ⟨sx_4489_9, hsx_4489_9⟩ := hrkx_4489.2 9 (by decide)
  obtain ⟨sx_4489_10, hsx_4489_10⟩ := hrkx_4489.2 10 (by decide)
  obtain ⟨sx_4489_11, hsx_4489_11⟩ := hrkx_4489.2 11 (by decide)
  obtain ⟨sx_4489_12, hsx_4489_12⟩ := hrkx_4489.2 12 (by decide)
  obtain ⟨sx_4489_13, hsx_4489_13⟩ := hrkx_4489.2 13 (by decide)
  refine lv_i2l (v := (m_low (fun k => decide ((m_sub (A.1.2.2.2.2.2 (6 + f9)) (A.1.2.2.2.2.2 (6 + 0)) A.1.1) k ≠ (m_sub (A.1.2.2.2.2.2 (6 + 0)) (A.1.2.2.2.2.2 (6 + f9)) A.1.1) k))).toInt64) hx hb dX5_hashLooks_61 rfl ?_
  refine lv_ladd hx hb dX5_hashLooks_62 ?_
  refine lv_lstore (lv' := [(4, .long ((lN (31) * ((lN (31) * ((lN (31) * ((lN (31) * (h9)) + ((nI (m_val (A.1.2.2.2.2.2 f9) (zi (nI 3))).val).toInt64))) + ((nI (m_val (A.1.2.2.2.2.2 (6 + f9)) (zi (nI 3))).val).toInt64))) + ((lowR (m_br (A.1.2.2.2.2.2 f9) (A.1.2.2.2.2.2 0) A.1.1)).toInt64))) + ((m_low (fun k => decide ((m_sub (A.1.2.2.2.2.2 (6 + f9)) (A.1.2.2.2.2.2 (6 + 0)) A.1.1) k ≠ (m_sub (A.1.2.2.2.2.2 (6 + 0)) (A.1.2.2.2.2.2 (6 + f9)) A.1.1) k))).toInt64))), (0, .ref (ad 0)), (1, .long (h9)), (3, .int (nI (f9)))]) hx hb dX5_hashLooks_63 hl (by decide) rfl (fun ls hl => ?_)
  refine lv_aload_n hx hb dX5_hashLooks_65 rfl (lv_at hl 1 rfl) ?_
  refine q_get C0 hw ((hL 0 (by omega))) fxx_4489 fw_X5_44 rfl dX5_hashLooks_66 ?_
  refine lv_aload_n hx hb dX5_hashLooks_69 rfl (lv_at hl 1 rfl) ?_
  refine q_get C0 hw ((hL 0 (by omega))) fxx_4489 fw_X5_12 rfl dX5_hashLooks_70 ?_
  refine q_get C0 hw ((hL 22 (by omega))) hnx_4489.1 fw_X5_66 rfl dX5_hashLooks_73 ?_
  refine q_get C0 hw ((hL 23 (by omega))) hnx_4489.2.1 fw_X5_85 rfl dX5_hashLooks_76 ?_
  refine lv_iconst (v := nI 0) hx hb dX5_hashLooks_79 (by decide) ?_
  refine q_aaldi C0 hw ((hL 24 (by omega))) hnx_4489.2.2.1 (0) (by omega) (by decide) (b := ad (26 + 0)) rfl dX5_hashLooks_80 ?_
  refine lv_aload_n hx hb dX5_hashLooks_81 rfl (lv_at hl 1 rfl) ?_
  refine q_get C0 hw ((hL 0 (by omega))) fxx_4489 fw_X5_12 rfl dX5_hashLooks_82 ?_
  refine q_get C0 hw ((hL 22 (by omega))) hnx_4489.1 fw_X5_66 rfl dX5_hashLooks_85 ?_
  refine q_get C0 hw ((hL 23 (by omega))) hnx_4489.2.1 fw_X5_85 rfl dX5_hashLooks_88 ?_
  refine lv_iload_n hx hb dX5_hashLooks_91 rfl (lv_at hl 3 rfl) ?_
  refine q_aaldi C0 hw ((hL 24 (by omega))) hnx_4489.2.2.1 (f9) (by omega) (by decide) (b := ad (26 + f9)) rfl dX5_hashLooks_92 ?_
  refine lv_aload_n hx hb dX5_hashLooks_93 rfl (lv_at hl 1 rfl) ?_
  refine q_get C0 hw ((hL 0 (by omega))) fxx_4489 fw_X5_12 rfl dX5_hashLooks_94 ?_
  refine q_get C0 hw ((hL 22 (by omega))) hnx_4489.1 fw_X5_66 rfl dX5_hashLooks_97 ?_
  refine q_get C0 hw ((hL 23 (by omega))) hnx_4489.2.1 fw_X5_70 rfl dX5_hashLooks_100 ?_
  refine lv_aload_n hx hb dX5_hashLooks_103 rfl (lv_at hl 1 rfl) ?_
  refine q_get C0 hw ((hL 0 (by omega))) fxx_4489 fw_X5_52 rfl dX5_hashLooks_104 ?_
  refine q_callv hw (q_runV (As := [.ref (ad (26 + 0)), .ref (ad (26 + f9)), .int (nI (A.1.1)), .ref (ad 150)]) (c_X1_composedField l G L F_4483 (ad 7) (fun i => ad (8 + i)) (ad (26 + 0)) (ad (26 + f9)) (ad 150) (A.1.1) ((A.1.2.2.2.2.2 0)) ((A.1.2.2.2.2.2 f9)) vx_4489 sx_4489_11 sx_4489_12 sx_4489_13 sx_4489_4 sx_4489_3 sx_4489_2 sx_4489_1  ((hL 7 (by omega))) hrkx_4489.1 (fun i hi => hL (8 + i) (by omega)) (ra_inj hin) ((hL (26 + 0) (by omega))) ((hnx_4489.2.2.2.2 0 (by omega))) ((hL (26 + f9) (by omega))) ((hnx_4489.2.2.2.2 f9 (by omega))) ((hL 150 (by omega))) h150x_4489 hsx_4489_11 hsx_4489_12 hsx_4489_13 hsx_4489_4 hsx_4489_3 hsx_4489_2 hsx_4489_1 (hin (26 + 0) 150 (by omega) (by omega) (by omega)) (hin (26 + f9) 150 (by omega) (by omega) (by omega)) (hin (26 + 0) 19 (by omega) (by omega) (by omega)) (hin (26 + f9) 19 (by omega) (by omega) (by omega)) (hin 150 19 (by omega) (by omega) (by omega)) (hin (26 + 0) 20 (by omega) (by omega) (by omega)) (hin (26 + f9) 20 (by omega) (by omega) (by omega)) (hin 150 20 (by omega) (by omega) (by omega)) (hin (26 + 0) 21 (by omega) (by omega) (by omega)) (hin (26 + f9) 21 (by omega) (by omega) (by omega)) (hin 150 21 (by omega) (by omega) (by omega)) (hin (26 + 0) 12 (by omega) (by omega) (by omega)) (hin (26 + f9) 12 (by omega) (by omega) (by omega)) (hin 150 12 (by omega) (by omega) (by omega)) (hin (26 + 0) 11 (by omega) (by omega) (by omega)) (hin (26 + f9) 11 (by omega) (by omega) (by omega)) (hin 150 11 (by omega) (by omega) (by omega)) (hin (26 + 0) 10 (by omega) (by omega) (by omega)) (hin (26 + f9) 10 (by omega) (by omega) (by omega)) (hin 150 10 (by omega) (by omega) (by omega)) (hin (26 + 0) 9 (by omega) (by omega) (by omega)) (hin (26 + f9) 9 (by omega) (by omega) (by omega)) (hin 150 9 (by omega) (by omega) (by omega)) (by omega) (by omega) ) C0 hw vw_X5_214 ((hL 7 (by omega))) hrkx_4489.1 rfl rfl rfl hl.1 rfl (Nat.le_of_ble_eq_true rfl) dX5_hashLooks_107 ⟨by decide, by decide⟩ ⟨by decide, by decide⟩) rfl rfl (fun F_4490 H locs hw hp_4491 => ?_)
  obtain ⟨f_4492, ⟨t_4500, f_4493⟩, ⟨t_4501, f_4494⟩, ⟨t_4502, f_4495⟩, ⟨t_4503, f_4496⟩, ⟨t_4504, f_4497⟩, ⟨t_4505, f_4498⟩, ⟨t_4506, f_4499⟩, o_4507⟩ := hp_4491
  refine lv_iconst (v := nI 2) hx hb dX5_hashLooks_110 (by decide) ?_
  refine lv_istore (lv' := [(6, .int (nI (2))), (4, .long ((lN (31) * ((lN (31) * ((lN (31) * ((lN (31) * (h9)) + ((nI (m_val (A.1.2.2.2.2.2 f9) (zi (nI 3))).val).toInt64))) + ((nI (m_val (A.1.2.2.2.2.2 (6 + f9)) (zi (nI 3))).val).toInt64))) + ((lowR (m_br (A.1.2.2.2.2.2 f9) (A.1.2.2.2.2.2 0) A.1.1)).toInt64))) + ((m_low (fun k => decide ((m_sub (A.1.2.2.2.2.2 (6 + f9)) (A.1.2.2.2.2.2 (6 + 0)) A.1.1) k ≠ (m_sub (A.1.2.2.2.2.2 (6 + 0)) (A.1.2.2.2.2.2 (6 + f9)) A.1.1) k))).toInt64))), (0, .ref (ad 0)), (1, .long (h9)), (3, .int (nI (f9)))]) hx hb dX5_hashLooks_111 hl (by decide) rfl (fun ls hl => ?_)
  refine lv_iload hx hb dX5_hashLooks_113 (lv_at hl 0 rfl) ?_
  refine lv_iconst (v := nI 5) hx hb dX5_hashLooks_115 (by decide) ?_
  refine n_icmp_gt (tgt := 143) hx hb dX5_hashLooks_116 (by decide) (by decide) (by decide) (fun c_116 => ?_) (fun c_116 => ?_)
  · skip
    exact absurd c_116 (by omega)
  · skip
    refine lv_ldc2 (v := lN (31)) hx hb C0.ow (C0.ts _ kw_X5_253) dX5_hashLooks_119 ?_
    refine lv_lload hx hb dX5_hashLooks_122 (lv_at hl 1 rfl) ?_
    refine lv_lmul hx hb dX5_hashLooks_124 ?_
    refine lv_aload_n hx hb dX5_hashLooks_125 rfl (lv_at hl 2 rfl) ?_
    refine lv_iconst (v := nI 0) hx hb dX5_hashLooks_126 (by decide) ?_
    refine lv_iload_n hx hb dX5_hashLooks_127 rfl (lv_at hl 4 rfl) ?_
    refine lv_iload hx hb dX5_hashLooks_128 (lv_at hl 0 rfl) ?_
    have f_4508 : F_4490 (ad 7) = rkO (fun i => ad (8 + i)) := (o_4507 (ad 7) (hin 7 150 (by omega) (by omega) (by omega)) (hin 7 19 (by omega) (by omega) (by omega)) (hin 7 20 (by omega) (by omega) (by omega)) (hin 7 21 (by omega) (by omega) (by omega)) (hin 7 12 (by omega) (by omega) (by omega)) (hin 7 11 (by omega) (by omega) (by omega)) (hin 7 10 (by omega) (by omega) (by omega)) (hin 7 9 (by omega) (by omega) (by omega))).trans hrkx_4489.1
    have f_4509 : F_4490 (ad 8) = rw7 G sx_4489_0 := (o_4507 (ad 8) (hin 8 150 (by omega) (by omega) (by omega)) (hin 8 19 (by omega) (by omega) (by omega)) (hin 8 20 (by omega) (by omega) (by omega)) (hin 8 21 (by omega) (by omega) (by omega)) (hin 8 12 (by omega) (by omega) (by omega)) (hin 8 11 (by omega) (by omega) (by omega)) (hin 8 10 (by omega) (by omega) (by omega)) (hin 8 9 (by omega) (by omega) (by omega))).trans hsx_4489_0
    have f_4510 : F_4490 (ad 13) = rw7 G sx_4489_5 := (o_4507 (ad 13) (hin 13 150 (by omega) (by omega) (by omega)) (hin 13 19 (by omega) (by omega) (by omega)) (hin 13 20 (by omega) (by omega) (by omega)) (hin 13 21 (by omega) (by omega) (by omega)) (hin 13 12 (by omega) (by omega) (by omega)) (hin 13 11 (by omega) (by omega) (by omega)) (hin 13 10 (by omega) (by omega) (by omega)) (hin 13 9 (by omega) (by omega) (by omega))).trans hsx_4489_5
    have f_4511 : F_4490 (ad 14) = rw7 G sx_4489_6 := (o_4507 (ad 14) (hin 14 150 (by omega) (by omega) (by omega)) (hin 14 19 (by omega) (by omega) (by omega)) (hin 14 20 (by omega) (by omega) (by omega)) (hin 14 21 (by omega) (by omega) (by omega)) (hin 14 12 (by omega) (by omega) (by omega)) (hin 14 11 (by omega) (by omega) (by omega)) (hin 14 10 (by omega) (by omega) (by omega)) (hin 14 9 (by omega) (by omega) (by omega))).trans hsx_4489_6
    have f_4512 : F_4490 (ad 15) = rw7 G sx_4489_7 := (o_4507 (ad 15) (hin 15 150 (by omega) (by omega) (by omega)) (hin 15 19 (by omega) (by omega) (by omega)) (hin 15 20 (by omega) (by omega) (by omega)) (hin 15 21 (by omega) (by omega) (by omega)) (hin 15 12 (by omega) (by omega) (by omega)) (hin 15 11 (by omega) (by omega) (by omega)) (hin 15 10 (by omega) (by omega) (by omega)) (hin 15 9 (by omega) (by omega) (by omega))).trans hsx_4489_7
    have f_4513 : F_4490 (ad 16) = rw7 G sx_4489_8 := (o_4507 (ad 16) (hin 16 150 (by omega) (by omega) (by omega)) (hin 16 19 (by omega) (by omega) (by omega)) (hin 16 20 (by omega) (by omega) (by omega)) (hin 16 21 (by omega) (by omega) (by omega)) (hin 16 12 (by omega) (by omega) (by omega)) (hin 16 11 (by omega) (by omega) (by omega)) (hin 16 10 (by omega) (by omega) (by omega)) (hin 16 9 (by omega) (by omega) (by omega))).trans hsx_4489_8
    have f_4514 : F_4490 (ad 17) = rw7 G sx_4489_9 := (o_4507 (ad 17) (hin 17 150 (by omega) (by omega) (by omega)) (hin 17 19 (by omega) (by omega) (by omega)) (hin 17 20 (by omega) (by omega) (by omega)) (hin 17 21 (by omega) (by omega) (by omega)) (hin 17 12 (by omega) (by omega) (by omega)) (hin 17 11 (by omega) (by omega) (by omega)) (hin 17 10 (by omega) (by omega) (by omega)) (hin 17 9 (by omega) (by omega) (by omega))).trans hsx_4489_9
    have f_4515 : F_4490 (ad 18) = rw7 G sx_4489_10 := (o_4507 (ad 18) (hin 18 150 (by omega) (by omega) (by omega)) (hin 18 19 (by omega) (by omega) (by omega)) (hin 18 20 (by omega) (by omega) (by omega)) (hin 18 21 (by omega) (by omega) (by omega)) (hin 18 12 (by omega) (by omega) (by omega)) (hin 18 11 (by omega) (by omega) (by omega)) (hin 18 10 (by omega) (by omega) (by omega)) (hin 18 9 (by omega) (by omega) (by omega))).trans hsx_4489_10
    have f_4516 : F_4490 (ad 0) = xO ad := (o_4507 (ad 0) (hin 0 150 (by omega) (by omega) (by omega)) (hin 0 19 (by omega) (by omega) (by omega)) (hin 0 20 (by omega) (by omega) (by omega)) (hin 0 21 (by omega) (by omega) (by omega)) (hin 0 12 (by omega) (by omega) (by omega)) (hin 0 11 (by omega) (by omega) (by omega)) (hin 0 10 (by omega) (by omega) (by omega)) (hin 0 9 (by omega) (by omega) (by omega))).trans fxx_4489
    have f_4517 : F_4490 (ad 134) = rw7 G ux_4489 := (o_4507 (ad 134) (hin 134 150 (by omega) (by omega) (by omega)) (hin 134 19 (by omega) (by omega) (by omega)) (hin 134 20 (by omega) (by omega) (by omega)) (hin 134 21 (by omega) (by omega) (by omega)) (hin 134 12 (by omega) (by omega) (by omega)) (hin 134 11 (by omega) (by omega) (by omega)) (hin 134 10 (by omega) (by omega) (by omega)) (hin 134 9 (by omega) (by omega) (by omega))).trans h134x_4489
    refine q_calli hw (q_runV (As := [.int (nI (0)), .int (nI (f9)), .int (nI (2))]) (c_X5_wayDiffers l G L F_4490 ad hL hin A 0 f9 2 ((m_cf ((A.1.2.2.2.2.2 0)) ((A.1.2.2.2.2.2 f9)) (A.1.1))) (by omega) (by omega) (by omega) (by omega) f_4492 (show XW G F_4490 ad A from ⟨f_4516, (hnx_4489.keep (fun i0 hi => (o_4507 (ad (i0)) (hin (i0) 150 (by omega) (by omega) (by omega)) (hin (i0) 19 (by omega) (by omega) (by omega)) (hin (i0) 20 (by omega) (by omega) (by omega)) (hin (i0) 21 (by omega) (by omega) (by omega)) (hin (i0) 12 (by omega) (by omega) (by omega)) (hin (i0) 11 (by omega) (by omega) (by omega)) (hin (i0) 10 (by omega) (by omega) (by omega)) (hin (i0) 9 (by omega) (by omega) (by omega))))), (hhx_4489.keep (fun i0 hi => (o_4507 (ad (i0)) (hin (i0) 150 (by omega) (by omega) (by omega)) (hin (i0) 19 (by omega) (by omega) (by omega)) (hin (i0) 20 (by omega) (by omega) (by omega)) (hin (i0) 21 (by omega) (by omega) (by omega)) (hin (i0) 12 (by omega) (by omega) (by omega)) (hin (i0) 11 (by omega) (by omega) (by omega)) (hin (i0) 10 (by omega) (by omega) (by omega)) (hin (i0) 9 (by omega) (by omega) (by omega))))), (hsnx_4489.keep (fun i0 hi => (o_4507 (ad (i0)) (hin (i0) 150 (by omega) (by omega) (by omega)) (hin (i0) 19 (by omega) (by omega) (by omega)) (hin (i0) 20 (by omega) (by omega) (by omega)) (hin (i0) 21 (by omega) (by omega) (by omega)) (hin (i0) 12 (by omega) (by omega) (by omega)) (hin (i0) 11 (by omega) (by omega) (by omega)) (hin (i0) 10 (by omega) (by omega) (by omega)) (hin (i0) 9 (by omega) (by omega) (by omega))))), (htxx_4489.keep (fun i0 hi => (o_4507 (ad (i0)) (hin (i0) 150 (by omega) (by omega) (by omega)) (hin (i0) 19 (by omega) (by omega) (by omega)) (hin (i0) 20 (by omega) (by omega) (by omega)) (hin (i0) 21 (by omega) (by omega) (by omega)) (hin (i0) 12 (by omega) (by omega) (by omega)) (hin (i0) 11 (by omega) (by omega) (by omega)) (hin (i0) 10 (by omega) (by omega) (by omega)) (hin (i0) 9 (by omega) (by omega) (by omega))))), ⟨f_4508, lt14 ⟨_, f_4509⟩ ⟨_, f_4499⟩ ⟨_, f_4498⟩ ⟨_, f_4497⟩ ⟨_, f_4496⟩ ⟨_, f_4510⟩ ⟨_, f_4511⟩ ⟨_, f_4512⟩ ⟨_, f_4513⟩ ⟨_, f_4514⟩ ⟨_, f_4515⟩ ⟨_, f_4493⟩ ⟨_, f_4494⟩ ⟨_, f_4495⟩⟩, ⟨_, f_4517⟩, ⟨_, f_4492⟩⟩) hA) C0 hw vw_X5_217 ((hL 0 (by omega))) f_4516 rfl rfl rfl hl.1 rfl (Nat.le_of_ble_eq_true rfl) dX5_hashLooks_130 ⟨by decide, by decide⟩ ⟨by decide, by decide⟩) rfl rfl (fun r_4520 F_4518 H locs hw hp_4519 => ?_)
    obtain ⟨h_4521, h_4522, h_4523, h_4524⟩ := hp_4519
    subst h_4521
    obtain ⟨fxx_4525, hnx_4525, hhx_4525, hsnx_4525, htxx_4525, hrkx_4525, ⟨ux_4525, h134x_4525⟩, ⟨vx_4525, h150x_4525⟩⟩ := id h_4522
    refine lv_i2l (v := (m_low (fun k => decide ((m_way (A.1.2.2.2.2.2 0) (A.1.2.2.2.2.2 f9) 2 A.1.1) k ≠ (m_cf ((A.1.2.2.2.2.2 0)) ((A.1.2.2.2.2.2 f9)) (A.1.1)) k))).toInt64) hx hb dX5_hashLooks_133 rfl ?_
    refine lv_ladd hx hb dX5_hashLooks_134 ?_
    refine lv_lstore (lv' := [(4, .long ((lN (31) * ((lN (31) * ((lN (31) * ((lN (31) * ((lN (31) * (h9)) + ((nI (m_val (A.1.2.2.2.2.2 f9) (zi (nI 3))).val).toInt64))) + ((nI (m_val (A.1.2.2.2.2.2 (6 + f9)) (zi (nI 3))).val).toInt64))) + ((lowR (m_br (A.1.2.2.2.2.2 f9) (A.1.2.2.2.2.2 0) A.1.1)).toInt64))) + ((m_low (fun k => decide ((m_sub (A.1.2.2.2.2.2 (6 + f9)) (A.1.2.2.2.2.2 (6 + 0)) A.1.1) k ≠ (m_sub (A.1.2.2.2.2.2 (6 + 0)) (A.1.2.2.2.2.2 (6 + f9)) A.1.1) k))).toInt64))) + ((m_low (fun k => decide ((m_way (A.1.2.2.2.2.2 0) (A.1.2.2.2.2.2 f9) 2 A.1.1) k ≠ (m_cf ((A.1.2.2.2.2.2 0)) ((A.1.2.2.2.2.2 f9)) (A.1.1)) k))).toInt64))), (6, .int (nI (2))), (0, .ref (ad 0)), (1, .long (h9)), (3, .int (nI (f9)))]) hx hb dX5_hashLooks_135 hl (by decide) rfl (fun ls hl => ?_)
    refine lv_iinc (v := nI 3) (lv' := [(6, .int (nI (3))), (4, .long ((lN (31) * ((lN (31) * ((lN (31) * ((lN (31) * ((lN (31) * (h9)) + ((nI (m_val (A.1.2.2.2.2.2 f9) (zi (nI 3))).val).toInt64))) + ((nI (m_val (A.1.2.2.2.2.2 (6 + f9)) (zi (nI 3))).val).toInt64))) + ((lowR (m_br (A.1.2.2.2.2.2 f9) (A.1.2.2.2.2.2 0) A.1.1)).toInt64))) + ((m_low (fun k => decide ((m_sub (A.1.2.2.2.2.2 (6 + f9)) (A.1.2.2.2.2.2 (6 + 0)) A.1.1) k ≠ (m_sub (A.1.2.2.2.2.2 (6 + 0)) (A.1.2.2.2.2.2 (6 + f9)) A.1.1) k))).toInt64))) + ((m_low (fun k => decide ((m_way (A.1.2.2.2.2.2 0) (A.1.2.2.2.2.2 f9) 2 A.1.1) k ≠ (m_cf ((A.1.2.2.2.2.2 0)) ((A.1.2.2.2.2.2 f9)) (A.1.1)) k))).toInt64))), (0, .ref (ad 0)), (1, .long (h9)), (3, .int (nI (f9)))]) hx hb dX5_hashLooks_137 hl (k := 1) rfl (by decide) (by decide) rfl (fun ls hl => ?_)
    refine lv_goto (tgt := 113) hx hb dX5_hashLooks_140 (by decide) ?_
    refine lv_iload hx hb dX5_hashLooks_113 (lv_at hl 0 rfl) ?_
    refine lv_iconst (v := nI 5) hx hb dX5_hashLooks_115 (by decide) ?_
    refine n_icmp_gt (tgt := 143) hx hb dX5_hashLooks_116 (by decide) (by decide) (by decide) (fun c_116 => ?_) (fun c_116 => ?_)
    · skip
      exact absurd c_116 (by omega)
    · skip
      refine lv_ldc2 (v := lN (31)) hx hb C0.ow (C0.ts _ kw_X5_253) dX5_hashLooks_119 ?_
      refine lv_lload hx hb dX5_hashLooks_122 (lv_at hl 1 rfl) ?_
      refine lv_lmul hx hb dX5_hashLooks_124 ?_
      refine lv_aload_n hx hb dX5_hashLooks_125 rfl (lv_at hl 2 rfl) ?_
      refine lv_iconst (v := nI 0) hx hb dX5_hashLooks_126 (by decide) ?_
      refine lv_iload_n hx hb dX5_hashLooks_127 rfl (lv_at hl 4 rfl) ?_
      refine lv_iload hx hb dX5_hashLooks_128 (lv_at hl 0 rfl) ?_
      refine q_calli hw (q_runV (As := [.int (nI (0)), .int (nI (f9)), .int (nI (3))]) (c_X5_wayDiffers l G L F_4518 ad hL hin A 0 f9 3 ((m_cf ((A.1.2.2.2.2.2 0)) ((A.1.2.2.2.2.2 f9)) (A.1.1))) (by omega) (by omega) (by omega) (by omega) h_4523 h_4522 hA) C0 hw vw_X5_217 ((hL 0 (by omega))) fxx_4525 rfl rfl rfl hl.1 rfl (Nat.le_of_ble_eq_true rfl) dX5_hashLooks_130 ⟨by decide, by decide⟩ ⟨by decide, by decide⟩) rfl rfl (fun r_4528 F_4526 H locs hw hp_4527 => ?_)
      obtain ⟨h_4529, h_4530, h_4531, h_4532⟩ := hp_4527
      subst h_4529
      obtain ⟨fxx_4533, hnx_4533, hhx_4533, hsnx_4533, htxx_4533, hrkx_4533, ⟨ux_4533, h134x_4533⟩, ⟨vx_4533, h150x_4533⟩⟩ := id h_4530
      refine lv_i2l (v := (m_low (fun k => decide ((m_way (A.1.2.2.2.2.2 0) (A.1.2.2.2.2.2 f9) 3 A.1.1) k ≠ (m_cf ((A.1.2.2.2.2.2 0)) ((A.1.2.2.2.2.2 f9)) (A.1.1)) k))).toInt64) hx hb dX5_hashLooks_133 rfl ?_
      refine lv_ladd hx hb dX5_hashLooks_134 ?_
      refine lv_lstore (lv' := [(4, .long ((lN (31) * ((lN (31) * ((lN (31) * ((lN (31) * ((lN (31) * ((lN (31) * (h9)) + ((nI (m_val (A.1.2.2.2.2.2 f9) (zi (nI 3))).val).toInt64))) + ((nI (m_val (A.1.2.2.2.2.2 (6 + f9)) (zi (nI 3))).val).toInt64))) + ((lowR (m_br (A.1.2.2.2.2.2 f9) (A.1.2.2.2.2.2 0) A.1.1)).toInt64))) + ((m_low (fun k => decide ((m_sub (A.1.2.2.2.2.2 (6 + f9)) (A.1.2.2.2.2.2 (6 + 0)) A.1.1) k ≠ (m_sub (A.1.2.2.2.2.2 (6 + 0)) (A.1.2.2.2.2.2 (6 + f9)) A.1.1) k))).toInt64))) + ((m_low (fun k => decide ((m_way (A.1.2.2.2.2.2 0) (A.1.2.2.2.2.2 f9) 2 A.1.1) k ≠ (m_cf ((A.1.2.2.2.2.2 0)) ((A.1.2.2.2.2.2 f9)) (A.1.1)) k))).toInt64))) + ((m_low (fun k => decide ((m_way (A.1.2.2.2.2.2 0) (A.1.2.2.2.2.2 f9) 3 A.1.1) k ≠ (m_cf ((A.1.2.2.2.2.2 0)) ((A.1.2.2.2.2.2 f9)) (A.1.1)) k))).toInt64))), (6, .int (nI (3))), (0, .ref (ad 0)), (1, .long (h9)), (3, .int (nI (f9)))]) hx hb dX5_hashLooks_135 hl (by decide) rfl (fun ls hl => ?_)
      refine lv_iinc (v := nI 4) (lv' := [(6, .int (nI (4))), (4, .long ((lN (31) * ((lN (31) * ((lN (31) * ((lN (31) * ((lN (31) * ((lN (31) * (h9)) + ((nI (m_val (A.1.2.2.2.2.2 f9) (zi (nI 3))).val).toInt64))) + ((nI (m_val (A.1.2.2.2.2.2 (6 + f9)) (zi (nI 3))).val).toInt64))) + ((lowR (m_br (A.1.2.2.2.2.2 f9) (A.1.2.2.2.2.2 0) A.1.1)).toInt64))) + ((m_low (fun k => decide ((m_sub (A.1.2.2.2.2.2 (6 + f9)) (A.1.2.2.2.2.2 (6 + 0)) A.1.1) k ≠ (m_sub (A.1.2.2.2.2.2 (6 + 0)) (A.1.2.2.2.2.2 (6 + f9)) A.1.1) k))).toInt64))) + ((m_low (fun k => decide ((m_way (A.1.2.2.2.2.2 0) (A.1.2.2.2.2.2 f9) 2 A.1.1) k ≠ (m_cf ((A.1.2.2.2.2.2 0)) ((A.1.2.2.2.2.2 f9)) (A.1.1)) k))).toInt64))) + ((m_low (fun k => decide ((m_way (A.1.2.2.2.2.2 0) (A.1.2.2.2.2.2 f9) 3 A.1.1) k ≠ (m_cf ((A.1.2.2.2.2.2 0)) ((A.1.2.2.2.2.2 f9)) (A.1.1)) k))).toInt64))), (0, .ref (ad 0)), (1, .long (h9)), (3, .int (nI (f9)))]) hx hb dX5_hashLooks_137 hl (k := 1) rfl (by decide) (by decide) rfl (fun ls hl => ?_)
      refine lv_goto (tgt := 113) hx hb dX5_hashLooks_140 (by decide) ?_
      refine lv_iload hx hb dX5_hashLooks_113 (lv_at hl 0 rfl) ?_
      refine lv_iconst (v := nI 5) hx hb dX5_hashLooks_115 (by decide) ?_
      refine n_icmp_gt (tgt := 143) hx hb dX5_hashLooks_116 (by decide) (by decide) (by decide) (fun c_116 => ?_) (fun c_116 => ?_)
      · skip
        exact absurd c_116 (by omega)
      · skip
        refine lv_ldc2 (v := lN (31)) hx hb C0.ow (C0.ts _ kw_X5_253) dX5_hashLooks_119 ?_
        refine lv_lload hx hb dX5_hashLooks_122 (lv_at hl 1 rfl) ?_
        refine lv_lmul hx hb dX5_hashLooks_124 ?_
        refine lv_aload_n hx hb dX5_hashLooks_125 rfl (lv_at hl 2 rfl) ?_
        refine lv_iconst (v := nI 0) hx hb dX5_hashLooks_126 (by decide) ?_
        refine lv_iload_n hx hb dX5_hashLooks_127 rfl (lv_at hl 4 rfl) ?_
        refine lv_iload hx hb dX5_hashLooks_128 (lv_at hl 0 rfl) ?_
        refine q_calli hw (q_runV (As := [.int (nI (0)), .int (nI (f9)), .int (nI (4))]) (c_X5_wayDiffers l G L F_4526 ad hL hin A 0 f9 4 ((m_cf ((A.1.2.2.2.2.2 0)) ((A.1.2.2.2.2.2 f9)) (A.1.1))) (by omega) (by omega) (by omega) (by omega) h_4531 h_4530 hA) C0 hw vw_X5_217 ((hL 0 (by omega))) fxx_4533 rfl rfl rfl hl.1 rfl (Nat.le_of_ble_eq_true rfl) dX5_hashLooks_130 ⟨by decide, by decide⟩ ⟨by decide, by decide⟩) rfl rfl (fun r_4536 F_4534 H locs hw hp_4535 => ?_)
        obtain ⟨h_4537, h_4538, h_4539, h_4540⟩ := hp_4535
        subst h_4537
        obtain ⟨fxx_4541, hnx_4541, hhx_4541, hsnx_4541, htxx_4541, hrkx_4541, ⟨ux_4541, h134x_4541⟩, ⟨vx_4541, h150x_4541⟩⟩ := id h_4538
        refine lv_i2l (v := (m_low (fun k => decide ((m_way (A.1.2.2.2.2.2 0) (A.1.2.2.2.2.2 f9) 4 A.1.1) k ≠ (m_cf ((A.1.2.2.2.2.2 0)) ((A.1.2.2.2.2.2 f9)) (A.1.1)) k))).toInt64) hx hb dX5_hashLooks_133 rfl ?_
        refine lv_ladd hx hb dX5_hashLooks_134 ?_
        refine lv_lstore (lv' := [(4, .long ((lN (31) * ((lN (31) * ((lN (31) * ((lN (31) * ((lN (31) * ((lN (31) * ((lN (31) * (h9)) + ((nI (m_val (A.1.2.2.2.2.2 f9) (zi (nI 3))).val).toInt64))) + ((nI (m_val (A.1.2.2.2.2.2 (6 + f9)) (zi (nI 3))).val).toInt64))) + ((lowR (m_br (A.1.2.2.2.2.2 f9) (A.1.2.2.2.2.2 0) A.1.1)).toInt64))) + ((m_low (fun k => decide ((m_sub (A.1.2.2.2.2.2 (6 + f9)) (A.1.2.2.2.2.2 (6 + 0)) A.1.1) k ≠ (m_sub (A.1.2.2.2.2.2 (6 + 0)) (A.1.2.2.2.2.2 (6 + f9)) A.1.1) k))).toInt64))) + ((m_low (fun k => decide ((m_way (A.1.2.2.2.2.2 0) (A.1.2.2.2.2.2 f9) 2 A.1.1) k ≠ (m_cf ((A.1.2.2.2.2.2 0)) ((A.1.2.2.2.2.2 f9)) (A.1.1)) k))).toInt64))) + ((m_low (fun k => decide ((m_way (A.1.2.2.2.2.2 0) (A.1.2.2.2.2.2 f9) 3 A.1.1) k ≠ (m_cf ((A.1.2.2.2.2.2 0)) ((A.1.2.2.2.2.2 f9)) (A.1.1)) k))).toInt64))) + ((m_low (fun k => decide ((m_way (A.1.2.2.2.2.2 0) (A.1.2.2.2.2.2 f9) 4 A.1.1) k ≠ (m_cf ((A.1.2.2.2.2.2 0)) ((A.1.2.2.2.2.2 f9)) (A.1.1)) k))).toInt64))), (6, .int (nI (4))), (0, .ref (ad 0)), (1, .long (h9)), (3, .int (nI (f9)))]) hx hb dX5_hashLooks_135 hl (by decide) rfl (fun ls hl => ?_)
        refine lv_iinc (v := nI 5) (lv' := [(6, .int (nI (5))), (4, .long ((lN (31) * ((lN (31) * ((lN (31) * ((lN (31) * ((lN (31) * ((lN (31) * ((lN (31) * (h9)) + ((nI (m_val (A.1.2.2.2.2.2 f9) (zi (nI 3))).val).toInt64))) + ((nI (m_val (A.1.2.2.2.2.2 (6 + f9)) (zi (nI 3))).val).toInt64))) + ((lowR (m_br (A.1.2.2.2.2.2 f9) (A.1.2.2.2.2.2 0) A.1.1)).toInt64))) + ((m_low (fun k => decide ((m_sub (A.1.2.2.2.2.2 (6 + f9)) (A.1.2.2.2.2.2 (6 + 0)) A.1.1) k ≠ (m_sub (A.1.2.2.2.2.2 (6 + 0)) (A.1.2.2.2.2.2 (6 + f9)) A.1.1) k))).toInt64))) + ((m_low (fun k => decide ((m_way (A.1.2.2.2.2.2 0) (A.1.2.2.2.2.2 f9) 2 A.1.1) k ≠ (m_cf ((A.1.2.2.2.2.2 0)) ((A.1.2.2.2.2.2 f9)) (A.1.1)) k))).toInt64))) + ((m_low (fun k => decide ((m_way (A.1.2.2.2.2.2 0) (A.1.2.2.2.2.2 f9) 3 A.1.1) k ≠ (m_cf ((A.1.2.2.2.2.2 0)) ((A.1.2.2.2.2.2 f9)) (A.1.1)) k))).toInt64))) + ((m_low (fun k => decide ((m_way (A.1.2.2.2.2.2 0) (A.1.2.2.2.2.2 f9) 4 A.1.1) k ≠ (m_cf ((A.1.2.2.2.2.2 0)) ((A.1.2.2.2.2.2 f9)) (A.1.1)) k))).toInt64))), (0, .ref (ad 0)), (1, .long (h9)), (3, .int (nI (f9)))]) hx hb dX5_hashLooks_137 hl (k := 1) rfl (by decide) (by decide) rfl (fun ls hl => ?_)
        refine lv_goto (tgt := 113) hx hb dX5_hashLooks_140 (by decide) ?_
        refine lv_iload hx hb dX5_hashLooks_113 (lv_at hl 0 rfl) ?_
        refine lv_iconst (v := nI 5) hx hb dX5_hashLooks_115 (by decide) ?_
        refine n_icmp_gt (tgt := 143) hx hb dX5_hashLooks_116 (by decide) (by decide) (by decide) (fun c_116 => ?_) (fun c_116 => ?_)
        · skip
          exact absurd c_116 (by omega)
        · skip
          refine lv_ldc2 (v := lN (31)) hx hb C0.ow (C0.ts _ kw_X5_253) dX5_hashLooks_119 ?_
          refine lv_lload hx hb dX5_hashLooks_122 (lv_at hl 1 rfl) ?_
          refine lv_lmul hx hb dX5_hashLooks_124 ?_
          refine lv_aload_n hx hb dX5_hashLooks_125 rfl (lv_at hl 2 rfl) ?_
          refine lv_iconst (v := nI 0) hx hb dX5_hashLooks_126 (by decide) ?_
          refine lv_iload_n hx hb dX5_hashLooks_127 rfl (lv_at hl 4 rfl) ?_
          refine lv_iload hx hb dX5_hashLooks_128 (lv_at hl 0 rfl) ?_
          refine q_calli hw (q_runV (As := [.int (nI (0)), .int (nI (f9)), .int (nI (5))]) (c_X5_wayDiffers l G L F_4534 ad hL hin A 0 f9 5 ((m_cf ((A.1.2.2.2.2.2 0)) ((A.1.2.2.2.2.2 f9)) (A.1.1))) (by omega) (by omega) (by omega) (by omega) h_4539 h_4538 hA) C0 hw vw_X5_217 ((hL 0 (by omega))) fxx_4541 rfl rfl rfl hl.1 rfl (Nat.le_of_ble_eq_true rfl) dX5_hashLooks_130 ⟨by decide, by decide⟩ ⟨by decide, by decide⟩) rfl rfl (fun r_4544 F_4542 H locs hw hp_4543 => ?_)
          obtain ⟨h_4545, h_4546, h_4547, h_4548⟩ := hp_4543
          subst h_4545
          obtain ⟨fxx_4549, hnx_4549, hhx_4549, hsnx_4549, htxx_4549, hrkx_4549, ⟨ux_4549, h134x_4549⟩, ⟨vx_4549, h150x_4549⟩⟩ := id h_4546
          refine lv_i2l (v := (m_low (fun k => decide ((m_way (A.1.2.2.2.2.2 0) (A.1.2.2.2.2.2 f9) 5 A.1.1) k ≠ (m_cf ((A.1.2.2.2.2.2 0)) ((A.1.2.2.2.2.2 f9)) (A.1.1)) k))).toInt64) hx hb dX5_hashLooks_133 rfl ?_
          refine lv_ladd hx hb dX5_hashLooks_134 ?_
          refine lv_lstore (lv' := [(4, .long ((lN (31) * ((lN (31) * ((lN (31) * ((lN (31) * ((lN (31) * ((lN (31) * ((lN (31) * ((lN (31) * (h9)) + ((nI (m_val (A.1.2.2.2.2.2 f9) (zi (nI 3))).val).toInt64))) + ((nI (m_val (A.1.2.2.2.2.2 (6 + f9)) (zi (nI 3))).val).toInt64))) + ((lowR (m_br (A.1.2.2.2.2.2 f9) (A.1.2.2.2.2.2 0) A.1.1)).toInt64))) + ((m_low (fun k => decide ((m_sub (A.1.2.2.2.2.2 (6 + f9)) (A.1.2.2.2.2.2 (6 + 0)) A.1.1) k ≠ (m_sub (A.1.2.2.2.2.2 (6 + 0)) (A.1.2.2.2.2.2 (6 + f9)) A.1.1) k))).toInt64))) + ((m_low (fun k => decide ((m_way (A.1.2.2.2.2.2 0) (A.1.2.2.2.2.2 f9) 2 A.1.1) k ≠ (m_cf ((A.1.2.2.2.2.2 0)) ((A.1.2.2.2.2.2 f9)) (A.1.1)) k))).toInt64))) + ((m_low (fun k => decide ((m_way (A.1.2.2.2.2.2 0) (A.1.2.2.2.2.2 f9) 3 A.1.1) k ≠ (m_cf ((A.1.2.2.2.2.2 0)) ((A.1.2.2.2.2.2 f9)) (A.1.1)) k))).toInt64))) + ((m_low (fun k => decide ((m_way (A.1.2.2.2.2.2 0) (A.1.2.2.2.2.2 f9) 4 A.1.1) k ≠ (m_cf ((A.1.2.2.2.2.2 0)) ((A.1.2.2.2.2.2 f9)) (A.1.1)) k))).toInt64))) + ((m_low (fun k => decide ((m_way (A.1.2.2.2.2.2 0) (A.1.2.2.2.2.2 f9) 5 A.1.1) k ≠ (m_cf ((A.1.2.2.2.2.2 0)) ((A.1.2.2.2.2.2 f9)) (A.1.1)) k))).toInt64))), (6, .int (nI (5))), (0, .ref (ad 0)), (1, .long (h9)), (3, .int (nI (f9)))]) hx hb dX5_hashLooks_135 hl (by decide) rfl (fun ls hl => ?_)
          refine lv_iinc (v := nI 6) (lv' := [(6, .int (nI (6))), (4, .long ((lN (31) * ((lN (31) * ((lN (31) * ((lN (31) * ((lN (31) * ((lN (31) * ((lN (31) * ((lN (31) * (h9)) + ((nI (m_val (A.1.2.2.2.2.2 f9) (zi (nI 3))).val).toInt64))) + ((nI (m_val (A.1.2.2.2.2.2 (6 + f9)) (zi (nI 3))).val).toInt64))) + ((lowR (m_br (A.1.2.2.2.2.2 f9) (A.1.2.2.2.2.2 0) A.1.1)).toInt64))) + ((m_low (fun k => decide ((m_sub (A.1.2.2.2.2.2 (6 + f9)) (A.1.2.2.2.2.2 (6 + 0)) A.1.1) k ≠ (m_sub (A.1.2.2.2.2.2 (6 + 0)) (A.1.2.2.2.2.2 (6 + f9)) A.1.1) k))).toInt64))) + ((m_low (fun k => decide ((m_way (A.1.2.2.2.2.2 0) (A.1.2.2.2.2.2 f9) 2 A.1.1) k ≠ (m_cf ((A.1.2.2.2.2.2 0)) ((A.1.2.2.2.2.2 f9)) (A.1.1)) k))).toInt64))) + ((m_low (fun k => decide ((m_way (A.1.2.2.2.2.2 0) (A.1.2.2.2.2.2 f9) 3 A.1.1) k ≠ (m_cf ((A.1.2.2.2.2.2 0)) ((A.1.2.2.2.2.2 f9)) (A.1.1)) k))).toInt64))) + ((m_low (fun k => decide ((m_way (A.1.2.2.2.2.2 0) (A.1.2.2.2.2.2 f9) 4 A.1.1) k ≠ (m_cf ((A.1.2.2.2.2.2 0)) ((A.1.2.2.2.2.2 f9)) (A.1.1)) k))).toInt64))) + ((m_low (fun k => decide ((m_way (A.1.2.2.2.2.2 0) (A.1.2.2.2.2.2 f9) 5 A.1.1) k ≠ (m_cf ((A.1.2.2.2.2.2 0)) ((A.1.2.2.2.2.2 f9)) (A.1.1)) k))).toInt64))), (0, .ref (ad 0)), (1, .long (h9)), (3, .int (nI (f9)))]) hx hb dX5_hashLooks_137 hl (k := 1) rfl (by decide) (by decide) rfl (fun ls hl => ?_)
          refine lv_goto (tgt := 113) hx hb dX5_hashLooks_140 (by decide) ?_
          refine lv_iload hx hb dX5_hashLooks_113 (lv_at hl 0 rfl) ?_
          refine lv_iconst (v := nI 5) hx hb dX5_hashLooks_115 (by decide) ?_
          refine n_icmp_gt (tgt := 143) hx hb dX5_hashLooks_116 (by decide) (by decide) (by decide) (fun c_116 => ?_) (fun c_116 => ?_)
          · skip
            refine lv_lload hx hb dX5_hashLooks_143 (lv_at hl 1 rfl) ?_
            exact r_l C0 hr hlk hw ⟨rfl, h_4546, (fun q hq => ((h_4548 q (fun i hS => hq i (by omega))).trans ((h_4540 q (fun i hS => hq i (by omega))).trans ((h_4532 q (fun i hS => hq i (by omega))).trans ((h_4524 q (fun i hS => hq i (by omega))).trans ((o_4507 q (hq 150 (by omega)) (hq 19 (by omega)) (hq 20 (by omega)) (hq 21 (by omega)) (hq 12 (by omega)) (hq 11 (by omega)) (hq 10 (by omega)) (hq 9 (by omega))).trans ((h_4488 q (fun i hS => hq i (by omega))).trans ((h_4481 q (fun i hS => hq i (by omega))).trans ((h_4474 q (fun i hS => hq i (by omega))).trans (h_4467 q (fun i hS => hq i (by omega))))))))))))⟩ (Nat.le_refl _) (Nat.le_refl _) dX5_hashLooks_145 hQ
          · skip
            exact absurd c_116 (by omega)
def dgC9 (A : AB) : Int64 := lN 31 * (lN 31 * (lN 31 * (lN 31 * (lN 31 * (lN 31 * (lN 31 * (lN 31 * (lN 31 * (lN 2473) + (nI (cntA A 0)).toInt64) + (nI (cntA A 1)).toInt64) + (nI (cntA A 2)).toInt64) + (nI (cntA A 3)).toInt64) + (nI (cntA A 4)).toInt64) + (nI (cntA A 5)).toInt64) + (nI (cntA A 6)).toInt64) + (nI (cntA A 7)).toInt64) + (nI (cntA A 8)).toInt64
def dgS1 (A : AB) : Int64 := hLk A 0 (hC (hC (dgC9 A) (A.1.2.2.2.2.2 0)) (A.1.2.2.2.2.2 (6 + 0)))
def dgS2 (A : AB) : Int64 := hLk A 1 (hC (hC (dgS1 A) (A.1.2.2.2.2.2 1)) (A.1.2.2.2.2.2 (6 + 1)))
def dgS3 (A : AB) : Int64 := hLk A 2 (hC (hC (dgS2 A) (A.1.2.2.2.2.2 2)) (A.1.2.2.2.2.2 (6 + 2)))
def dgS4 (A : AB) : Int64 := hLk A 3 (hC (hC (dgS3 A) (A.1.2.2.2.2.2 3)) (A.1.2.2.2.2.2 (6 + 3)))
def dgS5 (A : AB) : Int64 := hLk A 4 (hC (hC (dgS4 A) (A.1.2.2.2.2.2 4)) (A.1.2.2.2.2.2 (6 + 4)))
def dgS6 (A : AB) : Int64 := hLk A 5 (hC (hC (dgS5 A) (A.1.2.2.2.2.2 5)) (A.1.2.2.2.2.2 (6 + 5)))
def dgst (A : AB) : Int64 := hfN A.2.2.2 (lN 31 * dgS6 A + (dens (cfR A.1.2.2.2.2.2 6) A.1.1).toInt64) A.2.2.2.1
abbrev rm_X5_digest : Room := { frames := 6, cells := 0, slots := 0, locals := 149 }
set_option maxHeartbeats 4000000 in
set_option maxRecDepth 100000 in
theorem c_X5_digest (l : Launch) (G : Gl) (L : List Nat) (F : Nat → va_E) (ad : Nat → Nat) (hL : ∀ i, i < 166 → ad i ∈ L) (hin : ∀ i j, i < 166 → j < 166 → i ≠ j → ad i ≠ ad j) (A : AB) (hn9 : cfR A.1.2.2.2.2.2 6 ≤ 6 * (A.1.1 - 1)) (hX : XW G F ad A) (hA : okA A) : CL l yX5_digest cX5_digest 4 (some .long) rm_X5_digest G L F [.ref (ad 0)] (fun r F1 => r = dgst A ∧ XW G F1 ad A ∧ ∀ q, (∀ i, (i < 166) → q ≠ ad i) → F1 q = F q) := by
  have hX9 := hX
  obtain ⟨fx, hn, hh, hsn, htx, hrk, ⟨u9, h134⟩, ⟨v9, h150⟩⟩ := hX
  obtain ⟨⟨hc2, hc, hpu, hok⟩, ⟨hh6, hho⟩, hso, hl60, hco⟩ := id hA
  refine CG_of (by decide) (Nat.le_of_ble_eq_true rfl) rfl ?_
  intro p e s m args below meth c Q C0 hr hlk hnm hQ hw ls hl
  have hx := C0.x
  have hb := C0.b
  refine lv_ldc2 (v := lN (2473)) hx hb C0.ow (C0.ts _ kw_X5_251) dX5_digest_0 ?_
  refine lv_lstore_n (lv' := [(1, .long (lN 2473)), (0, .ref (ad 0))]) hx hb dX5_digest_3 rfl hl (by decide) rfl (fun ls hl => ?_)
  refine lv_iconst (v := nI 0) hx hb dX5_digest_4 (by decide) ?_
  refine lv_istore_n (lv' := [(3, .int (nI (0))), (1, .long (lN 2473)), (0, .ref (ad 0))]) hx hb dX5_digest_5 rfl hl (by decide) rfl (fun ls hl => ?_)
  refine lv_iload_n hx hb dX5_digest_6 rfl (lv_at hl 0 rfl) ?_
  refine lv_bipush (v := nI 9) hx hb dX5_digest_7 (by decide) ?_
  refine n_icmp_ge (tgt := 31) hx hb dX5_digest_9 (by decide) (by decide) (by decide) (fun c_9 => ?_) (fun c_9 => ?_)
  · skip
    exact absurd c_9 (by omega)
  · skip
    refine lv_ldc2 (v := lN (31)) hx hb C0.ow (C0.ts _ kw_X5_253) dX5_digest_12 ?_
    refine lv_lload_n hx hb dX5_digest_15 rfl (lv_at hl 1 rfl) ?_
    refine lv_lmul hx hb dX5_digest_16 ?_
    refine lv_aload_n hx hb dX5_digest_17 rfl (lv_at hl 2 rfl) ?_
    refine lv_iload_n hx hb dX5_digest_18 rfl (lv_at hl 0 rfl) ?_
    refine q_calli hw (q_runV (As := [.int (nI (0))]) (c_X5_count_0 l G L F ad hL hin A hX9 hA) C0 hw vw_X5_255 ((hL 0 (by omega))) fx rfl rfl rfl hl.1 rfl (Nat.le_of_ble_eq_true rfl) dX5_digest_19 ⟨by decide, by decide⟩ ⟨by decide, by decide⟩) rfl rfl (fun r_4552 F_4550 H locs hw hp_4551 => ?_)
    obtain ⟨he_4553, o_4554⟩ := hp_4551
    subst he_4553
    obtain rfl : F = F_4550 := (funext o_4554).symm
    refine lv_i2l (v := (nI (cntA A 0)).toInt64) hx hb dX5_digest_22 rfl ?_
    refine lv_ladd hx hb dX5_digest_23 ?_
    refine lv_lstore_n (lv' := [(1, .long ((lN (31) * (lN 2473)) + ((nI (cntA A 0)).toInt64))), (3, .int (nI (0))), (0, .ref (ad 0))]) hx hb dX5_digest_24 rfl hl (by decide) rfl (fun ls hl => ?_)
    refine lv_iinc (v := nI 1) (lv' := [(3, .int (nI (1))), (1, .long ((lN (31) * (lN 2473)) + ((nI (cntA A 0)).toInt64))), (0, .ref (ad 0))]) hx hb dX5_digest_25 hl (k := 1) rfl (by decide) (by decide) rfl (fun ls hl => ?_)
    refine lv_goto (tgt := 6) hx hb dX5_digest_28 (by decide) ?_
    refine lv_iload_n hx hb dX5_digest_6 rfl (lv_at hl 0 rfl) ?_
    refine lv_bipush (v := nI 9) hx hb dX5_digest_7 (by decide) ?_
    refine n_icmp_ge (tgt := 31) hx hb dX5_digest_9 (by decide) (by decide) (by decide) (fun c_9 => ?_) (fun c_9 => ?_)
    · skip
      exact absurd c_9 (by omega)
    · skip
      refine lv_ldc2 (v := lN (31)) hx hb C0.ow (C0.ts _ kw_X5_253) dX5_digest_12 ?_
      refine lv_lload_n hx hb dX5_digest_15 rfl (lv_at hl 1 rfl) ?_
      refine lv_lmul hx hb dX5_digest_16 ?_
      refine lv_aload_n hx hb dX5_digest_17 rfl (lv_at hl 2 rfl) ?_
      refine lv_iload_n hx hb dX5_digest_18 rfl (lv_at hl 0 rfl) ?_
      refine q_calli hw (q_runV (As := [.int (nI (1))]) (c_X5_count_1 l G L F ad hL hin A hX9 hA) C0 hw vw_X5_255 ((hL 0 (by omega))) fx rfl rfl rfl hl.1 rfl (Nat.le_of_ble_eq_true rfl) dX5_digest_19 ⟨by decide, by decide⟩ ⟨by decide, by decide⟩) rfl rfl (fun r_4557 F_4555 H locs hw hp_4556 => ?_)
      obtain ⟨he_4558, o_4559⟩ := hp_4556
      subst he_4558
      obtain rfl : F = F_4555 := (funext o_4559).symm
      refine lv_i2l (v := (nI (cntA A 1)).toInt64) hx hb dX5_digest_22 rfl ?_
      refine lv_ladd hx hb dX5_digest_23 ?_
      refine lv_lstore_n (lv' := [(1, .long ((lN (31) * ((lN (31) * (lN 2473)) + ((nI (cntA A 0)).toInt64))) + ((nI (cntA A 1)).toInt64))), (3, .int (nI (1))), (0, .ref (ad 0))]) hx hb dX5_digest_24 rfl hl (by decide) rfl (fun ls hl => ?_)
      refine lv_iinc (v := nI 2) (lv' := [(3, .int (nI (2))), (1, .long ((lN (31) * ((lN (31) * (lN 2473)) + ((nI (cntA A 0)).toInt64))) + ((nI (cntA A 1)).toInt64))), (0, .ref (ad 0))]) hx hb dX5_digest_25 hl (k := 1) rfl (by decide) (by decide) rfl (fun ls hl => ?_)
      refine lv_goto (tgt := 6) hx hb dX5_digest_28 (by decide) ?_
      refine lv_iload_n hx hb dX5_digest_6 rfl (lv_at hl 0 rfl) ?_
      refine lv_bipush (v := nI 9) hx hb dX5_digest_7 (by decide) ?_
      refine n_icmp_ge (tgt := 31) hx hb dX5_digest_9 (by decide) (by decide) (by decide) (fun c_9 => ?_) (fun c_9 => ?_)
      · skip
        exact absurd c_9 (by omega)
      · skip
        refine lv_ldc2 (v := lN (31)) hx hb C0.ow (C0.ts _ kw_X5_253) dX5_digest_12 ?_
        refine lv_lload_n hx hb dX5_digest_15 rfl (lv_at hl 1 rfl) ?_
        refine lv_lmul hx hb dX5_digest_16 ?_
        refine lv_aload_n hx hb dX5_digest_17 rfl (lv_at hl 2 rfl) ?_
        refine lv_iload_n hx hb dX5_digest_18 rfl (lv_at hl 0 rfl) ?_
        refine q_calli hw (q_runV (As := [.int (nI (2))]) (c_X5_count_2 l G L F ad hL hin A hX9 hA) C0 hw vw_X5_255 ((hL 0 (by omega))) fx rfl rfl rfl hl.1 rfl (Nat.le_of_ble_eq_true rfl) dX5_digest_19 ⟨by decide, by decide⟩ ⟨by decide, by decide⟩) rfl rfl (fun r_4562 F_4560 H locs hw hp_4561 => ?_)
        obtain ⟨he_4563, o_4564⟩ := hp_4561
        subst he_4563
        obtain rfl : F = F_4560 := (funext o_4564).symm
        refine lv_i2l (v := (nI (cntA A 2)).toInt64) hx hb dX5_digest_22 rfl ?_
        refine lv_ladd hx hb dX5_digest_23 ?_
        refine lv_lstore_n (lv' := [(1, .long ((lN (31) * ((lN (31) * ((lN (31) * (lN 2473)) + ((nI (cntA A 0)).toInt64))) + ((nI (cntA A 1)).toInt64))) + ((nI (cntA A 2)).toInt64))), (3, .int (nI (2))), (0, .ref (ad 0))]) hx hb dX5_digest_24 rfl hl (by decide) rfl (fun ls hl => ?_)
        refine lv_iinc (v := nI 3) (lv' := [(3, .int (nI (3))), (1, .long ((lN (31) * ((lN (31) * ((lN (31) * (lN 2473)) + ((nI (cntA A 0)).toInt64))) + ((nI (cntA A 1)).toInt64))) + ((nI (cntA A 2)).toInt64))), (0, .ref (ad 0))]) hx hb dX5_digest_25 hl (k := 1) rfl (by decide) (by decide) rfl (fun ls hl => ?_)
        refine lv_goto (tgt := 6) hx hb dX5_digest_28 (by decide) ?_
        refine lv_iload_n hx hb dX5_digest_6 rfl (lv_at hl 0 rfl) ?_
        refine lv_bipush (v := nI 9) hx hb dX5_digest_7 (by decide) ?_
        refine n_icmp_ge (tgt := 31) hx hb dX5_digest_9 (by decide) (by decide) (by decide) (fun c_9 => ?_) (fun c_9 => ?_)
        · skip
          exact absurd c_9 (by omega)
        · skip
          refine lv_ldc2 (v := lN (31)) hx hb C0.ow (C0.ts _ kw_X5_253) dX5_digest_12 ?_
          refine lv_lload_n hx hb dX5_digest_15 rfl (lv_at hl 1 rfl) ?_
          refine lv_lmul hx hb dX5_digest_16 ?_
          refine lv_aload_n hx hb dX5_digest_17 rfl (lv_at hl 2 rfl) ?_
          refine lv_iload_n hx hb dX5_digest_18 rfl (lv_at hl 0 rfl) ?_
          refine q_calli hw (q_runV (As := [.int (nI (3))]) (c_X5_count_3 l G L F ad hL hin A hX9 hA) C0 hw vw_X5_255 ((hL 0 (by omega))) fx rfl rfl rfl hl.1 rfl (Nat.le_of_ble_eq_true rfl) dX5_digest_19 ⟨by decide, by decide⟩ ⟨by decide, by decide⟩) rfl rfl (fun r_4567 F_4565 H locs hw hp_4566 => ?_)
          obtain ⟨he_4568, o_4569⟩ := hp_4566
          subst he_4568
          obtain rfl : F = F_4565 := (funext o_4569).symm
          refine lv_i2l (v := (nI (cntA A 3)).toInt64) hx hb dX5_digest_22 rfl ?_
          refine lv_ladd hx hb dX5_digest_23 ?_
          refine lv_lstore_n (lv' := [(1, .long ((lN (31) * ((lN (31) * ((lN (31) * ((lN (31) * (lN 2473)) + ((nI (cntA A 0)).toInt64))) + ((nI (cntA A 1)).toInt64))) + ((nI (cntA A 2)).toInt64))) + ((nI (cntA A 3)).toInt64))), (3, .int (nI (3))), (0, .ref (ad 0))]) hx hb dX5_digest_24 rfl hl (by decide) rfl (fun ls hl => ?_)
          refine lv_iinc (v := nI 4) (lv' := [(3, .int (nI (4))), (1, .long ((lN (31) * ((lN (31) * ((lN (31) * ((lN (31) * (lN 2473)) + ((nI (cntA A 0)).toInt64))) + ((nI (cntA A 1)).toInt64))) + ((nI (cntA A 2)).toInt64))) + ((nI (cntA A 3)).toInt64))), (0, .ref (ad 0))]) hx hb dX5_digest_25 hl (k := 1) rfl (by decide) (by decide) rfl (fun ls hl => ?_)
          refine lv_goto (tgt := 6) hx hb dX5_digest_28 (by decide) ?_
          refine lv_iload_n hx hb dX5_digest_6 rfl (lv_at hl 0 rfl) ?_
          refine lv_bipush (v := nI 9) hx hb dX5_digest_7 (by decide) ?_
          refine n_icmp_ge (tgt := 31) hx hb dX5_digest_9 (by decide) (by decide) (by decide) (fun c_9 => ?_) (fun c_9 => ?_)
          · skip
            exact absurd c_9 (by omega)
          · skip
            refine lv_ldc2 (v := lN (31)) hx hb C0.ow (C0.ts _ kw_X5_253) dX5_digest_12 ?_
            refine lv_lload_n hx hb dX5_digest_15 rfl (lv_at hl 1 rfl) ?_
            refine lv_lmul hx hb dX5_digest_16 ?_
            refine lv_aload_n hx hb dX5_digest_17 rfl (lv_at hl 2 rfl) ?_
            refine lv_iload_n hx hb dX5_digest_18 rfl (lv_at hl 0 rfl) ?_
            refine q_calli hw (q_runV (As := [.int (nI (4))]) (c_X5_count_4 l G L F ad hL hin A hX9 hA) C0 hw vw_X5_255 ((hL 0 (by omega))) fx rfl rfl rfl hl.1 rfl (Nat.le_of_ble_eq_true rfl) dX5_digest_19 ⟨by decide, by decide⟩ ⟨by decide, by decide⟩) rfl rfl (fun r_4572 F_4570 H locs hw hp_4571 => ?_)
            obtain ⟨he_4573, o_4574⟩ := hp_4571
            subst he_4573
            obtain rfl : F = F_4570 := (funext o_4574).symm
            refine lv_i2l (v := (nI (cntA A 4)).toInt64) hx hb dX5_digest_22 rfl ?_
            refine lv_ladd hx hb dX5_digest_23 ?_
            refine lv_lstore_n (lv' := [(1, .long ((lN (31) * ((lN (31) * ((lN (31) * ((lN (31) * ((lN (31) * (lN 2473)) + ((nI (cntA A 0)).toInt64))) + ((nI (cntA A 1)).toInt64))) + ((nI (cntA A 2)).toInt64))) + ((nI (cntA A 3)).toInt64))) + ((nI (cntA A 4)).toInt64))), (3, .int (nI (4))), (0, .ref (ad 0))]) hx hb dX5_digest_24 rfl hl (by decide) rfl (fun ls hl => ?_)
            refine lv_iinc (v := nI 5) (lv' := [(3, .int (nI (5))), (1, .long ((lN (31) * ((lN (31) * ((lN (31) * ((lN (31) * ((lN (31) * (lN 2473)) + ((nI (cntA A 0)).toInt64))) + ((nI (cntA A 1)).toInt64))) + ((nI (cntA A 2)).toInt64))) + ((nI (cntA A 3)).toInt64))) + ((nI (cntA A 4)).toInt64))), (0, .ref (ad 0))]) hx hb dX5_digest_25 hl (k := 1) rfl (by decide) (by decide) rfl (fun ls hl => ?_)
            refine lv_goto (tgt := 6) hx hb dX5_digest_28 (by decide) ?_
            refine lv_iload_n hx hb dX5_digest_6 rfl (lv_at hl 0 rfl) ?_
            refine lv_bipush (v := nI 9) hx hb dX5_digest_7 (by decide) ?_
            refine n_icmp_ge (tgt := 31) hx hb dX5_digest_9 (by decide) (by decide) (by decide) (fun c_9 => ?_) (fun c_9 => ?_)
            · skip
              exact absurd c_9 (by omega)
            · skip
              refine lv_ldc2 (v := lN (31)) hx hb C0.ow (C0.ts _ kw_X5_253) dX5_digest_12 ?_
              refine lv_lload_n hx hb dX5_digest_15 rfl (lv_at hl 1 rfl) ?_
              refine lv_lmul hx hb dX5_digest_16 ?_
              refine lv_aload_n hx hb dX5_digest_17 rfl (lv_at hl 2 rfl) ?_
              refine lv_iload_n hx hb dX5_digest_18 rfl (lv_at hl 0 rfl) ?_
              refine q_calli hw (q_runV (As := [.int (nI (5))]) (c_X5_count_5 l G L F ad hL hin A hX9 hA) C0 hw vw_X5_255 ((hL 0 (by omega))) fx rfl rfl rfl hl.1 rfl (Nat.le_of_ble_eq_true rfl) dX5_digest_19 ⟨by decide, by decide⟩ ⟨by decide, by decide⟩) rfl rfl (fun r_4577 F_4575 H locs hw hp_4576 => ?_)
              obtain ⟨he_4578, o_4579⟩ := hp_4576
              subst he_4578
              obtain rfl : F = F_4575 := (funext o_4579).symm
              refine lv_i2l (v := (nI (cntA A 5)).toInt64) hx hb dX5_digest_22 rfl ?_
              refine lv_ladd hx hb dX5_digest_23 ?_
              refine lv_lstore_n (lv' := [(1, .long ((lN (31) * ((lN (31) * ((lN (31) * ((lN (31) * ((lN (31) * ((lN (31) * (lN 2473)) + ((nI (cntA A 0)).toInt64))) + ((nI (cntA A 1)).toInt64))) + ((nI (cntA A 2)).toInt64))) + ((nI (cntA A 3)).toInt64))) + ((nI (cntA A 4)).toInt64))) + ((nI (cntA A 5)).toInt64))), (3, .int (nI (5))), (0, .ref (ad 0))]) hx hb dX5_digest_24 rfl hl (by decide) rfl (fun ls hl => ?_)
              refine lv_iinc (v := nI 6) (lv' := [(3, .int (nI (6))), (1, .long ((lN (31) * ((lN (31) * ((lN (31) * ((lN (31) * ((lN (31) * ((lN (31) * (lN 2473)) + ((nI (cntA A 0)).toInt64))) + ((nI (cntA A 1)).toInt64))) + ((nI (cntA A 2)).toInt64))) + ((nI (cntA A 3)).toInt64))) + ((nI (cntA A 4)).toInt64))) + ((nI (cntA A 5)).toInt64))), (0, .ref (ad 0))]) hx hb dX5_digest_25 hl (k := 1) rfl (by decide) (by decide) rfl (fun ls hl => ?_)
              refine lv_goto (tgt := 6) hx hb dX5_digest_28 (by decide) ?_
              refine lv_iload_n hx hb dX5_digest_6 rfl (lv_at hl 0 rfl) ?_
              refine lv_bipush (v := nI 9) hx hb dX5_digest_7 (by decide) ?_
              refine n_icmp_ge (tgt := 31) hx hb dX5_digest_9 (by decide) (by decide) (by decide) (fun c_9 => ?_) (fun c_9 => ?_)
              · skip
                exact absurd c_9 (by omega)
              · skip
                refine lv_ldc2 (v := lN (31)) hx hb C0.ow (C0.ts _ kw_X5_253) dX5_digest_12 ?_
                refine lv_lload_n hx hb dX5_digest_15 rfl (lv_at hl 1 rfl) ?_
                refine lv_lmul hx hb dX5_digest_16 ?_
                refine lv_aload_n hx hb dX5_digest_17 rfl (lv_at hl 2 rfl) ?_
                refine lv_iload_n hx hb dX5_digest_18 rfl (lv_at hl 0 rfl) ?_
                refine q_calli hw (q_runV (As := [.int (nI (6))]) (c_X5_count_6 l G L F ad hL hin A hX9 hA) C0 hw vw_X5_255 ((hL 0 (by omega))) fx rfl rfl rfl hl.1 rfl (Nat.le_of_ble_eq_true rfl) dX5_digest_19 ⟨by decide, by decide⟩ ⟨by decide, by decide⟩) rfl rfl (fun r_4582 F_4580 H locs hw hp_4581 => ?_)
                obtain ⟨he_4583, o_4584⟩ := hp_4581
                subst he_4583
                obtain rfl : F = F_4580 := (funext o_4584).symm
                refine lv_i2l (v := (nI (cntA A 6)).toInt64) hx hb dX5_digest_22 rfl ?_
                refine lv_ladd hx hb dX5_digest_23 ?_
                refine lv_lstore_n (lv' := [(1, .long ((lN (31) * ((lN (31) * ((lN (31) * ((lN (31) * ((lN (31) * ((lN (31) * ((lN (31) * (lN 2473)) + ((nI (cntA A 0)).toInt64))) + ((nI (cntA A 1)).toInt64))) + ((nI (cntA A 2)).toInt64))) + ((nI (cntA A 3)).toInt64))) + ((nI (cntA A 4)).toInt64))) + ((nI (cntA A 5)).toInt64))) + ((nI (cntA A 6)).toInt64))), (3, .int (nI (6))), (0, .ref (ad 0))]) hx hb dX5_digest_24 rfl hl (by decide) rfl (fun ls hl => ?_)
                refine lv_iinc (v := nI 7) (lv' := [(3, .int (nI (7))), (1, .long ((lN (31) * ((lN (31) * ((lN (31) * ((lN (31) * ((lN (31) * ((lN (31) * ((lN (31) * (lN 2473)) + ((nI (cntA A 0)).toInt64))) + ((nI (cntA A 1)).toInt64))) + ((nI (cntA A 2)).toInt64))) + ((nI (cntA A 3)).toInt64))) + ((nI (cntA A 4)).toInt64))) + ((nI (cntA A 5)).toInt64))) + ((nI (cntA A 6)).toInt64))), (0, .ref (ad 0))]) hx hb dX5_digest_25 hl (k := 1) rfl (by decide) (by decide) rfl (fun ls hl => ?_)
                refine lv_goto (tgt := 6) hx hb dX5_digest_28 (by decide) ?_
                refine lv_iload_n hx hb dX5_digest_6 rfl (lv_at hl 0 rfl) ?_
                refine lv_bipush (v := nI 9) hx hb dX5_digest_7 (by decide) ?_
                refine n_icmp_ge (tgt := 31) hx hb dX5_digest_9 (by decide) (by decide) (by decide) (fun c_9 => ?_) (fun c_9 => ?_)
                · skip
                  exact absurd c_9 (by omega)
                · skip
                  refine lv_ldc2 (v := lN (31)) hx hb C0.ow (C0.ts _ kw_X5_253) dX5_digest_12 ?_
                  refine lv_lload_n hx hb dX5_digest_15 rfl (lv_at hl 1 rfl) ?_
                  refine lv_lmul hx hb dX5_digest_16 ?_
                  refine lv_aload_n hx hb dX5_digest_17 rfl (lv_at hl 2 rfl) ?_
                  refine lv_iload_n hx hb dX5_digest_18 rfl (lv_at hl 0 rfl) ?_
                  refine q_calli hw (q_runV (As := [.int (nI (7))]) (c_X5_count_7 l G L F ad hL hin A hX9 hA) C0 hw vw_X5_255 ((hL 0 (by omega))) fx rfl rfl rfl hl.1 rfl (Nat.le_of_ble_eq_true rfl) dX5_digest_19 ⟨by decide, by decide⟩ ⟨by decide, by decide⟩) rfl rfl (fun r_4587 F_4585 H locs hw hp_4586 => ?_)
                  obtain ⟨he_4588, o_4589⟩ := hp_4586
                  subst he_4588
                  obtain rfl : F = F_4585 := (funext o_4589).symm
                  refine lv_i2l (v := (nI (cntA A 7)).toInt64) hx hb dX5_digest_22 rfl ?_
                  refine lv_ladd hx hb dX5_digest_23 ?_
                  refine lv_lstore_n (lv' := [(1, .long ((lN (31) * ((lN (31) * ((lN (31) * ((lN (31) * ((lN (31) * ((lN (31) * ((lN (31) * ((lN (31) * (lN 2473)) + ((nI (cntA A 0)).toInt64))) + ((nI (cntA A 1)).toInt64))) + ((nI (cntA A 2)).toInt64))) + ((nI (cntA A 3)).toInt64))) + ((nI (cntA A 4)).toInt64))) + ((nI (cntA A 5)).toInt64))) + ((nI (cntA A 6)).toInt64))) + ((nI (cntA A 7)).toInt64))), (3, .int (nI (7))), (0, .ref (ad 0))]) hx hb dX5_digest_24 rfl hl (by decide) rfl (fun ls hl => ?_)
                  refine lv_iinc (v := nI 8) (lv' := [(3, .int (nI (8))), (1, .long ((lN (31) * ((lN (31) * ((lN (31) * ((lN (31) * ((lN (31) * ((lN (31) * ((lN (31) * ((lN (31) * (lN 2473)) + ((nI (cntA A 0)).toInt64))) + ((nI (cntA A 1)).toInt64))) + ((nI (cntA A 2)).toInt64))) + ((nI (cntA A 3)).toInt64))) + ((nI (cntA A 4)).toInt64))) + ((nI (cntA A 5)).toInt64))) + ((nI (cntA A 6)).toInt64))) + ((nI (cntA A 7)).toInt64))), (0, .ref (ad 0))]) hx hb dX5_digest_25 hl (k := 1) rfl (by decide) (by decide) rfl (fun ls hl => ?_)
                  refine lv_goto (tgt := 6) hx hb dX5_digest_28 (by decide) ?_
                  refine lv_iload_n hx hb dX5_digest_6 rfl (lv_at hl 0 rfl) ?_
                  refine lv_bipush (v := nI 9) hx hb dX5_digest_7 (by decide) ?_
                  refine n_icmp_ge (tgt := 31) hx hb dX5_digest_9 (by decide) (by decide) (by decide) (fun c_9 => ?_) (fun c_9 => ?_)
                  · skip
                    exact absurd c_9 (by omega)
                  · skip
                    refine lv_ldc2 (v := lN (31)) hx hb C0.ow (C0.ts _ kw_X5_253) dX5_digest_12 ?_
                    refine lv_lload_n hx hb dX5_digest_15 rfl (lv_at hl 1 rfl) ?_
                    refine lv_lmul hx hb dX5_digest_16 ?_
                    refine lv_aload_n hx hb dX5_digest_17 rfl (lv_at hl 2 rfl) ?_
                    refine lv_iload_n hx hb dX5_digest_18 rfl (lv_at hl 0 rfl) ?_
                    refine q_calli hw (q_runV (As := [.int (nI (8))]) (c_X5_count_8 l G L F ad hL hin A hX9 hA) C0 hw vw_X5_255 ((hL 0 (by omega))) fx rfl rfl rfl hl.1 rfl (Nat.le_of_ble_eq_true rfl) dX5_digest_19 ⟨by decide, by decide⟩ ⟨by decide, by decide⟩) rfl rfl (fun r_4592 F_4590 H locs hw hp_4591 => ?_)
                    obtain ⟨he_4593, o_4594⟩ := hp_4591
                    subst he_4593
                    obtain rfl : F = F_4590 := (funext o_4594).symm
                    refine lv_i2l (v := (nI (cntA A 8)).toInt64) hx hb dX5_digest_22 rfl ?_
                    refine lv_ladd hx hb dX5_digest_23 ?_
                    refine lv_lstore_n (lv' := [(1, .long ((lN (31) * ((lN (31) * ((lN (31) * ((lN (31) * ((lN (31) * ((lN (31) * ((lN (31) * ((lN (31) * ((lN (31) * (lN 2473)) + ((nI (cntA A 0)).toInt64))) + ((nI (cntA A 1)).toInt64))) + ((nI (cntA A 2)).toInt64))) + ((nI (cntA A 3)).toInt64))) + ((nI (cntA A 4)).toInt64))) + ((nI (cntA A 5)).toInt64))) + ((nI (cntA A 6)).toInt64))) + ((nI (cntA A 7)).toInt64))) + ((nI (cntA A 8)).toInt64))), (3, .int (nI (8))), (0, .ref (ad 0))]) hx hb dX5_digest_24 rfl hl (by decide) rfl (fun ls hl => ?_)
                    refine lv_iinc (v := nI 9) (lv' := [(3, .int (nI (9))), (1, .long ((lN (31) * ((lN (31) * ((lN (31) * ((lN (31) * ((lN (31) * ((lN (31) * ((lN (31) * ((lN (31) * ((lN (31) * (lN 2473)) + ((nI (cntA A 0)).toInt64))) + ((nI (cntA A 1)).toInt64))) + ((nI (cntA A 2)).toInt64))) + ((nI (cntA A 3)).toInt64))) + ((nI (cntA A 4)).toInt64))) + ((nI (cntA A 5)).toInt64))) + ((nI (cntA A 6)).toInt64))) + ((nI (cntA A 7)).toInt64))) + ((nI (cntA A 8)).toInt64))), (0, .ref (ad 0))]) hx hb dX5_digest_25 hl (k := 1) rfl (by decide) (by decide) rfl (fun ls hl => ?_)
                    refine lv_goto (tgt := 6) hx hb dX5_digest_28 (by decide) ?_
                    refine lv_iload_n hx hb dX5_digest_6 rfl (lv_at hl 0 rfl) ?_
                    refine lv_bipush (v := nI 9) hx hb dX5_digest_7 (by decide) ?_
                    refine n_icmp_ge (tgt := 31) hx hb dX5_digest_9 (by decide) (by decide) (by decide) (fun c_9 => ?_) (fun c_9 => ?_)
                    · skip
                      have hl : lv_has ls 4 [(3, .int (nI (9))), (1, .long (dgC9 A)), (0, .ref (ad 0))] := hl
                      refine lv_iconst (v := nI 0) hx hb dX5_digest_31 (by decide) ?_
                      refine lv_istore_n (lv' := [(3, .int (nI (0))), (1, .long (dgC9 A)), (0, .ref (ad 0))]) hx hb dX5_digest_32 rfl hl (by decide) rfl (fun ls hl => ?_)
                      refine lv_iload_n hx hb dX5_digest_33 rfl (lv_at hl 0 rfl) ?_
                      refine lv_bipush (v := nI 6) hx hb dX5_digest_34 (by decide) ?_
                      refine n_icmp_ge (tgt := 86) hx hb dX5_digest_36 (by decide) (by decide) (by decide) (fun c_36 => ?_) (fun c_36 => ?_)
                      · skip
                        exact absurd c_36 (by omega)
                      · skip
                        refine lv_lload_n hx hb dX5_digest_39 rfl (lv_at hl 1 rfl) ?_
                        refine lv_aload_n hx hb dX5_digest_40 rfl (lv_at hl 2 rfl) ?_
                        refine q_get C0 hw ((hL 0 (by omega))) fx fw_X5_12 rfl dX5_digest_41 ?_
                        refine q_get C0 hw ((hL 22 (by omega))) hn.1 fw_X5_66 rfl dX5_digest_44 ?_
                        refine q_get C0 hw ((hL 23 (by omega))) hn.2.1 fw_X5_85 rfl dX5_digest_47 ?_
                        refine lv_iload_n hx hb dX5_digest_50 rfl (lv_at hl 0 rfl) ?_
                        refine q_aaldi C0 hw ((hL 24 (by omega))) hn.2.2.1 (0) (by omega) (by decide) (b := ad (26 + 0)) rfl dX5_digest_51 ?_
                        refine q_calll hw (q_runS (As := [.long (dgC9 A), .ref (ad (26 + 0))]) (c_X5_hashCoefficients l G L F (dgC9 A) (ad (26 + 0)) ((A.1.2.2.2.2.2 0)) ((hL (26 + 0) (by omega))) ((hn.2.2.2.2 0 (by omega)))) C0 hw sw_X5_258 rfl hl.1 rfl (Nat.le_of_ble_eq_true rfl) dX5_digest_52 ⟨by decide, by decide⟩ ⟨by decide, by decide⟩) rfl rfl (fun r_4597 F_4595 H locs hw hp_4596 => ?_)
                        obtain ⟨he_4598, o_4599⟩ := hp_4596
                        subst he_4598
                        obtain rfl : F = F_4595 := (funext o_4599).symm
                        refine lv_lstore_n (lv' := [(1, .long (hC (dgC9 A) ((A.1.2.2.2.2.2 0)))), (3, .int (nI (0))), (0, .ref (ad 0))]) hx hb dX5_digest_55 rfl hl (by decide) rfl (fun ls hl => ?_)
                        refine lv_lload_n hx hb dX5_digest_56 rfl (lv_at hl 0 rfl) ?_
                        refine lv_aload_n hx hb dX5_digest_57 rfl (lv_at hl 2 rfl) ?_
                        refine q_get C0 hw ((hL 0 (by omega))) fx fw_X5_12 rfl dX5_digest_58 ?_
                        refine q_get C0 hw ((hL 22 (by omega))) hn.1 fw_X5_66 rfl dX5_digest_61 ?_
                        refine q_get C0 hw ((hL 23 (by omega))) hn.2.1 fw_X5_93 rfl dX5_digest_64 ?_
                        refine lv_iload_n hx hb dX5_digest_67 rfl (lv_at hl 1 rfl) ?_
                        refine q_aaldi C0 hw ((hL 25 (by omega))) hn.2.2.2.1 (0) (by omega) (by decide) (b := ad (32 + 0)) rfl dX5_digest_68 ?_
                        refine q_calll hw (q_runS (As := [.long (hC (dgC9 A) ((A.1.2.2.2.2.2 0))), .ref (ad (32 + 0))]) (c_X5_hashCoefficients l G L F (hC (dgC9 A) ((A.1.2.2.2.2.2 0))) (ad (32 + 0)) ((A.1.2.2.2.2.2 (6 + 0))) ((hL (32 + 0) (by omega))) ((show F (ad (32 + 0)) = _ from by have h9 := hn.2.2.2.2 (6 + 0) (by omega); rwa [show 22 + 4 + (6 + 0) = 32 + 0 by omega] at h9))) C0 hw sw_X5_258 rfl hl.1 rfl (Nat.le_of_ble_eq_true rfl) dX5_digest_69 ⟨by decide, by decide⟩ ⟨by decide, by decide⟩) rfl rfl (fun r_4602 F_4600 H locs hw hp_4601 => ?_)
                        obtain ⟨he_4603, o_4604⟩ := hp_4601
                        subst he_4603
                        obtain rfl : F = F_4600 := (funext o_4604).symm
                        refine lv_lstore_n (lv' := [(1, .long (hC (hC (dgC9 A) ((A.1.2.2.2.2.2 0))) ((A.1.2.2.2.2.2 (6 + 0))))), (3, .int (nI (0))), (0, .ref (ad 0))]) hx hb dX5_digest_72 rfl hl (by decide) rfl (fun ls hl => ?_)
                        refine lv_aload_n hx hb dX5_digest_73 rfl (lv_at hl 2 rfl) ?_
                        refine lv_lload_n hx hb dX5_digest_74 rfl (lv_at hl 0 rfl) ?_
                        refine lv_iload_n hx hb dX5_digest_75 rfl (lv_at hl 1 rfl) ?_
                        refine q_calll hw (q_runV (As := [.long (hC (hC (dgC9 A) ((A.1.2.2.2.2.2 0))) ((A.1.2.2.2.2.2 (6 + 0)))), .int (nI (0))]) (c_X5_hashLooks l G L F ad hL hin A (hC (hC (dgC9 A) ((A.1.2.2.2.2.2 0))) ((A.1.2.2.2.2.2 (6 + 0)))) 0 (by decide) hX9 hA) C0 hw vw_X5_262 ((hL 0 (by omega))) fx rfl rfl rfl hl.1 rfl (Nat.le_of_ble_eq_true rfl) dX5_digest_76 ⟨by decide, by decide⟩ ⟨by decide, by decide⟩) rfl rfl (fun r_4607 F_4605 H locs hw hp_4606 => ?_)
                        obtain ⟨h_4608, h_4609, h_4610⟩ := hp_4606
                        subst h_4608
                        obtain ⟨fxx_4611, hnx_4611, hhx_4611, hsnx_4611, htxx_4611, hrkx_4611, ⟨ux_4611, h134x_4611⟩, ⟨vx_4611, h150x_4611⟩⟩ := id h_4609
                        refine lv_lstore_n (lv' := [(1, .long (hLk A 0 (hC (hC (dgC9 A) ((A.1.2.2.2.2.2 0))) ((A.1.2.2.2.2.2 (6 + 0)))))), (3, .int (nI (0))), (0, .ref (ad 0))]) hx hb dX5_digest_79 rfl hl (by decide) rfl (fun ls hl => ?_)
                        have hl : lv_has ls 4 [(1, .long (dgS1 A)), (3, .int (nI (0))), (0, .ref (ad 0))] := hl
                        refine lv_iinc (v := nI 1) (lv' := [(3, .int (nI (1))), (1, .long (dgS1 A)), (0, .ref (ad 0))]) hx hb dX5_digest_80 hl (k := 1) rfl (by decide) (by decide) rfl (fun ls hl => ?_)
                        refine lv_goto (tgt := 33) hx hb dX5_digest_83 (by decide) ?_
                        refine lv_iload_n hx hb dX5_digest_33 rfl (lv_at hl 0 rfl) ?_
                        refine lv_bipush (v := nI 6) hx hb dX5_digest_34 (by decide) ?_
                        refine n_icmp_ge (tgt := 86) hx hb dX5_digest_36 (by decide) (by decide) (by decide) (fun c_36 => ?_) (fun c_36 => ?_)
                        · skip
                          exact absurd c_36 (by omega)
                        · skip
                          refine lv_lload_n hx hb dX5_digest_39 rfl (lv_at hl 1 rfl) ?_
                          refine lv_aload_n hx hb dX5_digest_40 rfl (lv_at hl 2 rfl) ?_
                          refine q_get C0 hw ((hL 0 (by omega))) fxx_4611 fw_X5_12 rfl dX5_digest_41 ?_
                          refine q_get C0 hw ((hL 22 (by omega))) hnx_4611.1 fw_X5_66 rfl dX5_digest_44 ?_
                          refine q_get C0 hw ((hL 23 (by omega))) hnx_4611.2.1 fw_X5_85 rfl dX5_digest_47 ?_
                          refine lv_iload_n hx hb dX5_digest_50 rfl (lv_at hl 0 rfl) ?_
                          refine q_aaldi C0 hw ((hL 24 (by omega))) hnx_4611.2.2.1 (1) (by omega) (by decide) (b := ad (26 + 1)) rfl dX5_digest_51 ?_
                          refine q_calll hw (q_runS (As := [.long (dgS1 A), .ref (ad (26 + 1))]) (c_X5_hashCoefficients l G L F_4605 (dgS1 A) (ad (26 + 1)) ((A.1.2.2.2.2.2 1)) ((hL (26 + 1) (by omega))) ((hnx_4611.2.2.2.2 1 (by omega)))) C0 hw sw_X5_258 rfl hl.1 rfl (Nat.le_of_ble_eq_true rfl) dX5_digest_52 ⟨by decide, by decide⟩ ⟨by decide, by decide⟩) rfl rfl (fun r_4614 F_4612 H locs hw hp_4613 => ?_)
                          obtain ⟨he_4615, o_4616⟩ := hp_4613
                          subst he_4615
                          obtain rfl : F_4605 = F_4612 := (funext o_4616).symm
                          refine lv_lstore_n (lv' := [(1, .long (hC (dgS1 A) ((A.1.2.2.2.2.2 1)))), (3, .int (nI (1))), (0, .ref (ad 0))]) hx hb dX5_digest_55 rfl hl (by decide) rfl (fun ls hl => ?_)
                          refine lv_lload_n hx hb dX5_digest_56 rfl (lv_at hl 0 rfl) ?_
                          refine lv_aload_n hx hb dX5_digest_57 rfl (lv_at hl 2 rfl) ?_
                          refine q_get C0 hw ((hL 0 (by omega))) fxx_4611 fw_X5_12 rfl dX5_digest_58 ?_
                          refine q_get C0 hw ((hL 22 (by omega))) hnx_4611.1 fw_X5_66 rfl dX5_digest_61 ?_
                          refine q_get C0 hw ((hL 23 (by omega))) hnx_4611.2.1 fw_X5_93 rfl dX5_digest_64 ?_
                          refine lv_iload_n hx hb dX5_digest_67 rfl (lv_at hl 1 rfl) ?_
                          refine q_aaldi C0 hw ((hL 25 (by omega))) hnx_4611.2.2.2.1 (1) (by omega) (by decide) (b := ad (32 + 1)) rfl dX5_digest_68 ?_
                          refine q_calll hw (q_runS (As := [.long (hC (dgS1 A) ((A.1.2.2.2.2.2 1))), .ref (ad (32 + 1))]) (c_X5_hashCoefficients l G L F_4605 (hC (dgS1 A) ((A.1.2.2.2.2.2 1))) (ad (32 + 1)) ((A.1.2.2.2.2.2 (6 + 1))) ((hL (32 + 1) (by omega))) ((show F_4605 (ad (32 + 1)) = _ from by have h9 := hnx_4611.2.2.2.2 (6 + 1) (by omega); rwa [show 22 + 4 + (6 + 1) = 32 + 1 by omega] at h9))) C0 hw sw_X5_258 rfl hl.1 rfl (Nat.le_of_ble_eq_true rfl) dX5_digest_69 ⟨by decide, by decide⟩ ⟨by decide, by decide⟩) rfl rfl (fun r_4619 F_4617 H locs hw hp_4618 => ?_)
                          obtain ⟨he_4620, o_4621⟩ := hp_4618
                          subst he_4620
                          obtain rfl : F_4605 = F_4617 := (funext o_4621).symm
                          refine lv_lstore_n (lv' := [(1, .long (hC (hC (dgS1 A) ((A.1.2.2.2.2.2 1))) ((A.1.2.2.2.2.2 (6 + 1))))), (3, .int (nI (1))), (0, .ref (ad 0))]) hx hb dX5_digest_72 rfl hl (by decide) rfl (fun ls hl => ?_)
                          refine lv_aload_n hx hb dX5_digest_73 rfl (lv_at hl 2 rfl) ?_
                          refine lv_lload_n hx hb dX5_digest_74 rfl (lv_at hl 0 rfl) ?_
                          refine lv_iload_n hx hb dX5_digest_75 rfl (lv_at hl 1 rfl) ?_
                          refine q_calll hw (q_runV (As := [.long (hC (hC (dgS1 A) ((A.1.2.2.2.2.2 1))) ((A.1.2.2.2.2.2 (6 + 1)))), .int (nI (1))]) (c_X5_hashLooks l G L F_4605 ad hL hin A (hC (hC (dgS1 A) ((A.1.2.2.2.2.2 1))) ((A.1.2.2.2.2.2 (6 + 1)))) 1 (by decide) h_4609 hA) C0 hw vw_X5_262 ((hL 0 (by omega))) fxx_4611 rfl rfl rfl hl.1 rfl (Nat.le_of_ble_eq_true rfl) dX5_digest_76 ⟨by decide, by decide⟩ ⟨by decide, by decide⟩) rfl rfl (fun r_4624 F_4622 H locs hw hp_4623 => ?_)
                          obtain ⟨h_4625, h_4626, h_4627⟩ := hp_4623
                          subst h_4625
                          obtain ⟨fxx_4628, hnx_4628, hhx_4628, hsnx_4628, htxx_4628, hrkx_4628, ⟨ux_4628, h134x_4628⟩, ⟨vx_4628, h150x_4628⟩⟩ := id h_4626
                          refine lv_lstore_n (lv' := [(1, .long (hLk A 1 (hC (hC (dgS1 A) ((A.1.2.2.2.2.2 1))) ((A.1.2.2.2.2.2 (6 + 1)))))), (3, .int (nI (1))), (0, .ref (ad 0))]) hx hb dX5_digest_79 rfl hl (by decide) rfl (fun ls hl => ?_)
                          have hl : lv_has ls 4 [(1, .long (dgS2 A)), (3, .int (nI (1))), (0, .ref (ad 0))] := hl
                          refine lv_iinc (v := nI 2) (lv' := [(3, .int (nI (2))), (1, .long (dgS2 A)), (0, .ref (ad 0))]) hx hb dX5_digest_80 hl (k := 1) rfl (by decide) (by decide) rfl (fun ls hl => ?_)
                          refine lv_goto (tgt := 33) hx hb dX5_digest_83 (by decide) ?_
                          refine lv_iload_n hx hb dX5_digest_33 rfl (lv_at hl 0 rfl) ?_
                          refine lv_bipush (v := nI 6) hx hb dX5_digest_34 (by decide) ?_
                          refine n_icmp_ge (tgt := 86) hx hb dX5_digest_36 (by decide) (by decide) (by decide) (fun c_36 => ?_) (fun c_36 => ?_)
                          · skip
                            exact absurd c_36 (by omega)
                          · skip
                            refine lv_lload_n hx hb dX5_digest_39 rfl (lv_at hl 1 rfl) ?_
                            refine lv_aload_n hx hb dX5_digest_40 rfl (lv_at hl 2 rfl) ?_
                            refine q_get C0 hw ((hL 0 (by omega))) fxx_4628 fw_X5_12 rfl dX5_digest_41 ?_
                            refine q_get C0 hw ((hL 22 (by omega))) hnx_4628.1 fw_X5_66 rfl dX5_digest_44 ?_
                            refine q_get C0 hw ((hL 23 (by omega))) hnx_4628.2.1 fw_X5_85 rfl dX5_digest_47 ?_
                            refine lv_iload_n hx hb dX5_digest_50 rfl (lv_at hl 0 rfl) ?_
                            refine q_aaldi C0 hw ((hL 24 (by omega))) hnx_4628.2.2.1 (2) (by omega) (by decide) (b := ad (26 + 2)) rfl dX5_digest_51 ?_
                            refine q_calll hw (q_runS (As := [.long (dgS2 A), .ref (ad (26 + 2))]) (c_X5_hashCoefficients l G L F_4622 (dgS2 A) (ad (26 + 2)) ((A.1.2.2.2.2.2 2)) ((hL (26 + 2) (by omega))) ((hnx_4628.2.2.2.2 2 (by omega)))) C0 hw sw_X5_258 rfl hl.1 rfl (Nat.le_of_ble_eq_true rfl) dX5_digest_52 ⟨by decide, by decide⟩ ⟨by decide, by decide⟩) rfl rfl (fun r_4631 F_4629 H locs hw hp_4630 => ?_)
                            obtain ⟨he_4632, o_4633⟩ := hp_4630
                            subst he_4632
                            obtain rfl : F_4622 = F_4629 := (funext o_4633).symm
                            refine lv_lstore_n (lv' := [(1, .long (hC (dgS2 A) ((A.1.2.2.2.2.2 2)))), (3, .int (nI (2))), (0, .ref (ad 0))]) hx hb dX5_digest_55 rfl hl (by decide) rfl (fun ls hl => ?_)
                            refine lv_lload_n hx hb dX5_digest_56 rfl (lv_at hl 0 rfl) ?_
                            refine lv_aload_n hx hb dX5_digest_57 rfl (lv_at hl 2 rfl) ?_
                            refine q_get C0 hw ((hL 0 (by omega))) fxx_4628 fw_X5_12 rfl dX5_digest_58 ?_
                            refine q_get C0 hw ((hL 22 (by omega))) hnx_4628.1 fw_X5_66 rfl dX5_digest_61 ?_
                            refine q_get C0 hw ((hL 23 (by omega))) hnx_4628.2.1 fw_X5_93 rfl dX5_digest_64 ?_
                            refine lv_iload_n hx hb dX5_digest_67 rfl (lv_at hl 1 rfl) ?_
                            refine q_aaldi C0 hw ((hL 25 (by omega))) hnx_4628.2.2.2.1 (2) (by omega) (by decide) (b := ad (32 + 2)) rfl dX5_digest_68 ?_
                            refine q_calll hw (q_runS (As := [.long (hC (dgS2 A) ((A.1.2.2.2.2.2 2))), .ref (ad (32 + 2))]) (c_X5_hashCoefficients l G L F_4622 (hC (dgS2 A) ((A.1.2.2.2.2.2 2))) (ad (32 + 2)) ((A.1.2.2.2.2.2 (6 + 2))) ((hL (32 + 2) (by omega))) ((show F_4622 (ad (32 + 2)) = _ from by have h9 := hnx_4628.2.2.2.2 (6 + 2) (by omega); rwa [show 22 + 4 + (6 + 2) = 32 + 2 by omega] at h9))) C0 hw sw_X5_258 rfl hl.1 rfl (Nat.le_of_ble_eq_true rfl) dX5_digest_69 ⟨by decide, by decide⟩ ⟨by decide, by decide⟩) rfl rfl (fun r_4636 F_4634 H locs hw hp_4635 => ?_)
                            obtain ⟨he_4637, o_4638⟩ := hp_4635
                            subst he_4637
                            obtain rfl : F_4622 = F_4634 := (funext o_4638).symm
                            refine lv_lstore_n (lv' := [(1, .long (hC (hC (dgS2 A) ((A.1.2.2.2.2.2 2))) ((A.1.2.2.2.2.2 (6 + 2))))), (3, .int (nI (2))), (0, .ref (ad 0))]) hx hb dX5_digest_72 rfl hl (by decide) rfl (fun ls hl => ?_)
                            refine lv_aload_n hx hb dX5_digest_73 rfl (lv_at hl 2 rfl) ?_
                            refine lv_lload_n hx hb dX5_digest_74 rfl (lv_at hl 0 rfl) ?_
                            refine lv_iload_n hx hb dX5_digest_75 rfl (lv_at hl 1 rfl) ?_
                            refine q_calll hw (q_runV (As := [.long (hC (hC (dgS2 A) ((A.1.2.2.2.2.2 2))) ((A.1.2.2.2.2.2 (6 + 2)))), .int (nI (2))]) (c_X5_hashLooks l G L F_4622 ad hL hin A (hC (hC (dgS2 A) ((A.1.2.2.2.2.2 2))) ((A.1.2.2.2.2.2 (6 + 2)))) 2 (by decide) h_4626 hA) C0 hw vw_X5_262 ((hL 0 (by omega))) fxx_4628 rfl rfl rfl hl.1 rfl (Nat.le_of_ble_eq_true rfl) dX5_digest_76 ⟨by decide, by decide⟩ ⟨by decide, by decide⟩) rfl rfl (fun r_4641 F_4639 H locs hw hp_4640 => ?_)
                            obtain ⟨h_4642, h_4643, h_4644⟩ := hp_4640
                            subst h_4642
                            obtain ⟨fxx_4645, hnx_4645, hhx_4645, hsnx_4645, htxx_4645, hrkx_4645, ⟨ux_4645, h134x_4645⟩, ⟨vx_4645, h150x_4645⟩⟩ := id h_4643
                            refine lv_lstore_n (lv' := [(1, .long (hLk A 2 (hC (hC (dgS2 A) ((A.1.2.2.2.2.2 2))) ((A.1.2.2.2.2.2 (6 + 2)))))), (3, .int (nI (2))), (0, .ref (ad 0))]) hx hb dX5_digest_79 rfl hl (by decide) rfl (fun ls hl => ?_)
                            have hl : lv_has ls 4 [(1, .long (dgS3 A)), (3, .int (nI (2))), (0, .ref (ad 0))] := hl
                            refine lv_iinc (v := nI 3) (lv' := [(3, .int (nI (3))), (1, .long (dgS3 A)), (0, .ref (ad 0))]) hx hb dX5_digest_80 hl (k := 1) rfl (by decide) (by decide) rfl (fun ls hl => ?_)
                            refine lv_goto (tgt := 33) hx hb dX5_digest_83 (by decide) ?_
                            refine lv_iload_n hx hb dX5_digest_33 rfl (lv_at hl 0 rfl) ?_
                            refine lv_bipush (v := nI 6) hx hb dX5_digest_34 (by decide) ?_
                            refine n_icmp_ge (tgt := 86) hx hb dX5_digest_36 (by decide) (by decide) (by decide) (fun c_36 => ?_) (fun c_36 => ?_)
                            · skip
                              exact absurd c_36 (by omega)
                            · skip
                              refine lv_lload_n hx hb dX5_digest_39 rfl (lv_at hl 1 rfl) ?_
                              refine lv_aload_n hx hb dX5_digest_40 rfl (lv_at hl 2 rfl) ?_
                              refine q_get C0 hw ((hL 0 (by omega))) fxx_4645 fw_X5_12 rfl dX5_digest_41 ?_
                              refine q_get C0 hw ((hL 22 (by omega))) hnx_4645.1 fw_X5_66 rfl dX5_digest_44 ?_
                              refine q_get C0 hw ((hL 23 (by omega))) hnx_4645.2.1 fw_X5_85 rfl dX5_digest_47 ?_
                              refine lv_iload_n hx hb dX5_digest_50 rfl (lv_at hl 0 rfl) ?_
                              refine q_aaldi C0 hw ((hL 24 (by omega))) hnx_4645.2.2.1 (3) (by omega) (by decide) (b := ad (26 + 3)) rfl dX5_digest_51 ?_
                              refine q_calll hw (q_runS (As := [.long (dgS3 A), .ref (ad (26 + 3))]) (c_X5_hashCoefficients l G L F_4639 (dgS3 A) (ad (26 + 3)) ((A.1.2.2.2.2.2 3)) ((hL (26 + 3) (by omega))) ((hnx_4645.2.2.2.2 3 (by omega)))) C0 hw sw_X5_258 rfl hl.1 rfl (Nat.le_of_ble_eq_true rfl) dX5_digest_52 ⟨by decide, by decide⟩ ⟨by decide, by decide⟩) rfl rfl (fun r_4648 F_4646 H locs hw hp_4647 => ?_)
                              obtain ⟨he_4649, o_4650⟩ := hp_4647
                              subst he_4649
                              obtain rfl : F_4639 = F_4646 := (funext o_4650).symm
                              refine lv_lstore_n (lv' := [(1, .long (hC (dgS3 A) ((A.1.2.2.2.2.2 3)))), (3, .int (nI (3))), (0, .ref (ad 0))]) hx hb dX5_digest_55 rfl hl (by decide) rfl (fun ls hl => ?_)
                              refine lv_lload_n hx hb dX5_digest_56 rfl (lv_at hl 0 rfl) ?_
                              refine lv_aload_n hx hb dX5_digest_57 rfl (lv_at hl 2 rfl) ?_
                              refine q_get C0 hw ((hL 0 (by omega))) fxx_4645 fw_X5_12 rfl dX5_digest_58 ?_
                              refine q_get C0 hw ((hL 22 (by omega))) hnx_4645.1 fw_X5_66 rfl dX5_digest_61 ?_
                              refine q_get C0 hw ((hL 23 (by omega))) hnx_4645.2.1 fw_X5_93 rfl dX5_digest_64 ?_
                              refine lv_iload_n hx hb dX5_digest_67 rfl (lv_at hl 1 rfl) ?_
                              refine q_aaldi C0 hw ((hL 25 (by omega))) hnx_4645.2.2.2.1 (3) (by omega) (by decide) (b := ad (32 + 3)) rfl dX5_digest_68 ?_
                              refine q_calll hw (q_runS (As := [.long (hC (dgS3 A) ((A.1.2.2.2.2.2 3))), .ref (ad (32 + 3))]) (c_X5_hashCoefficients l G L F_4639 (hC (dgS3 A) ((A.1.2.2.2.2.2 3))) (ad (32 + 3)) ((A.1.2.2.2.2.2 (6 + 3))) ((hL (32 + 3) (by omega))) ((show F_4639 (ad (32 + 3)) = _ from by have h9 := hnx_4645.2.2.2.2 (6 + 3) (by omega); rwa [show 22 + 4 + (6 + 3) = 32 + 3 by omega] at h9))) C0 hw sw_X5_258 rfl hl.1 rfl (Nat.le_of_ble_eq_true rfl) dX5_digest_69 ⟨by decide, by decide⟩ ⟨by decide, by decide⟩) rfl rfl (fun r_4653 F_4651 H locs hw hp_4652 => ?_)
                              obtain ⟨he_4654, o_4655⟩ := hp_4652
                              subst he_4654
                              obtain rfl : F_4639 = F_4651 := (funext o_4655).symm
                              refine lv_lstore_n (lv' := [(1, .long (hC (hC (dgS3 A) ((A.1.2.2.2.2.2 3))) ((A.1.2.2.2.2.2 (6 + 3))))), (3, .int (nI (3))), (0, .ref (ad 0))]) hx hb dX5_digest_72 rfl hl (by decide) rfl (fun ls hl => ?_)
                              refine lv_aload_n hx hb dX5_digest_73 rfl (lv_at hl 2 rfl) ?_
                              refine lv_lload_n hx hb dX5_digest_74 rfl (lv_at hl 0 rfl) ?_
                              refine lv_iload_n hx hb dX5_digest_75 rfl (lv_at hl 1 rfl) ?_
                              refine q_calll hw (q_runV (As := [.long (hC (hC (dgS3 A) ((A.1.2.2.2.2.2 3))) ((A.1.2.2.2.2.2 (6 + 3)))), .int (nI (3))]) (c_X5_hashLooks l G L F_4639 ad hL hin A (hC (hC (dgS3 A) ((A.1.2.2.2.2.2 3))) ((A.1.2.2.2.2.2 (6 + 3)))) 3 (by decide) h_4643 hA) C0 hw vw_X5_262 ((hL 0 (by omega))) fxx_4645 rfl rfl rfl hl.1 rfl (Nat.le_of_ble_eq_true rfl) dX5_digest_76 ⟨by decide, by decide⟩ ⟨by decide, by decide⟩) rfl rfl (fun r_4658 F_4656 H locs hw hp_4657 => ?_)
                              obtain ⟨h_4659, h_4660, h_4661⟩ := hp_4657
                              subst h_4659
                              obtain ⟨fxx_4662, hnx_4662, hhx_4662, hsnx_4662, htxx_4662, hrkx_4662, ⟨ux_4662, h134x_4662⟩, ⟨vx_4662, h150x_4662⟩⟩ := id h_4660
                              refine lv_lstore_n (lv' := [(1, .long (hLk A 3 (hC (hC (dgS3 A) ((A.1.2.2.2.2.2 3))) ((A.1.2.2.2.2.2 (6 + 3)))))), (3, .int (nI (3))), (0, .ref (ad 0))]) hx hb dX5_digest_79 rfl hl (by decide) rfl (fun ls hl => ?_)
                              have hl : lv_has ls 4 [(1, .long (dgS4 A)), (3, .int (nI (3))), (0, .ref (ad 0))] := hl
                              refine lv_iinc (v := nI 4) (lv' := [(3, .int (nI (4))), (1, .long (dgS4 A)), (0, .ref (ad 0))]) hx hb dX5_digest_80 hl (k := 1) rfl (by decide) (by decide) rfl (fun ls hl => ?_)
                              refine lv_goto (tgt := 33) hx hb dX5_digest_83 (by decide) ?_
                              refine lv_iload_n hx hb dX5_digest_33 rfl (lv_at hl 0 rfl) ?_
                              refine lv_bipush (v := nI 6) hx hb dX5_digest_34 (by decide) ?_
                              refine n_icmp_ge (tgt := 86) hx hb dX5_digest_36 (by decide) (by decide) (by decide) (fun c_36 => ?_) (fun c_36 => ?_)
                              · skip
                                exact absurd c_36 (by omega)
                              · skip
                                refine lv_lload_n hx hb dX5_digest_39 rfl (lv_at hl 1 rfl) ?_
                                refine lv_aload_n hx hb dX5_digest_40 rfl (lv_at hl 2 rfl) ?_
                                refine q_get C0 hw ((hL 0 (by omega))) fxx_4662 fw_X5_12 rfl dX5_digest_41 ?_
                                refine q_get C0 hw ((hL 22 (by omega))) hnx_4662.1 fw_X5_66 rfl dX5_digest_44 ?_
                                refine q_get C0 hw ((hL 23 (by omega))) hnx_4662.2.1 fw_X5_85 rfl dX5_digest_47 ?_
                                refine lv_iload_n hx hb dX5_digest_50 rfl (lv_at hl 0 rfl) ?_
                                refine q_aaldi C0 hw ((hL 24 (by omega))) hnx_4662.2.2.1 (4) (by omega) (by decide) (b := ad (26 + 4)) rfl dX5_digest_51 ?_
                                refine q_calll hw (q_runS (As := [.long (dgS4 A), .ref (ad (26 + 4))]) (c_X5_hashCoefficients l G L F_4656 (dgS4 A) (ad (26 + 4)) ((A.1.2.2.2.2.2 4)) ((hL (26 + 4) (by omega))) ((hnx_4662.2.2.2.2 4 (by omega)))) C0 hw sw_X5_258 rfl hl.1 rfl (Nat.le_of_ble_eq_true rfl) dX5_digest_52 ⟨by decide, by decide⟩ ⟨by decide, by decide⟩) rfl rfl (fun r_4665 F_4663 H locs hw hp_4664 => ?_)
                                obtain ⟨he_4666, o_4667⟩ := hp_4664
                                subst he_4666
                                obtain rfl : F_4656 = F_4663 := (funext o_4667).symm
                                refine lv_lstore_n (lv' := [(1, .long (hC (dgS4 A) ((A.1.2.2.2.2.2 4)))), (3, .int (nI (4))), (0, .ref (ad 0))]) hx hb dX5_digest_55 rfl hl (by decide) rfl (fun ls hl => ?_)
                                refine lv_lload_n hx hb dX5_digest_56 rfl (lv_at hl 0 rfl) ?_
                                refine lv_aload_n hx hb dX5_digest_57 rfl (lv_at hl 2 rfl) ?_
                                refine q_get C0 hw ((hL 0 (by omega))) fxx_4662 fw_X5_12 rfl dX5_digest_58 ?_
                                refine q_get C0 hw ((hL 22 (by omega))) hnx_4662.1 fw_X5_66 rfl dX5_digest_61 ?_
                                refine q_get C0 hw ((hL 23 (by omega))) hnx_4662.2.1 fw_X5_93 rfl dX5_digest_64 ?_
                                refine lv_iload_n hx hb dX5_digest_67 rfl (lv_at hl 1 rfl) ?_
                                refine q_aaldi C0 hw ((hL 25 (by omega))) hnx_4662.2.2.2.1 (4) (by omega) (by decide) (b := ad (32 + 4)) rfl dX5_digest_68 ?_
                                refine q_calll hw (q_runS (As := [.long (hC (dgS4 A) ((A.1.2.2.2.2.2 4))), .ref (ad (32 + 4))]) (c_X5_hashCoefficients l G L F_4656 (hC (dgS4 A) ((A.1.2.2.2.2.2 4))) (ad (32 + 4)) ((A.1.2.2.2.2.2 (6 + 4))) ((hL (32 + 4) (by omega))) ((show F_4656 (ad (32 + 4)) = _ from by have h9 := hnx_4662.2.2.2.2 (6 + 4) (by omega); rwa [show 22 + 4 + (6 + 4) = 32 + 4 by omega] at h9))) C0 hw sw_X5_258 rfl hl.1 rfl (Nat.le_of_ble_eq_true rfl) dX5_digest_69 ⟨by decide, by decide⟩ ⟨by decide, by decide⟩) rfl rfl (fun r_4670 F_4668 H locs hw hp_4669 => ?_)
                                obtain ⟨he_4671, o_4672⟩ := hp_4669
                                subst he_4671
                                obtain rfl : F_4656 = F_4668 := (funext o_4672).symm
                                refine lv_lstore_n (lv' := [(1, .long (hC (hC (dgS4 A) ((A.1.2.2.2.2.2 4))) ((A.1.2.2.2.2.2 (6 + 4))))), (3, .int (nI (4))), (0, .ref (ad 0))]) hx hb dX5_digest_72 rfl hl (by decide) rfl (fun ls hl => ?_)
                                refine lv_aload_n hx hb dX5_digest_73 rfl (lv_at hl 2 rfl) ?_
                                refine lv_lload_n hx hb dX5_digest_74 rfl (lv_at hl 0 rfl) ?_
                                refine lv_iload_n hx hb dX5_digest_75 rfl (lv_at hl 1 rfl) ?_
                                refine q_calll hw (q_runV (As := [.long (hC (hC (dgS4 A) ((A.1.2.2.2.2.2 4))) ((A.1.2.2.2.2.2 (6 + 4)))), .int (nI (4))]) (c_X5_hashLooks l G L F_4656 ad hL hin A (hC (hC (dgS4 A) ((A.1.2.2.2.2.2 4))) ((A.1.2.2.2.2.2 (6 + 4)))) 4 (by decide) h_4660 hA) C0 hw vw_X5_262 ((hL 0 (by omega))) fxx_4662 rfl rfl rfl hl.1 rfl (Nat.le_of_ble_eq_true rfl) dX5_digest_76 ⟨by decide, by decide⟩ ⟨by decide, by decide⟩) rfl rfl (fun r_4675 F_4673 H locs hw hp_4674 => ?_)
                                obtain ⟨h_4676, h_4677, h_4678⟩ := hp_4674
                                subst h_4676
                                obtain ⟨fxx_4679, hnx_4679, hhx_4679, hsnx_4679, htxx_4679, hrkx_4679, ⟨ux_4679, h134x_4679⟩, ⟨vx_4679, h150x_4679⟩⟩ := id h_4677
                                refine lv_lstore_n (lv' := [(1, .long (hLk A 4 (hC (hC (dgS4 A) ((A.1.2.2.2.2.2 4))) ((A.1.2.2.2.2.2 (6 + 4)))))), (3, .int (nI (4))), (0, .ref (ad 0))]) hx hb dX5_digest_79 rfl hl (by decide) rfl (fun ls hl => ?_)
                                have hl : lv_has ls 4 [(1, .long (dgS5 A)), (3, .int (nI (4))), (0, .ref (ad 0))] := hl
                                refine lv_iinc (v := nI 5) (lv' := [(3, .int (nI (5))), (1, .long (dgS5 A)), (0, .ref (ad 0))]) hx hb dX5_digest_80 hl (k := 1) rfl (by decide) (by decide) rfl (fun ls hl => ?_)
                                refine lv_goto (tgt := 33) hx hb dX5_digest_83 (by decide) ?_
                                refine lv_iload_n hx hb dX5_digest_33 rfl (lv_at hl 0 rfl) ?_
                                refine lv_bipush (v := nI 6) hx hb dX5_digest_34 (by decide) ?_
                                refine n_icmp_ge (tgt := 86) hx hb dX5_digest_36 (by decide) (by decide) (by decide) (fun c_36 => ?_) (fun c_36 => ?_)
                                · skip
                                  exact absurd c_36 (by omega)
                                · skip
                                  refine lv_lload_n hx hb dX5_digest_39 rfl (lv_at hl 1 rfl) ?_
                                  refine lv_aload_n hx hb dX5_digest_40 rfl (lv_at hl 2 rfl) ?_
                                  refine q_get C0 hw ((hL 0 (by omega))) fxx_4679 fw_X5_12 rfl dX5_digest_41 ?_
                                  refine q_get C0 hw ((hL 22 (by omega))) hnx_4679.1 fw_X5_66 rfl dX5_digest_44 ?_
                                  refine q_get C0 hw ((hL 23 (by omega))) hnx_4679.2.1 fw_X5_85 rfl dX5_digest_47 ?_
                                  refine lv_iload_n hx hb dX5_digest_50 rfl (lv_at hl 0 rfl) ?_
                                  refine q_aaldi C0 hw ((hL 24 (by omega))) hnx_4679.2.2.1 (5) (by omega) (by decide) (b := ad (26 + 5)) rfl dX5_digest_51 ?_
                                  refine q_calll hw (q_runS (As := [.long (dgS5 A), .ref (ad (26 + 5))]) (c_X5_hashCoefficients l G L F_4673 (dgS5 A) (ad (26 + 5)) ((A.1.2.2.2.2.2 5)) ((hL (26 + 5) (by omega))) ((hnx_4679.2.2.2.2 5 (by omega)))) C0 hw sw_X5_258 rfl hl.1 rfl (Nat.le_of_ble_eq_true rfl) dX5_digest_52 ⟨by decide, by decide⟩ ⟨by decide, by decide⟩) rfl rfl (fun r_4682 F_4680 H locs hw hp_4681 => ?_)
                                  obtain ⟨he_4683, o_4684⟩ := hp_4681
                                  subst he_4683
                                  obtain rfl : F_4673 = F_4680 := (funext o_4684).symm
                                  refine lv_lstore_n (lv' := [(1, .long (hC (dgS5 A) ((A.1.2.2.2.2.2 5)))), (3, .int (nI (5))), (0, .ref (ad 0))]) hx hb dX5_digest_55 rfl hl (by decide) rfl (fun ls hl => ?_)
                                  refine lv_lload_n hx hb dX5_digest_56 rfl (lv_at hl 0 rfl) ?_
                                  refine lv_aload_n hx hb dX5_digest_57 rfl (lv_at hl 2 rfl) ?_
                                  refine q_get C0 hw ((hL 0 (by omega))) fxx_4679 fw_X5_12 rfl dX5_digest_58 ?_
                                  refine q_get C0 hw ((hL 22 (by omega))) hnx_4679.1 fw_X5_66 rfl dX5_digest_61 ?_
                                  refine q_get C0 hw ((hL 23 (by omega))) hnx_4679.2.1 fw_X5_93 rfl dX5_digest_64 ?_
                                  refine lv_iload_n hx hb dX5_digest_67 rfl (lv_at hl 1 rfl) ?_
                                  refine q_aaldi C0 hw ((hL 25 (by omega))) hnx_4679.2.2.2.1 (5) (by omega) (by decide) (b := ad (32 + 5)) rfl dX5_digest_68 ?_
                                  refine q_calll hw (q_runS (As := [.long (hC (dgS5 A) ((A.1.2.2.2.2.2 5))), .ref (ad (32 + 5))]) (c_X5_hashCoefficients l G L F_4673 (hC (dgS5 A) ((A.1.2.2.2.2.2 5))) (ad (32 + 5)) ((A.1.2.2.2.2.2 (6 + 5))) ((hL (32 + 5) (by omega))) ((show F_4673 (ad (32 + 5)) = _ from by have h9 := hnx_4679.2.2.2.2 (6 + 5) (by omega); rwa [show 22 + 4 + (6 + 5) = 32 + 5 by omega] at h9))) C0 hw sw_X5_258 rfl hl.1 rfl (Nat.le_of_ble_eq_true rfl) dX5_digest_69 ⟨by decide, by decide⟩ ⟨by decide, by decide⟩) rfl rfl (fun r_4687 F_4685 H locs hw hp_4686 => ?_)
                                  obtain ⟨he_4688, o_4689⟩ := hp_4686
                                  subst he_4688
                                  obtain rfl : F_4673 = F_4685 := (funext o_4689).symm
                                  refine lv_lstore_n (lv' := [(1, .long (hC (hC (dgS5 A) ((A.1.2.2.2.2.2 5))) ((A.1.2.2.2.2.2 (6 + 5))))), (3, .int (nI (5))), (0, .ref (ad 0))]) hx hb dX5_digest_72 rfl hl (by decide) rfl (fun ls hl => ?_)
                                  refine lv_aload_n hx hb dX5_digest_73 rfl (lv_at hl 2 rfl) ?_
                                  refine lv_lload_n hx hb dX5_digest_74 rfl (lv_at hl 0 rfl) ?_
                                  refine lv_iload_n hx hb dX5_digest_75 rfl (lv_at hl 1 rfl) ?_
                                  refine q_calll hw (q_runV (As := [.long (hC (hC (dgS5 A) ((A.1.2.2.2.2.2 5))) ((A.1.2.2.2.2.2 (6 + 5)))), .int (nI (5))]) (c_X5_hashLooks l G L F_4673 ad hL hin A (hC (hC (dgS5 A) ((A.1.2.2.2.2.2 5))) ((A.1.2.2.2.2.2 (6 + 5)))) 5 (by decide) h_4677 hA) C0 hw vw_X5_262 ((hL 0 (by omega))) fxx_4679 rfl rfl rfl hl.1 rfl (Nat.le_of_ble_eq_true rfl) dX5_digest_76 ⟨by decide, by decide⟩ ⟨by decide, by decide⟩) rfl rfl (fun r_4692 F_4690 H locs hw hp_4691 => ?_)
                                  obtain ⟨h_4693, h_4694, h_4695⟩ := hp_4691
                                  subst h_4693
                                  obtain ⟨fxx_4696, hnx_4696, hhx_4696, hsnx_4696, htxx_4696, hrkx_4696, ⟨ux_4696, h134x_4696⟩, ⟨vx_4696, h150x_4696⟩⟩ := id h_4694
                                  refine lv_lstore_n (lv' := [(1, .long (hLk A 5 (hC (hC (dgS5 A) ((A.1.2.2.2.2.2 5))) ((A.1.2.2.2.2.2 (6 + 5)))))), (3, .int (nI (5))), (0, .ref (ad 0))]) hx hb dX5_digest_79 rfl hl (by decide) rfl (fun ls hl => ?_)
                                  have hl : lv_has ls 4 [(1, .long (dgS6 A)), (3, .int (nI (5))), (0, .ref (ad 0))] := hl
                                  refine lv_iinc (v := nI 6) (lv' := [(3, .int (nI (6))), (1, .long (dgS6 A)), (0, .ref (ad 0))]) hx hb dX5_digest_80 hl (k := 1) rfl (by decide) (by decide) rfl (fun ls hl => ?_)
                                  refine lv_goto (tgt := 33) hx hb dX5_digest_83 (by decide) ?_
                                  refine lv_iload_n hx hb dX5_digest_33 rfl (lv_at hl 0 rfl) ?_
                                  refine lv_bipush (v := nI 6) hx hb dX5_digest_34 (by decide) ?_
                                  refine n_icmp_ge (tgt := 86) hx hb dX5_digest_36 (by decide) (by decide) (by decide) (fun c_36 => ?_) (fun c_36 => ?_)
                                  · skip
                                    refine lv_ldc2 (v := lN (31)) hx hb C0.ow (C0.ts _ kw_X5_253) dX5_digest_86 ?_
                                    refine lv_lload_n hx hb dX5_digest_89 rfl (lv_at hl 1 rfl) ?_
                                    refine lv_lmul hx hb dX5_digest_90 ?_
                                    refine lv_aload_n hx hb dX5_digest_91 rfl (lv_at hl 2 rfl) ?_
                                    refine q_calld hw (q_runV (As := []) (c_X5_density l G L F_4690 ad hL hin A hn9 h_4694 hA) C0 hw vw_X5_266 ((hL 0 (by omega))) fxx_4696 rfl rfl rfl hl.1 rfl (Nat.le_of_ble_eq_true rfl) dX5_digest_92 ⟨by decide, by decide⟩ ⟨by decide, by decide⟩) rfl rfl (fun r_4699 F_4697 H locs hw hp_4698 => ?_)
                                    obtain ⟨he_4700, o_4701⟩ := hp_4698
                                    subst he_4700
                                    obtain rfl : F_4690 = F_4697 := (funext o_4701).symm
                                    refine q_calll hw (q_runS (As := [.double (dens (cfR A.1.2.2.2.2.2 6) A.1.1)]) (c_X5_bitsOf l G L F_4690 _ _ hc2 hc hn9) C0 hw sw_X5_270 rfl hl.1 rfl (Nat.le_of_ble_eq_true rfl) dX5_digest_95 ⟨by decide, by decide⟩ ⟨by decide, by decide⟩) rfl rfl (fun r_4704 F_4702 H locs hw hp_4703 => ?_)
                                    obtain ⟨he_4705, o_4706⟩ := hp_4703
                                    subst he_4705
                                    obtain rfl : F_4690 = F_4702 := (funext o_4706).symm
                                    refine lv_ladd hx hb dX5_digest_98 ?_
                                    refine lv_lstore_n (lv' := [(1, .long ((lN (31) * (dgS6 A)) + ((dens (cfR A.1.2.2.2.2.2 6) A.1.1).toInt64))), (3, .int (nI (6))), (0, .ref (ad 0))]) hx hb dX5_digest_99 rfl hl (by decide) rfl (fun ls hl => ?_)
                                    refine lv_aload_n hx hb dX5_digest_100 rfl (lv_at hl 2 rfl) ?_
                                    refine q_get C0 hw ((hL 0 (by omega))) fxx_4696 fw_X5_37 rfl dX5_digest_101 ?_
                                    refine lv_lload_n hx hb dX5_digest_104 rfl (lv_at hl 0 rfl) ?_
                                    refine q_calll hw (q_runV (As := [.long ((lN (31) * (dgS6 A)) + ((dens (cfR A.1.2.2.2.2.2 6) A.1.1).toInt64))]) (c_X4_hashFrom l G L F_4690 ad hL hin A.2.2.2 htxx_4696 hco ((lN (31) * (dgS6 A)) + ((dens (cfR A.1.2.2.2.2.2 6) A.1.1).toInt64))) C0 hw vw_X5_274 ((hL 5 (by omega))) htxx_4696.1 rfl rfl rfl hl.1 rfl (Nat.le_of_ble_eq_true rfl) dX5_digest_105 ⟨by decide, by decide⟩ ⟨by decide, by decide⟩) rfl rfl (fun r_4709 F_4707 H locs hw hp_4708 => ?_)
                                    obtain ⟨he_4710, o_4711⟩ := hp_4708
                                    subst he_4710
                                    obtain rfl : F_4690 = F_4707 := (funext o_4711).symm
                                    exact r_l C0 hr hlk hw ⟨rfl, h_4694, (fun q hq => ((h_4695 q (fun i hS => hq i (by omega))).trans ((h_4678 q (fun i hS => hq i (by omega))).trans ((h_4661 q (fun i hS => hq i (by omega))).trans ((h_4644 q (fun i hS => hq i (by omega))).trans ((h_4627 q (fun i hS => hq i (by omega))).trans (h_4610 q (fun i hS => hq i (by omega)))))))))⟩ (Nat.le_refl _) (Nat.le_refl _) dX5_digest_108 hQ
                                  · skip
                                    exact absurd c_36 (by omega)
                    · skip
                      exact absurd c_9 (by omega)
abbrev rm_X5_run : Room := { frames := 6, cells := 0, slots := 0, locals := 165 }
set_option maxHeartbeats 4000000 in
set_option maxRecDepth 100000 in
theorem c_X5_run (l : Launch) (G : Gl) (L : List Nat) (F : Nat → va_E) (ad : Nat → Nat) (hL : ∀ i, i < 166 → ad i ∈ L) (hin : ∀ i j, i < 166 → j < 166 → i ≠ j → ad i ≠ ad j) (A : AB) (hpr : isPr A.2.2.2) (hX : XW G F ad A) (hA : okA A) : CI l yX5_run cX5_run 2 (some .int) rm_X5_run G L F [.ref (ad 0)] (fun r F1 => r = nI (runS A.2.2.2 61 0 0 A.1).1 ∧ XW G F1 ad ((runS A.2.2.2 61 0 0 A.1).2, saveH A.2.1 A.1, A.2.2.1, (0, A.2.2.2.2)) ∧ ∀ q, (∀ i, (i < 166) → q ≠ ad i) → F1 q = F q) := by
  obtain ⟨fx, hn, hh, hsn, htx, hrk, ⟨u9, h134⟩, ⟨v9, h150⟩⟩ := hX
  obtain ⟨⟨hc2, hc, hpu, hok⟩, ⟨hh6, hho⟩, hso, hl60, hco⟩ := id hA
  refine CG_of (by decide) (Nat.le_of_ble_eq_true rfl) rfl ?_
  intro p e s m args below meth c Q C0 hr hlk hnm hQ hw ls hl
  have hx := C0.x
  have hb := C0.b
  refine lv_aload_n hx hb dX5_run_0 rfl (lv_at hl 0 rfl) ?_
  refine q_get C0 hw ((hL 0 (by omega))) fx fw_X5_37 rfl dX5_run_1 ?_
  refine q_calli hw (q_runV (As := []) (c_X4_isProgram l G L F ad hL hin A.2.2.2 htx hco) C0 hw vw_X5_164 ((hL 5 (by omega))) htx.1 rfl rfl rfl hl.1 rfl (Nat.le_of_ble_eq_true rfl) dX5_run_4 ⟨by decide, by decide⟩ ⟨by decide, by decide⟩) rfl rfl (fun r_4714 F_4712 H locs hw hp_4713 => ?_)
  obtain ⟨he_4715, o_4716⟩ := hp_4713
  rw [if_pos hpr] at he_4715
  subst he_4715
  refine n_if_ne (tgt := 20) hx hb dX5_run_7 (by decide) (by decide) (fun c_7 => ?_) (fun c_7 => ?_)
  · skip
    refine lv_aload_n hx hb dX5_run_20 rfl (lv_at hl 0 rfl) ?_
    have f_4717 : F_4712 (ad 0) = xO ad := (o_4716 (ad 0) ).trans fx
    refine q_get C0 hw ((hL 0 (by omega))) f_4717 fw_X5_19 rfl dX5_run_21 ?_
    refine lv_aload_n hx hb dX5_run_24 rfl (lv_at hl 0 rfl) ?_
    refine q_get C0 hw ((hL 0 (by omega))) f_4717 fw_X5_12 rfl dX5_run_25 ?_
    obtain ⟨_, _, hf_4718, _⟩ := id (hh.keep (fun i0 hi => (o_4716 (ad (i0)) )))
    refine q_callv hw (q_runV (As := [.ref (ad 22)]) (c_X0_save l G L F_4712 ad hL hin A.2.1 A.1 (hh.keep (fun i0 hi => (o_4716 (ad (i0)) ))) (hn.keep (fun i0 hi => (o_4716 (ad (i0)) )))) C0 hw vw_X5_62 ((hL 1 (by omega))) hf_4718 rfl rfl rfl hl.1 rfl (Nat.le_of_ble_eq_true rfl) dX5_run_28 ⟨by decide, by decide⟩ ⟨by decide, by decide⟩) rfl rfl (fun F_4719 H locs hw hp_4720 => ?_)
    refine lv_aload_n hx hb dX5_run_31 rfl (lv_at hl 0 rfl) ?_
    have f_4721 : F_4712 (ad 134) = rw7 G u9 := (o_4716 (ad 134) ).trans h134
    have f_4722 : F_4719 (ad 134) = rw7 G u9 := (hp_4720.2 (ad 134) (fun i hS => hin 134 i (by omega) (by omega) (by omega))).trans f_4721
    have f_4723 : F_4719 (ad 0) = xO ad := (hp_4720.2 (ad 0) (fun i hS => hin 0 i (by omega) (by omega) (by omega))).trans f_4717
    refine q_calli hw (q_runV (As := []) (c_X5_carryOutAll l G L F_4719 ad hL hin A.2.2.2 (htx.keep (fun i0 hi => ((hp_4720.2 (ad (i0)) (fun i hS => hin (i0) i (by omega) (by omega) (by omega)))).trans ((o_4716 (ad (i0)) )))) hco A.1 f_4723 (hn.keep (fun i0 hi => ((hp_4720.2 (ad (i0)) (fun i hS => hin (i0) i (by omega) (by omega) (by omega)))).trans ((o_4716 (ad (i0)) )))) (hrk.keep (fun i0 hi => ((hp_4720.2 (ad (i0)) (fun i hS => hin (i0) i (by omega) (by omega) (by omega)))).trans ((o_4716 (ad (i0)) )))) ⟨_, f_4722⟩ hc hc2 hpu hpr.1) C0 hw vw_X5_169 ((hL 0 (by omega))) f_4723 rfl rfl rfl hl.1 rfl (Nat.le_of_ble_eq_true rfl) dX5_run_32 ⟨by decide, by decide⟩ ⟨by decide, by decide⟩) rfl rfl (fun r_4726 F_4724 H locs hw hp_4725 => ?_)
    obtain ⟨h_4727, h_4728, h_4729, ⟨u_4732, h_4730⟩, h_4731⟩ := hp_4725
    subst h_4727
    refine lv_istore_n (lv' := [(1, .int (nI ((runS A.2.2.2 61 0 0 A.1).1))), (0, .ref (ad 0))]) hx hb dX5_run_35 rfl hl (by decide) rfl (fun ls hl => ?_)
    refine lv_aload_n hx hb dX5_run_36 rfl (lv_at hl 1 rfl) ?_
    have f_4733 : F_4724 (ad 0) = xO ad := (h_4731 (ad 0) (fun i hS => hin 0 i (by omega) (by omega) (by omega))).trans f_4723
    refine q_get C0 hw ((hL 0 (by omega))) f_4733 fw_X5_37 rfl dX5_run_37 ?_
    have f_4734 : F_4712 (ad 5) = tO (ad 6) A.2.2.2.1 := (o_4716 (ad 5) ).trans htx.1
    have f_4735 : F_4719 (ad 5) = tO (ad 6) A.2.2.2.1 := (hp_4720.2 (ad 5) (fun i hS => hin 5 i (by omega) (by omega) (by omega))).trans f_4734
    have f_4736 : F_4724 (ad 5) = tO (ad 6) A.2.2.2.1 := (h_4731 (ad 5) (fun i hS => hin 5 i (by omega) (by omega) (by omega))).trans f_4735
    refine q_callv hw (q_runV (As := []) (c_X4_empty l G L F_4724 ad hL hin A.2.2.2 (htx.keep (fun i0 hi => ((h_4731 (ad (i0)) (fun i hS => hin (i0) i (by omega) (by omega) (by omega)))).trans (((hp_4720.2 (ad (i0)) (fun i hS => hin (i0) i (by omega) (by omega) (by omega)))).trans ((o_4716 (ad (i0)) ))))) hco A.2.2.2.2) C0 hw vw_X5_157 ((hL 5 (by omega))) f_4736 rfl rfl rfl hl.1 rfl (Nat.le_of_ble_eq_true rfl) dX5_run_40 ⟨by decide, by decide⟩ ⟨by decide, by decide⟩) rfl rfl (fun F_4737 H locs hw hp_4738 => ?_)
    refine lv_iload_n hx hb dX5_run_43 rfl (lv_at hl 0 rfl) ?_
    have f_4739 : F_4737 (ad 0) = xO ad := (hp_4738.2 (ad 0) (fun i hS => hin 0 i (by omega) (by omega) (by omega))).trans f_4733
    have f_4740 : F_4737 (ad 134) = rw7 G u_4732 := (hp_4738.2 (ad 134) (fun i hS => hin 134 i (by omega) (by omega) (by omega))).trans h_4730
    have f_4741 : F_4712 (ad 150) = rw7 G v9 := (o_4716 (ad 150) ).trans h150
    have f_4742 : F_4719 (ad 150) = rw7 G v9 := (hp_4720.2 (ad 150) (fun i hS => hin 150 i (by omega) (by omega) (by omega))).trans f_4741
    have f_4743 : F_4724 (ad 150) = rw7 G v9 := (h_4731 (ad 150) (fun i hS => hin 150 i (by omega) (by omega) (by omega))).trans f_4742
    have f_4744 : F_4737 (ad 150) = rw7 G v9 := (hp_4738.2 (ad 150) (fun i hS => hin 150 i (by omega) (by omega) (by omega))).trans f_4743
    exact r_i C0 hr hlk hw (v := nI ((runS A.2.2.2 61 0 0 A.1).1)) rfl ⟨rfl, ⟨f_4739, (h_4728.keep (fun i0 hi => (hp_4738.2 (ad (i0)) (fun i hS => hin (i0) i (by omega) (by omega) (by omega))))), (hp_4720.1.keep (fun i0 hi => ((hp_4738.2 (ad (i0)) (fun i hS => hin (i0) i (by omega) (by omega) (by omega)))).trans ((h_4731 (ad (i0)) (fun i hS => hin (i0) i (by omega) (by omega) (by omega)))))), (hsn.keep (fun i0 hi => ((hp_4738.2 (ad (i0)) (fun i hS => hin (i0) i (by omega) (by omega) (by omega)))).trans (((h_4731 (ad (i0)) (fun i hS => hin (i0) i (by omega) (by omega) (by omega)))).trans (((hp_4720.2 (ad (i0)) (fun i hS => hin (i0) i (by omega) (by omega) (by omega)))).trans ((o_4716 (ad (i0)) )))))), hp_4738.1, (h_4729.keep (fun i0 hi => (hp_4738.2 (ad (i0)) (fun i hS => hin (i0) i (by omega) (by omega) (by omega))))), ⟨_, f_4740⟩, ⟨_, f_4744⟩⟩, (fun q hq => ((hp_4738.2 q (fun i hS => hq i (by omega))).trans ((h_4731 q (fun i hS => hq i (by omega))).trans ((hp_4720.2 q (fun i hS => hq i (by omega))).trans (o_4716 q )))))⟩ (Nat.le_refl _) (Nat.le_refl _) dX5_run_44 hQ
  · skip
    exact absurd c_7 (by omega)
