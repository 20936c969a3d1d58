abbrev rm_X5_hashLooks : Room := { frames := 5, cells := 0, slots := 0, locals := 123 }
def hLk (A : AB) (f9 : Nat) (h9 : Int64) : Int64 := (lN (31) * ((lN (31) * ((lN (31) * ((lN (31) * ((lN (31) * ((lN (31) * ((lN (31) * ((lN (31) * (h9)) + ((nI (m_val (A.1.2.2.2.2.2 f9) (zi (nI 3))).val).toInt64))) + ((nI (m_val (A.1.2.2.2.2.2 (6 + f9)) (zi (nI 3))).val).toInt64))) + ((lowR (m_br (A.1.2.2.2.2.2 f9) (A.1.2.2.2.2.2 0) A.1.1)).toInt64))) + ((m_low (fun k => decide ((m_sub (A.1.2.2.2.2.2 (6 + f9)) (A.1.2.2.2.2.2 (6 + 0)) A.1.1) k ≠ (m_sub (A.1.2.2.2.2.2 (6 + 0)) (A.1.2.2.2.2.2 (6 + f9)) A.1.1) k))).toInt64))) + ((m_low (fun k => decide ((m_way (A.1.2.2.2.2.2 0) (A.1.2.2.2.2.2 f9) 2 A.1.1) k ≠ (m_cf ((A.1.2.2.2.2.2 0)) ((A.1.2.2.2.2.2 f9)) (A.1.1)) k))).toInt64))) + ((m_low (fun k => decide ((m_way (A.1.2.2.2.2.2 0) (A.1.2.2.2.2.2 f9) 3 A.1.1) k ≠ (m_cf ((A.1.2.2.2.2.2 0)) ((A.1.2.2.2.2.2 f9)) (A.1.1)) k))).toInt64))) + ((m_low (fun k => decide ((m_way (A.1.2.2.2.2.2 0) (A.1.2.2.2.2.2 f9) 4 A.1.1) k ≠ (m_cf ((A.1.2.2.2.2.2 0)) ((A.1.2.2.2.2.2 f9)) (A.1.1)) k))).toInt64))) + ((m_low (fun k => decide ((m_way (A.1.2.2.2.2.2 0) (A.1.2.2.2.2.2 f9) 5 A.1.1) k ≠ (m_cf ((A.1.2.2.2.2.2 0)) ((A.1.2.2.2.2.2 f9)) (A.1.1)) k))).toInt64)
set_option maxHeartbeats 4000000 in
set_option maxRecDepth 100000 in
theorem c_X5_hashLooks (l : Launch) (G : Gl) (L : List Nat) (F : Nat → va_E) (ad : Nat → Nat) (hL : ∀ i, i < 166 → ad i ∈ L) (hin : ∀ i j, i < 166 → j < 166 → i ≠ j → ad i ≠ ad j) (A : AB) (h9 : Int64) (f9 : Nat) (hf9 : f9 < 6) (hX : XW G F ad A) (hA : okA A) : CL l yX5_hashLooks cX5_hashLooks 7 (some .long) rm_X5_hashLooks G L F [.ref (ad 0), .long (h9), .int (nI (f9))] (fun r F1 => r = hLk A f9 h9 ∧ XW G F1 ad A ∧ ∀ q, (∀ i, (i < 166) → q ≠ ad i) → F1 q = F q) := by
  have hX9 := hX
  obtain ⟨fx, hn, hh, hsn, htx, hrk, ⟨u9, h134⟩, ⟨v9, h150⟩⟩ := hX
  obtain ⟨⟨hc2, hc, hpu, hok⟩, ⟨hh6, hho⟩, hso, hl60, hco⟩ := id hA
  refine CG_of (by decide) (Nat.le_of_ble_eq_true rfl) rfl ?_
  intro p e s m args below meth c Q C0 hr hlk hnm hQ hw ls hl
  have hx := C0.x
  have hb := C0.b
  refine lv_ldc2 (v := lN (31)) hx hb C0.ow (C0.ts _ kw_X5_253) dX5_hashLooks_0 ?_
  refine lv_lload_n hx hb dX5_hashLooks_3 rfl (lv_at hl 1 rfl) ?_
  refine lv_lmul hx hb dX5_hashLooks_4 ?_
  refine lv_aload_n hx hb dX5_hashLooks_5 rfl (lv_at hl 0 rfl) ?_
  refine lv_iconst (v := nI 0) hx hb dX5_hashLooks_6 (by decide) ?_
  refine lv_iload_n hx hb dX5_hashLooks_7 rfl (lv_at hl 2 rfl) ?_
  refine lv_iconst (v := nI 3) hx hb dX5_hashLooks_8 (by decide) ?_
  refine q_calli hw (q_runV (As := [.int (nI (0)), .int (nI (f9)), .int (nI (3))]) (c_X5_value_0 l G L F ad hL hin A f9 (nI 3) (by omega) hX9 hA) C0 hw vw_X5_328 ((hL 0 (by omega))) fx rfl rfl rfl hl.1 rfl (Nat.le_of_ble_eq_true rfl) dX5_hashLooks_9 ⟨by decide, by decide⟩ ⟨by decide, by decide⟩) rfl rfl (fun r_4441 F_4439 H locs hw hp_4440 => ?_)
  obtain ⟨h_4442, h_4443, h_4444⟩ := hp_4440
  subst h_4442
  obtain ⟨fxx_4445, hnx_4445, hhx_4445, hsnx_4445, htxx_4445, hrkx_4445, ⟨ux_4445, h134x_4445⟩, ⟨vx_4445, h150x_4445⟩⟩ := id h_4443
  refine lv_i2l (v := (nI (m_val (A.1.2.2.2.2.2 f9) (zi (nI 3))).val).toInt64) hx hb dX5_hashLooks_12 rfl ?_
  refine lv_ladd hx hb dX5_hashLooks_13 ?_
  refine lv_lstore (lv' := [(4, .long ((lN (31) * (h9)) + ((nI (m_val (A.1.2.2.2.2.2 f9) (zi (nI 3))).val).toInt64))), (0, .ref (ad 0)), (1, .long (h9)), (3, .int (nI (f9)))]) hx hb dX5_hashLooks_14 hl (by decide) rfl (fun ls hl => ?_)
  refine lv_ldc2 (v := lN (31)) hx hb C0.ow (C0.ts _ kw_X5_253) dX5_hashLooks_16 ?_
  refine lv_lload hx hb dX5_hashLooks_19 (lv_at hl 0 rfl) ?_
  refine lv_lmul hx hb dX5_hashLooks_21 ?_
  refine lv_aload_n hx hb dX5_hashLooks_22 rfl (lv_at hl 1 rfl) ?_
  refine lv_iconst (v := nI 1) hx hb dX5_hashLooks_23 (by decide) ?_
  refine lv_iload_n hx hb dX5_hashLooks_24 rfl (lv_at hl 3 rfl) ?_
  refine lv_iconst (v := nI 3) hx hb dX5_hashLooks_25 (by decide) ?_
  refine q_calli hw (q_runV (As := [.int (nI (1)), .int (nI (f9)), .int (nI (3))]) (c_X5_value_1 l G L F_4439 ad hL hin A f9 (nI 3) (by omega) h_4443 hA) C0 hw vw_X5_328 ((hL 0 (by omega))) fxx_4445 rfl rfl rfl hl.1 rfl (Nat.le_of_ble_eq_true rfl) dX5_hashLooks_26 ⟨by decide, by decide⟩ ⟨by decide, by decide⟩) rfl rfl (fun r_4448 F_4446 H locs hw hp_4447 => ?_)
  obtain ⟨h_4449, h_4450, h_4451⟩ := hp_4447
  subst h_4449
  obtain ⟨fxx_4452, hnx_4452, hhx_4452, hsnx_4452, htxx_4452, hrkx_4452, ⟨ux_4452, h134x_4452⟩, ⟨vx_4452, h150x_4452⟩⟩ := id h_4450
  refine lv_i2l (v := (nI (m_val (A.1.2.2.2.2.2 (6 + f9)) (zi (nI 3))).val).toInt64) hx hb dX5_hashLooks_29 rfl ?_
  refine lv_ladd hx hb dX5_hashLooks_30 ?_
  refine lv_lstore (lv' := [(4, .long ((lN (31) * ((lN (31) * (h9)) + ((nI (m_val (A.1.2.2.2.2.2 f9) (zi (nI 3))).val).toInt64))) + ((nI (m_val (A.1.2.2.2.2.2 (6 + f9)) (zi (nI 3))).val).toInt64))), (0, .ref (ad 0)), (1, .long (h9)), (3, .int (nI (f9)))]) hx hb dX5_hashLooks_31 hl (by decide) rfl (fun ls hl => ?_)
  refine lv_ldc2 (v := lN (31)) hx hb C0.ow (C0.ts _ kw_X5_253) dX5_hashLooks_33 ?_
  refine lv_lload hx hb dX5_hashLooks_36 (lv_at hl 0 rfl) ?_
  refine lv_lmul hx hb dX5_hashLooks_38 ?_
  refine lv_aload_n hx hb dX5_hashLooks_39 rfl (lv_at hl 1 rfl) ?_
  refine lv_iload_n hx hb dX5_hashLooks_40 rfl (lv_at hl 3 rfl) ?_
  refine lv_iconst (v := nI 0) hx hb dX5_hashLooks_41 (by decide) ?_
  refine q_calli hw (q_runV (As := [.int (nI (f9)), .int (nI (0))]) (c_X5_clash l G L F_4446 ad hL hin A f9 0 (by omega) (by omega) h_4450 hA) C0 hw vw_X5_331 ((hL 0 (by omega))) fxx_4452 rfl rfl rfl hl.1 rfl (Nat.le_of_ble_eq_true rfl) dX5_hashLooks_42 ⟨by decide, by decide⟩ ⟨by decide, by decide⟩) rfl rfl (fun r_4455 F_4453 H locs hw hp_4454 => ?_)
  obtain ⟨h_4456, h_4457, h_4458⟩ := hp_4454
  subst h_4456
  obtain ⟨fxx_4459, hnx_4459, hhx_4459, hsnx_4459, htxx_4459, hrkx_4459, ⟨ux_4459, h134x_4459⟩, ⟨vx_4459, h150x_4459⟩⟩ := id h_4457
  refine lv_i2l (v := (lowR (m_br (A.1.2.2.2.2.2 f9) (A.1.2.2.2.2.2 0) A.1.1)).toInt64) hx hb dX5_hashLooks_45 rfl ?_
  refine lv_ladd hx hb dX5_hashLooks_46 ?_
  refine lv_lstore (lv' := [(4, .long ((lN (31) * ((lN (31) * ((lN (31) * (h9)) + ((nI (m_val (A.1.2.2.2.2.2 f9) (zi (nI 3))).val).toInt64))) + ((nI (m_val (A.1.2.2.2.2.2 (6 + f9)) (zi (nI 3))).val).toInt64))) + ((lowR (m_br (A.1.2.2.2.2.2 f9) (A.1.2.2.2.2.2 0) A.1.1)).toInt64))), (0, .ref (ad 0)), (1, .long (h9)), (3, .int (nI (f9)))]) hx hb dX5_hashLooks_47 hl (by decide) rfl (fun ls hl => ?_)
  refine lv_ldc2 (v := lN (31)) hx hb C0.ow (C0.ts _ kw_X5_253) dX5_hashLooks_49 ?_
  refine lv_lload hx hb dX5_hashLooks_52 (lv_at hl 0 rfl) ?_
  refine lv_lmul hx hb dX5_hashLooks_54 ?_
  refine lv_aload_n hx hb dX5_hashLooks_55 rfl (lv_at hl 1 rfl) ?_
  refine lv_iload_n hx hb dX5_hashLooks_56 rfl (lv_at hl 3 rfl) ?_
  refine lv_iconst (v := nI 0) hx hb dX5_hashLooks_57 (by decide) ?_
  refine q_calli hw (q_runV (As := [.int (nI (f9)), .int (nI (0))]) (c_X5_apart l G L F_4453 ad hL hin A f9 0 (by omega) (by omega) h_4457 hA) C0 hw vw_X5_334 ((hL 0 (by omega))) fxx_4459 rfl rfl rfl hl.1 rfl (Nat.le_of_ble_eq_true rfl) dX5_hashLooks_58 ⟨by decide, by decide⟩ ⟨by decide, by decide⟩) rfl rfl (fun r_4462 F_4460 H locs hw hp_4461 => ?_)
  obtain ⟨h_4463, h_4464, h_4465⟩ := hp_4461
  subst h_4463
  obtain ⟨fxx_4466, hnx_4466, hhx_4466, hsnx_4466, htxx_4466, hrkx_4466, ⟨ux_4466, h134x_4466⟩, ⟨vx_4466, h150x_4466⟩⟩ := id h_4464
  obtain ⟨sx_4466_0, hsx_4466_0⟩ := hrkx_4466.2 0 (by decide)
  obtain ⟨sx_4466_1, hsx_4466_1⟩ := hrkx_4466.2 1 (by decide)
  obtain ⟨sx_4466_2, hsx_4466_2⟩ := hrkx_4466.2 2 (by decide)
  obtain ⟨sx_4466_3, hsx_4466_3⟩ := hrkx_4466.2 3 (by decide)
  obtain ⟨sx_4466_4, hsx_4466_4⟩ := hrkx_4466.2 4 (by decide)
  obtain ⟨sx_4466_5, hsx_4466_5⟩ := hrkx_4466.2 5 (by decide)
  obtain ⟨sx_4466_6, hsx_4466_6⟩ := hrkx_4466.2 6 (by decide)
  obtain ⟨sx_4466_7, hsx_4466_7⟩ := hrkx_4466.2 7 (by decide)
  obtain ⟨sx_4466_8, hsx_4466_8⟩ := hrkx_4466.2 8 (by decide)
  obtain ⟨sx_4466_9, hsx_4466_9⟩ := hrkx_4466.2 9 (by decide)
  obtain ⟨sx_4466_10, hsx_4466_10⟩ := hrkx_4466.2 10 (by decide)
  obtain ⟨sx_4466_11, hsx_4466_11⟩ := hrkx_4466.2 11 (by decide)
  obtain ⟨sx_4466_12, hsx_4466_12⟩ := hrkx_4466.2 12 (by decide)
  obtain ⟨sx_4466_13, hsx_4466_13⟩ := hrkx_4466.2 13 (by decide)
  refine lv_i2l (v := (m_low (fun k => decide ((m_sub (A.1.2.2.2.2.2 (6 + f9)) (A.1.2.2.2.2.2 (6 + 0)) A.1.1) k ≠ (m_sub (A.1.2.2.2.2.2 (6 + 0)) (A.1.2.2.2.2.2 (6 + f9)) A.1.1) k))).toInt64) hx hb dX5_hashLooks_61 rfl ?_
  refine lv_ladd hx hb dX5_hashLooks_62 ?_
  refine lv_lstore (lv' := [(4, .long ((lN (31) * ((lN (31) * ((lN (31) * ((lN (31) * (h9)) + ((nI (m_val (A.1.2.2.2.2.2 f9) (zi (nI 3))).val).toInt64))) + ((nI (m_val (A.1.2.2.2.2.2 (6 + f9)) (zi (nI 3))).val).toInt64))) + ((lowR (m_br (A.1.2.2.2.2.2 f9) (A.1.2.2.2.2.2 0) A.1.1)).toInt64))) + ((m_low (fun k => decide ((m_sub (A.1.2.2.2.2.2 (6 + f9)) (A.1.2.2.2.2.2 (6 + 0)) A.1.1) k ≠ (m_sub (A.1.2.2.2.2.2 (6 + 0)) (A.1.2.2.2.2.2 (6 + f9)) A.1.1) k))).toInt64))), (0, .ref (ad 0)), (1, .long (h9)), (3, .int (nI (f9)))]) hx hb dX5_hashLooks_63 hl (by decide) rfl (fun ls hl => ?_)
  refine lv_aload_n hx hb dX5_hashLooks_65 rfl (lv_at hl 1 rfl) ?_
  refine q_get C0 hw ((hL 0 (by omega))) fxx_4466 fw_X5_44 rfl dX5_hashLooks_66 ?_
  refine lv_aload_n hx hb dX5_hashLooks_69 rfl (lv_at hl 1 rfl) ?_
  refine q_get C0 hw ((hL 0 (by omega))) fxx_4466 fw_X5_12 rfl dX5_hashLooks_70 ?_
  refine q_get C0 hw ((hL 22 (by omega))) hnx_4466.1 fw_X5_66 rfl dX5_hashLooks_73 ?_
  refine q_get C0 hw ((hL 23 (by omega))) hnx_4466.2.1 fw_X5_85 rfl dX5_hashLooks_76 ?_
  refine lv_iconst (v := nI 0) hx hb dX5_hashLooks_79 (by decide) ?_
  refine q_aaldi C0 hw ((hL 24 (by omega))) hnx_4466.2.2.1 (0) (by omega) (by decide) (b := ad (26 + 0)) rfl dX5_hashLooks_80 ?_
  refine lv_aload_n hx hb dX5_hashLooks_81 rfl (lv_at hl 1 rfl) ?_
  refine q_get C0 hw ((hL 0 (by omega))) fxx_4466 fw_X5_12 rfl dX5_hashLooks_82 ?_
  refine q_get C0 hw ((hL 22 (by omega))) hnx_4466.1 fw_X5_66 rfl dX5_hashLooks_85 ?_
  refine q_get C0 hw ((hL 23 (by omega))) hnx_4466.2.1 fw_X5_85 rfl dX5_hashLooks_88 ?_
  refine lv_iload_n hx hb dX5_hashLooks_91 rfl (lv_at hl 3 rfl) ?_
  refine q_aaldi C0 hw ((hL 24 (by omega))) hnx_4466.2.2.1 (f9) (by omega) (by decide) (b := ad (26 + f9)) rfl dX5_hashLooks_92 ?_
  refine lv_aload_n hx hb dX5_hashLooks_93 rfl (lv_at hl 1 rfl) ?_
  refine q_get C0 hw ((hL 0 (by omega))) fxx_4466 fw_X5_12 rfl dX5_hashLooks_94 ?_
  refine q_get C0 hw ((hL 22 (by omega))) hnx_4466.1 fw_X5_66 rfl dX5_hashLooks_97 ?_
  refine q_get C0 hw ((hL 23 (by omega))) hnx_4466.2.1 fw_X5_70 rfl dX5_hashLooks_100 ?_
  refine lv_aload_n hx hb dX5_hashLooks_103 rfl (lv_at hl 1 rfl) ?_
  refine q_get C0 hw ((hL 0 (by omega))) fxx_4466 fw_X5_52 rfl dX5_hashLooks_104 ?_
  refine q_callv hw (q_runV (As := [.ref (ad (26 + 0)), .ref (ad (26 + f9)), .int (nI (A.1.1)), .ref (ad 150)]) (c_X1_composedField l G L F_4460 (ad 7) (fun i => ad (8 + i)) (ad (26 + 0)) (ad (26 + f9)) (ad 150) (A.1.1) ((A.1.2.2.2.2.2 0)) ((A.1.2.2.2.2.2 f9)) vx_4466 sx_4466_11 sx_4466_12 sx_4466_13 sx_4466_4 sx_4466_3 sx_4466_2 sx_4466_1  ((hL 7 (by omega))) hrkx_4466.1 (fun i hi => hL (8 + i) (by omega)) (ra_inj hin) ((hL (26 + 0) (by omega))) ((hnx_4466.2.2.2.2 0 (by omega))) ((hL (26 + f9) (by omega))) ((hnx_4466.2.2.2.2 f9 (by omega))) ((hL 150 (by omega))) h150x_4466 hsx_4466_11 hsx_4466_12 hsx_4466_13 hsx_4466_4 hsx_4466_3 hsx_4466_2 hsx_4466_1 (hin (26 + 0) 150 (by omega) (by omega) (by omega)) (hin (26 + f9) 150 (by omega) (by omega) (by omega)) (hin (26 + 0) 19 (by omega) (by omega) (by omega)) (hin (26 + f9) 19 (by omega) (by omega) (by omega)) (hin 150 19 (by omega) (by omega) (by omega)) (hin (26 + 0) 20 (by omega) (by omega) (by omega)) (hin (26 + f9) 20 (by omega) (by omega) (by omega)) (hin 150 20 (by omega) (by omega) (by omega)) (hin (26 + 0) 21 (by omega) (by omega) (by omega)) (hin (26 + f9) 21 (by omega) (by omega) (by omega)) (hin 150 21 (by omega) (by omega) (by omega)) (hin (26 + 0) 12 (by omega) (by omega) (by omega)) (hin (26 + f9) 12 (by omega) (by omega) (by omega)) (hin 150 12 (by omega) (by omega) (by omega)) (hin (26 + 0) 11 (by omega) (by omega) (by omega)) (hin (26 + f9) 11 (by omega) (by omega) (by omega)) (hin 150 11 (by omega) (by omega) (by omega)) (hin (26 + 0) 10 (by omega) (by omega) (by omega)) (hin (26 + f9) 10 (by omega) (by omega) (by omega)) (hin 150 10 (by omega) (by omega) (by omega)) (hin (26 + 0) 9 (by omega) (by omega) (by omega)) (hin (26 + f9) 9 (by omega) (by omega) (by omega)) (hin 150 9 (by omega) (by omega) (by omega)) (by omega) (by omega) ) C0 hw vw_X5_214 ((hL 7 (by omega))) hrkx_4466.1 rfl rfl rfl hl.1 rfl (Nat.le_of_ble_eq_true rfl) dX5_hashLooks_107 ⟨by decide, by decide⟩ ⟨by decide, by decide⟩) rfl rfl (fun F_4467 H locs hw hp_4468 => ?_)
  obtain ⟨f_4469, ⟨t_4477, f_4470⟩, ⟨t_4478, f_4471⟩, ⟨t_4479, f_4472⟩, ⟨t_4480, f_4473⟩, ⟨t_4481, f_4474⟩, ⟨t_4482, f_4475⟩, ⟨t_4483, f_4476⟩, o_4484⟩ := hp_4468
  refine lv_iconst (v := nI 2) hx hb dX5_hashLooks_110 (by decide) ?_
  refine lv_istore (lv' := [(6, .int (nI (2))), (4, .long ((lN (31) * ((lN (31) * ((lN (31) * ((lN (31) * (h9)) + ((nI (m_val (A.1.2.2.2.2.2 f9) (zi (nI 3))).val).toInt64))) + ((nI (m_val (A.1.2.2.2.2.2 (6 + f9)) (zi (nI 3))).val).toInt64))) + ((lowR (m_br (A.1.2.2.2.2.2 f9) (A.1.2.2.2.2.2 0) A.1.1)).toInt64))) + ((m_low (fun k => decide ((m_sub (A.1.2.2.2.2.2 (6 + f9)) (A.1.2.2.2.2.2 (6 + 0)) A.1.1) k ≠ (m_sub (A.1.2.2.2.2.2 (6 + 0)) (A.1.2.2.2.2.2 (6 + f9)) A.1.1) k))).toInt64))), (0, .ref (ad 0)), (1, .long (h9)), (3, .int (nI (f9)))]) hx hb dX5_hashLooks_111 hl (by decide) rfl (fun ls hl => ?_)
  refine lv_iload hx hb dX5_hashLooks_113 (lv_at hl 0 rfl) ?_
  refine lv_iconst (v := nI 5) hx hb dX5_hashLooks_115 (by decide) ?_
  refine n_icmp_gt (tgt := 143) hx hb dX5_hashLooks_116 (by decide) (by decide) (by decide) (fun c_116 => ?_) (fun c_116 => ?_)
  · skip
    exact absurd c_116 (by omega)
  · skip
    refine lv_ldc2 (v := lN (31)) hx hb C0.ow (C0.ts _ kw_X5_253) dX5_hashLooks_119 ?_
    refine lv_lload hx hb dX5_hashLooks_122 (lv_at hl 1 rfl) ?_
    refine lv_lmul hx hb dX5_hashLooks_124 ?_
    refine lv_aload_n hx hb dX5_hashLooks_125 rfl (lv_at hl 2 rfl) ?_
    refine lv_iconst (v := nI 0) hx hb dX5_hashLooks_126 (by decide) ?_
    refine lv_iload_n hx hb dX5_hashLooks_127 rfl (lv_at hl 4 rfl) ?_
    refine lv_iload hx hb dX5_hashLooks_128 (lv_at hl 0 rfl) ?_
    have f_4485 : F_4467 (ad 7) = rkO (fun i => ad (8 + i)) := (o_4484 (ad 7) (hin 7 150 (by omega) (by omega) (by omega)) (hin 7 19 (by omega) (by omega) (by omega)) (hin 7 20 (by omega) (by omega) (by omega)) (hin 7 21 (by omega) (by omega) (by omega)) (hin 7 12 (by omega) (by omega) (by omega)) (hin 7 11 (by omega) (by omega) (by omega)) (hin 7 10 (by omega) (by omega) (by omega)) (hin 7 9 (by omega) (by omega) (by omega))).trans hrkx_4466.1
    have f_4486 : F_4467 (ad 8) = rw7 G sx_4466_0 := (o_4484 (ad 8) (hin 8 150 (by omega) (by omega) (by omega)) (hin 8 19 (by omega) (by omega) (by omega)) (hin 8 20 (by omega) (by omega) (by omega)) (hin 8 21 (by omega) (by omega) (by omega)) (hin 8 12 (by omega) (by omega) (by omega)) (hin 8 11 (by omega) (by omega) (by omega)) (hin 8 10 (by omega) (by omega) (by omega)) (hin 8 9 (by omega) (by omega) (by omega))).trans hsx_4466_0
    have f_4487 : F_4467 (ad 13) = rw7 G sx_4466_5 := (o_4484 (ad 13) (hin 13 150 (by omega) (by omega) (by omega)) (hin 13 19 (by omega) (by omega) (by omega)) (hin 13 20 (by omega) (by omega) (by omega)) (hin 13 21 (by omega) (by omega) (by omega)) (hin 13 12 (by omega) (by omega) (by omega)) (hin 13 11 (by omega) (by omega) (by omega)) (hin 13 10 (by omega) (by omega) (by omega)) (hin 13 9 (by omega) (by omega) (by omega))).trans hsx_4466_5
    have f_4488 : F_4467 (ad 14) = rw7 G sx_4466_6 := (o_4484 (ad 14) (hin 14 150 (by omega) (by omega) (by omega)) (hin 14 19 (by omega) (by omega) (by omega)) (hin 14 20 (by omega) (by omega) (by omega)) (hin 14 21 (by omega) (by omega) (by omega)) (hin 14 12 (by omega) (by omega) (by omega)) (hin 14 11 (by omega) (by omega) (by omega)) (hin 14 10 (by omega) (by omega) (by omega)) (hin 14 9 (by omega) (by omega) (by omega))).trans hsx_4466_6
    have f_4489 : F_4467 (ad 15) = rw7 G sx_4466_7 := (o_4484 (ad 15) (hin 15 150 (by omega) (by omega) (by omega)) (hin 15 19 (by omega) (by omega) (by omega)) (hin 15 20 (by omega) (by omega) (by omega)) (hin 15 21 (by omega) (by omega) (by omega)) (hin 15 12 (by omega) (by omega) (by omega)) (hin 15 11 (by omega) (by omega) (by omega)) (hin 15 10 (by omega) (by omega) (by omega)) (hin 15 9 (by omega) (by omega) (by omega))).trans hsx_4466_7
    have f_4490 : F_4467 (ad 16) = rw7 G sx_4466_8 := (o_4484 (ad 16) (hin 16 150 (by omega) (by omega) (by omega)) (hin 16 19 (by omega) (by omega) (by omega)) (hin 16 20 (by omega) (by omega) (by omega)) (hin 16 21 (by omega) (by omega) (by omega)) (hin 16 12 (by omega) (by omega) (by omega)) (hin 16 11 (by omega) (by omega) (by omega)) (hin 16 10 (by omega) (by omega) (by omega)) (hin 16 9 (by omega) (by omega) (by omega))).trans hsx_4466_8
    have f_4491 : F_4467 (ad 17) = rw7 G sx_4466_9 := (o_4484 (ad 17) (hin 17 150 (by omega) (by omega) (by omega)) (hin 17 19 (by omega) (by omega) (by omega)) (hin 17 20 (by omega) (by omega) (by omega)) (hin 17 21 (by omega) (by omega) (by omega)) (hin 17 12 (by omega) (by omega) (by omega)) (hin 17 11 (by omega) (by omega) (by omega)) (hin 17 10 (by omega) (by omega) (by omega)) (hin 17 9 (by omega) (by omega) (by omega))).trans hsx_4466_9
    have f_4492 : F_4467 (ad 18) = rw7 G sx_4466_10 := (o_4484 (ad 18) (hin 18 150 (by omega) (by omega) (by omega)) (hin 18 19 (by omega) (by omega) (by omega)) (hin 18 20 (by omega) (by omega) (by omega)) (hin 18 21 (by omega) (by omega) (by omega)) (hin 18 12 (by omega) (by omega) (by omega)) (hin 18 11 (by omega) (by omega) (by omega)) (hin 18 10 (by omega) (by omega) (by omega)) (hin 18 9 (by omega) (by omega) (by omega))).trans hsx_4466_10
    have f_4493 : F_4467 (ad 0) = xO ad := (o_4484 (ad 0) (hin 0 150 (by omega) (by omega) (by omega)) (hin 0 19 (by omega) (by omega) (by omega)) (hin 0 20 (by omega) (by omega) (by omega)) (hin 0 21 (by omega) (by omega) (by omega)) (hin 0 12 (by omega) (by omega) (by omega)) (hin 0 11 (by omega) (by omega) (by omega)) (hin 0 10 (by omega) (by omega) (by omega)) (hin 0 9 (by omega) (by omega) (by omega))).trans fxx_4466
    have f_4494 : F_4467 (ad 134) = rw7 G ux_4466 := (o_4484 (ad 134) (hin 134 150 (by omega) (by omega) (by omega)) (hin 134 19 (by omega) (by omega) (by omega)) (hin 134 20 (by omega) (by omega) (by omega)) (hin 134 21 (by omega) (by omega) (by omega)) (hin 134 12 (by omega) (by omega) (by omega)) (hin 134 11 (by omega) (by omega) (by omega)) (hin 134 10 (by omega) (by omega) (by omega)) (hin 134 9 (by omega) (by omega) (by omega))).trans h134x_4466
    refine q_calli hw (q_runV (As := [.int (nI (0)), .int (nI (f9)), .int (nI (2))]) (c_X5_wayDiffers l G L F_4467 ad hL hin A 0 f9 2 ((m_cf ((A.1.2.2.2.2.2 0)) ((A.1.2.2.2.2.2 f9)) (A.1.1))) (by omega) (by omega) (by omega) (by omega) f_4469 (show XW G F_4467 ad A from ⟨f_4493, (hnx_4466.keep (fun i0 hi => (o_4484 (ad (i0)) (hin (i0) 150 (by omega) (by omega) (by omega)) (hin (i0) 19 (by omega) (by omega) (by omega)) (hin (i0) 20 (by omega) (by omega) (by omega)) (hin (i0) 21 (by omega) (by omega) (by omega)) (hin (i0) 12 (by omega) (by omega) (by omega)) (hin (i0) 11 (by omega) (by omega) (by omega)) (hin (i0) 10 (by omega) (by omega) (by omega)) (hin (i0) 9 (by omega) (by omega) (by omega))))), (hhx_4466.keep (fun i0 hi => (o_4484 (ad (i0)) (hin (i0) 150 (by omega) (by omega) (by omega)) (hin (i0) 19 (by omega) (by omega) (by omega)) (hin (i0) 20 (by omega) (by omega) (by omega)) (hin (i0) 21 (by omega) (by omega) (by omega)) (hin (i0) 12 (by omega) (by omega) (by omega)) (hin (i0) 11 (by omega) (by omega) (by omega)) (hin (i0) 10 (by omega) (by omega) (by omega)) (hin (i0) 9 (by omega) (by omega) (by omega))))), (hsnx_4466.keep (fun i0 hi => (o_4484 (ad (i0)) (hin (i0) 150 (by omega) (by omega) (by omega)) (hin (i0) 19 (by omega) (by omega) (by omega)) (hin (i0) 20 (by omega) (by omega) (by omega)) (hin (i0) 21 (by omega) (by omega) (by omega)) (hin (i0) 12 (by omega) (by omega) (by omega)) (hin (i0) 11 (by omega) (by omega) (by omega)) (hin (i0) 10 (by omega) (by omega) (by omega)) (hin (i0) 9 (by omega) (by omega) (by omega))))), (htxx_4466.keep (fun i0 hi => (o_4484 (ad (i0)) (hin (i0) 150 (by omega) (by omega) (by omega)) (hin (i0) 19 (by omega) (by omega) (by omega)) (hin (i0) 20 (by omega) (by omega) (by omega)) (hin (i0) 21 (by omega) (by omega) (by omega)) (hin (i0) 12 (by omega) (by omega) (by omega)) (hin (i0) 11 (by omega) (by omega) (by omega)) (hin (i0) 10 (by omega) (by omega) (by omega)) (hin (i0) 9 (by omega) (by omega) (by omega))))), ⟨f_4485, lt14 ⟨_, f_4486⟩ ⟨_, f_4476⟩ ⟨_, f_4475⟩ ⟨_, f_4474⟩ ⟨_, f_4473⟩ ⟨_, f_4487⟩ ⟨_, f_4488⟩ ⟨_, f_4489⟩ ⟨_, f_4490⟩ ⟨_, f_4491⟩ ⟨_, f_4492⟩ ⟨_, f_4470⟩ ⟨_, f_4471⟩ ⟨_, f_4472⟩⟩, ⟨_, f_4494⟩, ⟨_, f_4469⟩⟩) hA) C0 hw vw_X5_217 ((hL 0 (by omega))) f_4493 rfl rfl rfl hl.1 rfl (Nat.le_of_ble_eq_true rfl) dX5_hashLooks_130 ⟨by decide, by decide⟩ ⟨by decide, by decide⟩) rfl rfl (fun r_4497 F_4495 H locs hw hp_4496 => ?_)
    obtain ⟨h_4498, h_4499, h_4500, h_4501⟩ := hp_4496
    subst h_4498
    obtain ⟨fxx_4502, hnx_4502, hhx_4502, hsnx_4502, htxx_4502, hrkx_4502, ⟨ux_4502, h134x_4502⟩, ⟨vx_4502, h150x_4502⟩⟩ := id h_4499
    refine lv_i2l (v := (m_low (fun k => decide ((m_way (A.1.2.2.2.2.2 0) (A.1.2.2.2.2.2 f9) 2 A.1.1) k ≠ (m_cf ((A.1.2.2.2.2.2 0)) ((A.1.2.2.2.2.2 f9)) (A.1.1)) k))).toInt64) hx hb dX5_hashLooks_133 rfl ?_
    refine lv_ladd hx hb dX5_hashLooks_134 ?_
    refine lv_lstore (lv' := [(4, .long ((lN (31) * ((lN (31) * ((lN (31) * ((lN (31) * ((lN (31) * (h9)) + ((nI (m_val (A.1.2.2.2.2.2 f9) (zi (nI 3))).val).toInt64))) + ((nI (m_val (A.1.2.2.2.2.2 (6 + f9)) (zi (nI 3))).val).toInt64))) + ((lowR (m_br (A.1.2.2.2.2.2 f9) (A.1.2.2.2.2.2 0) A.1.1)).toInt64))) + ((m_low (fun k => decide ((m_sub (A.1.2.2.2.2.2 (6 + f9)) (A.1.2.2.2.2.2 (6 + 0)) A.1.1) k ≠ (m_sub (A.1.2.2.2.2.2 (6 + 0)) (A.1.2.2.2.2.2 (6 + f9)) A.1.1) k))).toInt64))) + ((m_low (fun k => decide ((m_way (A.1.2.2.2.2.2 0) (A.1.2.2.2.2.2 f9) 2 A.1.1) k ≠ (m_cf ((A.1.2.2.2.2.2 0)) ((A.1.2.2.2.2.2 f9)) (A.1.1)) k))).toInt64))), (6, .int (nI (2))), (0, .ref (ad 0)), (1, .long (h9)), (3, .int (nI (f9)))]) hx hb dX5_hashLooks_135 hl (by decide) rfl (fun ls hl => ?_)
    refine lv_iinc (v := nI 3) (lv' := [(6, .int (nI (3))), (4, .long ((lN (31) * ((lN (31) * ((lN (31) * ((lN (31) * ((lN (31) * (h9)) + ((nI (m_val (A.1.2.2.2.2.2 f9) (zi (nI 3))).val).toInt64))) + ((nI (m_val (A.1.2.2.2.2.2 (6 + f9)) (zi (nI 3))).val).toInt64))) + ((lowR (m_br (A.1.2.2.2.2.2 f9) (A.1.2.2.2.2.2 0) A.1.1)).toInt64))) + ((m_low (fun k => decide ((m_sub (A.1.2.2.2.2.2 (6 + f9)) (A.1.2.2.2.2.2 (6 + 0)) A.1.1) k ≠ (m_sub (A.1.2.2.2.2.2 (6 + 0)) (A.1.2.2.2.2.2 (6 + f9)) A.1.1) k))).toInt64))) + ((m_low (fun k => decide ((m_way (A.1.2.2.2.2.2 0) (A.1.2.2.2.2.2 f9) 2 A.1.1) k ≠ (m_cf ((A.1.2.2.2.2.2 0)) ((A.1.2.2.2.2.2 f9)) (A.1.1)) k))).toInt64))), (0, .ref (ad 0)), (1, .long (h9)), (3, .int (nI (f9)))]) hx hb dX5_hashLooks_137 hl (k := 1) rfl (by decide) (by decide) rfl (fun ls hl => ?_)
    refine lv_goto (tgt := 113) hx hb dX5_hashLooks_140 (by decide) ?_
    refine lv_iload hx hb dX5_hashLooks_113 (lv_at hl 0 rfl) ?_
    refine lv_iconst (v := nI 5) hx hb dX5_hashLooks_115 (by decide) ?_
    refine n_icmp_gt (tgt := 143) hx hb dX5_hashLooks_116 (by decide) (by decide) (by decide) (fun c_116 => ?_) (fun c_116 => ?_)
    · skip
      exact absurd c_116 (by omega)
    · skip
      refine lv_ldc2 (v := lN (31)) hx hb C0.ow (C0.ts _ kw_X5_253) dX5_hashLooks_119 ?_
      refine lv_lload hx hb dX5_hashLooks_122 (lv_at hl 1 rfl) ?_
      refine lv_lmul hx hb dX5_hashLooks_124 ?_
      refine lv_aload_n hx hb dX5_hashLooks_125 rfl (lv_at hl 2 rfl) ?_
      refine lv_iconst (v := nI 0) hx hb dX5_hashLooks_126 (by decide) ?_
      refine lv_iload_n hx hb dX5_hashLooks_127 rfl (lv_at hl 4 rfl) ?_
      refine lv_iload hx hb dX5_hashLooks_128 (lv_at hl 0 rfl) ?_
      refine q_calli hw (q_runV (As := [.int (nI (0)), .int (nI (f9)), .int (nI (3))]) (c_X5_wayDiffers l G L F_4495 ad hL hin A 0 f9 3 ((m_cf ((A.1.2.2.2.2.2 0)) ((A.1.2.2.2.2.2 f9)) (A.1.1))) (by omega) (by omega) (by omega) (by omega) h_4500 h_4499 hA) C0 hw vw_X5_217 ((hL 0 (by omega))) fxx_4502 rfl rfl rfl hl.1 rfl (Nat.le_of_ble_eq_true rfl) dX5_hashLooks_130 ⟨by decide, by decide⟩ ⟨by decide, by decide⟩) rfl rfl (fun r_4505 F_4503 H locs hw hp_4504 => ?_)
      obtain ⟨h_4506, h_4507, h_4508, h_4509⟩ := hp_4504
      subst h_4506
      obtain ⟨fxx_4510, hnx_4510, hhx_4510, hsnx_4510, htxx_4510, hrkx_4510, ⟨ux_4510, h134x_4510⟩, ⟨vx_4510, h150x_4510⟩⟩ := id h_4507
      refine lv_i2l (v := (m_low (fun k => decide ((m_way (A.1.2.2.2.2.2 0) (A.1.2.2.2.2.2 f9) 3 A.1.1) k ≠ (m_cf ((A.1.2.2.2.2.2 0)) ((A.1.2.2.2.2.2 f9)) (A.1.1)) k))).toInt64) hx hb dX5_hashLooks_133 rfl ?_
      refine lv_ladd hx hb dX5_hashLooks_134 ?_
      refine lv_lstore (lv' := [(4, .long ((lN (31) * ((lN (31) * ((lN (31) * ((lN (31) * ((lN (31) * ((lN (31) * (h9)) + ((nI (m_val (A.1.2.2.2.2.2 f9) (zi (nI 3))).val).toInt64))) + ((nI (m_val (A.1.2.2.2.2.2 (6 + f9)) (zi (nI 3))).val).toInt64))) + ((lowR (m_br (A.1.2.2.2.2.2 f9) (A.1.2.2.2.2.2 0) A.1.1)).toInt64))) + ((m_low (fun k => decide ((m_sub (A.1.2.2.2.2.2 (6 + f9)) (A.1.2.2.2.2.2 (6 + 0)) A.1.1) k ≠ (m_sub (A.1.2.2.2.2.2 (6 + 0)) (A.1.2.2.2.2.2 (6 + f9)) A.1.1) k))).toInt64))) + ((m_low (fun k => decide ((m_way (A.1.2.2.2.2.2 0) (A.1.2.2.2.2.2 f9) 2 A.1.1) k ≠ (m_cf ((A.1.2.2.2.2.2 0)) ((A.1.2.2.2.2.2 f9)) (A.1.1)) k))).toInt64))) + ((m_low (fun k => decide ((m_way (A.1.2.2.2.2.2 0) (A.1.2.2.2.2.2 f9) 3 A.1.1) k ≠ (m_cf ((A.1.2.2.2.2.2 0)) ((A.1.2.2.2.2.2 f9)) (A.1.1)) k))).toInt64))), (6, .int (nI (3))), (0, .ref (ad 0)), (1, .long (h9)), (3, .int (nI (f9)))]) hx hb dX5_hashLooks_135 hl (by decide) rfl (fun ls hl => ?_)
      refine lv_iinc (v := nI 4) (lv' := [(6, .int (nI (4))), (4, .long ((lN (31) * ((lN (31) * ((lN (31) * ((lN (31) * ((lN (31) * ((lN (31) * (h9)) + ((nI (m_val (A.1.2.2.2.2.2 f9) (zi (nI 3))).val).toInt64))) + ((nI (m_val (A.1.2.2.2.2.2 (6 + f9)) (zi (nI 3))).val).toInt64))) + ((lowR (m_br (A.1.2.2.2.2.2 f9) (A.1.2.2.2.2.2 0) A.1.1)).toInt64))) + ((m_low (fun k => decide ((m_sub (A.1.2.2.2.2.2 (6 + f9)) (A.1.2.2.2.2.2 (6 + 0)) A.1.1) k ≠ (m_sub (A.1.2.2.2.2.2 (6 + 0)) (A.1.2.2.2.2.2 (6 + f9)) A.1.1) k))).toInt64))) + ((m_low (fun k => decide ((m_way (A.1.2.2.2.2.2 0) (A.1.2.2.2.2.2 f9) 2 A.1.1) k ≠ (m_cf ((A.1.2.2.2.2.2 0)) ((A.1.2.2.2.2.2 f9)) (A.1.1)) k))).toInt64))) + ((m_low (fun k => decide ((m_way (A.1.2.2.2.2.2 0) (A.1.2.2.2.2.2 f9) 3 A.1.1) k ≠ (m_cf ((A.1.2.2.2.2.2 0)) ((A.1.2.2.2.2.2 f9)) (A.1.1)) k))).toInt64))), (0, .ref (ad 0)), (1, .long (h9)), (3, .int (nI (f9)))]) hx hb dX5_hashLooks_137 hl (k := 1) rfl (by decide) (by decide) rfl (fun ls hl => ?_)
      refine lv_goto (tgt := 113) hx hb dX5_hashLooks_140 (by decide) ?_
      refine lv_iload hx hb dX5_hashLooks_113 (lv_at hl 0 rfl) ?_
      refine lv_iconst (v := nI 5) hx hb dX5_hashLooks_115 (by decide) ?_
      refine n_icmp_gt (tgt := 143) hx hb dX5_hashLooks_116 (by decide) (by decide) (by decide) (fun c_116 => ?_) (fun c_116 => ?_)
      · skip
        exact absurd c_116 (by omega)
      · skip
        refine lv_ldc2 (v := lN (31)) hx hb C0.ow (C0.ts _ kw_X5_253) dX5_hashLooks_119 ?_
        refine lv_lload hx hb dX5_hashLooks_122 (lv_at hl 1 rfl) ?_
        refine lv_lmul hx hb dX5_hashLooks_124 ?_
        refine lv_aload_n hx hb dX5_hashLooks_125 rfl (lv_at hl 2 rfl) ?_
        refine lv_iconst (v := nI 0) hx hb dX5_hashLooks_126 (by decide) ?_
        refine lv_iload_n hx hb dX5_hashLooks_127 rfl (lv_at hl 4 rfl) ?_
        refine lv_iload hx hb dX5_hashLooks_128 (lv_at hl 0 rfl) ?_
        refine q_calli hw (q_runV (As := [.int (nI (0)), .int (nI (f9)), .int (nI (4))]) (c_X5_wayDiffers l G L F_4503 ad hL hin A 0 f9 4 ((m_cf ((A.1.2.2.2.2.2 0)) ((A.1.2.2.2.2.2 f9)) (A.1.1))) (by omega) (by omega) (by omega) (by omega) h_4508 h_4507 hA) C0 hw vw_X5_217 ((hL 0 (by omega))) fxx_4510 rfl rfl rfl hl.1 rfl (Nat.le_of_ble_eq_true rfl) dX5_hashLooks_130 ⟨by decide, by decide⟩ ⟨by decide, by decide⟩) rfl rfl (fun r_4513 F_4511 H locs hw hp_4512 => ?_)
        obtain ⟨h_4514, h_4515, h_4516, h_4517⟩ := hp_4512
        subst h_4514
        obtain ⟨fxx_4518, hnx_4518, hhx_4518, hsnx_4518, htxx_4518, hrkx_4518, ⟨ux_4518, h134x_4518⟩, ⟨vx_4518, h150x_4518⟩⟩ := id h_4515
        refine lv_i2l (v := (m_low (fun k => decide ((m_way (A.1.2.2.2.2.2 0) (A.1.2.2.2.2.2 f9) 4 A.1.1) k ≠ (m_cf ((A.1.2.2.2.2.2 0)) ((A.1.2.2.2.2.2 f9)) (A.1.1)) k))).toInt64) hx hb dX5_hashLooks_133 rfl ?_
        refine lv_ladd hx hb dX5_hashLooks_134 ?_
        refine lv_lstore (lv' := [(4, .long ((lN (31) * ((lN (31) * ((lN (31) * ((lN (31) * ((lN (31) * ((lN (31) * ((lN (31) * (h9)) + ((nI (m_val (A.1.2.2.2.2.2 f9) (zi (nI 3))).val).toInt64))) + ((nI (m_val (A.1.2.2.2.2.2 (6 + f9)) (zi (nI 3))).val).toInt64))) + ((lowR (m_br (A.1.2.2.2.2.2 f9) (A.1.2.2.2.2.2 0) A.1.1)).toInt64))) + ((m_low (fun k => decide ((m_sub (A.1.2.2.2.2.2 (6 + f9)) (A.1.2.2.2.2.2 (6 + 0)) A.1.1) k ≠ (m_sub (A.1.2.2.2.2.2 (6 + 0)) (A.1.2.2.2.2.2 (6 + f9)) A.1.1) k))).toInt64))) + ((m_low (fun k => decide ((m_way (A.1.2.2.2.2.2 0) (A.1.2.2.2.2.2 f9) 2 A.1.1) k ≠ (m_cf ((A.1.2.2.2.2.2 0)) ((A.1.2.2.2.2.2 f9)) (A.1.1)) k))).toInt64))) + ((m_low (fun k => decide ((m_way (A.1.2.2.2.2.2 0) (A.1.2.2.2.2.2 f9) 3 A.1.1) k ≠ (m_cf ((A.1.2.2.2.2.2 0)) ((A.1.2.2.2.2.2 f9)) (A.1.1)) k))).toInt64))) + ((m_low (fun k => decide ((m_way (A.1.2.2.2.2.2 0) (A.1.2.2.2.2.2 f9) 4 A.1.1) k ≠ (m_cf ((A.1.2.2.2.2.2 0)) ((A.1.2.2.2.2.2 f9)) (A.1.1)) k))).toInt64))), (6, .int (nI (4))), (0, .ref (ad 0)), (1, .long (h9)), (3, .int (nI (f9)))]) hx hb dX5_hashLooks_135 hl (by decide) rfl (fun ls hl => ?_)
        refine lv_iinc (v := nI 5) (lv' := [(6, .int (nI (5))), (4, .long ((lN (31) * ((lN (31) * ((lN (31) * ((lN (31) * ((lN (31) * ((lN (31) * ((lN (31) * (h9)) + ((nI (m_val (A.1.2.2.2.2.2 f9) (zi (nI 3))).val).toInt64))) + ((nI (m_val (A.1.2.2.2.2.2 (6 + f9)) (zi (nI 3))).val).toInt64))) + ((lowR (m_br (A.1.2.2.2.2.2 f9) (A.1.2.2.2.2.2 0) A.1.1)).toInt64))) + ((m_low (fun k => decide ((m_sub (A.1.2.2.2.2.2 (6 + f9)) (A.1.2.2.2.2.2 (6 + 0)) A.1.1) k ≠ (m_sub (A.1.2.2.2.2.2 (6 + 0)) (A.1.2.2.2.2.2 (6 + f9)) A.1.1) k))).toInt64))) + ((m_low (fun k => decide ((m_way (A.1.2.2.2.2.2 0) (A.1.2.2.2.2.2 f9) 2 A.1.1) k ≠ (m_cf ((A.1.2.2.2.2.2 0)) ((A.1.2.2.2.2.2 f9)) (A.1.1)) k))).toInt64))) + ((m_low (fun k => decide ((m_way (A.1.2.2.2.2.2 0) (A.1.2.2.2.2.2 f9) 3 A.1.1) k ≠ (m_cf ((A.1.2.2.2.2.2 0)) ((A.1.2.2.2.2.2 f9)) (A.1.1)) k))).toInt64))) + ((m_low (fun k => decide ((m_way (A.1.2.2.2.2.2 0) (A.1.2.2.2.2.2 f9) 4 A.1.1) k ≠ (m_cf ((A.1.2.2.2.2.2 0)) ((A.1.2.2.2.2.2 f9)) (A.1.1)) k))).toInt64))), (0, .ref (ad 0)), (1, .long (h9)), (3, .int (nI (f9)))]) hx hb dX5_hashLooks_137 hl (k := 1) rfl (by decide) (by decide) rfl (fun ls hl => ?_)
        refine lv_goto (tgt := 113) hx hb dX5_hashLooks_140 (by decide) ?_
        refine lv_iload hx hb dX5_hashLooks_113 (lv_at hl 0 rfl) ?_
        refine lv_iconst (v := nI 5) hx hb dX5_hashLooks_115 (by decide) ?_
        refine n_icmp_gt (tgt := 143) hx hb dX5_hashLooks_116 (by decide) (by decide) (by decide) (fun c_116 => ?_) (fun c_116 => ?_)
        · skip
          exact absurd c_116 (by omega)
        · skip
          refine lv_ldc2 (v := lN (31)) hx hb C0.ow (C0.ts _ kw_X5_253) dX5_hashLooks_119 ?_
          refine lv_lload hx hb dX5_hashLooks_122 (lv_at hl 1 rfl) ?_
          refine lv_lmul hx hb dX5_hashLooks_124 ?_
          refine lv_aload_n hx hb dX5_hashLooks_125 rfl (lv_at hl 2 rfl) ?_
          refine lv_iconst (v := nI 0) hx hb dX5_hashLooks_126 (by decide) ?_
          refine lv_iload_n hx hb dX5_hashLooks_127 rfl (lv_at hl 4 rfl) ?_
          refine lv_iload hx hb dX5_hashLooks_128 (lv_at hl 0 rfl) ?_
          refine q_calli hw (q_runV (As := [.int (nI (0)), .int (nI (f9)), .int (nI (5))]) (c_X5_wayDiffers l G L F_4511 ad hL hin A 0 f9 5 ((m_cf ((A.1.2.2.2.2.2 0)) ((A.1.2.2.2.2.2 f9)) (A.1.1))) (by omega) (by omega) (by omega) (by omega) h_4516 h_4515 hA) C0 hw vw_X5_217 ((hL 0 (by omega))) fxx_4518 rfl rfl rfl hl.1 rfl (Nat.le_of_ble_eq_true rfl) dX5_hashLooks_130 ⟨by decide, by decide⟩ ⟨by decide, by decide⟩) rfl rfl (fun r_4521 F_4519 H locs hw hp_4520 => ?_)
          obtain ⟨h_4522, h_4523, h_4524, h_4525⟩ := hp_4520
          subst h_4522
          obtain ⟨fxx_4526, hnx_4526, hhx_4526, hsnx_4526, htxx_4526, hrkx_4526, ⟨ux_4526, h134x_4526⟩, ⟨vx_4526, h150x_4526⟩⟩ := id h_4523
          refine lv_i2l (v := (m_low (fun k => decide ((m_way (A.1.2.2.2.2.2 0) (A.1.2.2.2.2.2 f9) 5 A.1.1) k ≠ (m_cf ((A.1.2.2.2.2.2 0)) ((A.1.2.2.2.2.2 f9)) (A.1.1)) k))).toInt64) hx hb dX5_hashLooks_133 rfl ?_
          refine lv_ladd hx hb dX5_hashLooks_134 ?_
          refine lv_lstore (lv' := [(4, .long ((lN (31) * ((lN (31) * ((lN (31) * ((lN (31) * ((lN (31) * ((lN (31) * ((lN (31) * ((lN (31) * (h9)) + ((nI (m_val (A.1.2.2.2.2.2 f9) (zi (nI 3))).val).toInt64))) + ((nI (m_val (A.1.2.2.2.2.2 (6 + f9)) (zi (nI 3))).val).toInt64))) + ((lowR (m_br (A.1.2.2.2.2.2 f9) (A.1.2.2.2.2.2 0) A.1.1)).toInt64))) + ((m_low (fun k => decide ((m_sub (A.1.2.2.2.2.2 (6 + f9)) (A.1.2.2.2.2.2 (6 + 0)) A.1.1) k ≠ (m_sub (A.1.2.2.2.2.2 (6 + 0)) (A.1.2.2.2.2.2 (6 + f9)) A.1.1) k))).toInt64))) + ((m_low (fun k => decide ((m_way (A.1.2.2.2.2.2 0) (A.1.2.2.2.2.2 f9) 2 A.1.1) k ≠ (m_cf ((A.1.2.2.2.2.2 0)) ((A.1.2.2.2.2.2 f9)) (A.1.1)) k))).toInt64))) + ((m_low (fun k => decide ((m_way (A.1.2.2.2.2.2 0) (A.1.2.2.2.2.2 f9) 3 A.1.1) k ≠ (m_cf ((A.1.2.2.2.2.2 0)) ((A.1.2.2.2.2.2 f9)) (A.1.1)) k))).toInt64))) + ((m_low (fun k => decide ((m_way (A.1.2.2.2.2.2 0) (A.1.2.2.2.2.2 f9) 4 A.1.1) k ≠ (m_cf ((A.1.2.2.2.2.2 0)) ((A.1.2.2.2.2.2 f9)) (A.1.1)) k))).toInt64))) + ((m_low (fun k => decide ((m_way (A.1.2.2.2.2.2 0) (A.1.2.2.2.2.2 f9) 5 A.1.1) k ≠ (m_cf ((A.1.2.2.2.2.2 0)) ((A.1.2.2.2.2.2 f9)) (A.1.1)) k))).toInt64))), (6, .int (nI (5))), (0, .ref (ad 0)), (1, .long (h9)), (3, .int (nI (f9)))]) hx hb dX5_hashLooks_135 hl (by decide) rfl (fun ls hl => ?_)
          refine lv_iinc (v := nI 6) (lv' := [(6, .int (nI (6))), (4, .long ((lN (31) * ((lN (31) * ((lN (31) * ((lN (31) * ((lN (31) * ((lN (31) * ((lN (31) * ((lN (31) * (h9)) + ((nI (m_val (A.1.2.2.2.2.2 f9) (zi (nI 3))).val).toInt64))) + ((nI (m_val (A.1.2.2.2.2.2 (6 + f9)) (zi (nI 3))).val).toInt64))) + ((lowR (m_br (A.1.2.2.2.2.2 f9) (A.1.2.2.2.2.2 0) A.1.1)).toInt64))) + ((m_low (fun k => decide ((m_sub (A.1.2.2.2.2.2 (6 + f9)) (A.1.2.2.2.2.2 (6 + 0)) A.1.1) k ≠ (m_sub (A.1.2.2.2.2.2 (6 + 0)) (A.1.2.2.2.2.2 (6 + f9)) A.1.1) k))).toInt64))) + ((m_low (fun k => decide ((m_way (A.1.2.2.2.2.2 0) (A.1.2.2.2.2.2 f9) 2 A.1.1) k ≠ (m_cf ((A.1.2.2.2.2.2 0)) ((A.1.2.2.2.2.2 f9)) (A.1.1)) k))).toInt64))) + ((m_low (fun k => decide ((m_way (A.1.2.2.2.2.2 0) (A.1.2.2.2.2.2 f9) 3 A.1.1) k ≠ (m_cf ((A.1.2.2.2.2.2 0)) ((A.1.2.2.2.2.2 f9)) (A.1.1)) k))).toInt64))) + ((m_low (fun k => decide ((m_way (A.1.2.2.2.2.2 0) (A.1.2.2.2.2.2 f9) 4 A.1.1) k ≠ (m_cf ((A.1.2.2.2.2.2 0)) ((A.1.2.2.2.2.2 f9)) (A.1.1)) k))).toInt64))) + ((m_low (fun k => decide ((m_way (A.1.2.2.2.2.2 0) (A.1.2.2.2.2.2 f9) 5 A.1.1) k ≠ (m_cf ((A.1.2.2.2.2.2 0)) ((A.1.2.2.2.2.2 f9)) (A.1.1)) k))).toInt64))), (0, .ref (ad 0)), (1, .long (h9)), (3, .int (nI (f9)))]) hx hb dX5_hashLooks_137 hl (k := 1) rfl (by decide) (by decide) rfl (fun ls hl => ?_)
          refine lv_goto (tgt := 113) hx hb dX5_hashLooks_140 (by decide) ?_
          refine lv_iload hx hb dX5_hashLooks_113 (lv_at hl 0 rfl) ?_
          refine lv_iconst (v := nI 5) hx hb dX5_hashLooks_115 (by decide) ?_
          refine n_icmp_gt (tgt := 143) hx hb dX5_hashLooks_116 (by decide) (by decide) (by decide) (fun c_116 => ?_) (fun c_116 => ?_)
          · skip
            refine lv_lload hx hb dX5_hashLooks_143 (lv_at hl 1 rfl) ?_
            exact r_l C0 hr hlk hw ⟨rfl, h_4523, (fun q hq => ((h_4525 q (fun i hS => hq i (by omega))).trans ((h_4517 q (fun i hS => hq i (by omega))).trans ((h_4509 q (fun i hS => hq i (by omega))).trans ((h_4501 q (fun i hS => hq i (by omega))).trans ((o_4484 q (hq 150 (by omega)) (hq 19 (by omega)) (hq 20 (by omega)) (hq 21 (by omega)) (hq 12 (by omega)) (hq 11 (by omega)) (hq 10 (by omega)) (hq 9 (by omega))).trans ((h_4465 q (fun i hS => hq i (by omega))).trans ((h_4458 q (fun i hS => hq i (by omega))).trans ((h_4451 q (fun i hS => hq i (by omega))).trans (h_4444 q (fun i hS => hq i (by omega))))))))))))⟩ (Nat.le_refl _) (Nat.le_refl _) dX5_hashLooks_145 hQ
          · skip
            exact absurd c_116 (by omega)
def dgC9 (A : AB) : Int64 := lN 31 * (lN 31 * (lN 31 * (lN 31 * (lN 31 * (lN 31 * (lN 31 * (lN 31 * (lN 31 * (lN 2473) + (nI (cntA A 0)).toInt64) + (nI (cntA A 1)).toInt64) + (nI (cntA A 2)).toInt64) + (nI (cntA A 3)).toInt64) + (nI (cntA A 4)).toInt64) + (nI (cntA A 5)).toInt64) + (nI (cntA A 6)).toInt64) + (nI (cntA A 7)).toInt64) + (nI (cntA A 8)).toInt64
def dgS1 (A : AB) : Int64 := hLk A 0 (hC (hC (dgC9 A) (A.1.2.2.2.2.2 0)) (A.1.2.2.2.2.2 (6 + 0)))
def dgS2 (A : AB) : Int64 := hLk A 1 (hC (hC (dgS1 A) (A.1.2.2.2.2.2 1)) (A.1.2.2.2.2.2 (6 + 1)))
def dgS3 (A : AB) : Int64 := hLk A 2 (hC (hC (dgS2 A) (A.1.2.2.2.2.2 2)) (A.1.2.2.2.2.2 (6 + 2)))
def dgS4 (A : AB) : Int64 := hLk A 3 (hC (hC (dgS3 A) (A.1.2.2.2.2.2 3)) (A.1.2.2.2.2.2 (6 + 3)))
def dgS5 (A : AB) : Int64 := hLk A 4 (hC (hC (dgS4 A) (A.1.2.2.2.2.2 4)) (A.1.2.2.2.2.2 (6 + 4)))
def dgS6 (A : AB) : Int64 := hLk A 5 (hC (hC (dgS5 A) (A.1.2.2.2.2.2 5)) (A.1.2.2.2.2.2 (6 + 5)))
def dgst (A : AB) : Int64 := hfN A.2.2.2 (lN 31 * dgS6 A + (dens (cfR A.1.2.2.2.2.2 6) A.1.1).toInt64) A.2.2.2.1
abbrev rm_X5_digest : Room := { frames := 6, cells := 0, slots := 0, locals := 149 }
set_option maxHeartbeats 4000000 in
set_option maxRecDepth 100000 in
theorem c_X5_digest (l : Launch) (G : Gl) (L : List Nat) (F : Nat → va_E) (ad : Nat → Nat) (hL : ∀ i, i < 166 → ad i ∈ L) (hin : ∀ i j, i < 166 → j < 166 → i ≠ j → ad i ≠ ad j) (A : AB) (hn9 : cfR A.1.2.2.2.2.2 6 ≤ 6 * (A.1.1 - 1)) (hX : XW G F ad A) (hA : okA A) : CL l yX5_digest cX5_digest 4 (some .long) rm_X5_digest G L F [.ref (ad 0)] (fun r F1 => r = dgst A ∧ XW G F1 ad A ∧ ∀ q, (∀ i, (i < 166) → q ≠ ad i) → F1 q = F q) := by
  have hX9 := hX
  obtain ⟨fx, hn, hh, hsn, htx, hrk, ⟨u9, h134⟩, ⟨v9, h150⟩⟩ := hX
  obtain ⟨⟨hc2, hc, hpu, hok⟩, ⟨hh6, hho⟩, hso, hl60, hco⟩ := id hA
  refine CG_of (by decide) (Nat.le_of_ble_eq_true rfl) rfl ?_
  intro p e s m args below meth c Q C0 hr hlk hnm hQ hw ls hl
  have hx := C0.x
  have hb := C0.b
  refine lv_ldc2 (v := lN (2473)) hx hb C0.ow (C0.ts _ kw_X5_251) dX5_digest_0 ?_
  refine lv_lstore_n (lv' := [(1, .long (lN 2473)), (0, .ref (ad 0))]) hx hb dX5_digest_3 rfl hl (by decide) rfl (fun ls hl => ?_)
  refine lv_iconst (v := nI 0) hx hb dX5_digest_4 (by decide) ?_
  refine lv_istore_n (lv' := [(3, .int (nI (0))), (1, .long (lN 2473)), (0, .ref (ad 0))]) hx hb dX5_digest_5 rfl hl (by decide) rfl (fun ls hl => ?_)
  refine lv_iload_n hx hb dX5_digest_6 rfl (lv_at hl 0 rfl) ?_
  refine lv_bipush (v := nI 9) hx hb dX5_digest_7 (by decide) ?_
  refine n_icmp_ge (tgt := 31) hx hb dX5_digest_9 (by decide) (by decide) (by decide) (fun c_9 => ?_) (fun c_9 => ?_)
  · skip
    exact absurd c_9 (by omega)
  · skip
    refine lv_ldc2 (v := lN (31)) hx hb C0.ow (C0.ts _ kw_X5_253) dX5_digest_12 ?_
    refine lv_lload_n hx hb dX5_digest_15 rfl (lv_at hl 1 rfl) ?_
    refine lv_lmul hx hb dX5_digest_16 ?_
    refine lv_aload_n hx hb dX5_digest_17 rfl (lv_at hl 2 rfl) ?_
    refine lv_iload_n hx hb dX5_digest_18 rfl (lv_at hl 0 rfl) ?_
    refine q_calli hw (q_runV (As := [.int (nI (0))]) (c_X5_count_0 l G L F ad hL hin A hX9 hA) C0 hw vw_X5_255 ((hL 0 (by omega))) fx rfl rfl rfl hl.1 rfl (Nat.le_of_ble_eq_true rfl) dX5_digest_19 ⟨by decide, by decide⟩ ⟨by decide, by decide⟩) rfl rfl (fun r_4529 F_4527 H locs hw hp_4528 => ?_)
    obtain ⟨he_4530, o_4531⟩ := hp_4528
    subst he_4530
    obtain rfl : F = F_4527 := (funext o_4531).symm
    refine lv_i2l (v := (nI (cntA A 0)).toInt64) hx hb dX5_digest_22 rfl ?_
    refine lv_ladd hx hb dX5_digest_23 ?_
    refine lv_lstore_n (lv' := [(1, .long ((lN (31) * (lN 2473)) + ((nI (cntA A 0)).toInt64))), (3, .int (nI (0))), (0, .ref (ad 0))]) hx hb dX5_digest_24 rfl hl (by decide) rfl (fun ls hl => ?_)
    refine lv_iinc (v := nI 1) (lv' := [(3, .int (nI (1))), (1, .long ((lN (31) * (lN 2473)) + ((nI (cntA A 0)).toInt64))), (0, .ref (ad 0))]) hx hb dX5_digest_25 hl (k := 1) rfl (by decide) (by decide) rfl (fun ls hl => ?_)
    refine lv_goto (tgt := 6) hx hb dX5_digest_28 (by decide) ?_
    refine lv_iload_n hx hb dX5_digest_6 rfl (lv_at hl 0 rfl) ?_
    refine lv_bipush (v := nI 9) hx hb dX5_digest_7 (by decide) ?_
    refine n_icmp_ge (tgt := 31) hx hb dX5_digest_9 (by decide) (by decide) (by decide) (fun c_9 => ?_) (fun c_9 => ?_)
    · skip
      exact absurd c_9 (by omega)
    · skip
      refine lv_ldc2 (v := lN (31)) hx hb C0.ow (C0.ts _ kw_X5_253) dX5_digest_12 ?_
      refine lv_lload_n hx hb dX5_digest_15 rfl (lv_at hl 1 rfl) ?_
      refine lv_lmul hx hb dX5_digest_16 ?_
      refine lv_aload_n hx hb dX5_digest_17 rfl (lv_at hl 2 rfl) ?_
      refine lv_iload_n hx hb dX5_digest_18 rfl (lv_at hl 0 rfl) ?_
      refine q_calli hw (q_runV (As := [.int (nI (1))]) (c_X5_count_1 l G L F ad hL hin A hX9 hA) C0 hw vw_X5_255 ((hL 0 (by omega))) fx rfl rfl rfl hl.1 rfl (Nat.le_of_ble_eq_true rfl) dX5_digest_19 ⟨by decide, by decide⟩ ⟨by decide, by decide⟩) rfl rfl (fun r_4534 F_4532 H locs hw hp_4533 => ?_)
      obtain ⟨he_4535, o_4536⟩ := hp_4533
      subst he_4535
      obtain rfl : F = F_4532 := (funext o_4536).symm
      refine lv_i2l (v := (nI (cntA A 1)).toInt64) hx hb dX5_digest_22 rfl ?_
      refine lv_ladd hx hb dX5_digest_23 ?_
      refine lv_lstore_n (lv' := [(1, .long ((lN (31) * ((lN (31) * (lN 2473)) + ((nI (cntA A 0)).toInt64))) + ((nI (cntA A 1)).toInt64))), (3, .int (nI (1))), (0, .ref (ad 0))]) hx hb dX5_digest_24 rfl hl (by decide) rfl (fun ls hl => ?_)
      refine lv_iinc (v := nI 2) (lv' := [(3, .int (nI (2))), (1, .long ((lN (31) * ((lN (31) * (lN 2473)) + ((nI (cntA A 0)).toInt64))) + ((nI (cntA A 1)).toInt64))), (0, .ref (ad 0))]) hx hb dX5_digest_25 hl (k := 1) rfl (by decide) (by decide) rfl (fun ls hl => ?_)
      refine lv_goto (tgt := 6) hx hb dX5_digest_28 (by decide) ?_
      refine lv_iload_n hx hb dX5_digest_6 rfl (lv_at hl 0 rfl) ?_
      refine lv_bipush (v := nI 9) hx hb dX5_digest_7 (by decide) ?_
      refine n_icmp_ge (tgt := 31) hx hb dX5_digest_9 (by decide) (by decide) (by decide) (fun c_9 => ?_) (fun c_9 => ?_)
      · skip
        exact absurd c_9 (by omega)
      · skip
        refine lv_ldc2 (v := lN (31)) hx hb C0.ow (C0.ts _ kw_X5_253) dX5_digest_12 ?_
        refine lv_lload_n hx hb dX5_digest_15 rfl (lv_at hl 1 rfl) ?_
        refine lv_lmul hx hb dX5_digest_16 ?_
        refine lv_aload_n hx hb dX5_digest_17 rfl (lv_at hl 2 rfl) ?_
        refine lv_iload_n hx hb dX5_digest_18 rfl (lv_at hl 0 rfl) ?_
        refine q_calli hw (q_runV (As := [.int (nI (2))]) (c_X5_count_2 l G L F ad hL hin A hX9 hA) C0 hw vw_X5_255 ((hL 0 (by omega))) fx rfl rfl rfl hl.1 rfl (Nat.le_of_ble_eq_true rfl) dX5_digest_19 ⟨by decide, by decide⟩ ⟨by decide, by decide⟩) rfl rfl (fun r_4539 F_4537 H locs hw hp_4538 => ?_)
        obtain ⟨he_4540, o_4541⟩ := hp_4538
        subst he_4540
        obtain rfl : F = F_4537 := (funext o_4541).symm
        refine lv_i2l (v := (nI (cntA A 2)).toInt64) hx hb dX5_digest_22 rfl ?_
        refine lv_ladd hx hb dX5_digest_23 ?_
        refine lv_lstore_n (lv' := [(1, .long ((lN (31) * ((lN (31) * ((lN (31) * (lN 2473)) + ((nI (cntA A 0)).toInt64))) + ((nI (cntA A 1)).toInt64))) + ((nI (cntA A 2)).toInt64))), (3, .int (nI (2))), (0, .ref (ad 0))]) hx hb dX5_digest_24 rfl hl (by decide) rfl (fun ls hl => ?_)
        refine lv_iinc (v := nI 3) (lv' := [(3, .int (nI (3))), (1, .long ((lN (31) * ((lN (31) * ((lN (31) * (lN 2473)) + ((nI (cntA A 0)).toInt64))) + ((nI (cntA A 1)).toInt64))) + ((nI (cntA A 2)).toInt64))), (0, .ref (ad 0))]) hx hb dX5_digest_25 hl (k := 1) rfl (by decide) (by decide) rfl (fun ls hl => ?_)
        refine lv_goto (tgt := 6) hx hb dX5_digest_28 (by decide) ?_
        refine lv_iload_n hx hb dX5_digest_6 rfl (lv_at hl 0 rfl) ?_
        refine lv_bipush (v := nI 9) hx hb dX5_digest_7 (by decide) ?_
        refine n_icmp_ge (tgt := 31) hx hb dX5_digest_9 (by decide) (by decide) (by decide) (fun c_9 => ?_) (fun c_9 => ?_)
        · skip
          exact absurd c_9 (by omega)
        · skip
          refine lv_ldc2 (v := lN (31)) hx hb C0.ow (C0.ts _ kw_X5_253) dX5_digest_12 ?_
          refine lv_lload_n hx hb dX5_digest_15 rfl (lv_at hl 1 rfl) ?_
          refine lv_lmul hx hb dX5_digest_16 ?_
          refine lv_aload_n hx hb dX5_digest_17 rfl (lv_at hl 2 rfl) ?_
          refine lv_iload_n hx hb dX5_digest_18 rfl (lv_at hl 0 rfl) ?_
          refine q_calli hw (q_runV (As := [.int (nI (3))]) (c_X5_count_3 l G L F ad hL hin A hX9 hA) C0 hw vw_X5_255 ((hL 0 (by omega))) fx rfl rfl rfl hl.1 rfl (Nat.le_of_ble_eq_true rfl) dX5_digest_19 ⟨by decide, by decide⟩ ⟨by decide, by decide⟩) rfl rfl (fun r_4544 F_4542 H locs hw hp_4543 => ?_)
          obtain ⟨he_4545, o_4546⟩ := hp_4543
          subst he_4545
          obtain rfl : F = F_4542 := (funext o_4546).symm
          refine lv_i2l (v := (nI (cntA A 3)).toInt64) hx hb dX5_digest_22 rfl ?_
          refine lv_ladd hx hb dX5_digest_23 ?_
          refine lv_lstore_n (lv' := [(1, .long ((lN (31) * ((lN (31) * ((lN (31) * ((lN (31) * (lN 2473)) + ((nI (cntA A 0)).toInt64))) + ((nI (cntA A 1)).toInt64))) + ((nI (cntA A 2)).toInt64))) + ((nI (cntA A 3)).toInt64))), (3, .int (nI (3))), (0, .ref (ad 0))]) hx hb dX5_digest_24 rfl hl (by decide) rfl (fun ls hl => ?_)
          refine lv_iinc (v := nI 4) (lv' := [(3, .int (nI (4))), (1, .long ((lN (31) * ((lN (31) * ((lN (31) * ((lN (31) * (lN 2473)) + ((nI (cntA A 0)).toInt64))) + ((nI (cntA A 1)).toInt64))) + ((nI (cntA A 2)).toInt64))) + ((nI (cntA A 3)).toInt64))), (0, .ref (ad 0))]) hx hb dX5_digest_25 hl (k := 1) rfl (by decide) (by decide) rfl (fun ls hl => ?_)
          refine lv_goto (tgt := 6) hx hb dX5_digest_28 (by decide) ?_
          refine lv_iload_n hx hb dX5_digest_6 rfl (lv_at hl 0 rfl) ?_
          refine lv_bipush (v := nI 9) hx hb dX5_digest_7 (by decide) ?_
          refine n_icmp_ge (tgt := 31) hx hb dX5_digest_9 (by decide) (by decide) (by decide) (fun c_9 => ?_) (fun c_9 => ?_)
          · skip
            exact absurd c_9 (by omega)
          · skip
            refine lv_ldc2 (v := lN (31)) hx hb C0.ow (C0.ts _ kw_X5_253) dX5_digest_12 ?_
            refine lv_lload_n hx hb dX5_digest_15 rfl (lv_at hl 1 rfl) ?_
            refine lv_lmul hx hb dX5_digest_16 ?_
            refine lv_aload_n hx hb dX5_digest_17 rfl (lv_at hl 2 rfl) ?_
            refine lv_iload_n hx hb dX5_digest_18 rfl (lv_at hl 0 rfl) ?_
            refine q_calli hw (q_runV (As := [.int (nI (4))]) (c_X5_count_4 l G L F ad hL hin A hX9 hA) C0 hw vw_X5_255 ((hL 0 (by omega))) fx rfl rfl rfl hl.1 rfl (Nat.le_of_ble_eq_true rfl) dX5_digest_19 ⟨by decide, by decide⟩ ⟨by decide, by decide⟩) rfl rfl (fun r_4549 F_4547 H locs hw hp_4548 => ?_)
            obtain ⟨he_4550, o_4551⟩ := hp_4548
            subst he_4550
            obtain rfl : F = F_4547 := (funext o_4551).symm
            refine lv_i2l (v := (nI (cntA A 4)).toInt64) hx hb dX5_digest_22 rfl ?_
            refine lv_ladd hx hb dX5_digest_23 ?_
            refine lv_lstore_n (lv' := [(1, .long ((lN (31) * ((lN (31) * ((lN (31) * ((lN (31) * ((lN (31) * (lN 2473)) + ((nI (cntA A 0)).toInt64))) + ((nI (cntA A 1)).toInt64))) + ((nI (cntA A 2)).toInt64))) + ((nI (cntA A 3)).toInt64))) + ((nI (cntA A 4)).toInt64))), (3, .int (nI (4))), (0, .ref (ad 0))]) hx hb dX5_digest_24 rfl hl (by decide) rfl (fun ls hl => ?_)
            refine lv_iinc (v := nI 5) (lv' := [(3, .int (nI (5))), (1, .long ((lN (31) * ((lN (31) * ((lN (31) * ((lN (31) * ((lN (31) * (lN 2473)) + ((nI (cntA A 0)).toInt64))) + ((nI (cntA A 1)).toInt64))) + ((nI (cntA A 2)).toInt64))) + ((nI (cntA A 3)).toInt64))) + ((nI (cntA A 4)).toInt64))), (0, .ref (ad 0))]) hx hb dX5_digest_25 hl (k := 1) rfl (by decide) (by decide) rfl (fun ls hl => ?_)
            refine lv_goto (tgt := 6) hx hb dX5_digest_28 (by decide) ?_
            refine lv_iload_n hx hb dX5_digest_6 rfl (lv_at hl 0 rfl) ?_
            refine lv_bipush (v := nI 9) hx hb dX5_digest_7 (by decide) ?_
            refine n_icmp_ge (tgt := 31) hx hb dX5_digest_9 (by decide) (by decide) (by decide) (fun c_9 => ?_) (fun c_9 => ?_)
            · skip
              exact absurd c_9 (by omega)
            · skip
              refine lv_ldc2 (v := lN (31)) hx hb C0.ow (C0.ts _ kw_X5_253) dX5_digest_12 ?_
              refine lv_lload_n hx hb dX5_digest_15 rfl (lv_at hl 1 rfl) ?_
              refine lv_lmul hx hb dX5_digest_16 ?_
              refine lv_aload_n hx hb dX5_digest_17 rfl (lv_at hl 2 rfl) ?_
              refine lv_iload_n hx hb dX5_digest_18 rfl (lv_at hl 0 rfl) ?_
              refine q_calli hw (q_runV (As := [.int (nI (5))]) (c_X5_count_5 l G L F ad hL hin A hX9 hA) C0 hw vw_X5_255 ((hL 0 (by omega))) fx rfl rfl rfl hl.1 rfl (Nat.le_of_ble_eq_true rfl) dX5_digest_19 ⟨by decide, by decide⟩ ⟨by decide, by decide⟩) rfl rfl (fun r_4554 F_4552 H locs hw hp_4553 => ?_)
              obtain ⟨he_4555, o_4556⟩ := hp_4553
              subst he_4555
              obtain rfl : F = F_4552 := (funext o_4556).symm
              refine lv_i2l (v := (nI (cntA A 5)).toInt64) hx hb dX5_digest_22 rfl ?_
              refine lv_ladd hx hb dX5_digest_23 ?_
              refine lv_lstore_n (lv' := [(1, .long ((lN (31) * ((lN (31) * ((lN (31) * ((lN (31) * ((lN (31) * ((lN (31) * (lN 2473)) + ((nI (cntA A 0)).toInt64))) + ((nI (cntA A 1)).toInt64))) + ((nI (cntA A 2)).toInt64))) + ((nI (cntA A 3)).toInt64))) + ((nI (cntA A 4)).toInt64))) + ((nI (cntA A 5)).toInt64))), (3, .int (nI (5))), (0, .ref (ad 0))]) hx hb dX5_digest_24 rfl hl (by decide) rfl (fun ls hl => ?_)
              refine lv_iinc (v := nI 6) (lv' := [(3, .int (nI (6))), (1, .long ((lN (31) * ((lN (31) * ((lN (31) * ((lN (31) * ((lN (31) * ((lN (31) * (lN 2473)) + ((nI (cntA A 0)).toInt64))) + ((nI (cntA A 1)).toInt64))) + ((nI (cntA A 2)).toInt64))) + ((nI (cntA A 3)).toInt64))) + ((nI (cntA A 4)).toInt64))) + ((nI (cntA A 5)).toInt64))), (0, .ref (ad 0))]) hx hb dX5_digest_25 hl (k := 1) rfl (by decide) (by decide) rfl (fun ls hl => ?_)
              refine lv_goto (tgt := 6) hx hb dX5_digest_28 (by decide) ?_
              refine lv_iload_n hx hb dX5_digest_6 rfl (lv_at hl 0 rfl) ?_
              refine lv_bipush (v := nI 9) hx hb dX5_digest_7 (by decide) ?_
              refine n_icmp_ge (tgt := 31) hx hb dX5_digest_9 (by decide) (by decide) (by decide) (fun c_9 => ?_) (fun c_9 => ?_)
              · skip
                exact absurd c_9 (by omega)
              · skip
                refine lv_ldc2 (v := lN (31)) hx hb C0.ow (C0.ts _ kw_X5_253) dX5_digest_12 ?_
                refine lv_lload_n hx hb dX5_digest_15 rfl (lv_at hl 1 rfl) ?_
                refine lv_lmul hx hb dX5_digest_16 ?_
                refine lv_aload_n hx hb dX5_digest_17 rfl (lv_at hl 2 rfl) ?_
                refine lv_iload_n hx hb dX5_digest_18 rfl (lv_at hl 0 rfl) ?_
                refine q_calli hw (q_runV (As := [.int (nI (6))]) (c_X5_count_6 l G L F ad hL hin A hX9 hA) C0 hw vw_X5_255 ((hL 0 (by omega))) fx rfl rfl rfl hl.1 rfl (Nat.le_of_ble_eq_true rfl) dX5_digest_19 ⟨by decide, by decide⟩ ⟨by decide, by decide⟩) rfl rfl (fun r_4559 F_4557 H locs hw hp_4558 => ?_)
                obtain ⟨he_4560, o_4561⟩ := hp_4558
                subst he_4560
                obtain rfl : F = F_4557 := (funext o_4561).symm
                refine lv_i2l (v := (nI (cntA A 6)).toInt64) hx hb dX5_digest_22 rfl ?_
                refine lv_ladd hx hb dX5_digest_23 ?_
                refine lv_lstore_n (lv' := [(1, .long ((lN (31) * ((lN (31) * ((lN (31) * ((lN (31) * ((lN (31) * ((lN (31) * ((lN (31) * (lN 2473)) + ((nI (cntA A 0)).toInt64))) + ((nI (cntA A 1)).toInt64))) + ((nI (cntA A 2)).toInt64))) + ((nI (cntA A 3)).toInt64))) + ((nI (cntA A 4)).toInt64))) + ((nI (cntA A 5)).toInt64))) + ((nI (cntA A 6)).toInt64))), (3, .int (nI (6))), (0, .ref (ad 0))]) hx hb dX5_digest_24 rfl hl (by decide) rfl (fun ls hl => ?_)
                refine lv_iinc (v := nI 7) (lv' := [(3, .int (nI (7))), (1, .long ((lN (31) * ((lN (31) * ((lN (31) * ((lN (31) * ((lN (31) * ((lN (31) * ((lN (31) * (lN 2473)) + ((nI (cntA A 0)).toInt64))) + ((nI (cntA A 1)).toInt64))) + ((nI (cntA A 2)).toInt64))) + ((nI (cntA A 3)).toInt64))) + ((nI (cntA A 4)).toInt64))) + ((nI (cntA A 5)).toInt64))) + ((nI (cntA A 6)).toInt64))), (0, .ref (ad 0))]) hx hb dX5_digest_25 hl (k := 1) rfl (by decide) (by decide) rfl (fun ls hl => ?_)
                refine lv_goto (tgt := 6) hx hb dX5_digest_28 (by decide) ?_
                refine lv_iload_n hx hb dX5_digest_6 rfl (lv_at hl 0 rfl) ?_
                refine lv_bipush (v := nI 9) hx hb dX5_digest_7 (by decide) ?_
                refine n_icmp_ge (tgt := 31) hx hb dX5_digest_9 (by decide) (by decide) (by decide) (fun c_9 => ?_) (fun c_9 => ?_)
                · skip
                  exact absurd c_9 (by omega)
                · skip
                  refine lv_ldc2 (v := lN (31)) hx hb C0.ow (C0.ts _ kw_X5_253) dX5_digest_12 ?_
                  refine lv_lload_n hx hb dX5_digest_15 rfl (lv_at hl 1 rfl) ?_
                  refine lv_lmul hx hb dX5_digest_16 ?_
                  refine lv_aload_n hx hb dX5_digest_17 rfl (lv_at hl 2 rfl) ?_
                  refine lv_iload_n hx hb dX5_digest_18 rfl (lv_at hl 0 rfl) ?_
                  refine q_calli hw (q_runV (As := [.int (nI (7))]) (c_X5_count_7 l G L F ad hL hin A hX9 hA) C0 hw vw_X5_255 ((hL 0 (by omega))) fx rfl rfl rfl hl.1 rfl (Nat.le_of_ble_eq_true rfl) dX5_digest_19 ⟨by decide, by decide⟩ ⟨by decide, by decide⟩) rfl rfl (fun r_4564 F_4562 H locs hw hp_4563 => ?_)
                  obtain ⟨he_4565, o_4566⟩ := hp_4563
                  subst he_4565
                  obtain rfl : F = F_4562 := (funext o_4566).symm
                  refine lv_i2l (v := (nI (cntA A 7)).toInt64) hx hb dX5_digest_22 rfl ?_
                  refine lv_ladd hx hb dX5_digest_23 ?_
                  refine lv_lstore_n (lv' := [(1, .long ((lN (31) * ((lN (31) * ((lN (31) * ((lN (31) * ((lN (31) * ((lN (31) * ((lN (31) * ((lN (31) * (lN 2473)) + ((nI (cntA A 0)).toInt64))) + ((nI (cntA A 1)).toInt64))) + ((nI (cntA A 2)).toInt64))) + ((nI (cntA A 3)).toInt64))) + ((nI (cntA A 4)).toInt64))) + ((nI (cntA A 5)).toInt64))) + ((nI (cntA A 6)).toInt64))) + ((nI (cntA A 7)).toInt64))), (3, .int (nI (7))), (0, .ref (ad 0))]) hx hb dX5_digest_24 rfl hl (by decide) rfl (fun ls hl => ?_)
                  refine lv_iinc (v := nI 8) (lv' := [(3, .int (nI (8))), (1, .long ((lN (31) * ((lN (31) * ((lN (31) * ((lN (31) * ((lN (31) * ((lN (31) * ((lN (31) * ((lN (31) * (lN 2473)) + ((nI (cntA A 0)).toInt64))) + ((nI (cntA A 1)).toInt64))) + ((nI (cntA A 2)).toInt64))) + ((nI (cntA A 3)).toInt64))) + ((nI (cntA A 4)).toInt64))) + ((nI (cntA A 5)).toInt64))) + ((nI (cntA A 6)).toInt64))) + ((nI (cntA A 7)).toInt64))), (0, .ref (ad 0))]) hx hb dX5_digest_25 hl (k := 1) rfl (by decide) (by decide) rfl (fun ls hl => ?_)
                  refine lv_goto (tgt := 6) hx hb dX5_digest_28 (by decide) ?_
                  refine lv_iload_n hx hb dX5_digest_6 rfl (lv_at hl 0 rfl) ?_
                  refine lv_bipush (v := nI 9) hx hb dX5_digest_7 (by decide) ?_
                  refine n_icmp_ge (tgt := 31) hx hb dX5_digest_9 (by decide) (by decide) (by decide) (fun c_9 => ?_) (fun c_9 => ?_)
                  · skip
                    exact absurd c_9 (by omega)
                  · skip
                    refine lv_ldc2 (v := lN (31)) hx hb C0.ow (C0.ts _ kw_X5_253) dX5_digest_12 ?_
                    refine lv_lload_n hx hb dX5_digest_15 rfl (lv_at hl 1 rfl) ?_
                    refine lv_lmul hx hb dX5_digest_16 ?_
                    refine lv_aload_n hx hb dX5_digest_17 rfl (lv_at hl 2 rfl) ?_
                    refine lv_iload_n hx hb dX5_digest_18 rfl (lv_at hl 0 rfl) ?_
                    refine q_calli hw (q_runV (As := [.int (nI (8))]) (c_X5_count_8 l G L F ad hL hin A hX9 hA) C0 hw vw_X5_255 ((hL 0 (by omega))) fx rfl rfl rfl hl.1 rfl (Nat.le_of_ble_eq_true rfl) dX5_digest_19 ⟨by decide, by decide⟩ ⟨by decide, by decide⟩) rfl rfl (fun r_4569 F_4567 H locs hw hp_4568 => ?_)
                    obtain ⟨he_4570, o_4571⟩ := hp_4568
                    subst he_4570
                    obtain rfl : F = F_4567 := (funext o_4571).symm
                    refine lv_i2l (v := (nI (cntA A 8)).toInt64) hx hb dX5_digest_22 rfl ?_
                    refine lv_ladd hx hb dX5_digest_23 ?_
                    refine lv_lstore_n (lv' := [(1, .long ((lN (31) * ((lN (31) * ((lN (31) * ((lN (31) * ((lN (31) * ((lN (31) * ((lN (31) * ((lN (31) * ((lN (31) * (lN 2473)) + ((nI (cntA A 0)).toInt64))) + ((nI (cntA A 1)).toInt64))) + ((nI (cntA A 2)).toInt64))) + ((nI (cntA A 3)).toInt64))) + ((nI (cntA A 4)).toInt64))) + ((nI (cntA A 5)).toInt64))) + ((nI (cntA A 6)).toInt64))) + ((nI (cntA A 7)).toInt64))) + ((nI (cntA A 8)).toInt64))), (3, .int (nI (8))), (0, .ref (ad 0))]) hx hb dX5_digest_24 rfl hl (by decide) rfl (fun ls hl => ?_)
                    refine lv_iinc (v := nI 9) (lv' := [(3, .int (nI (9))), (1, .long ((lN (31) * ((lN (31) * ((lN (31) * ((lN (31) * ((lN (31) * ((lN (31) * ((lN (31) * ((lN (31) * ((lN (31) * (lN 2473)) + ((nI (cntA A 0)).toInt64))) + ((nI (cntA A 1)).toInt64))) + ((nI (cntA A 2)).toInt64))) + ((nI (cntA A 3)).toInt64))) + ((nI (cntA A 4)).toInt64))) + ((nI (cntA A 5)).toInt64))) + ((nI (cntA A 6)).toInt64))) + ((nI (cntA A 7)).toInt64))) + ((nI (cntA A 8)).toInt64))), (0, .ref (ad 0))]) hx hb dX5_digest_25 hl (k := 1) rfl (by decide) (by decide) rfl (fun ls hl => ?_)
                    refine lv_goto (tgt := 6) hx hb dX5_digest_28 (by decide) ?_
                    refine lv_iload_n hx hb dX5_digest_6 rfl (lv_at hl 0 rfl) ?_
                    refine lv_bipush (v := nI 9) hx hb dX5_digest_7 (by decide) ?_
                    refine n_icmp_ge (tgt := 31) hx hb dX5_digest_9 (by decide) (by decide) (by decide) (fun c_9 => ?_) (fun c_9 => ?_)
                    · skip
                      have hl : lv_has ls 4 [(3, .int (nI (9))), (1, .long (dgC9 A)), (0, .ref (ad 0))] := hl
                      refine lv_iconst (v := nI 0) hx hb dX5_digest_31 (by decide) ?_
                      refine lv_istore_n (lv' := [(3, .int (nI (0))), (1, .long (dgC9 A)), (0, .ref (ad 0))]) hx hb dX5_digest_32 rfl hl (by decide) rfl (fun ls hl => ?_)
                      refine lv_iload_n hx hb dX5_digest_33 rfl (lv_at hl 0 rfl) ?_
                      refine lv_bipush (v := nI 6) hx hb dX5_digest_34 (by decide) ?_
                      refine n_icmp_ge (tgt := 86) hx hb dX5_digest_36 (by decide) (by decide) (by decide) (fun c_36 => ?_) (fun c_36 => ?_)
                      · skip
                        exact absurd c_36 (by omega)
                      · skip
                        refine lv_lload_n hx hb dX5_digest_39 rfl (lv_at hl 1 rfl) ?_
                        refine lv_aload_n hx hb dX5_digest_40 rfl (lv_at hl 2 rfl) ?_
                        refine q_get C0 hw ((hL 0 (by omega))) fx fw_X5_12 rfl dX5_digest_41 ?_
                        refine q_get C0 hw ((hL 22 (by omega))) hn.1 fw_X5_66 rfl dX5_digest_44 ?_
                        refine q_get C0 hw ((hL 23 (by omega))) hn.2.1 fw_X5_85 rfl dX5_digest_47 ?_
                        refine lv_iload_n hx hb dX5_digest_50 rfl (lv_at hl 0 rfl) ?_
                        refine q_aaldi C0 hw ((hL 24 (by omega))) hn.2.2.1 (0) (by omega) (by decide) (b := ad (26 + 0)) rfl dX5_digest_51 ?_
                        refine q_calll hw (q_runS (As := [.long (dgC9 A), .ref (ad (26 + 0))]) (c_X5_hashCoefficients l G L F (dgC9 A) (ad (26 + 0)) ((A.1.2.2.2.2.2 0)) ((hL (26 + 0) (by omega))) ((hn.2.2.2.2 0 (by omega)))) C0 hw sw_X5_258 rfl hl.1 rfl (Nat.le_of_ble_eq_true rfl) dX5_digest_52 ⟨by decide, by decide⟩ ⟨by decide, by decide⟩) rfl rfl (fun r_4574 F_4572 H locs hw hp_4573 => ?_)
                        obtain ⟨he_4575, o_4576⟩ := hp_4573
                        subst he_4575
                        obtain rfl : F = F_4572 := (funext o_4576).symm
                        refine lv_lstore_n (lv' := [(1, .long (hC (dgC9 A) ((A.1.2.2.2.2.2 0)))), (3, .int (nI (0))), (0, .ref (ad 0))]) hx hb dX5_digest_55 rfl hl (by decide) rfl (fun ls hl => ?_)
                        refine lv_lload_n hx hb dX5_digest_56 rfl (lv_at hl 0 rfl) ?_
                        refine lv_aload_n hx hb dX5_digest_57 rfl (lv_at hl 2 rfl) ?_
                        refine q_get C0 hw ((hL 0 (by omega))) fx fw_X5_12 rfl dX5_digest_58 ?_
                        refine q_get C0 hw ((hL 22 (by omega))) hn.1 fw_X5_66 rfl dX5_digest_61 ?_
                        refine q_get C0 hw ((hL 23 (by omega))) hn.2.1 fw_X5_93 rfl dX5_digest_64 ?_
                        refine lv_iload_n hx hb dX5_digest_67 rfl (lv_at hl 1 rfl) ?_
                        refine q_aaldi C0 hw ((hL 25 (by omega))) hn.2.2.2.1 (0) (by omega) (by decide) (b := ad (32 + 0)) rfl dX5_digest_68 ?_
                        refine q_calll hw (q_runS (As := [.long (hC (dgC9 A) ((A.1.2.2.2.2.2 0))), .ref (ad (32 + 0))]) (c_X5_hashCoefficients l G L F (hC (dgC9 A) ((A.1.2.2.2.2.2 0))) (ad (32 + 0)) ((A.1.2.2.2.2.2 (6 + 0))) ((hL (32 + 0) (by omega))) ((show F (ad (32 + 0)) = _ from by have h9 := hn.2.2.2.2 (6 + 0) (by omega); rwa [show 22 + 4 + (6 + 0) = 32 + 0 by omega] at h9))) C0 hw sw_X5_258 rfl hl.1 rfl (Nat.le_of_ble_eq_true rfl) dX5_digest_69 ⟨by decide, by decide⟩ ⟨by decide, by decide⟩) rfl rfl (fun r_4579 F_4577 H locs hw hp_4578 => ?_)
                        obtain ⟨he_4580, o_4581⟩ := hp_4578
                        subst he_4580
                        obtain rfl : F = F_4577 := (funext o_4581).symm
                        refine lv_lstore_n (lv' := [(1, .long (hC (hC (dgC9 A) ((A.1.2.2.2.2.2 0))) ((A.1.2.2.2.2.2 (6 + 0))))), (3, .int (nI (0))), (0, .ref (ad 0))]) hx hb dX5_digest_72 rfl hl (by decide) rfl (fun ls hl => ?_)
                        refine lv_aload_n hx hb dX5_digest_73 rfl (lv_at hl 2 rfl) ?_
                        refine lv_lload_n hx hb dX5_digest_74 rfl (lv_at hl 0 rfl) ?_
                        refine lv_iload_n hx hb dX5_digest_75 rfl (lv_at hl 1 rfl) ?_
                        refine q_calll hw (q_runV (As := [.long (hC (hC (dgC9 A) ((A.1.2.2.2.2.2 0))) ((A.1.2.2.2.2.2 (6 + 0)))), .int (nI (0))]) (c_X5_hashLooks l G L F ad hL hin A (hC (hC (dgC9 A) ((A.1.2.2.2.2.2 0))) ((A.1.2.2.2.2.2 (6 + 0)))) 0 (by decide) hX9 hA) C0 hw vw_X5_262 ((hL 0 (by omega))) fx rfl rfl rfl hl.1 rfl (Nat.le_of_ble_eq_true rfl) dX5_digest_76 ⟨by decide, by decide⟩ ⟨by decide, by decide⟩) rfl rfl (fun r_4584 F_4582 H locs hw hp_4583 => ?_)
                        obtain ⟨h_4585, h_4586, h_4587⟩ := hp_4583
                        subst h_4585
                        obtain ⟨fxx_4588, hnx_4588, hhx_4588, hsnx_4588, htxx_4588, hrkx_4588, ⟨ux_4588, h134x_4588⟩, ⟨vx_4588, h150x_4588⟩⟩ := id h_4586
                        refine lv_lstore_n (lv' := [(1, .long (hLk A 0 (hC (hC (dgC9 A) ((A.1.2.2.2.2.2 0))) ((A.1.2.2.2.2.2 (6 + 0)))))), (3, .int (nI (0))), (0, .ref (ad 0))]) hx hb dX5_digest_79 rfl hl (by decide) rfl (fun ls hl => ?_)
                        have hl : lv_has ls 4 [(1, .long (dgS1 A)), (3, .int (nI (0))), (0, .ref (ad 0))] := hl
                        refine lv_iinc (v := nI 1) (lv' := [(3, .int (nI (1))), (1, .long (dgS1 A)), (0, .ref (ad 0))]) hx hb dX5_digest_80 hl (k := 1) rfl (by decide) (by decide) rfl (fun ls hl => ?_)
                        refine lv_goto (tgt := 33) hx hb dX5_digest_83 (by decide) ?_
                        refine lv_iload_n hx hb dX5_digest_33 rfl (lv_at hl 0 rfl) ?_
                        refine lv_bipush (v := nI 6) hx hb dX5_digest_34 (by decide) ?_
                        refine n_icmp_ge (tgt := 86) hx hb dX5_digest_36 (by decide) (by decide) (by decide) (fun c_36 => ?_) (fun c_36 => ?_)
                        · skip
                          exact absurd c_36 (by omega)
                        · skip
                          refine lv_lload_n hx hb dX5_digest_39 rfl (lv_at hl 1 rfl) ?_
                          refine lv_aload_n hx hb dX5_digest_40 rfl (lv_at hl 2 rfl) ?_
                          refine q_get C0 hw ((hL 0 (by omega))) fxx_4588 fw_X5_12 rfl dX5_digest_41 ?_
                          refine q_get C0 hw ((hL 22 (by omega))) hnx_4588.1 fw_X5_66 rfl dX5_digest_44 ?_
                          refine q_get C0 hw ((hL 23 (by omega))) hnx_4588.2.1 fw_X5_85 rfl dX5_digest_47 ?_
                          refine lv_iload_n hx hb dX5_digest_50 rfl (lv_at hl 0 rfl) ?_
                          refine q_aaldi C0 hw ((hL 24 (by omega))) hnx_4588.2.2.1 (1) (by omega) (by decide) (b := ad (26 + 1)) rfl dX5_digest_51 ?_
                          refine q_calll hw (q_runS (As := [.long (dgS1 A), .ref (ad (26 + 1))]) (c_X5_hashCoefficients l G L F_4582 (dgS1 A) (ad (26 + 1)) ((A.1.2.2.2.2.2 1)) ((hL (26 + 1) (by omega))) ((hnx_4588.2.2.2.2 1 (by omega)))) C0 hw sw_X5_258 rfl hl.1 rfl (Nat.le_of_ble_eq_true rfl) dX5_digest_52 ⟨by decide, by decide⟩ ⟨by decide, by decide⟩) rfl rfl (fun r_4591 F_4589 H locs hw hp_4590 => ?_)
                          obtain ⟨he_4592, o_4593⟩ := hp_4590
                          subst he_4592
                          obtain rfl : F_4582 = F_4589 := (funext o_4593).symm
                          refine lv_lstore_n (lv' := [(1, .long (hC (dgS1 A) ((A.1.2.2.2.2.2 1)))), (3, .int (nI (1))), (0, .ref (ad 0))]) hx hb dX5_digest_55 rfl hl (by decide) rfl (fun ls hl => ?_)
                          refine lv_lload_n hx hb dX5_digest_56 rfl (lv_at hl 0 rfl) ?_
                          refine lv_aload_n hx hb dX5_digest_57 rfl (lv_at hl 2 rfl) ?_
                          refine q_get C0 hw ((hL 0 (by omega))) fxx_4588 fw_X5_12 rfl dX5_digest_58 ?_
                          refine q_get C0 hw ((hL 22 (by omega))) hnx_4588.1 fw_X5_66 rfl dX5_digest_61 ?_
                          refine q_get C0 hw ((hL 23 (by omega))) hnx_4588.2.1 fw_X5_93 rfl dX5_digest_64 ?_
                          refine lv_iload_n hx hb dX5_digest_67 rfl (lv_at hl 1 rfl) ?_
                          refine q_aaldi C0 hw ((hL 25 (by omega))) hnx_4588.2.2.2.1 (1) (by omega) (by decide) (b := ad (32 + 1)) rfl dX5_digest_68 ?_
                          refine q_calll hw (q_runS (As := [.long (hC (dgS1 A) ((A.1.2.2.2.2.2 1))), .ref (ad (32 + 1))]) (c_X5_hashCoefficients l G L F_4582 (hC (dgS1 A) ((A.1.2.2.2.2.2 1))) (ad (32 + 1)) ((A.1.2.2.2.2.2 (6 + 1))) ((hL (32 + 1) (by omega))) ((show F_4582 (ad (32 + 1)) = _ from by have h9 := hnx_4588.2.2.2.2 (6 + 1) (by omega); rwa [show 22 + 4 + (6 + 1) = 32 + 1 by omega] at h9))) C0 hw sw_X5_258 rfl hl.1 rfl (Nat.le_of_ble_eq_true rfl) dX5_digest_69 ⟨by decide, by decide⟩ ⟨by decide, by decide⟩) rfl rfl (fun r_4596 F_4594 H locs hw hp_4595 => ?_)
                          obtain ⟨he_4597, o_4598⟩ := hp_4595
                          subst he_4597
                          obtain rfl : F_4582 = F_4594 := (funext o_4598).symm
                          refine lv_lstore_n (lv' := [(1, .long (hC (hC (dgS1 A) ((A.1.2.2.2.2.2 1))) ((A.1.2.2.2.2.2 (6 + 1))))), (3, .int (nI (1))), (0, .ref (ad 0))]) hx hb dX5_digest_72 rfl hl (by decide) rfl (fun ls hl => ?_)
                          refine lv_aload_n hx hb dX5_digest_73 rfl (lv_at hl 2 rfl) ?_
                          refine lv_lload_n hx hb dX5_digest_74 rfl (lv_at hl 0 rfl) ?_
                          refine lv_iload_n hx hb dX5_digest_75 rfl (lv_at hl 1 rfl) ?_
                          refine q_calll hw (q_runV (As := [.long (hC (hC (dgS1 A) ((A.1.2.2.2.2.2 1))) ((A.1.2.2.2.2.2 (6 + 1)))), .int (nI (1))]) (c_X5_hashLooks l G L F_4582 ad hL hin A (hC (hC (dgS1 A) ((A.1.2.2.2.2.2 1))) ((A.1.2.2.2.2.2 (6 + 1)))) 1 (by decide) h_4586 hA) C0 hw vw_X5_262 ((hL 0 (by omega))) fxx_4588 rfl rfl rfl hl.1 rfl (Nat.le_of_ble_eq_true rfl) dX5_digest_76 ⟨by decide, by decide⟩ ⟨by decide, by decide⟩) rfl rfl (fun r_4601 F_4599 H locs hw hp_4600 => ?_)
                          obtain ⟨h_4602, h_4603, h_4604⟩ := hp_4600
                          subst h_4602
                          obtain ⟨fxx_4605, hnx_4605, hhx_4605, hsnx_4605, htxx_4605, hrkx_4605, ⟨ux_4605, h134x_4605⟩, ⟨vx_4605, h150x_4605⟩⟩ := id h_4603
                          refine lv_lstore_n (lv' := [(1, .long (hLk A 1 (hC (hC (dgS1 A) ((A.1.2.2.2.2.2 1))) ((A.1.2.2.2.2.2 (6 + 1)))))), (3, .int (nI (1))), (0, .ref (ad 0))]) hx hb dX5_digest_79 rfl hl (by decide) rfl (fun ls hl => ?_)
                          have hl : lv_has ls 4 [(1, .long (dgS2 A)), (3, .int (nI (1))), (0, .ref (ad 0))] := hl
                          refine lv_iinc (v := nI 2) (lv' := [(3, .int (nI (2))), (1, .long (dgS2 A)), (0, .ref (ad 0))]) hx hb dX5_digest_80 hl (k := 1) rfl (by decide) (by decide) rfl (fun ls hl => ?_)
                          refine lv_goto (tgt := 33) hx hb dX5_digest_83 (by decide) ?_
                          refine lv_iload_n hx hb dX5_digest_33 rfl (lv_at hl 0 rfl) ?_
                          refine lv_bipush (v := nI 6) hx hb dX5_digest_34 (by decide) ?_
                          refine n_icmp_ge (tgt := 86) hx hb dX5_digest_36 (by decide) (by decide) (by decide) (fun c_36 => ?_) (fun c_36 => ?_)
                          · skip
                            exact absurd c_36 (by omega)
                          · skip
                            refine lv_lload_n hx hb dX5_digest_39 rfl (lv_at hl 1 rfl) ?_
                            refine lv_aload_n hx hb dX5_digest_40 rfl (lv_at hl 2 rfl) ?_
                            refine q_get C0 hw ((hL 0 (by omega))) fxx_4605 fw_X5_12 rfl dX5_digest_41 ?_
                            refine q_get C0 hw ((hL 22 (by omega))) hnx_4605.1 fw_X5_66 rfl dX5_digest_44 ?_
                            refine q_get C0 hw ((hL 23 (by omega))) hnx_4605.2.1 fw_X5_85 rfl dX5_digest_47 ?_
                            refine lv_iload_n hx hb dX5_digest_50 rfl (lv_at hl 0 rfl) ?_
                            refine q_aaldi C0 hw ((hL 24 (by omega))) hnx_4605.2.2.1 (2) (by omega) (by decide) (b := ad (26 + 2)) rfl dX5_digest_51 ?_
                            refine q_calll hw (q_runS (As := [.long (dgS2 A), .ref (ad (26 + 2))]) (c_X5_hashCoefficients l G L F_4599 (dgS2 A) (ad (26 + 2)) ((A.1.2.2.2.2.2 2)) ((hL (26 + 2) (by omega))) ((hnx_4605.2.2.2.2 2 (by omega)))) C0 hw sw_X5_258 rfl hl.1 rfl (Nat.le_of_ble_eq_true rfl) dX5_digest_52 ⟨by decide, by decide⟩ ⟨by decide, by decide⟩) rfl rfl (fun r_4608 F_4606 H locs hw hp_4607 => ?_)
                            obtain ⟨he_4609, o_4610⟩ := hp_4607
                            subst he_4609
                            obtain rfl : F_4599 = F_4606 := (funext o_4610).symm
                            refine lv_lstore_n (lv' := [(1, .long (hC (dgS2 A) ((A.1.2.2.2.2.2 2)))), (3, .int (nI (2))), (0, .ref (ad 0))]) hx hb dX5_digest_55 rfl hl (by decide) rfl (fun ls hl => ?_)
                            refine lv_lload_n hx hb dX5_digest_56 rfl (lv_at hl 0 rfl) ?_
                            refine lv_aload_n hx hb dX5_digest_57 rfl (lv_at hl 2 rfl) ?_
                            refine q_get C0 hw ((hL 0 (by omega))) fxx_4605 fw_X5_12 rfl dX5_digest_58 ?_
                            refine q_get C0 hw ((hL 22 (by omega))) hnx_4605.1 fw_X5_66 rfl dX5_digest_61 ?_
                            refine q_get C0 hw ((hL 23 (by omega))) hnx_4605.2.1 fw_X5_93 rfl dX5_digest_64 ?_
                            refine lv_iload_n hx hb dX5_digest_67 rfl (lv_at hl 1 rfl) ?_
                            refine q_aaldi C0 hw ((hL 25 (by omega))) hnx_4605.2.2.2.1 (2) (by omega) (by decide) (b := ad (32 + 2)) rfl dX5_digest_68 ?_
                            refine q_calll hw (q_runS (As := [.long (hC (dgS2 A) ((A.1.2.2.2.2.2 2))), .ref (ad (32 + 2))]) (c_X5_hashCoefficients l G L F_4599 (hC (dgS2 A) ((A.1.2.2.2.2.2 2))) (ad (32 + 2)) ((A.1.2.2.2.2.2 (6 + 2))) ((hL (32 + 2) (by omega))) ((show F_4599 (ad (32 + 2)) = _ from by have h9 := hnx_4605.2.2.2.2 (6 + 2) (by omega); rwa [show 22 + 4 + (6 + 2) = 32 + 2 by omega] at h9))) C0 hw sw_X5_258 rfl hl.1 rfl (Nat.le_of_ble_eq_true rfl) dX5_digest_69 ⟨by decide, by decide⟩ ⟨by decide, by decide⟩) rfl rfl (fun r_4613 F_4611 H locs hw hp_4612 => ?_)
                            obtain ⟨he_4614, o_4615⟩ := hp_4612
                            subst he_4614
                            obtain rfl : F_4599 = F_4611 := (funext o_4615).symm
                            refine lv_lstore_n (lv' := [(1, .long (hC (hC (dgS2 A) ((A.1.2.2.2.2.2 2))) ((A.1.2.2.2.2.2 (6 + 2))))), (3, .int (nI (2))), (0, .ref (ad 0))]) hx hb dX5_digest_72 rfl hl (by decide) rfl (fun ls hl => ?_)
                            refine lv_aload_n hx hb dX5_digest_73 rfl (lv_at hl 2 rfl) ?_
                            refine lv_lload_n hx hb dX5_digest_74 rfl (lv_at hl 0 rfl) ?_
                            refine lv_iload_n hx hb dX5_digest_75 rfl (lv_at hl 1 rfl) ?_
                            refine q_calll hw (q_runV (As := [.long (hC (hC (dgS2 A) ((A.1.2.2.2.2.2 2))) ((A.1.2.2.2.2.2 (6 + 2)))), .int (nI (2))]) (c_X5_hashLooks l G L F_4599 ad hL hin A (hC (hC (dgS2 A) ((A.1.2.2.2.2.2 2))) ((A.1.2.2.2.2.2 (6 + 2)))) 2 (by decide) h_4603 hA) C0 hw vw_X5_262 ((hL 0 (by omega))) fxx_4605 rfl rfl rfl hl.1 rfl (Nat.le_of_ble_eq_true rfl) dX5_digest_76 ⟨by decide, by decide⟩ ⟨by decide, by decide⟩) rfl rfl (fun r_4618 F_4616 H locs hw hp_4617 => ?_)
                            obtain ⟨h_4619, h_4620, h_4621⟩ := hp_4617
                            subst h_4619
                            obtain ⟨fxx_4622, hnx_4622, hhx_4622, hsnx_4622, htxx_4622, hrkx_4622, ⟨ux_4622, h134x_4622⟩, ⟨vx_4622, h150x_4622⟩⟩ := id h_4620
                            refine lv_lstore_n (lv' := [(1, .long (hLk A 2 (hC (hC (dgS2 A) ((A.1.2.2.2.2.2 2))) ((A.1.2.2.2.2.2 (6 + 2)))))), (3, .int (nI (2))), (0, .ref (ad 0))]) hx hb dX5_digest_79 rfl hl (by decide) rfl (fun ls hl => ?_)
                            have hl : lv_has ls 4 [(1, .long (dgS3 A)), (3, .int (nI (2))), (0, .ref (ad 0))] := hl
                            refine lv_iinc (v := nI 3) (lv' := [(3, .int (nI (3))), (1, .long (dgS3 A)), (0, .ref (ad 0))]) hx hb dX5_digest_80 hl (k := 1) rfl (by decide) (by decide) rfl (fun ls hl => ?_)
                            refine lv_goto (tgt := 33) hx hb dX5_digest_83 (by decide) ?_
                            refine lv_iload_n hx hb dX5_digest_33 rfl (lv_at hl 0 rfl) ?_
                            refine lv_bipush (v := nI 6) hx hb dX5_digest_34 (by decide) ?_
                            refine n_icmp_ge (tgt := 86) hx hb dX5_digest_36 (by decide) (by decide) (by decide) (fun c_36 => ?_) (fun c_36 => ?_)
                            · skip
                              exact absurd c_36 (by omega)
                            · skip
                              refine lv_lload_n hx hb dX5_digest_39 rfl (lv_at hl 1 rfl) ?_
                              refine lv_aload_n hx hb dX5_digest_40 rfl (lv_at hl 2 rfl) ?_
                              refine q_get C0 hw ((hL 0 (by omega))) fxx_4622 fw_X5_12 rfl dX5_digest_41 ?_
                              refine q_get C0 hw ((hL 22 (by omega))) hnx_4622.1 fw_X5_66 rfl dX5_digest_44 ?_
                              refine q_get C0 hw ((hL 23 (by omega))) hnx_4622.2.1 fw_X5_85 rfl dX5_digest_47 ?_
                              refine lv_iload_n hx hb dX5_digest_50 rfl (lv_at hl 0 rfl) ?_
                              refine q_aaldi C0 hw ((hL 24 (by omega))) hnx_4622.2.2.1 (3) (by omega) (by decide) (b := ad (26 + 3)) rfl dX5_digest_51 ?_
                              refine q_calll hw (q_runS (As := [.long (dgS3 A), .ref (ad (26 + 3))]) (c_X5_hashCoefficients l G L F_4616 (dgS3 A) (ad (26 + 3)) ((A.1.2.2.2.2.2 3)) ((hL (26 + 3) (by omega))) ((hnx_4622.2.2.2.2 3 (by omega)))) C0 hw sw_X5_258 rfl hl.1 rfl (Nat.le_of_ble_eq_true rfl) dX5_digest_52 ⟨by decide, by decide⟩ ⟨by decide, by decide⟩) rfl rfl (fun r_4625 F_4623 H locs hw hp_4624 => ?_)
                              obtain ⟨he_4626, o_4627⟩ := hp_4624
                              subst he_4626
                              obtain rfl : F_4616 = F_4623 := (funext o_4627).symm
                              refine lv_lstore_n (lv' := [(1, .long (hC (dgS3 A) ((A.1.2.2.2.2.2 3)))), (3, .int (nI (3))), (0, .ref (ad 0))]) hx hb dX5_digest_55 rfl hl (by decide) rfl (fun ls hl => ?_)
                              refine lv_lload_n hx hb dX5_digest_56 rfl (lv_at hl 0 rfl) ?_
                              refine lv_aload_n hx hb dX5_digest_57 rfl (lv_at hl 2 rfl) ?_
                              refine q_get C0 hw ((hL 0 (by omega))) fxx_4622 fw_X5_12 rfl dX5_digest_58 ?_
                              refine q_get C0 hw ((hL 22 (by omega))) hnx_4622.1 fw_X5_66 rfl dX5_digest_61 ?_
                              refine q_get C0 hw ((hL 23 (by omega))) hnx_4622.2.1 fw_X5_93 rfl dX5_digest_64 ?_
                              refine lv_iload_n hx hb dX5_digest_67 rfl (lv_at hl 1 rfl) ?_
                              refine q_aaldi C0 hw ((hL 25 (by omega))) hnx_4622.2.2.2.1 (3) (by omega) (by decide) (b := ad (32 + 3)) rfl dX5_digest_68 ?_
                              refine q_calll hw (q_runS (As := [.long (hC (dgS3 A) ((A.1.2.2.2.2.2 3))), .ref (ad (32 + 3))]) (c_X5_hashCoefficients l G L F_4616 (hC (dgS3 A) ((A.1.2.2.2.2.2 3))) (ad (32 + 3)) ((A.1.2.2.2.2.2 (6 + 3))) ((hL (32 + 3) (by omega))) ((show F_4616 (ad (32 + 3)) = _ from by have h9 := hnx_4622.2.2.2.2 (6 + 3) (by omega); rwa [show 22 + 4 + (6 + 3) = 32 + 3 by omega] at h9))) C0 hw sw_X5_258 rfl hl.1 rfl (Nat.le_of_ble_eq_true rfl) dX5_digest_69 ⟨by decide, by decide⟩ ⟨by decide, by decide⟩) rfl rfl (fun r_4630 F_4628 H locs hw hp_4629 => ?_)
                              obtain ⟨he_4631, o_4632⟩ := hp_4629
                              subst he_4631
                              obtain rfl : F_4616 = F_4628 := (funext o_4632).symm
                              refine lv_lstore_n (lv' := [(1, .long (hC (hC (dgS3 A) ((A.1.2.2.2.2.2 3))) ((A.1.2.2.2.2.2 (6 + 3))))), (3, .int (nI (3))), (0, .ref (ad 0))]) hx hb dX5_digest_72 rfl hl (by decide) rfl (fun ls hl => ?_)
                              refine lv_aload_n hx hb dX5_digest_73 rfl (lv_at hl 2 rfl) ?_
                              refine lv_lload_n hx hb dX5_digest_74 rfl (lv_at hl 0 rfl) ?_
                              refine lv_iload_n hx hb dX5_digest_75 rfl (lv_at hl 1 rfl) ?_
                              refine q_calll hw (q_runV (As := [.long (hC (hC (dgS3 A) ((A.1.2.2.2.2.2 3))) ((A.1.2.2.2.2.2 (6 + 3)))), .int (nI (3))]) (c_X5_hashLooks l G L F_4616 ad hL hin A (hC (hC (dgS3 A) ((A.1.2.2.2.2.2 3))) ((A.1.2.2.2.2.2 (6 + 3)))) 3 (by decide) h_4620 hA) C0 hw vw_X5_262 ((hL 0 (by omega))) fxx_4622 rfl rfl rfl hl.1 rfl (Nat.le_of_ble_eq_true rfl) dX5_digest_76 ⟨by decide, by decide⟩ ⟨by decide, by decide⟩) rfl rfl (fun r_4635 F_4633 H locs hw hp_4634 => ?_)
                              obtain ⟨h_4636, h_4637, h_4638⟩ := hp_4634
                              subst h_4636
                              obtain ⟨fxx_4639, hnx_4639, hhx_4639, hsnx_4639, htxx_4639, hrkx_4639, ⟨ux_4639, h134x_4639⟩, ⟨vx_4639, h150x_4639⟩⟩ := id h_4637
                              refine lv_lstore_n (lv' := [(1, .long (hLk A 3 (hC (hC (dgS3 A) ((A.1.2.2.2.2.2 3))) ((A.1.2.2.2.2.2 (6 + 3)))))), (3, .int (nI (3))), (0, .ref (ad 0))]) hx hb dX5_digest_79 rfl hl (by decide) rfl (fun ls hl => ?_)
                              have hl : lv_has ls 4 [(1, .long (dgS4 A)), (3, .int (nI (3))), (0, .ref (ad 0))] := hl
                              refine lv_iinc (v := nI 4) (lv' := [(3, .int (nI (4))), (1, .long (dgS4 A)), (0, .ref (ad 0))]) hx hb dX5_digest_80 hl (k := 1) rfl (by decide) (by decide) rfl (fun ls hl => ?_)
                              refine lv_goto (tgt := 33) hx hb dX5_digest_83 (by decide) ?_
                              refine lv_iload_n hx hb dX5_digest_33 rfl (lv_at hl 0 rfl) ?_
                              refine lv_bipush (v := nI 6) hx hb dX5_digest_34 (by decide) ?_
                              refine n_icmp_ge (tgt := 86) hx hb dX5_digest_36 (by decide) (by decide) (by decide) (fun c_36 => ?_) (fun c_36 => ?_)
                              · skip
                                exact absurd c_36 (by omega)
                              · skip
                                refine lv_lload_n hx hb dX5_digest_39 rfl (lv_at hl 1 rfl) ?_
                                refine lv_aload_n hx hb dX5_digest_40 rfl (lv_at hl 2 rfl) ?_
                                refine q_get C0 hw ((hL 0 (by omega))) fxx_4639 fw_X5_12 rfl dX5_digest_41 ?_
                                refine q_get C0 hw ((hL 22 (by omega))) hnx_4639.1 fw_X5_66 rfl dX5_digest_44 ?_
                                refine q_get C0 hw ((hL 23 (by omega))) hnx_4639.2.1 fw_X5_85 rfl dX5_digest_47 ?_
                                refine lv_iload_n hx hb dX5_digest_50 rfl (lv_at hl 0 rfl) ?_
                                refine q_aaldi C0 hw ((hL 24 (by omega))) hnx_4639.2.2.1 (4) (by omega) (by decide) (b := ad (26 + 4)) rfl dX5_digest_51 ?_
                                refine q_calll hw (q_runS (As := [.long (dgS4 A), .ref (ad (26 + 4))]) (c_X5_hashCoefficients l G L F_4633 (dgS4 A) (ad (26 + 4)) ((A.1.2.2.2.2.2 4)) ((hL (26 + 4) (by omega))) ((hnx_4639.2.2.2.2 4 (by omega)))) C0 hw sw_X5_258 rfl hl.1 rfl (Nat.le_of_ble_eq_true rfl) dX5_digest_52 ⟨by decide, by decide⟩ ⟨by decide, by decide⟩) rfl rfl (fun r_4642 F_4640 H locs hw hp_4641 => ?_)
                                obtain ⟨he_4643, o_4644⟩ := hp_4641
                                subst he_4643
                                obtain rfl : F_4633 = F_4640 := (funext o_4644).symm
                                refine lv_lstore_n (lv' := [(1, .long (hC (dgS4 A) ((A.1.2.2.2.2.2 4)))), (3, .int (nI (4))), (0, .ref (ad 0))]) hx hb dX5_digest_55 rfl hl (by decide) rfl (fun ls hl => ?_)
                                refine lv_lload_n hx hb dX5_digest_56 rfl (lv_at hl 0 rfl) ?_
                                refine lv_aload_n hx hb dX5_digest_57 rfl (lv_at hl 2 rfl) ?_
                                refine q_get C0 hw ((hL 0 (by omega))) fxx_4639 fw_X5_12 rfl dX5_digest_58 ?_
                                refine q_get C0 hw ((hL 22 (by omega))) hnx_4639.1 fw_X5_66 rfl dX5_digest_61 ?_
                                refine q_get C0 hw ((hL 23 (by omega))) hnx_4639.2.1 fw_X5_93 rfl dX5_digest_64 ?_
                                refine lv_iload_n hx hb dX5_digest_67 rfl (lv_at hl 1 rfl) ?_
                                refine q_aaldi C0 hw ((hL 25 (by omega))) hnx_4639.2.2.2.1 (4) (by omega) (by decide) (b := ad (32 + 4)) rfl dX5_digest_68 ?_
                                refine q_calll hw (q_runS (As := [.long (hC (dgS4 A) ((A.1.2.2.2.2.2 4))), .ref (ad (32 + 4))]) (c_X5_hashCoefficients l G L F_4633 (hC (dgS4 A) ((A.1.2.2.2.2.2 4))) (ad (32 + 4)) ((A.1.2.2.2.2.2 (6 + 4))) ((hL (32 + 4) (by omega))) ((show F_4633 (ad (32 + 4)) = _ from by have h9 := hnx_4639.2.2.2.2 (6 + 4) (by omega); rwa [show 22 + 4 + (6 + 4) = 32 + 4 by omega] at h9))) C0 hw sw_X5_258 rfl hl.1 rfl (Nat.le_of_ble_eq_true rfl) dX5_digest_69 ⟨by decide, by decide⟩ ⟨by decide, by decide⟩) rfl rfl (fun r_4647 F_4645 H locs hw hp_4646 => ?_)
                                obtain ⟨he_4648, o_4649⟩ := hp_4646
                                subst he_4648
                                obtain rfl : F_4633 = F_4645 := (funext o_4649).symm
                                refine lv_lstore_n (lv' := [(1, .long (hC (hC (dgS4 A) ((A.1.2.2.2.2.2 4))) ((A.1.2.2.2.2.2 (6 + 4))))), (3, .int (nI (4))), (0, .ref (ad 0))]) hx hb dX5_digest_72 rfl hl (by decide) rfl (fun ls hl => ?_)
                                refine lv_aload_n hx hb dX5_digest_73 rfl (lv_at hl 2 rfl) ?_
                                refine lv_lload_n hx hb dX5_digest_74 rfl (lv_at hl 0 rfl) ?_
                                refine lv_iload_n hx hb dX5_digest_75 rfl (lv_at hl 1 rfl) ?_
                                refine q_calll hw (q_runV (As := [.long (hC (hC (dgS4 A) ((A.1.2.2.2.2.2 4))) ((A.1.2.2.2.2.2 (6 + 4)))), .int (nI (4))]) (c_X5_hashLooks l G L F_4633 ad hL hin A (hC (hC (dgS4 A) ((A.1.2.2.2.2.2 4))) ((A.1.2.2.2.2.2 (6 + 4)))) 4 (by decide) h_4637 hA) C0 hw vw_X5_262 ((hL 0 (by omega))) fxx_4639 rfl rfl rfl hl.1 rfl (Nat.le_of_ble_eq_true rfl) dX5_digest_76 ⟨by decide, by decide⟩ ⟨by decide, by decide⟩) rfl rfl (fun r_4652 F_4650 H locs hw hp_4651 => ?_)
                                obtain ⟨h_4653, h_4654, h_4655⟩ := hp_4651
                                subst h_4653
                                obtain ⟨fxx_4656, hnx_4656, hhx_4656, hsnx_4656, htxx_4656, hrkx_4656, ⟨ux_4656, h134x_4656⟩, ⟨vx_4656, h150x_4656⟩⟩ := id h_4654
                                refine lv_lstore_n (lv' := [(1, .long (hLk A 4 (hC (hC (dgS4 A) ((A.1.2.2.2.2.2 4))) ((A.1.2.2.2.2.2 (6 + 4)))))), (3, .int (nI (4))), (0, .ref (ad 0))]) hx hb dX5_digest_79 rfl hl (by decide) rfl (fun ls hl => ?_)
                                have hl : lv_has ls 4 [(1, .long (dgS5 A)), (3, .int (nI (4))), (0, .ref (ad 0))] := hl
                                refine lv_iinc (v := nI 5) (lv' := [(3, .int (nI (5))), (1, .long (dgS5 A)), (0, .ref (ad 0))]) hx hb dX5_digest_80 hl (k := 1) rfl (by decide) (by decide) rfl (fun ls hl => ?_)
                                refine lv_goto (tgt := 33) hx hb dX5_digest_83 (by decide) ?_
                                refine lv_iload_n hx hb dX5_digest_33 rfl (lv_at hl 0 rfl) ?_
                                refine lv_bipush (v := nI 6) hx hb dX5_digest_34 (by decide) ?_
                                refine n_icmp_ge (tgt := 86) hx hb dX5_digest_36 (by decide) (by decide) (by decide) (fun c_36 => ?_) (fun c_36 => ?_)
                                · skip
                                  exact absurd c_36 (by omega)
                                · skip
                                  refine lv_lload_n hx hb dX5_digest_39 rfl (lv_at hl 1 rfl) ?_
                                  refine lv_aload_n hx hb dX5_digest_40 rfl (lv_at hl 2 rfl) ?_
                                  refine q_get C0 hw ((hL 0 (by omega))) fxx_4656 fw_X5_12 rfl dX5_digest_41 ?_
                                  refine q_get C0 hw ((hL 22 (by omega))) hnx_4656.1 fw_X5_66 rfl dX5_digest_44 ?_
                                  refine q_get C0 hw ((hL 23 (by omega))) hnx_4656.2.1 fw_X5_85 rfl dX5_digest_47 ?_
                                  refine lv_iload_n hx hb dX5_digest_50 rfl (lv_at hl 0 rfl) ?_
                                  refine q_aaldi C0 hw ((hL 24 (by omega))) hnx_4656.2.2.1 (5) (by omega) (by decide) (b := ad (26 + 5)) rfl dX5_digest_51 ?_
                                  refine q_calll hw (q_runS (As := [.long (dgS5 A), .ref (ad (26 + 5))]) (c_X5_hashCoefficients l G L F_4650 (dgS5 A) (ad (26 + 5)) ((A.1.2.2.2.2.2 5)) ((hL (26 + 5) (by omega))) ((hnx_4656.2.2.2.2 5 (by omega)))) C0 hw sw_X5_258 rfl hl.1 rfl (Nat.le_of_ble_eq_true rfl) dX5_digest_52 ⟨by decide, by decide⟩ ⟨by decide, by decide⟩) rfl rfl (fun r_4659 F_4657 H locs hw hp_4658 => ?_)
                                  obtain ⟨he_4660, o_4661⟩ := hp_4658
                                  subst he_4660
                                  obtain rfl : F_4650 = F_4657 := (funext o_4661).symm
                                  refine lv_lstore_n (lv' := [(1, .long (hC (dgS5 A) ((A.1.2.2.2.2.2 5)))), (3, .int (nI (5))), (0, .ref (ad 0))]) hx hb dX5_digest_55 rfl hl (by decide) rfl (fun ls hl => ?_)
                                  refine lv_lload_n hx hb dX5_digest_56 rfl (lv_at hl 0 rfl) ?_
                                  refine lv_aload_n hx hb dX5_digest_57 rfl (lv_at hl 2 rfl) ?_
                                  refine q_get C0 hw ((hL 0 (by omega))) fxx_4656 fw_X5_12 rfl dX5_digest_58 ?_
                                  refine q_get C0 hw ((hL 22 (by omega))) hnx_4656.1 fw_X5_66 rfl dX5_digest_61 ?_
                                  refine q_get C0 hw ((hL 23 (by omega))) hnx_4656.2.1 fw_X5_93 rfl dX5_digest_64 ?_
                                  refine lv_iload_n hx hb dX5_digest_67 rfl (lv_at hl 1 rfl) ?_
                                  refine q_aaldi C0 hw ((hL 25 (by omega))) hnx_4656.2.2.2.1 (5) (by omega) (by decide) (b := ad (32 + 5)) rfl dX5_digest_68 ?_
                                  refine q_calll hw (q_runS (As := [.long (hC (dgS5 A) ((A.1.2.2.2.2.2 5))), .ref (ad (32 + 5))]) (c_X5_hashCoefficients l G L F_4650 (hC (dgS5 A) ((A.1.2.2.2.2.2 5))) (ad (32 + 5)) ((A.1.2.2.2.2.2 (6 + 5))) ((hL (32 + 5) (by omega))) ((show F_4650 (ad (32 + 5)) = _ from by have h9 := hnx_4656.2.2.2.2 (6 + 5) (by omega); rwa [show 22 + 4 + (6 + 5) = 32 + 5 by omega] at h9))) C0 hw sw_X5_258 rfl hl.1 rfl (Nat.le_of_ble_eq_true rfl) dX5_digest_69 ⟨by decide, by decide⟩ ⟨by decide, by decide⟩) rfl rfl (fun r_4664 F_4662 H locs hw hp_4663 => ?_)
                                  obtain ⟨he_4665, o_4666⟩ := hp_4663
                                  subst he_4665
                                  obtain rfl : F_4650 = F_4662 := (funext o_4666).symm
                                  refine lv_lstore_n (lv' := [(1, .long (hC (hC (dgS5 A) ((A.1.2.2.2.2.2 5))) ((A.1.2.2.2.2.2 (6 + 5))))), (3, .int (nI (5))), (0, .ref (ad 0))]) hx hb dX5_digest_72 rfl hl (by decide) rfl (fun ls hl => ?_)
                                  refine lv_aload_n hx hb dX5_digest_73 rfl (lv_at hl 2 rfl) ?_
                                  refine lv_lload_n hx hb dX5_digest_74 rfl (lv_at hl 0 rfl) ?_
                                  refine lv_iload_n hx hb dX5_digest_75 rfl (lv_at hl 1 rfl) ?_
                                  refine q_calll hw (q_runV (As := [.long (hC (hC (dgS5 A) ((A.1.2.2.2.2.2 5))) ((A.1.2.2.2.2.2 (6 + 5)))), .int (nI (5))]) (c_X5_hashLooks l G L F_4650 ad hL hin A (hC (hC (dgS5 A) ((A.1.2.2.2.2.2 5))) ((A.1.2.2.2.2.2 (6 + 5)))) 5 (by decide) h_4654 hA) C0 hw vw_X5_262 ((hL 0 (by omega))) fxx_4656 rfl rfl rfl hl.1 rfl (Nat.le_of_ble_eq_true rfl) dX5_digest_76 ⟨by decide, by decide⟩ ⟨by decide, by decide⟩) rfl rfl (fun r_4669 F_4667 H locs hw hp_4668 => ?_)
                                  obtain ⟨h_4670, h_4671, h_4672⟩ := hp_4668
                                  subst h_4670
                                  obtain ⟨fxx_4673, hnx_4673, hhx_4673, hsnx_4673, htxx_4673, hrkx_4673, ⟨ux_4673, h134x_4673⟩, ⟨vx_4673, h150x_4673⟩⟩ := id h_4671
                                  refine lv_lstore_n (lv' := [(1, .long (hLk A 5 (hC (hC (dgS5 A) ((A.1.2.2.2.2.2 5))) ((A.1.2.2.2.2.2 (6 + 5)))))), (3, .int (nI (5))), (0, .ref (ad 0))]) hx hb dX5_digest_79 rfl hl (by decide) rfl (fun ls hl => ?_)
                                  have hl : lv_has ls 4 [(1, .long (dgS6 A)), (3, .int (nI (5))), (0, .ref (ad 0))] := hl
                                  refine lv_iinc (v := nI 6) (lv' := [(3, .int (nI (6))), (1, .long (dgS6 A)), (0, .ref (ad 0))]) hx hb dX5_digest_80 hl (k := 1) rfl (by decide) (by decide) rfl (fun ls hl => ?_)
                                  refine lv_goto (tgt := 33) hx hb dX5_digest_83 (by decide) ?_
                                  refine lv_iload_n hx hb dX5_digest_33 rfl (lv_at hl 0 rfl) ?_
                                  refine lv_bipush (v := nI 6) hx hb dX5_digest_34 (by decide) ?_
                                  refine n_icmp_ge (tgt := 86) hx hb dX5_digest_36 (by decide) (by decide) (by decide) (fun c_36 => ?_) (fun c_36 => ?_)
                                  · skip
                                    refine lv_ldc2 (v := lN (31)) hx hb C0.ow (C0.ts _ kw_X5_253) dX5_digest_86 ?_
                                    refine lv_lload_n hx hb dX5_digest_89 rfl (lv_at hl 1 rfl) ?_
                                    refine lv_lmul hx hb dX5_digest_90 ?_
                                    refine lv_aload_n hx hb dX5_digest_91 rfl (lv_at hl 2 rfl) ?_
                                    refine q_calld hw (q_runV (As := []) (c_X5_density l G L F_4667 ad hL hin A hn9 h_4671 hA) C0 hw vw_X5_266 ((hL 0 (by omega))) fxx_4673 rfl rfl rfl hl.1 rfl (Nat.le_of_ble_eq_true rfl) dX5_digest_92 ⟨by decide, by decide⟩ ⟨by decide, by decide⟩) rfl rfl (fun r_4676 F_4674 H locs hw hp_4675 => ?_)
                                    obtain ⟨he_4677, o_4678⟩ := hp_4675
                                    subst he_4677
                                    obtain rfl : F_4667 = F_4674 := (funext o_4678).symm
                                    refine q_calll hw (q_runS (As := [.double (dens (cfR A.1.2.2.2.2.2 6) A.1.1)]) (c_X5_bitsOf l G L F_4667 _ _ hc2 hc hn9) C0 hw sw_X5_270 rfl hl.1 rfl (Nat.le_of_ble_eq_true rfl) dX5_digest_95 ⟨by decide, by decide⟩ ⟨by decide, by decide⟩) rfl rfl (fun r_4681 F_4679 H locs hw hp_4680 => ?_)
                                    obtain ⟨he_4682, o_4683⟩ := hp_4680
                                    subst he_4682
                                    obtain rfl : F_4667 = F_4679 := (funext o_4683).symm
                                    refine lv_ladd hx hb dX5_digest_98 ?_
                                    refine lv_lstore_n (lv' := [(1, .long ((lN (31) * (dgS6 A)) + ((dens (cfR A.1.2.2.2.2.2 6) A.1.1).toInt64))), (3, .int (nI (6))), (0, .ref (ad 0))]) hx hb dX5_digest_99 rfl hl (by decide) rfl (fun ls hl => ?_)
                                    refine lv_aload_n hx hb dX5_digest_100 rfl (lv_at hl 2 rfl) ?_
                                    refine q_get C0 hw ((hL 0 (by omega))) fxx_4673 fw_X5_37 rfl dX5_digest_101 ?_
                                    refine lv_lload_n hx hb dX5_digest_104 rfl (lv_at hl 0 rfl) ?_
                                    refine q_calll hw (q_runV (As := [.long ((lN (31) * (dgS6 A)) + ((dens (cfR A.1.2.2.2.2.2 6) A.1.1).toInt64))]) (c_X4_hashFrom l G L F_4667 ad hL hin A.2.2.2 htxx_4673 hco ((lN (31) * (dgS6 A)) + ((dens (cfR A.1.2.2.2.2.2 6) A.1.1).toInt64))) C0 hw vw_X5_274 ((hL 5 (by omega))) htxx_4673.1 rfl rfl rfl hl.1 rfl (Nat.le_of_ble_eq_true rfl) dX5_digest_105 ⟨by decide, by decide⟩ ⟨by decide, by decide⟩) rfl rfl (fun r_4686 F_4684 H locs hw hp_4685 => ?_)
                                    obtain ⟨he_4687, o_4688⟩ := hp_4685
                                    subst he_4687
                                    obtain rfl : F_4667 = F_4684 := (funext o_4688).symm
                                    exact r_l C0 hr hlk hw ⟨rfl, h_4671, (fun q hq => ((h_4672 q (fun i hS => hq i (by omega))).trans ((h_4655 q (fun i hS => hq i (by omega))).trans ((h_4638 q (fun i hS => hq i (by omega))).trans ((h_4621 q (fun i hS => hq i (by omega))).trans ((h_4604 q (fun i hS => hq i (by omega))).trans (h_4587 q (fun i hS => hq i (by omega)))))))))⟩ (Nat.le_refl _) (Nat.le_refl _) dX5_digest_108 hQ
                                  · skip
                                    exact absurd c_36 (by omega)
                    · skip
                      exact absurd c_9 (by omega)
abbrev rm_X5_run : Room := { frames := 6, cells := 0, slots := 0, locals := 164 }
set_option maxHeartbeats 4000000 in
set_option maxRecDepth 100000 in
theorem c_X5_run (l : Launch) (G : Gl) (L : List Nat) (F : Nat → va_E) (ad : Nat → Nat) (hL : ∀ i, i < 166 → ad i ∈ L) (hin : ∀ i j, i < 166 → j < 166 → i ≠ j → ad i ≠ ad j) (A : AB) (hpr : isPr A.2.2.2) (hX : XW G F ad A) (hA : okA A) : CI l yX5_run cX5_run 2 (some .int) rm_X5_run G L F [.ref (ad 0)] (fun r F1 => r = nI (runS A.2.2.2 61 0 0 A.1).1 ∧ XW G F1 ad ((runS A.2.2.2 61 0 0 A.1).2, saveH A.2.1 A.1, A.2.2.1, (0, A.2.2.2.2)) ∧ ∀ q, (∀ i, (i < 166) → q ≠ ad i) → F1 q = F q) := by
  obtain ⟨fx, hn, hh, hsn, htx, hrk, ⟨u9, h134⟩, ⟨v9, h150⟩⟩ := hX
  obtain ⟨⟨hc2, hc, hpu, hok⟩, ⟨hh6, hho⟩, hso, hl60, hco⟩ := id hA
  refine CG_of (by decide) (Nat.le_of_ble_eq_true rfl) rfl ?_
  intro p e s m args below meth c Q C0 hr hlk hnm hQ hw ls hl
  have hx := C0.x
  have hb := C0.b
  refine lv_aload_n hx hb dX5_run_0 rfl (lv_at hl 0 rfl) ?_
  refine q_get C0 hw ((hL 0 (by omega))) fx fw_X5_37 rfl dX5_run_1 ?_
  refine q_calli hw (q_runV (As := []) (c_X4_isProgram l G L F ad hL hin A.2.2.2 htx hco) C0 hw vw_X5_164 ((hL 5 (by omega))) htx.1 rfl rfl rfl hl.1 rfl (Nat.le_of_ble_eq_true rfl) dX5_run_4 ⟨by decide, by decide⟩ ⟨by decide, by decide⟩) rfl rfl (fun r_4691 F_4689 H locs hw hp_4690 => ?_)
  obtain ⟨he_4692, o_4693⟩ := hp_4690
  rw [if_pos hpr] at he_4692
  subst he_4692
  refine n_if_ne (tgt := 20) hx hb dX5_run_7 (by decide) (by decide) (fun c_7 => ?_) (fun c_7 => ?_)
  · skip
    refine lv_aload_n hx hb dX5_run_20 rfl (lv_at hl 0 rfl) ?_
    have f_4694 : F_4689 (ad 0) = xO ad := (o_4693 (ad 0) ).trans fx
    refine q_get C0 hw ((hL 0 (by omega))) f_4694 fw_X5_19 rfl dX5_run_21 ?_
    refine lv_aload_n hx hb dX5_run_24 rfl (lv_at hl 0 rfl) ?_
    refine q_get C0 hw ((hL 0 (by omega))) f_4694 fw_X5_12 rfl dX5_run_25 ?_
    obtain ⟨_, _, hf_4695, _⟩ := id (hh.keep (fun i0 hi => (o_4693 (ad (i0)) )))
    refine q_callv hw (q_runV (As := [.ref (ad 22)]) (c_X0_save l G L F_4689 ad hL hin A.2.1 A.1 (hh.keep (fun i0 hi => (o_4693 (ad (i0)) ))) (hn.keep (fun i0 hi => (o_4693 (ad (i0)) )))) C0 hw vw_X5_62 ((hL 1 (by omega))) hf_4695 rfl rfl rfl hl.1 rfl (Nat.le_of_ble_eq_true rfl) dX5_run_28 ⟨by decide, by decide⟩ ⟨by decide, by decide⟩) rfl rfl (fun F_4696 H locs hw hp_4697 => ?_)
    refine lv_aload_n hx hb dX5_run_31 rfl (lv_at hl 0 rfl) ?_
    have f_4698 : F_4689 (ad 134) = rw7 G u9 := (o_4693 (ad 134) ).trans h134
    have f_4699 : F_4696 (ad 134) = rw7 G u9 := (hp_4697.2 (ad 134) (fun i hS => hin 134 i (by omega) (by omega) (by omega))).trans f_4698
    have f_4700 : F_4696 (ad 0) = xO ad := (hp_4697.2 (ad 0) (fun i hS => hin 0 i (by omega) (by omega) (by omega))).trans f_4694
    refine q_calli hw (q_runV (As := []) (c_X5_carryOutAll l G L F_4696 ad hL hin A.2.2.2 (htx.keep (fun i0 hi => ((hp_4697.2 (ad (i0)) (fun i hS => hin (i0) i (by omega) (by omega) (by omega)))).trans ((o_4693 (ad (i0)) )))) hco A.1 f_4700 (hn.keep (fun i0 hi => ((hp_4697.2 (ad (i0)) (fun i hS => hin (i0) i (by omega) (by omega) (by omega)))).trans ((o_4693 (ad (i0)) )))) (hrk.keep (fun i0 hi => ((hp_4697.2 (ad (i0)) (fun i hS => hin (i0) i (by omega) (by omega) (by omega)))).trans ((o_4693 (ad (i0)) )))) ⟨_, f_4699⟩ hc hc2 hpu hpr.1) C0 hw vw_X5_169 ((hL 0 (by omega))) f_4700 rfl rfl rfl hl.1 rfl (Nat.le_of_ble_eq_true rfl) dX5_run_32 ⟨by decide, by decide⟩ ⟨by decide, by decide⟩) rfl rfl (fun r_4703 F_4701 H locs hw hp_4702 => ?_)
    obtain ⟨h_4704, h_4705, h_4706, ⟨u_4709, h_4707⟩, h_4708⟩ := hp_4702
    subst h_4704
    refine lv_istore_n (lv' := [(1, .int (nI ((runS A.2.2.2 61 0 0 A.1).1))), (0, .ref (ad 0))]) hx hb dX5_run_35 rfl hl (by decide) rfl (fun ls hl => ?_)
    refine lv_aload_n hx hb dX5_run_36 rfl (lv_at hl 1 rfl) ?_
    have f_4710 : F_4701 (ad 0) = xO ad := (h_4708 (ad 0) (fun i hS => hin 0 i (by omega) (by omega) (by omega))).trans f_4700
    refine q_get C0 hw ((hL 0 (by omega))) f_4710 fw_X5_37 rfl dX5_run_37 ?_
    have f_4711 : F_4689 (ad 5) = tO (ad 6) A.2.2.2.1 := (o_4693 (ad 5) ).trans htx.1
    have f_4712 : F_4696 (ad 5) = tO (ad 6) A.2.2.2.1 := (hp_4697.2 (ad 5) (fun i hS => hin 5 i (by omega) (by omega) (by omega))).trans f_4711
    have f_4713 : F_4701 (ad 5) = tO (ad 6) A.2.2.2.1 := (h_4708 (ad 5) (fun i hS => hin 5 i (by omega) (by omega) (by omega))).trans f_4712
    refine q_callv hw (q_runV (As := []) (c_X4_empty l G L F_4701 ad hL hin A.2.2.2 (htx.keep (fun i0 hi => ((h_4708 (ad (i0)) (fun i hS => hin (i0) i (by omega) (by omega) (by omega)))).trans (((hp_4697.2 (ad (i0)) (fun i hS => hin (i0) i (by omega) (by omega) (by omega)))).trans ((o_4693 (ad (i0)) ))))) hco A.2.2.2.2) C0 hw vw_X5_157 ((hL 5 (by omega))) f_4713 rfl rfl rfl hl.1 rfl (Nat.le_of_ble_eq_true rfl) dX5_run_40 ⟨by decide, by decide⟩ ⟨by decide, by decide⟩) rfl rfl (fun F_4714 H locs hw hp_4715 => ?_)
    refine lv_iload_n hx hb dX5_run_43 rfl (lv_at hl 0 rfl) ?_
    have f_4716 : F_4714 (ad 0) = xO ad := (hp_4715.2 (ad 0) (fun i hS => hin 0 i (by omega) (by omega) (by omega))).trans f_4710
    have f_4717 : F_4714 (ad 134) = rw7 G u_4709 := (hp_4715.2 (ad 134) (fun i hS => hin 134 i (by omega) (by omega) (by omega))).trans h_4707
    have f_4718 : F_4689 (ad 150) = rw7 G v9 := (o_4693 (ad 150) ).trans h150
    have f_4719 : F_4696 (ad 150) = rw7 G v9 := (hp_4697.2 (ad 150) (fun i hS => hin 150 i (by omega) (by omega) (by omega))).trans f_4718
    have f_4720 : F_4701 (ad 150) = rw7 G v9 := (h_4708 (ad 150) (fun i hS => hin 150 i (by omega) (by omega) (by omega))).trans f_4719
    have f_4721 : F_4714 (ad 150) = rw7 G v9 := (hp_4715.2 (ad 150) (fun i hS => hin 150 i (by omega) (by omega) (by omega))).trans f_4720
    exact r_i C0 hr hlk hw (v := nI ((runS A.2.2.2 61 0 0 A.1).1)) rfl ⟨rfl, ⟨f_4716, (h_4705.keep (fun i0 hi => (hp_4715.2 (ad (i0)) (fun i hS => hin (i0) i (by omega) (by omega) (by omega))))), (hp_4697.1.keep (fun i0 hi => ((hp_4715.2 (ad (i0)) (fun i hS => hin (i0) i (by omega) (by omega) (by omega)))).trans ((h_4708 (ad (i0)) (fun i hS => hin (i0) i (by omega) (by omega) (by omega)))))), (hsn.keep (fun i0 hi => ((hp_4715.2 (ad (i0)) (fun i hS => hin (i0) i (by omega) (by omega) (by omega)))).trans (((h_4708 (ad (i0)) (fun i hS => hin (i0) i (by omega) (by omega) (by omega)))).trans (((hp_4697.2 (ad (i0)) (fun i hS => hin (i0) i (by omega) (by omega) (by omega)))).trans ((o_4693 (ad (i0)) )))))), hp_4715.1, (h_4706.keep (fun i0 hi => (hp_4715.2 (ad (i0)) (fun i hS => hin (i0) i (by omega) (by omega) (by omega))))), ⟨_, f_4717⟩, ⟨_, f_4721⟩⟩, (fun q hq => ((hp_4715.2 q (fun i hS => hq i (by omega))).trans ((h_4708 q (fun i hS => hq i (by omega))).trans ((hp_4697.2 q (fun i hS => hq i (by omega))).trans (o_4693 q )))))⟩ (Nat.le_refl _) (Nat.le_refl _) dX5_run_44 hQ
  · skip
    exact absurd c_7 (by omega)
