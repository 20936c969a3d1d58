abbrev rm_X6_setsCoefficient : Room := { frames := 1, cells := 0, slots := 0, locals := 21 }
set_option maxHeartbeats 4000000 in
set_option maxRecDepth 100000 in
theorem c_X6_setsCoefficient (l : Launch) (G : Gl) (L : List Nat) (F : Nat → va_E) (b : Nat) (ma : Nat → Nat) (mi : Nat → Int32) (hh : Int64) (zf hf : Nat → Int32) (n9 : Nat) (k9 : Nat) (v9 : Int32) (mb : b ∈ L) (fb : F b = mO ma mi hh) (hm0 : mi 0 = nI n9) (hn6 : n9 ≤ 6) (hma : ∀ i, i < 7 → ma i ∈ L) (fz : F (ma 0) = .inl (G.2 0, 89, .inl zf)) (fh : F (ma 1) = .inl (G.2 0, 534, .inl hf)) (hk9 : k9 < 89) : CI l yX6_setsCoefficient cX6_setsCoefficient 4 (some .int) rm_X6_setsCoefficient G L F [.ref b, .int (nI (k9)), .int (v9)] (fun r F1 => r = zf k9 ∧ F1 b = mO ma (va_up mi 0 (nI (svM n9 hf zf).1)) hh ∧ F1 (ma 1) = .inl (G.2 0, 534, .inl (svM n9 hf zf).2) ∧ F1 (ma 0) = .inl (G.2 0, 89, .inl (upd zf k9 (nI (zi v9).val))) ∧ ∀ q, q ≠ b → q ≠ ma 1 → q ≠ ma 0 → F1 q = F q) := by
  refine CG_of (by decide) (Nat.le_of_ble_eq_true rfl) rfl ?_
  intro p e s m args below meth c Q C0 hr hlk hnm hQ hw ls hl
  have hx := C0.x
  have hb := C0.b
  refine lv_aload_n hx hb dX6_setsCoefficient_0 rfl (lv_at hl 0 rfl) ?_
  refine q_callv hw (q_runV (As := []) (c_X6_save l G L F b ma mi hh zf hf n9 mb fb hm0 hn6 hma fz fh) C0 hw vw_X6_87 mb fb rfl rfl rfl hl.1 rfl (Nat.le_of_ble_eq_true rfl) dX6_setsCoefficient_1 ⟨by decide, by decide⟩ ⟨by decide, by decide⟩) rfl rfl (fun F_4997 H locs hw hp_4998 => ?_)
  obtain ⟨f_4999, f_5000, o_5001⟩ := hp_4998
  refine lv_aload_n hx hb dX6_setsCoefficient_4 rfl (lv_at hl 0 rfl) ?_
  refine q_get C0 hw mb f_4999 fw_X6_7 rfl dX6_setsCoefficient_5 ?_
  refine lv_iload_n hx hb dX6_setsCoefficient_8 rfl (lv_at hl 1 rfl) ?_
  have f_5002 : F_4997 (ma 0) = .inl (G.2 0, 89, .inl zf) := (o_5001 (ma 0) (ne_ao fz fb) (ne_aa (by decide) fz fh)).trans fz
  refine q_iald C0 hw ((hma 0 (by decide))) f_5002 (k9) (by omega) (by decide) (v := (zf (k9))) rfl dX6_setsCoefficient_9 ?_
  refine lv_istore_n (lv' := [(3, .int (zf (k9))), (0, .ref b), (1, .int (nI (k9))), (2, .int (v9))]) hx hb dX6_setsCoefficient_10 rfl hl (by decide) rfl (fun ls hl => ?_)
  refine lv_aload_n hx hb dX6_setsCoefficient_11 rfl (lv_at hl 1 rfl) ?_
  refine q_get C0 hw mb f_4999 fw_X6_7 rfl dX6_setsCoefficient_12 ?_
  refine lv_iload_n hx hb dX6_setsCoefficient_15 rfl (lv_at hl 2 rfl) ?_
  refine lv_iload_n hx hb dX6_setsCoefficient_16 rfl (lv_at hl 3 rfl) ?_
  refine q_calli hw (q_runS (As := [.int (v9)]) (c_X6_modulo l G L F_4997 v9) C0 hw sw_X6_90 rfl hl.1 rfl (Nat.le_of_ble_eq_true rfl) dX6_setsCoefficient_17 ⟨by decide, by decide⟩ ⟨by decide, by decide⟩) rfl rfl (fun r_5005 F_5003 H locs hw hp_5004 => ?_)
  obtain ⟨he_5006, o_5007⟩ := hp_5004
  subst he_5006
  have f_5008 : F_5003 (ma 0) = .inl (G.2 0, 89, .inl zf) := (o_5007 (ma 0) ).trans f_5002
  refine q_iast C0 hw ((hma 0 (by decide))) f_5008 (k9) (by omega) (by decide) dX6_setsCoefficient_20 (fun F_5009 H locs hw f_5010 o_5011 => ?_)
  refine lv_iload_n hx hb dX6_setsCoefficient_21 rfl (lv_at hl 0 rfl) ?_
  have f_5012 : F_5003 b = mO ma ((va_up mi 0 (nI (svM n9 hf zf).1))) hh := (o_5007 b ).trans f_4999
  have f_5013 : F_5009 b = mO ma ((va_up mi 0 (nI (svM n9 hf zf).1))) hh := (o_5011 b (ne_oa f_5012 f_5008)).trans f_5012
  have f_5014 : F_5003 (ma 1) = .inl (G.2 0, 534, .inl ((svM n9 hf zf).2)) := (o_5007 (ma 1) ).trans f_5000
  have f_5015 : F_5009 (ma 1) = .inl (G.2 0, 534, .inl ((svM n9 hf zf).2)) := (o_5011 (ma 1) (ne_aa (by decide) f_5014 f_5008)).trans f_5014
  exact r_i C0 hr hlk hw (v := (zf (k9))) rfl ⟨rfl, f_5013, f_5015, f_5010, (fun q k0 k1 k2 => ((o_5011 q k2).trans ((o_5007 q ).trans (o_5001 q k0 k1))))⟩ (Nat.le_refl _) (Nat.le_refl _) dX6_setsCoefficient_22 hQ
