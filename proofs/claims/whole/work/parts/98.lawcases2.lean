/-! the rest of the law's switch -/
theorem lc_16 {p : Program} {l : Launch} {e : Env} {s : State} {m : MethodId} {args : Array Value} {below : List Frame} {meth : Method} {c : Code} {Q : State → Prop} {G : Gl} {L : List Nat} {ad ma : Nat → Nat} {o b9 b Ls i cells slots th : Nat} {xs : Nat → Int32} {F : Nat → va_E} {f : Nat → Int64} {A : AB} {H : Heap} {locs : List Loc} {ls : Array Slot} (hst : l.stackTraces = false) (I : LI p s m args c G L ad o b9 ma b Ls xs i A th F f H locs ls) (hcs : cells + 1 ≤ room_1.cells ∧ slots + 6 ≤ room_1.slots) (kk : LKK p l e s m args below meth c Q G L ad o b9 ma b i cells slots) : W p l e room_1 s m args below meth c H locs cells slots Q (F0 m 1352 ls []) := by
  obtain ⟨C0, hXw, hS, hSc, hbl, hbA, hLs, hA, hC, hw, hX, hM, hO, hi, hl⟩ := I
  have hx := C0.x
  have hb := C0.b
  obtain ⟨hL, hin, mb, hma, ho, hoa, -, -⟩ := id hS
  have hL0 := hL 0 (by decide)
  have hcs0 : cells ≤ room_1.cells ∧ slots ≤ room_1.slots := ⟨Nat.le_of_succ_le hcs.1, Nat.le_trans (Nat.le_add_right _ _) hcs.2⟩
  refine lv_aload_n hx hb dL_law_1352 rfl (lv_at hl 1 rfl) ?_
  refine q_calli hw (q_runV (As := []) (c_X5_clearBuffer l G L F ad hL hin A hX hA) C0 hw vw_L_163 hL0 hX.1 rfl rfl rfl hl.1 rfl (by decide) dL_law_1353 ⟨by decide, by decide⟩ hcs0) rfl rfl (fun r1 F1 H1 locs1 hw1 hp => ?_)
  obtain ⟨e1, hX1, fr1⟩ := hp
  have hM1 : MW G F1 b9 ma A th := lst_m hS (fun q _ h => fr1 q h) hM
  obtain ⟨mi, hh, zf, hfb, -, -⟩ := hM1.ob
  refine lv_aload_n hx hb dL_law_1356 rfl (lv_at hl 2 rfl) ?_
  refine q_calli hw1 (q_runV (As := []) (k_X6_clearBuffer l G L F1 b9 ma A th mb hma hM1 hA) C0 hw1 vw_L_166 mb hfb rfl rfl rfl hl.1 rfl (Nat.le_of_ble_eq_true rfl) dL_law_1357 ⟨by decide, by decide⟩ hcs0) rfl rfl (fun r2 F2 H2 locs2 hw2 hp2 => ?_)
  obtain ⟨e2, hM2, fr2⟩ := hp2
  refine lv_icmp_eq (tgt := 2177) hx hb dL_law_1360 (by decide) (fun _ => ?_) (fun h => absurd (e1.trans e2.symm) h)
  exact W.widen (Nat.le_succ _) (Nat.le_add_right _ _) (kk (A.1, A.2.1, A.2.2.1, (0, A.2.2.2.2)) 0 F2 f H2 locs2 ls (okA_empty _ hA hA.1 hA.2.1) ⟨hC.1, hC.2.1, hC.2.2⟩ hw2 (lst_x hS fr2 (fun _ => rfl) hX1) hM2 (lst_o hS fr2 ((fr1 o hoa).trans hO)) hl)
theorem lc_17 {p : Program} {l : Launch} {e : Env} {s : State} {m : MethodId} {args : Array Value} {below : List Frame} {meth : Method} {c : Code} {Q : State → Prop} {G : Gl} {L : List Nat} {ad ma : Nat → Nat} {o b9 b Ls i cells slots th : Nat} {xs : Nat → Int32} {F : Nat → va_E} {f : Nat → Int64} {A : AB} {H : Heap} {locs : List Loc} {ls : Array Slot} (hst : l.stackTraces = false) (I : LI p s m args c G L ad o b9 ma b Ls xs i A th F f H locs ls) (hcs : cells + 1 ≤ room_1.cells ∧ slots + 6 ≤ room_1.slots) (kk : LKK p l e s m args below meth c Q G L ad o b9 ma b i cells slots) : W p l e room_1 s m args below meth c H locs cells slots Q (F0 m 1365 ls []) := by
  obtain ⟨C0, hXw, hS, hSc, hbl, hbA, hLs, hA, hC, hw, hX, hM, hO, hi, hl⟩ := I
  have hx := C0.x
  have hb := C0.b
  obtain ⟨hL, hin, mb, hma, ho, hoa, -, -⟩ := id hS
  have hL0 := hL 0 (by decide)
  have hcs0 : cells ≤ room_1.cells ∧ slots ≤ room_1.slots := ⟨Nat.le_of_succ_le hcs.1, Nat.le_trans (Nat.le_add_right _ _) hcs.2⟩
  refine lv_aload_n hx hb dL_law_1365 rfl (lv_at hl 1 rfl) ?_
  refine q_calli hw (q_runV (As := []) (c_X5_firstError l G L F ad hL hin A hX hA) C0 hw vw_L_167 hL0 hX.1 rfl rfl rfl hl.1 rfl (by decide) dL_law_1366 ⟨by decide, by decide⟩ hcs0) rfl rfl (fun r1 F1 H1 locs1 hw1 hp => ?_)
  obtain ⟨e1, fr1⟩ := hp
  have hM1 : MW G F1 b9 ma A th := lst_m hS (fun q _ _ => fr1 q) hM
  obtain ⟨mi, hh, zf, hfb, -, -⟩ := hM1.ob
  refine lv_aload_n hx hb dL_law_1369 rfl (lv_at hl 2 rfl) ?_
  refine q_calli hw1 (q_runV (As := []) (k_X6_firstError l G L F1 b9 ma A th mb hma hM1 hA) C0 hw1 vw_L_170 mb hfb rfl rfl rfl hl.1 rfl (Nat.le_of_ble_eq_true rfl) dL_law_1370 ⟨by decide, by decide⟩ hcs0) rfl rfl (fun r2 F2 H2 locs2 hw2 hp2 => ?_)
  obtain ⟨e2, hM2, fr2⟩ := hp2
  refine lv_icmp_eq (tgt := 2177) hx hb dL_law_1373 (by decide) (fun _ => ?_) (fun h => absurd (e1.trans e2.symm) h)
  exact W.widen (Nat.le_succ _) (Nat.le_add_right _ _) (kk A 0 F2 f H2 locs2 ls hA hC hw2 (lst_x hS fr2 (fun _ => rfl) (hX.keep (fun _ _ => fr1 _))) hM2 (lst_o hS fr2 ((fr1 o).trans hO)) hl)
theorem lc_30 {p : Program} {l : Launch} {e : Env} {s : State} {m : MethodId} {args : Array Value} {below : List Frame} {meth : Method} {c : Code} {Q : State → Prop} {G : Gl} {L : List Nat} {ad ma : Nat → Nat} {o b9 b Ls i cells slots th : Nat} {xs : Nat → Int32} {F : Nat → va_E} {f : Nat → Int64} {A : AB} {H : Heap} {locs : List Loc} {ls : Array Slot} (hst : l.stackTraces = false) (I : LI p s m args c G L ad o b9 ma b Ls xs i A th F f H locs ls) (hcs : cells + 1 ≤ room_1.cells ∧ slots + 6 ≤ room_1.slots) (kk : LKK p l e s m args below meth c Q G L ad o b9 ma b i cells slots) : W p l e room_1 s m args below meth c H locs cells slots Q (F0 m 2122 ls []) := by
  obtain ⟨C0, hXw, hS, hSc, hbl, hbA, hLs, hA, hC, hw, hX, hM, hO, hi, hl⟩ := I
  have hx := C0.x
  have hb := C0.b
  obtain ⟨hL, hin, mb, hma, ho, hoa, -, -⟩ := id hS
  have hL0 := hL 0 (by decide)
  have hcs0 : cells ≤ room_1.cells ∧ slots ≤ room_1.slots := ⟨Nat.le_of_succ_le hcs.1, Nat.le_trans (Nat.le_add_right _ _) hcs.2⟩
  have hn := dens_hn hA hC
  refine lv_aload_n hx hb dL_law_2122 rfl (lv_at hl 1 rfl) ?_
  refine q_calld hw (q_runV (As := []) (c_X5_density l G L F ad hL hin A hn hX hA) C0 hw vw_L_208 hL0 hX.1 rfl rfl rfl hl.1 rfl (by decide) dL_law_2123 ⟨by decide, by decide⟩ hcs0) rfl rfl (fun r1 F1 H1 locs1 hw1 hp => ?_)
  obtain ⟨e1, fr1⟩ := hp
  subst e1
  refine lv_dstore hx hb dL_law_2126 hl (by decide) rfl (fun ls1 hl1 => ?_)
  have hM1 : MW G F1 b9 ma A th := lst_m hS (fun q _ _ => fr1 q) hM
  obtain ⟨mi, hh, zf, hfb, -, -⟩ := hM1.ob
  refine lv_aload_n hx hb dL_law_2128 rfl (lv_at hl1 3 rfl) ?_
  refine q_calld hw1 (q_runV (As := []) (k_X6_density l G L F1 b9 ma A th mb hma hM1 hA hn) C0 hw1 vw_L_212 mb hfb rfl rfl rfl hl1.1 rfl (by decide) dL_law_2129 ⟨by decide, by decide⟩ hcs0) rfl rfl (fun r2 F2 H2 locs2 hw2 hp2 => ?_)
  obtain ⟨e2, hM2, fr2⟩ := hp2
  subst e2
  refine lv_dstore hx hb dL_law_2132 hl1 (by decide) rfl (fun ls2 hl2 => ?_)
  refine lv_dload hx hb dL_law_2134 (lv_at hl2 1 rfl) ?_
  refine lv_dload hx hb dL_law_2136 (lv_at hl2 0 rfl) ?_
  refine lv_dcmp hx hb dL_law_2138 ?_
  refine lv_if_eq (tgt := 2160) hx hb dL_law_2139 (by decide) (fun _ => ?_) (fun h => absurd (dens_nn hA.1.1 hA.1.2.1 hn) h)
  refine lv_goto (tgt := 2177) hx hb dL_law_2160 (by decide) ?_
  exact W.widen (Nat.le_succ _) (Nat.le_add_right _ _) (kk A 0 F2 f H2 locs2 ls2 hA hC hw2 (lst_x hS fr2 (fun _ => rfl) (hX.keep (fun _ _ => fr1 _))) hM2 (lst_o hS fr2 ((fr1 o).trans hO)) (lv_sub hl2 [2, 3, 4, 5, 6] rfl))
theorem lc_31 {p : Program} {l : Launch} {e : Env} {s : State} {m : MethodId} {args : Array Value} {below : List Frame} {meth : Method} {c : Code} {Q : State → Prop} {G : Gl} {L : List Nat} {ad ma : Nat → Nat} {o b9 b Ls i cells slots th : Nat} {xs : Nat → Int32} {F : Nat → va_E} {f : Nat → Int64} {A : AB} {H : Heap} {locs : List Loc} {ls : Array Slot} (hst : l.stackTraces = false) (I : LI p s m args c G L ad o b9 ma b Ls xs i A th F f H locs ls) (hcs : cells + 1 ≤ room_1.cells ∧ slots + 6 ≤ room_1.slots) (kk : LKK p l e s m args below meth c Q G L ad o b9 ma b i cells slots) : W p l e room_1 s m args below meth c H locs cells slots Q (F0 m 2163 ls []) := by
  obtain ⟨C0, hXw, hS, hSc, hbl, hbA, hLs, hA, hC, hw, hX, hM, hO, hi, hl⟩ := I
  have hx := C0.x
  have hb := C0.b
  obtain ⟨hL, hin, mb, hma, ho, hoa, -, -⟩ := id hS
  have hL0 := hL 0 (by decide)
  have hcs0 : cells ≤ room_1.cells ∧ slots ≤ room_1.slots := ⟨Nat.le_of_succ_le hcs.1, Nat.le_trans (Nat.le_add_right _ _) hcs.2⟩
  have hn := dens_hn hA hC
  refine lv_aload_n hx hb dL_law_2163 rfl (lv_at hl 1 rfl) ?_
  refine q_calll hw (q_runV (As := []) (c_X5_digest l G L F ad hL hin A hn hX hA) C0 hw vw_L_213 hL0 hX.1 rfl rfl rfl hl.1 rfl (by decide) dL_law_2164 ⟨by decide, by decide⟩ hcs0) rfl rfl (fun r1 F1 H1 locs1 hw1 hp => ?_)
  obtain ⟨e1, hX1, fr1⟩ := hp
  have hM1 : MW G F1 b9 ma A th := lst_m hS (fun q _ h => fr1 q h) hM
  obtain ⟨mi, hh, zf, hfb, -, -⟩ := hM1.ob
  refine lv_aload_n hx hb dL_law_2167 rfl (lv_at hl 2 rfl) ?_
  refine q_calll hw1 (q_runV (As := []) (k_X6_digest l G L F1 b9 ma A th mb hma hM1 hA hn) C0 hw1 vw_L_217 mb hfb rfl rfl rfl hl.1 rfl (Nat.le_of_ble_eq_true rfl) dL_law_2168 ⟨by decide, by decide⟩ hcs0) rfl rfl (fun r2 F2 H2 locs2 hw2 hp2 => ?_)
  obtain ⟨e2, hM2, fr2⟩ := hp2
  refine q_lcmp0 hx hb (e2.trans e1.symm) dL_law_2171 ?_
  refine lv_if_eq (tgt := 2177) hx hb dL_law_2172 (by decide) (fun _ => ?_) (fun h => absurd rfl h)
  exact W.widen (Nat.le_succ _) (Nat.le_add_right _ _) (kk A 0 F2 f H2 locs2 ls hA hC hw2 (lst_x hS fr2 (fun _ => rfl) hX1) hM2 (lst_o hS fr2 ((fr1 o hoa).trans hO)) hl)
