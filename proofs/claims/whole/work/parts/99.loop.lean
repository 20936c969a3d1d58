/-! the law's loop, and its start -/
theorem okA_0 : okA A0 := by
  refine ⟨⟨by decide, by decide, by decide, fun i hi => ⟨?_, ?_⟩⟩, ⟨Nat.zero_le _, fun i hi => absurd hi (Nat.not_lt_zero i)⟩, fun j _ h => absurd (show false = true from h) (by decide), Nat.zero_le _, fun i hi => absurd hi (Nat.not_lt_zero i)⟩
  · exact if_neg (by omega)
  · exact if_neg (by omega)
theorem okCA_0 : okCA A0 := ⟨fun i hi k _ => if_neg (by omega), fun i hi => absurd hi (Nat.not_lt_zero i), fun j _ h => absurd (show false = true from h) (by decide)⟩
theorem gt4 {Ls i : Nat} (h : Ls ≤ 2048) (hi : i ≤ 4096) : (Int32.ofNat Ls - nI 4 < nI i) ↔ Ls < i + 4 := by
  have h1 : (Int32.ofNat Ls).toInt = (Ls : Int) := nI_toInt (by omega)
  have h2 : (nI 4).toInt = 4 := nI_toInt (by decide)
  rw [Int32.lt_iff_toInt_lt, Int32.toInt_sub, h1, h2, nI_toInt (by omega)]
  have h3 : Int.bmod ((Ls : Int) - 4) (2 ^ 32) = (Ls : Int) - 4 := by
    rw [Int.bmod_def]
    omega
  rw [h3]
  omega
section LOOP
variable {p : Program} {l : Launch} {e : Env} {s : State} {m : MethodId} {args : Array Value} {below : List Frame} {meth : Method} {c : Code} {Q : State → Prop} {G : Gl} {L : List Nat} {ad ma : Nat → Nat} {o b9 b Ls : Nat} {xs : Nat → Int32}
theorem law_case {i cells slots th : Nat} {F : Nat → va_E} {f : Nat → Int64} {A : AB} {H : Heap} {locs : List Loc} {ls : Array Slot} (hst : l.stackTraces = false) (I : LI p s m args c G L ad o b9 ma b Ls xs i A th F f H locs ls) (hcs : cells + 1 ≤ room_1.cells ∧ slots + 6 ≤ room_1.slots) (kk : LKK p l e s m args below meth c Q G L ad o b9 ma b i cells slots) : W p l e room_1 s m args below meth c H locs cells slots Q (F0 m 32 ls []) := by
  obtain ⟨C0, hXw, hS, hSc, hbl, hbA, hLs, hA, hC, hw, hX, hM, hO, hi, hl⟩ := id I
  have hx := C0.x
  have hb := C0.b
  refine lv_aload_n hx hb dL_law_32 rfl (lv_at hl 0 rfl) ?_
  refine lv_iload hx hb dL_law_33 (lv_at hl 4 rfl) ?_
  refine va_sld hx hb hSc hbl hbA hw.2.2 (vp_in_nI (by omega) hLs) dL_law_35 ?_
  refine lv_bipush (v := nI 31) hx hb dL_law_36 rfl ?_
  refine n_iandI hx hb (d := 31) 5 rfl (by decide) dL_law_38 (fun z hz => ?_)
  have hz32 : z < 32 := hz
  have hzz : z = 0 ∨ z = 1 ∨ z = 2 ∨ z = 3 ∨ z = 4 ∨ z = 5 ∨ z = 6 ∨ z = 7 ∨ z = 8 ∨ z = 9 ∨ z = 10 ∨ z = 11 ∨ z = 12 ∨ z = 13 ∨ z = 14 ∨ z = 15 ∨ z = 16 ∨ z = 17 ∨ z = 18 ∨ z = 19 ∨ z = 20 ∨ z = 21 ∨ z = 22 ∨ z = 23 ∨ z = 24 ∨ z = 25 ∨ z = 26 ∨ z = 27 ∨ z = 28 ∨ z = 29 ∨ z = 30 ∨ z = 31 := by omega
  rcases hzz with rfl | rfl | rfl | rfl | rfl | rfl | rfl | rfl | rfl | rfl | rfl | rfl | rfl | rfl | rfl | rfl | rfl | rfl | rfl | rfl | rfl | rfl | rfl | rfl | rfl | rfl | rfl | rfl | rfl | rfl | rfl | rfl
  · exact lv_tableIn (off := 141) (tgt := 180) hx hb dL_law_39 (by decide) (by decide) rfl (by decide) (lc_0 hst I hcs kk)
  · exact lv_tableIn (off := 197) (tgt := 236) hx hb dL_law_39 (by decide) (by decide) rfl (by decide) (lc_1 hst I hcs kk)
  · exact lv_tableIn (off := 277) (tgt := 316) hx hb dL_law_39 (by decide) (by decide) rfl (by decide) (lc_2 hst I hcs kk)
  · exact lv_tableIn (off := 357) (tgt := 396) hx hb dL_law_39 (by decide) (by decide) rfl (by decide) (lc_3 hst I hcs kk)
  · exact lv_tableIn (off := 413) (tgt := 452) hx hb dL_law_39 (by decide) (by decide) rfl (by decide) (lc_4 hst I hcs kk)
  · exact lv_tableIn (off := 493) (tgt := 532) hx hb dL_law_39 (by decide) (by decide) rfl (by decide) (lc_5 hst I hcs kk)
  · exact lv_tableIn (off := 573) (tgt := 612) hx hb dL_law_39 (by decide) (by decide) rfl (by decide) (lc_6 hst I hcs kk)
  · exact lv_tableIn (off := 653) (tgt := 692) hx hb dL_law_39 (by decide) (by decide) rfl (by decide) (lc_7 hst I hcs kk)
  · exact lv_tableIn (off := 733) (tgt := 772) hx hb dL_law_39 (by decide) (by decide) rfl (by decide) (lc_8 hst I hcs kk)
  · exact lv_tableIn (off := 813) (tgt := 852) hx hb dL_law_39 (by decide) (by decide) rfl (by decide) (lc_9 hst I hcs kk)
  · exact lv_tableIn (off := 881) (tgt := 920) hx hb dL_law_39 (by decide) (by decide) rfl (by decide) (lc_10 hst I hcs kk)
  · exact lv_tableIn (off := 949) (tgt := 988) hx hb dL_law_39 (by decide) (by decide) rfl (by decide) (lc_11 hst I hcs kk)
  · exact lv_tableIn (off := 1029) (tgt := 1068) hx hb dL_law_39 (by decide) (by decide) rfl (by decide) (lc_12 hst I hcs kk)
  · exact lv_tableIn (off := 1097) (tgt := 1136) hx hb dL_law_39 (by decide) (by decide) rfl (by decide) (lc_13 hst I hcs kk)
  · exact lv_tableIn (off := 1177) (tgt := 1216) hx hb dL_law_39 (by decide) (by decide) rfl (by decide) (lc_14 hst I hcs kk)
  · exact lv_tableIn (off := 1257) (tgt := 1296) hx hb dL_law_39 (by decide) (by decide) rfl (by decide) (lc_15 hst I hcs kk)
  · exact lv_tableIn (off := 1313) (tgt := 1352) hx hb dL_law_39 (by decide) (by decide) rfl (by decide) (lc_16 hst I hcs kk)
  · exact lv_tableIn (off := 1326) (tgt := 1365) hx hb dL_law_39 (by decide) (by decide) rfl (by decide) (lc_17 hst I hcs kk)
  · exact lv_tableIn (off := 1339) (tgt := 1378) hx hb dL_law_39 (by decide) (by decide) rfl (by decide) (lc_18 hst I hcs kk)
  · exact lv_tableIn (off := 1383) (tgt := 1422) hx hb dL_law_39 (by decide) (by decide) rfl (by decide) (lc_19 hst I hcs kk)
  · exact lv_tableIn (off := 1439) (tgt := 1478) hx hb dL_law_39 (by decide) (by decide) rfl (by decide) (lc_20 hst I hcs kk)
  · exact lv_tableIn (off := 1495) (tgt := 1534) hx hb dL_law_39 (by decide) (by decide) rfl (by decide) (lc_21 hst I hcs kk)
  · exact lv_tableIn (off := 1539) (tgt := 1578) hx hb dL_law_39 (by decide) (by decide) rfl (by decide) (lc_22 hst I hcs kk)
  · exact lv_tableIn (off := 1607) (tgt := 1646) hx hb dL_law_39 (by decide) (by decide) rfl (by decide) (lc_23 hst I hcs kk)
  · exact lv_tableIn (off := 1675) (tgt := 1714) hx hb dL_law_39 (by decide) (by decide) rfl (by decide) (lc_24 hst I hcs kk)
  · exact lv_tableIn (off := 1755) (tgt := 1794) hx hb dL_law_39 (by decide) (by decide) rfl (by decide) (lc_25 hst I hcs kk)
  · exact lv_tableIn (off := 1823) (tgt := 1862) hx hb dL_law_39 (by decide) (by decide) rfl (by decide) (lc_26 hst I hcs kk)
  · exact lv_tableIn (off := 1891) (tgt := 1930) hx hb dL_law_39 (by decide) (by decide) rfl (by decide) (lc_27 hst I hcs kk)
  · exact lv_tableIn (off := 1971) (tgt := 2010) hx hb dL_law_39 (by decide) (by decide) rfl (by decide) (lc_28 hst I hcs kk)
  · exact lv_tableIn (off := 2027) (tgt := 2066) hx hb dL_law_39 (by decide) (by decide) rfl (by decide) (lc_29 hst I hcs kk)
  · exact lv_tableIn (off := 2083) (tgt := 2122) hx hb dL_law_39 (by decide) (by decide) rfl (by decide) (lc_30 hst I hcs kk)
  · exact lv_tableIn (off := 2124) (tgt := 2163) hx hb dL_law_39 (by decide) (by decide) rfl (by decide) (lc_31 hst I hcs kk)
theorem law_loop (hst : l.stackTraces = false) (C0 : Cx p s m args c cL_law 9 RL G L) (hXw : g_Xw s) (hS : LST L ad o b9 ma) (hSc : va_X b Ls xs s s.heap) (hbl : b < s.heap.size) (hbA : ¬ wA L s.heap.size b) (hLs : Ls ≤ 2048)
    (hend : ∀ (F : Nat → va_E) (H : Heap) (locs : List Loc) (ls : Array Slot) (cells slots : Nat), wD G L F s H locs → cells ≤ room_1.cells → slots ≤ room_1.slots → W p l e room_1 s m args below meth c H locs cells slots Q (F0 m 2183 ls [])) :
    ∀ (n i : Nat) (A : AB) (th : Nat) (F : Nat → va_E) (f : Nat → Int64) (H : Heap) (locs : List Loc) (ls : Array Slot) (cells slots : Nat), Ls < i + 4 * n + 4 → i ≤ 2052 → okA A → okCA A → wD G L F s H locs → XW G F ad A → MW G F b9 ma A th → F o = wO G f → lv_has ls 9 (lv0 b (ad 0) b9 o i) → cells + n ≤ room_1.cells → slots + 6 * n ≤ room_1.slots → W p l e room_1 s m args below meth c H locs cells slots Q (F0 m 23 ls []) := by
  have hx := C0.x
  have hb := C0.b
  have head : ∀ (i : Nat) (F : Nat → va_E) (H : Heap) (locs : List Loc) (ls : Array Slot) (cells slots : Nat), i ≤ 2052 → wD G L F s H locs → lv_has ls 9 (lv0 b (ad 0) b9 o i) → (Ls < i + 4 → W p l e room_1 s m args below meth c H locs cells slots Q (F0 m 2183 ls [])) → (¬ Ls < i + 4 → W p l e room_1 s m args below meth c H locs cells slots Q (F0 m 32 ls [])) → W p l e room_1 s m args below meth c H locs cells slots Q (F0 m 23 ls []) := by
    intro i F H locs ls cells slots hi hw hl k1 k2
    refine lv_iload hx hb dL_law_23 (lv_at hl 4 rfl) ?_
    refine lv_aload_n hx hb dL_law_25 rfl (lv_at hl 0 rfl) ?_
    refine va_slen hx hb hSc hbl hbA hw.2.2 dL_law_26 ?_
    refine lv_iconst (v := nI 4) hx hb dL_law_27 rfl ?_
    refine lv_isub hx hb dL_law_28 ?_
    exact lv_icmp_gt (tgt := 2183) hx hb dL_law_29 (by decide) (fun h => k1 ((gt4 hLs (by omega)).mp h)) (fun h => k2 (fun h2 => h ((gt4 hLs (by omega)).mpr h2)))
  intro n
  induction n with
  | zero =>
    intro i A th F f H locs ls cells slots hn hi hA hC hw hX hM hO hl hc hs
    exact head i F H locs ls cells slots hi hw hl (fun _ => hend F H locs ls cells slots hw hc hs) (fun h => absurd hn h)
  | succ n ih =>
    intro i A th F f H locs ls cells slots hn hi hA hC hw hX hM hO hl hc hs
    refine head i F H locs ls cells slots hi hw hl (fun _ => hend F H locs ls cells slots hw (by omega) (by omega)) (fun h => ?_)
    refine law_case hst ⟨C0, hXw, hS, hSc, hbl, hbA, by omega, hA, hC, hw, hX, hM, hO, by omega, hl⟩ ⟨by omega, by omega⟩ ?_
    intro A1 th1 F1 f1 H1 locs1 ls1 hA1 hC1 hw1 hX1 hM1 hO1 hl1
    refine lv_iinc (k := 4) (v := nI (i + 4)) hx hb dL_law_2177 hl1 rfl (nI_add i 4) (by decide) rfl (fun ls2 hl2 => ?_)
    refine lv_goto (tgt := 23) hx hb dL_law_2180 (by decide) ?_
    exact ih (i + 4) A1 th1 F1 f1 H1 locs1 ls2 (cells + 1) (slots + 6) (by omega) (by omega) hA1 hC1 hw1 hX1 hM1 hO1 (lv_sub hl2 [1, 2, 3, 4, 0] rfl) (by omega) (by omega)
end LOOP
set_option maxRecDepth 100000 in
theorem whole_start {p : Program} {e : Env} {s : State} {m : MethodId} {below : List Frame} {meth : Method} {c : Code} (l : Launch) (hflags : l.flags = flags0) {b L : Nat} {xs : Nat → Int32} (hL : L ≤ 2048) (C0 : lw_At p s m meth c b L xs) : W p l e room_1 s m #[Value.ref b] below meth c s.heap [] 0 0 (lw_Z below #[Value.ref b] s) (entryFrame m ([Value.ref b] : List Value).toArray 9) := by
  obtain ⟨G, hAm, hOv, hXw⟩ := law_start C0
  obtain ⟨hx, hb, hr, hml, hown, hts, hSc, hbl, hlocks, hgv⟩ := C0
  have hst : l.stackTraces = false := by
    unfold Launch.stackTraces
    rw [hflags]
    decide
  have Cx0 : Cx p s m #[Value.ref b] c cL_law 9 RL G [] := ⟨hx, hb, hml, hown, fun w h => hts w (tb_in h), hAm⟩
  have hw0 : wD G [] (fun _ => wO G (fun _ => 0)) s s.heap [] := by
    refine wD.start (fun k q h => ?_) ⟨fun i j a q h => ?_, fun k q h => ?_⟩
    · simp [va_pl] at h
    · simp [va_pl] at h
    · simp [va_pl] at h
  rw [lg_entry_eq]
  have hl0 := lv_entry [Value.ref b] (n := 9) (Nat.le_of_ble_eq_true rfl)
  have hl : lv_has ((lg_sl [Value.ref b] ++ List.replicate (9 - (lg_sl [Value.ref b]).length) Slot.unset).toArray) 9 [(0, Value.ref b)] := hl0
  generalize (lg_sl [Value.ref b] ++ List.replicate (9 - (lg_sl [Value.ref b]).length) Slot.unset).toArray = ls at hl ⊢
  refine k_new Cx0 hw0 nw_L_8 (by decide) (by decide) dL_law_0 (fun L1 F1 a H1 g1 hw1 => ?_)
  have C1 := Cx0.grow g1.1 (Nat.le_refl _)
  refine lv_dup hx hb dL_law_3 rfl ?_
  refine q_calln hw1 (fun L1 F1 h => h.1) (q_runI (As := []) (c_X5_init l G L1 F1 a g1.2.2.2.1 g1.2.1) C1 hOv hw1 iw_L_103 rfl hl.1 rfl (Nat.le_of_ble_eq_true rfl) dL_law_4 ⟨by decide, by decide⟩ ⟨by decide, by decide⟩) (fun L2 F2 H2 locs2 hz2 hw2 hp2 => ?_)
  obtain ⟨g2, ad, rfl, hX2, hm2, hge2, hin, -⟩ := hp2
  have C2 := C1.grow g2 hw1.2.2.1
  refine lv_astore_n hx hb dL_law_7 rfl hl (by decide) rfl (fun ls1 hl1 => ?_)
  refine k_new C2 hw2 nw_L_104 (by decide) (by decide) dL_law_8 (fun L3 F3 b9 H3 g3 hw3 => ?_)
  have C3 := C2.grow g3.1 hw2.2.2.1
  refine lv_dup hx hb dL_law_11 rfl ?_
  refine q_calln hw3 (fun L1 F1 h => h.1) (q_runI (As := []) (c_X6_init l G L3 F3 b9 g3.2.2.2.1 g3.2.1) C3 hOv hw3 iw_L_106 rfl hl1.1 rfl (Nat.le_of_ble_eq_true rfl) dL_law_12 ⟨by decide, by decide⟩ ⟨by decide, by decide⟩) (fun L4 F4 H4 locs4 hz4 hw4 hp4 => ?_)
  obtain ⟨g4, ma, hma4, hM4, fr4⟩ := hp4
  have C4 := C3.grow g4 hw3.2.2.1
  refine lv_astore_n hx hb dL_law_15 rfl hl1 (by decide) rfl (fun ls2 hl2 => ?_)
  refine lv_iconst (v := nI 1) hx hb dL_law_16 rfl ?_
  refine k_newj C4 hw4 (N := 1) (by decide) (by decide) (by decide) (by decide) dL_law_17 (fun L5 F5 o H5 g5 hw5 => ?_)
  have C5 := C4.grow g5.1 hw4.2.2.1
  refine lv_astore_n hx hb dL_law_19 rfl hl2 (by decide) rfl (fun ls3 hl3 => ?_)
  refine lv_iconst (v := nI 0) hx hb dL_law_20 rfl ?_
  refine lv_istore hx hb dL_law_21 hl3 (by decide) rfl (fun ls4 hl4 => ?_)
  have ltb : ∀ q ∈ L2, q < b9 := fun q hq => (g3.2.2.1 q hq).2
  have lto : ∀ q ∈ L4, q < o := fun q hq => (g5.2.2.1 q hq).2
  have m24 : ∀ q ∈ L2, q ∈ L4 := fun q hq => g4.1 q (g3.1.1 q hq)
  have m25 : ∀ q ∈ L2, q ∈ L5 := fun q hq => g5.1.1 q (m24 q hq)
  have mb4 : b9 ∈ L4 := g4.1 b9 g3.2.2.2.1
  have hb9 : b9 < H3.size := hw3.lt g3.2.2.2.1
  have hma : ∀ i, i < 7 → ma i ∈ L5 := fun i hi => g5.1.1 _ (hma4 i hi).2
  have hmab : ∀ i, i < 7 → b9 < ma i := fun i hi => Nat.lt_of_lt_of_le hb9 (hma4 i hi).1
  have hS : LST L5 ad o b9 ma := ⟨fun i hi => m25 _ (hm2 i hi), hin, g5.1.1 _ mb4, hma, g5.2.2.2.1, fun i hi => Ne.symm (Nat.ne_of_lt (lto _ (m24 _ (hm2 i hi)))), ⟨Ne.symm (Nat.ne_of_lt (lto _ mb4)), fun i hi => Ne.symm (Nat.ne_of_lt (lto _ (hma4 i hi).2))⟩, fun j hj => ⟨Nat.ne_of_lt (ltb _ (hm2 j hj)), fun i hi => Nat.ne_of_lt (Nat.lt_trans (ltb _ (hm2 j hj)) (hmab i hi))⟩⟩
  have e54 : ∀ q ∈ L4, F5 q = F4 q := fun q hq => (g5.2.2.1 q hq).1
  have hX5 : XW G F5 ad A0 := hX2.keep (fun i hi => (e54 _ (m24 _ (hm2 i hi))).trans ((fr4 _ (g3.1.1 _ (hm2 i hi)) (Nat.ne_of_lt (ltb _ (hm2 i hi)))).trans (g3.2.2.1 _ (hm2 i hi)).1))
  have hM5 : MW G F5 b9 ma A0 0 := hM4.keep (e54 _ mb4) (fun i hi => e54 _ (hma4 i hi).2)
  have hg : gr [] L5 s.heap.size := (((g1.1.step g2 hw1.2.2.1).step g3.1 hw2.2.2.1).step g4 hw3.2.2.1).step g5.1 hw4.2.2.1
  have hnew : ∀ q, wA L5 s.heap.size q → s.heap.size ≤ q := fun q hq => hq.elim (fun h => (hg.2 q h).elim (fun h => absurd h List.not_mem_nil) id) id
  refine law_loop hst C5 hXw hS hSc hbl (fun h => absurd (hnew b h) (Nat.not_le.mpr hbl)) hL ?_ 512 0 A0 0 F5 (fun _ => 0) H5 locs4 ls4 _ _ (by omega) (by omega) okA_0 okCA_0 hw5 hX5 hM5 g5.2.1 (lv_sub hl4 [4, 3, 2, 1, 0] rfl) (by decide) (by decide)
  intro F H locs ls cells slots hw hc hs
  refine va_forget (fun q hq => hnew _ (hw.2.2.2.2 q hq)) ?_
  refine W.widen (k := 601024) (n := 7293034) hc hs ?_
  refine lv_iconst (v := 1) hx hb dL_law_2183 rfl ?_
  exact lw_ret (d0 := s.drawn) (Drawn.sameBut.refl s.drawn lw_cs) hx hb hr hlocks dL_law_2184
set_option maxHeartbeats 4000000 in
theorem lw_walk (l : Launch) (hflags : l.flags = flags0) (b : Addr) (xs : List Int32) : MetFree l x (headSpec (Jvm.Cond.code x code maxLocals ret :: tables_1) room_1) (lw_P b xs) (fun _ _ _ _ _ => True) lw_Q := by
  refine MetFree.of_bodyS (code := code) (maxLocals := maxLocals) (ret := ret) (by decide) ?_ ?_
  · intro args s m h hn
    obtain ⟨meth, c, h1, h2, h3, h4, h5, h6, -, -⟩ := Cond.code_spec hn (atoms_spec (ws := Jvm.Cond.code x code maxLocals ret :: tables_1) h _ List.mem_cons_self)
    exact ⟨meth, c, h1, h2, h3, h4, h5, h6⟩
  · intro p e s m args below meth c s₁ B hml0 hP _
    obtain ⟨rfl, hx, hbd, hgv⟩ := hP
    obtain ⟨scr, harrAt, hlist, hof, hsmall⟩ := hx
    obtain ⟨hcb, hkn, -, -⟩ := State.arrayAt?_spec harrAt
    have hown : s.vm.findClass R_law = some m.cls := findClass_of_methodNamed B.named
    have hts0 : ∀ c ∈ (Jvm.Cond.code x code maxLocals ret :: tables_1), c.before #[Value.ref b] s = true := atoms_spec (ws := Jvm.Cond.code x code maxLocals ret :: tables_1) B.pre
    have hts : ∀ w ∈ lw_tbl, w.before #[Value.ref b] s = true := k2_hts_sels lw_privs (fun w hw => hts0 w (List.mem_cons_of_mem _ hw)) lw_privs_ok
    have hml : c.maxLocals = 9 := B.maxLocals_eq (hts0 _ List.mem_cons_self)
    have X₀ : Stand p l e room_1 s m #[Value.ref b] below meth c s₁ [] 0 0 := Stand.of_body B
    have hh0 : s₁.heap = s.heap := by rw [B.state]; rfl
    have hsz : scr.slots.size = xs.length := by rw [← Array.length_toList, hlist, List.length_map]
    have hval : ∀ j : Nat, j < xs.length → scr.slots[j]? = some (.int (xs.getD j 0)) := fun j hj => by
      rw [← Array.getElem?_toList, hlist]
      simp [hj]
    have hbl : b < s.heap.size := (Array.getElem?_eq_some_iff.mp hcb).1
    have hX : va_X b xs.length (fun j => xs.getD j 0) s s.heap := ⟨scr, hcb, hof, hkn, hsz, hval⟩
    have K : W p l e room_1 s m #[Value.ref b] below meth c s₁.heap [] 0 0 (lw_Z below #[Value.ref b] s) (entryFrame m ([Value.ref b] : List Value).toArray 9) := by
      rw [hh0]
      exact whole_start l hflags hbd ⟨B.exec, B.bytes, B.returns, hml, hown, hts, hX, hbl, B.notSynchronized, hgv⟩
    obtain ⟨t, a1, o, b1, b2, b3⟩ := K s₁ rfl X₀
    exact ⟨t, o, a1, b1, b2, b3⟩
theorem lw_pre_spec {args : Array Value} {s : State} (h : (Jvm.Cond.and given_1 narrow_1).before args s = true) (hr : rest_1_c.before args s = true) : ∃ (b : Addr) (xs : List Int32), lw_P b xs args s := by
  have hs := flat_of_before _ h
  have hq := flat_of_before _ hr
  have hc : (Cond.count 1).before args s = true := hs _ (by decide +kernel)
  have harr : (Cond.arrayOf (.arg 0) .int).before args s = true := hs _ (by decide +kernel)
  have hle : (Cond.le (.length (.arg 0)) (.int 2048)).before args s = true := hs _ (by decide +kernel)
  have hlen : (Cond.isInt (.length (.arg 0))).before args s = true := hq _ (by decide +kernel)
  have hall : (Cond.all (.arg 0) (.isInt (.elem (.arg 0) (.index 0)))).before args s = true := hq _ (by decide +kernel)
  obtain ⟨b, xs, hb, hx⟩ := State.ints_of_pre rfl harr hlen hall
  have hsm : xs.length < 2 ^ 31 := hx.choose_spec.2.2.2
  have hev : (Term.length (.arg 0)).eval args s none [] s = some (.int xs.length.toInt32) := hx.length_eval hb
  have hv := Cond.le_ints hev (show (Term.int 2048).eval args s none [] s = some (.int 2048) from rfl)
  have hd : xs.length.toInt32 ≤ 2048 := by
    simpa [Cond.before, Cond.holds, hv] using hle
  have hN : xs.length ≤ 2048 := (Int32.ofNat_le_ofNat hsm (by decide)).mp (show Int32.ofNat xs.length ≤ Int32.ofNat 2048 from hd)
  exact ⟨b, xs, Cond.one_arg hc (show args[0]? = some (.ref b) from hb), hx, hN, h⟩
theorem lw_comes (l : Launch) (hflags : l.flags = flags0) : Comes l x (Jvm.Cond.code x code maxLocals ret :: tables_1) room_1 (fun tb e args s => Calls_1 tb e args s ∧ rest_1 tb e args s ∧ Pre_1 tb e args s)
    (fun _ _ args s o t => lw_Q args s o t) := by
  intro p e ha hc hk s m args below hf hfit hheap happ hpre
  obtain ⟨b, xs, hP⟩ := lw_pre_spec hpre.2.2 hpre.2.1
  obtain ⟨k, o, h1, h2, h3, hQ⟩ := lw_walk l hflags b xs p e ha hc hk s m args below hf ((Spec.applies_iff_loose hf).mp happ).1 hP trivial
  exact ⟨k, o, h1, h2, h3, hQ⟩
theorem lw_frame {s t : State} {o : Outcome} {args : Array Value} (h : State.butDraws s t lw_cs (fun t1 => Framed s o t1 [] 601024 7293034)) :
    State.butDraws s t [Jvm.Choice.named "NaN.bits"] (fun t1 => Framed s o t1 (fieldLocs frame_1_writes args s ++ arrayLocs frame_1_arrays args s ++ staticLocs frame_1_statics s) 601024 7293034) := h
theorem lw_limb (L : Cond) (hL : ∀ (args : Array Value) (s t : State), L.after args s (.returned (some (.int 1))) t = true) :
    ArmFor flags0 classFile x code maxLocals ret World_1 tables_1 room_1 Calls_1 rest_1 Pre_1
      (fun tb e a s o t => postC L tb e a s o t ∧ State.butDraws s t [Jvm.Choice.named "NaN.bits"] (fun t1 => Framed s o t1 (fieldLocs frame_1_writes a s ++ arrayLocs frame_1_arrays a s ++ staticLocs frame_1_statics s) 601024 7293034)) := by
  intro l hflags _ _ p e ha hc hk s m args below hf hfit hheap happ hpre
  obtain ⟨k, o, h1, h2, h3, rfl, hF⟩ := lw_comes l hflags p e ha hc hk s m args below hf hfit hheap happ hpre
  exact ⟨k, _, h1, h2, h3, hL args s _, lw_frame hF⟩
theorem i_vc : Claimed_1_1 ∧ Claimed_1_2 := ⟨lw_limb limb_1_1 (fun args s t => by simp [limb_1_1, Cond.after, Cond.holds, Cond.value]), lw_limb limb_1_2 (fun args s t => Cond.after_iff.mpr (by
  first | (rw [show limb_1_2 = Cond.eq .result (.int 1) from rfl, Cond.eq_ints (x := 1) (y := 1) rfl rfl]; simp; done) | (simp [limb_1_2, Cond.value, Term.eval]; done)))⟩
