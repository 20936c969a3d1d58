/-! the law's start, its loop, its end -/
theorem okA_0 : okA A0 := by
  refine ⟨⟨by decide, by decide, by decide, fun i hi => ⟨?_, ?_⟩⟩, ⟨Nat.zero_le _, fun i hi => absurd hi (Nat.not_lt_zero i)⟩, fun j _ h => absurd (show false = true from h) (by decide), Nat.zero_le _, fun i hi => absurd hi (Nat.not_lt_zero i)⟩
  · exact if_neg (by omega)
  · exact if_neg (by omega)
theorem okFl_0 : okFl A0 := fun i hi => ⟨if_neg (by omega), if_pos (by omega)⟩
def fl0 (s : Nat) : Rws := fun i p => if i < s ∧ p = 1 then 1 else 0
theorem fl0_s {s : Nat} : va_up (fl0 s) s (va_up (fl0 s s) 1 (zc 1)) = fl0 (s + 1) := by
  funext i p
  by_cases e : i = s
  · subst e
    rw [va_up_self]
    by_cases e1 : p = 1
    · subst e1
      rw [va_up_self]
      have h : i < i + 1 ∧ 1 = 1 := by omega
      simp only [fl0, h, and_self, if_true, zc_1]
    · rw [va_up_ne _ _ e1]
      have h : ¬ (i < i ∧ p = 1) := by omega
      have h2 : ¬ (i < i + 1 ∧ p = 1) := by omega
      simp only [fl0, h, h2, if_false]
  · rw [va_up_ne _ _ e]
    have h : (i < s + 1 ∧ p = 1) = (i < s ∧ p = 1) := by simp only [eq_iff_iff]; omega
    simp only [fl0, h]
theorem fl0_6 {G : Gl} : pcF G (fl0 6) = pcF G (hiR A0.1.2.2.2.2.2) := pcF_congr (fun i p hp => by
  show (if i < 6 ∧ p = 1 then (1 : ZP) else 0) = (if i < 6 then r0 (6 + i) else zR) p
  by_cases h : i < 6
  · rw [if_pos h]
    show _ = if 6 ≤ 6 + i ∧ p = 1 then (1 : ZP) else 0
    by_cases h1 : p = 1
    · rw [if_pos ⟨h, h1⟩, if_pos ⟨by omega, h1⟩]
    · rw [if_neg (fun z => h1 z.2), if_neg (fun z => h1 z.2)]
  · rw [if_neg h, if_neg (fun z => h z.1)]
    rfl)
theorem fl0_0 : ∀ k, k < 42 → (fun _ : Nat => nI 0) k = pc (fl0 0) k := fun k _ => by
  have h : ¬ (k / 7 < 0 ∧ k % 7 = 1) := by omega
  unfold pc fl0
  rw [if_neg h]
  rfl
theorem lo0_0 : ∀ k, k < 42 → (fun _ : Nat => nI 0) k = pc (loR A0.1.2.2.2.2.2) k := fun k hk => by
  have h6 : k / 7 < 6 := by omega
  have h : ¬ (6 ≤ k / 7 ∧ k % 7 = 1) := by omega
  unfold pc
  rw [loR_at _ h6]
  show _ = nI (if 6 ≤ k / 7 ∧ k % 7 = 1 then (1 : ZP) else 0).val
  rw [if_neg h]
  rfl
theorem n0_0 : ∀ i, i < 6 → upd (upd (fun _ => nI 0) 0 (nI 5)) 1 (nI 500) i = nG 5 500 0 0 0 0 i := fun i hi => by
  rcases (show i = 0 ∨ i = 1 ∨ i = 2 ∨ i = 3 ∨ i = 4 ∨ i = 5 by omega) with rfl | rfl | rfl | rfl | rfl | rfl <;> rfl
section LAW
variable {p : Program} {l : Launch} {e : Env} {s : State} {m : MethodId} {args : Array Value} {below : List Frame} {meth : Method} {c : Code} {H : Heap} {locs : List Loc} {cells slots : Nat} {Q : State → Prop}
variable {pc9 : Nat} {ls : Array Slot} {rest : List Value} {G : Gl} {L : List Nat} {F : Nat → va_E} {ad : Nat → Nat} {nu fi fl b N : Nat} {xs : Nat → Int32}
abbrev lw0 (b o nu fi fl k : Nat) : List (Nat × Value) := [(5, .int (nI k)), (0, .ref b), (1, .ref o), (2, .ref nu), (3, .ref fi), (4, .ref fl)]
/-- a number of the script -/
theorem q_cell (C0 : Cx p s m args c cL_law 6 RL G L) (hw : wD G L F s H locs) (hSc : va_X b N xs s s.heap) (hbl : b < s.heap.size) (hbA : ¬ wA L s.heap.size b) (hN : N ≤ 260) {k : Nat} (hk : k ≤ 1000) (hsize : ls.size = 6) (hcat : (rest.map fun v => v.category).sum ≤ 8) (hdg : decode cL_law pc9 = .ok (.invokestatic 119, 3)) (hcs : cells + 0 ≤ room_1.cells ∧ slots + 0 ≤ room_1.slots)
    (kk : ∀ (r : Int32) (F' : Nat → va_E) (H1 : Heap) (locs1 : List Loc), wD G L F' s H1 locs1 → (∀ q, F' q = F q) → W p l e room_1 s m args below meth c H1 locs1 cells slots Q (F0 m (pc9 + 3) ls (.int r :: rest))) : W p l e room_1 s m args below meth c H locs cells slots Q (F0 m pc9 ls (.int (nI k) :: .ref b :: rest)) := by
  have hbA2 : ¬ wA L H.size b := fun h => hbA (wA.mono hw.2.2.1 b h)
  have hX2 : va_X b N xs s H := hSc.kept (hw.2.2.2.1 b hbl hbA)
  refine q_calli (mc := 0) (ms := 0) hw (va_runS (As := [.ref b, .int (nI k)]) (rest := rest) ⟨C0.x, C0.b, C0.ml, C0.ow, C0.ts⟩ (c_L_cell l G L F b N xs hN k hk H.size) (cwS_TB C0 sw_L_119 ⟨by decide, by decide⟩) ⟨cPS.blind, fun U hU hW => ⟨cP.hold C0 hw _ U hU hW, ?_, Nat.lt_of_lt_of_le hbl hw.2.2.1, hbA2⟩⟩ rfl rfl hsize rfl (lv_room hcat) hdg hcs) rfl rfl kk
  rw [hU]
  exact hX2.moved hW.alike
set_option maxHeartbeats 4000000 in
set_option maxRecDepth 100000 in
theorem law_loop (C0 : Cx p s m args c cL_law 6 RL G L) (hS : LSQ L ad nu fi fl) (hSc : va_X b N xs s s.heap) (hbl : b < s.heap.size) (hbA : ¬ wA L s.heap.size b) (hN : N ≤ 260)
    (hend : ∀ (F : Nat → va_E) (H : Heap) (locs : List Loc) (ls : Array Slot) (cells slots : Nat), wD G L F s H locs → cells ≤ room_1.cells → slots ≤ room_1.slots → W p l e room_1 s m args below meth c H locs cells slots Q (F0 m 119 ls [])) :
    ∀ (n k : Nat) (A : AB) (F : Nat → va_E) (H : Heap) (locs : List Loc) (ls : Array Slot) (cells slots : Nat), k + n = 50 → A.1.2.1 ≤ 500 + 300 * k → wD G L F s H locs → LWQ G F ad nu fi fl A → lv_has ls 6 (lw0 b (ad 0) nu fi fl k) → cells + 115 * n ≤ 600000 → slots + 805 * n ≤ 7000000 → W p l e room_1 s m args below meth c H locs cells slots Q (F0 m 64 ls []) := by
  have hx := C0.x
  have hb := C0.b
  intro n
  induction n with
  | zero =>
    intro k A F H locs ls cells slots hk hA1 hw hB hl hc hs
    refine lv_iload hx hb dL_law_64 (lv_at hl 0 rfl) ?_
    refine lv_bipush (v := nI 50) hx hb dL_law_66 (by decide) ?_
    refine n_icmp_ge (tgt := 119) hx hb dL_law_68 (by decide) (by omega) (by decide) (fun _ => ?_) (fun h => absurd h (by omega))
    exact hend F H locs ls cells slots hw (show cells ≤ 639328 by omega) (show slots ≤ 7183484 by omega)
  | succ n ih =>
    intro k A F H locs ls cells slots hk hA1 hw hB hl hc hs
    refine lv_iload hx hb dL_law_64 (lv_at hl 0 rfl) ?_
    refine lv_bipush (v := nI 50) hx hb dL_law_66 (by decide) ?_
    refine n_icmp_ge (tgt := 119) hx hb dL_law_68 (by decide) (by omega) (by decide) (fun h => absurd h (by omega)) (fun _ => ?_)
    refine lv_aload_n hx hb dL_law_71 rfl (lv_at hl 2 rfl) ?_
    refine lv_aload_n hx hb dL_law_72 rfl (lv_at hl 1 rfl) ?_
    refine lv_iconst (v := nI 2) hx hb dL_law_73 (by decide) ?_
    refine lv_iload hx hb dL_law_74 (lv_at hl 0 rfl) ?_
    refine n_imul hx hb dL_law_76 ?_
    refine q_cell C0 hw hSc hbl hbA hN (by omega) hl.1 (Nat.le_of_ble_eq_true rfl) dL_law_77 ⟨show cells + 0 ≤ 639328 by omega, show slots + 0 ≤ 7183484 by omega⟩ (fun x9 F1 H1 locs1 hw1 o1 => ?_)
    refine lv_aload_n hx hb dL_law_80 rfl (lv_at hl 1 rfl) ?_
    refine lv_iconst (v := nI 2) hx hb dL_law_81 (by decide) ?_
    refine lv_iload hx hb dL_law_82 (lv_at hl 0 rfl) ?_
    refine n_imul hx hb dL_law_84 ?_
    refine lv_iconst (v := nI 1) hx hb dL_law_85 (by decide) ?_
    refine n_iadd hx hb dL_law_86 ?_
    refine q_cell C0 hw1 hSc hbl hbA hN (by omega) hl.1 (Nat.le_of_ble_eq_true rfl) dL_law_87 ⟨show cells + 0 ≤ 639328 by omega, show slots + 0 ≤ 7183484 by omega⟩ (fun y9 F2 H2 locs2 hw2 o2 => ?_)
    refine lv_aload_n hx hb dL_law_90 rfl (lv_at hl 3 rfl) ?_
    refine lv_aload_n hx hb dL_law_91 rfl (lv_at hl 4 rfl) ?_
    refine lv_aload hx hb dL_law_92 (lv_at hl 5 rfl) ?_
    have o12 : ∀ q, F2 q = F q := fun q => (o2 q).trans (o1 q)
    obtain ⟨hX, hA, hFl, hN1, hN2, hN3⟩ := hB
    have hX2 : XW G F2 ad A := hX.keep (fun i _ => o12 _)
    refine q_calliG hw2 (q_runS (As := [.ref (ad 0), .int x9, .int y9, .ref nu, .ref fi, .ref fl]) (c_L_act l G L F2 ad nu fi fl hS A hX2 hA hFl ⟨(o12 nu).trans hN1, (o12 fi).trans hN2, (o12 fl).trans hN3⟩ (by omega) x9 y9) C0 hw2 sw_L_123 rfl hl.1 rfl (Nat.le_of_ble_eq_true rfl) dL_law_94 ⟨by decide, by decide⟩ ⟨(by show cells + 115 ≤ 639328; omega), (by show slots + 805 ≤ 7183484; omega)⟩) (fun r3 F3 H3 locs3 hz3 hw3 hp3 => ?_)
    obtain ⟨rfl, A3, hB3, hp9⟩ := hp3
    refine n_if_eq (tgt := 111) hx hb dL_law_97 (by decide) (by decide) (fun h => absurd h (by decide)) (fun _ => ?_)
    refine lv_aload_n hx hb dL_law_100 rfl (lv_at hl 2 rfl) ?_
    refine lv_aload_n hx hb dL_law_101 rfl (lv_at hl 3 rfl) ?_
    refine lv_aload_n hx hb dL_law_102 rfl (lv_at hl 4 rfl) ?_
    refine lv_aload hx hb dL_law_103 (lv_at hl 5 rfl) ?_
    obtain ⟨hX3, hA3, hFl3, hN3'⟩ := hB3
    refine q_calliG hw3 (q_runS (As := [.ref (ad 0), .ref nu, .ref fi, .ref fl]) (c_L_agree l G L F3 ad nu fi fl hS A3 hX3 hA3 hFl3 hN3') C0 hw3 sw_L_127 rfl hl.1 rfl (Nat.le_of_ble_eq_true rfl) dL_law_105 ⟨by decide, by decide⟩ ⟨(by show cells + 115 + 0 ≤ 639328; omega), (by show slots + 805 + 0 ≤ 7183484; omega)⟩) (fun r4 F4 H4 locs4 hz4 hw4 hp4 => ?_)
    obtain ⟨rfl, hB4⟩ := hp4
    refine n_if_ne (tgt := 113) hx hb dL_law_108 (by decide) (by decide) (fun _ => ?_) (fun h => absurd h (by decide))
    refine lv_iinc (k := 0) (v := nI (k + 1)) hx hb dL_law_113 hl rfl (nI_add k 1) (by decide) rfl (fun ls5 hl5 => ?_)
    refine lv_goto (tgt := 64) hx hb dL_law_116 (by decide) ?_
    exact ih (k + 1) A3 F4 H4 locs4 ls5 (cells + 115) (slots + 805) (by omega) (by omega) hw4 hB4 (lv_sub hl5 [0, 1, 2, 3, 4, 5] rfl) (by omega) (by omega)
set_option maxHeartbeats 4000000 in
set_option maxRecDepth 100000 in
theorem law_flows (C0 : Cx p s m args c cL_law 6 RL G L) (mfl : fl ∈ L) {o : Nat}
    (kk : ∀ (F1 : Nat → va_E) (H : Heap) (locs : List Loc) (ls : Array Slot), wD G L F1 s H locs → F1 fl = pcF G (fl0 6) → (∀ q, q ≠ fl → F1 q = F q) → lv_has ls 6 (lw0 b o nu fi fl 6) → W p l e room_1 s m args below meth c H locs cells slots Q (F0 m 61 ls [])) :
    ∀ (n k : Nat) (F1 : Nat → va_E) (H : Heap) (locs : List Loc) (ls : Array Slot), k + n = 6 → wD G L F1 s H locs → F1 fl = pcF G (fl0 k) → (∀ q, q ≠ fl → F1 q = F q) → lv_has ls 6 (lw0 b o nu fi fl k) → W p l e room_1 s m args below meth c H locs cells slots Q (F0 m 37 ls []) := by
  have hx := C0.x
  have hb := C0.b
  intro n
  induction n with
  | zero =>
    intro k F1 H locs ls hk hw hf ho hl
    obtain rfl : k = 6 := by omega
    refine lv_iload hx hb dL_law_37 (lv_at hl 0 rfl) ?_
    refine lv_bipush (v := nI 6) hx hb dL_law_39 (by decide) ?_
    refine n_icmp_ge (tgt := 61) hx hb dL_law_41 (by decide) (by decide) (by decide) (fun _ => ?_) (fun h => absurd h (by decide))
    exact kk F1 H locs ls hw hf ho hl
  | succ n ih =>
    intro k F1 H locs ls hk hw hf ho hl
    refine lv_iload hx hb dL_law_37 (lv_at hl 0 rfl) ?_
    refine lv_bipush (v := nI 6) hx hb dL_law_39 (by decide) ?_
    refine n_icmp_ge (tgt := 61) hx hb dL_law_41 (by decide) (by omega) (by decide) (fun h => absurd h (by omega)) (fun _ => ?_)
    refine lv_aload hx hb dL_law_44 (lv_at hl 5 rfl) ?_
    refine lv_bipush (v := nI 7) hx hb dL_law_46 (by decide) ?_
    refine lv_iload hx hb dL_law_48 (lv_at hl 0 rfl) ?_
    refine n_imul hx hb dL_law_50 ?_
    refine lv_iconst (v := nI 1) hx hb dL_law_51 (by decide) ?_
    refine n_iadd hx hb dL_law_52 ?_
    refine lv_iconst (v := nI 1) hx hb dL_law_53 (by decide) ?_
    refine q_pst42 C0 hw mfl hf k 1 (by omega) (by decide) (z := zc 1) dL_law_54 (fun F2 H2 locs2 hw2 h2 o2 => ?_)
    refine lv_iinc (k := 0) (v := nI (k + 1)) hx hb dL_law_55 hl rfl (nI_add k 1) (by decide) rfl (fun ls3 hl3 => ?_)
    refine lv_goto (tgt := 37) hx hb dL_law_58 (by decide) ?_
    exact ih (k + 1) F2 H2 locs2 ls3 (by omega) hw2 (h2.trans (congrArg (pcF G) fl0_s)) (fun q hq => (o2 q hq).trans (ho q hq)) (lv_sub hl3 [0, 1, 2, 3, 4, 5] rfl)
end LAW
set_option maxRecDepth 100000 in
theorem whole_start {p : Program} {e : Env} {s : State} {m : MethodId} {below : List Frame} {meth : Method} {c : Code} (l : Launch) (hflags : l.flags = flags0) {b L : Nat} {xs : Nat → Int32} (hL : L ≤ 260) (C0 : lw_At p s m meth c b L xs) : W p l e room_1 s m #[Value.ref b] below meth c s.heap [] 0 0 (lw_Z below #[Value.ref b] s) (entryFrame m ([Value.ref b] : List Value).toArray 6) := by
  obtain ⟨G, hAm, hOv⟩ := law_start C0
  obtain ⟨hx, hb, hr, hml, hown, hts, hSc, hbl, hlocks, hgv⟩ := C0
  have Cx0 : Cx p s m #[Value.ref b] c cL_law 6 RL G [] := ⟨hx, hb, hml, hown, fun w h => hts w (tb_in h), hAm⟩
  have hw0 : wD G [] (fun _ => rw7 G (fun _ => 0)) s s.heap [] := by
    refine wD.start (fun k q h => ?_) ⟨fun i j a q h => ?_, fun k q h => ?_⟩
    · simp [va_pl] at h
    · simp [va_pl] at h
    · simp [va_pl] at h
  rw [lg_entry_eq]
  have hl0 := lv_entry [Value.ref b] (n := 6) (Nat.le_of_ble_eq_true rfl)
  have hl : lv_has ((lg_sl [Value.ref b] ++ List.replicate (6 - (lg_sl [Value.ref b]).length) Slot.unset).toArray) 6 [(0, Value.ref b)] := hl0
  generalize (lg_sl [Value.ref b] ++ List.replicate (6 - (lg_sl [Value.ref b]).length) Slot.unset).toArray = ls at hl ⊢
  refine k_new Cx0 hw0 nw_L_44 (by decide) (by decide) dL_law_0 (fun L1 F1 a H1 g1 hw1 => ?_)
  have C1 := Cx0.grow g1.1 (Nat.le_refl _)
  refine lv_dup hx hb dL_law_3 rfl ?_
  refine q_calln hw1 (fun L1 F1 h => h.1) (q_runI (As := []) (c_X5_init l G L1 F1 a g1.2.2.2.1 g1.2.1) C1 hOv hw1 iw_L_118 rfl hl.1 rfl (Nat.le_of_ble_eq_true rfl) dL_law_4 ⟨by decide, by decide⟩ ⟨by decide, by decide⟩) (fun L2 F2 H2 locs2 hz2 hw2 hp2 => ?_)
  obtain ⟨g2, ad, rfl, hX2, hm2, hge2, hin, -⟩ := hp2
  have C2 := C1.grow g2 hw1.2.2.1
  refine lv_astore_n hx hb dL_law_7 rfl hl (by decide) rfl (fun ls1 hl1 => ?_)
  refine lv_bipush (v := nI 6) hx hb dL_law_8 (by decide) ?_
  refine k_newi C2 hw2 (N := 6) (by decide) (by decide) (by decide) (by decide) dL_law_10 (fun L3 F3 nu H3 g3 hw3 => ?_)
  have C3 := C2.grow g3.1 hw2.2.2.1
  refine lv_astore_n hx hb dL_law_12 rfl hl1 (by decide) rfl (fun ls2 hl2 => ?_)
  refine lv_bipush (v := nI 42) hx hb dL_law_13 (by decide) ?_
  refine k_newi C3 hw3 (N := 42) (by decide) (by decide) (by decide) (by decide) dL_law_15 (fun L4 F4 fi H4 g4 hw4 => ?_)
  have C4 := C3.grow g4.1 hw3.2.2.1
  refine lv_astore_n hx hb dL_law_17 rfl hl2 (by decide) rfl (fun ls3 hl3 => ?_)
  refine lv_bipush (v := nI 42) hx hb dL_law_18 (by decide) ?_
  refine k_newi C4 hw4 (N := 42) (by decide) (by decide) (by decide) (by decide) dL_law_20 (fun L5 F5 fl H5 g5 hw5 => ?_)
  have C5 := C4.grow g5.1 hw4.2.2.1
  refine lv_astore hx hb dL_law_22 hl3 (by decide) rfl (fun ls4 hl4 => ?_)
  have m35 : ∀ q ∈ L3, q ∈ L5 := fun q hq => g5.1.1 q (g4.1.1 q hq)
  have m25 : ∀ q ∈ L2, q ∈ L5 := fun q hq => m35 q (g3.1.1 q hq)
  have mnu : nu ∈ L5 := m35 nu g3.2.2.2.1
  have mfi : fi ∈ L5 := g5.1.1 fi g4.2.2.2.1
  have mfl : fl ∈ L5 := g5.2.2.2.1
  have ln : ∀ q ∈ L2, q < nu := fun q hq => (g3.2.2.1 q hq).2
  have lfi : ∀ q ∈ L3, q < fi := fun q hq => (g4.2.2.1 q hq).2
  have lfl : ∀ q ∈ L4, q < fl := fun q hq => (g5.2.2.1 q hq).2
  have n1 : nu < fi := lfi nu g3.2.2.2.1
  have n2 : fi < fl := lfl fi g4.2.2.2.1
  have hS : LSQ L5 ad nu fi fl := ⟨fun i hi => m25 _ (hm2 i hi), hin, mnu, mfi, mfl, by omega, by omega, by omega, fun i hi => by have := ln _ (hm2 i hi); omega, fun i hi => by have := ln _ (hm2 i hi); omega, fun i hi => by have := ln _ (hm2 i hi); omega⟩
  have e25 : ∀ q ∈ L2, F5 q = F2 q := fun q hq => (g5.2.2.1 q (g4.1.1 q (g3.1.1 q hq))).1.trans ((g4.2.2.1 q (g3.1.1 q hq)).1.trans (g3.2.2.1 q hq).1)
  have hX5 : XW G F5 ad A0 := hX2.keep (fun i hi => e25 _ (hm2 i hi))
  have fnu : F5 nu = .inl (G.2 0, 6, .inl (fun _ => nI 0)) := (g5.2.2.1 nu (g4.1.1 nu g3.2.2.2.1)).1.trans ((g4.2.2.1 nu g3.2.2.2.1).1.trans g3.2.1)
  have ffi : F5 fi = .inl (G.2 0, 42, .inl (fun _ => nI 0)) := (g5.2.2.1 fi g4.2.2.2.1).1.trans g4.2.1
  have ffl : F5 fl = .inl (G.2 0, 42, .inl (fun _ => nI 0)) := g5.2.1
  refine lv_aload_n hx hb dL_law_24 rfl (lv_at hl4 2 rfl) ?_
  refine lv_iconst (v := nI 0) hx hb dL_law_25 rfl ?_
  refine lv_iconst (v := nI 5) hx hb dL_law_26 rfl ?_
  refine q_iast C5 hw5 mnu fnu 0 (by decide) (by decide) dL_law_27 (fun F6 H6 locs6 hw6 h6 o6 => ?_)
  refine lv_aload_n hx hb dL_law_28 rfl (lv_at hl4 2 rfl) ?_
  refine lv_iconst (v := nI 1) hx hb dL_law_29 rfl ?_
  refine lv_sipush (v := nI 500) hx hb dL_law_30 (by decide) ?_
  refine q_iast C5 hw6 mnu h6 1 (by decide) (by decide) dL_law_33 (fun F7 H7 locs7 hw7 h7 o7 => ?_)
  obtain ⟨F8, hw8, h8, o8⟩ := hw7.canonE h7 n0_0
  have fi8 : F8 fi = .inl (G.2 0, 42, .inl (fun _ => nI 0)) := (o8 fi (by omega)).trans ((o7 fi (by omega)).trans ((o6 fi (by omega)).trans ffi))
  obtain ⟨F9, hw9, h9, o9⟩ := hw8.canonE fi8 lo0_0
  have fl9 : F9 fl = .inl (G.2 0, 42, .inl (fun _ => nI 0)) := (o9 fl (by omega)).trans ((o8 fl (by omega)).trans ((o7 fl (by omega)).trans ((o6 fl (by omega)).trans ffl)))
  obtain ⟨F10, hw10, h10, o10⟩ := hw9.canonE fl9 fl0_0
  have nu10 : F10 nu = nE G 5 500 0 0 0 0 := (o10 nu (by omega)).trans ((o9 nu (by omega)).trans h8)
  have fi10 : F10 fi = pcF G (loR A0.1.2.2.2.2.2) := (o10 fi (by omega)).trans h9
  have ad10 : ∀ i, i < 166 → F10 (ad i) = F5 (ad i) := fun i hi => by
    have h0 := ln _ (hm2 i hi)
    exact (o10 _ (by omega)).trans ((o9 _ (by omega)).trans ((o8 _ (by omega)).trans ((o7 _ (by omega)).trans (o6 _ (by omega)))))
  have hX10 : XW G F10 ad A0 := hX5.keep ad10
  refine lv_iconst (v := nI 0) hx hb dL_law_34 rfl ?_
  refine lv_istore hx hb dL_law_35 hl4 (by decide) rfl (fun ls5 hl5 => ?_)
  have hg : gr [] L5 s.heap.size := (((g1.1.step g2 hw1.2.2.1).step g3.1 hw2.2.2.1).step g4.1 hw3.2.2.1).step g5.1 hw4.2.2.1
  have hnew : ∀ q, wA L5 s.heap.size q → s.heap.size ≤ q := fun q hq => hq.elim (fun h => (hg.2 q h).elim (fun h => absurd h List.not_mem_nil) id) id
  refine law_flows (F := F10) (b := b) (nu := nu) (fi := fi) (fl := fl) C5 mfl (fun F11 H11 locs11 ls6 hw11 h11 o11 hl6 => ?_) 6 0 F10 H7 locs7 ls5 rfl hw10 h10 (fun _ _ => rfl) (lv_sub hl5 [0, 5, 4, 3, 2, 1] rfl)
  refine lv_iconst (v := nI 0) hx hb dL_law_61 rfl ?_
  refine lv_istore hx hb dL_law_62 hl6 (by decide) rfl (fun ls7 hl7 => ?_)
  have hX11 : XW G F11 ad A0 := hX10.keep (fun i hi => o11 _ (by have h0 := ln _ (hm2 i hi); omega))
  refine law_loop C5 hS hSc hbl (fun h => absurd (hnew b h) (Nat.not_le.mpr hbl)) hL ?_ 50 0 A0 F11 H11 locs11 ls7 _ _ rfl (Nat.le_refl 500) hw11 ⟨hX11, okA_0, okFl_0, (o11 nu (by omega)).trans nu10, (o11 fi (by omega)).trans fi10, h11.trans fl0_6⟩ (lv_sub hl7 [0, 1, 2, 3, 4, 5] rfl) (by decide) (by decide)
  intro F H locs ls cells slots hw hc hs
  refine va_forget (fun q hq => hnew _ (hw.2.2.2.2 q hq)) ?_
  refine W.widen (k := 639328) (n := 7183484) hc hs ?_
  refine lv_iconst (v := 1) hx hb dL_law_119 rfl ?_
  exact lw_ret hx hb hr hlocks dL_law_120
set_option maxHeartbeats 4000000 in
theorem lw_walk (l : Launch) (hflags : l.flags = flags0) (b : Addr) (xs : List Int32) : MetFree l x (headSpec (Jvm.Cond.code x code maxLocals ret :: tables_1) room_1) (lw_P b xs) (fun _ _ _ _ _ => True) lw_Q := by
  refine MetFree.of_bodyS (code := code) (maxLocals := maxLocals) (ret := ret) (by decide) ?_ ?_
  · intro args s m h hn
    obtain ⟨meth, c, h1, h2, h3, h4, h5, h6, -, -⟩ := Cond.code_spec hn (atoms_spec (ws := Jvm.Cond.code x code maxLocals ret :: tables_1) h _ List.mem_cons_self)
    exact ⟨meth, c, h1, h2, h3, h4, h5, h6⟩
  · intro p e s m args below meth c s₁ B hml0 hP _
    obtain ⟨rfl, hx, hbd, hgv⟩ := hP
    obtain ⟨scr, harrAt, hlist, hof, hsmall⟩ := hx
    obtain ⟨hcb, hkn, -, -⟩ := State.arrayAt?_spec harrAt
    have hown : s.vm.findClass R_law = some m.cls := findClass_of_methodNamed B.named
    have hts0 : ∀ c ∈ (Jvm.Cond.code x code maxLocals ret :: tables_1), c.before #[Value.ref b] s = true := atoms_spec (ws := Jvm.Cond.code x code maxLocals ret :: tables_1) B.pre
    have hts : ∀ w ∈ lw_tbl, w.before #[Value.ref b] s = true := k2_hts_sels lw_privs (fun w hw => hts0 w (List.mem_cons_of_mem _ hw)) lw_privs_ok
    have hml : c.maxLocals = 6 := B.maxLocals_eq (hts0 _ List.mem_cons_self)
    have X₀ : Stand p l e room_1 s m #[Value.ref b] below meth c s₁ [] 0 0 := Stand.of_body B
    have hh0 : s₁.heap = s.heap := by rw [B.state]; rfl
    have hsz : scr.slots.size = xs.length := by rw [← Array.length_toList, hlist, List.length_map]
    have hval : ∀ j : Nat, j < xs.length → scr.slots[j]? = some (.int (xs.getD j 0)) := fun j hj => by
      rw [← Array.getElem?_toList, hlist]
      simp [hj]
    have hbl : b < s.heap.size := (Array.getElem?_eq_some_iff.mp hcb).1
    have hX : va_X b xs.length (fun j => xs.getD j 0) s s.heap := ⟨scr, hcb, hof, hkn, hsz, hval⟩
    have K : W p l e room_1 s m #[Value.ref b] below meth c s₁.heap [] 0 0 (lw_Z below #[Value.ref b] s) (entryFrame m ([Value.ref b] : List Value).toArray 6) := by
      rw [hh0]
      exact whole_start l hflags hbd ⟨B.exec, B.bytes, B.returns, hml, hown, hts, hX, hbl, B.notSynchronized, hgv⟩
    obtain ⟨t, a1, o, b1, b2, b3⟩ := K s₁ rfl X₀
    exact ⟨t, o, a1, b1, b2, b3⟩
theorem lw_pre_spec {args : Array Value} {s : State} (h : (Jvm.Cond.and given_1 narrow_1).before args s = true) (hr : rest_1_c.before args s = true) : ∃ (b : Addr) (xs : List Int32), lw_P b xs args s := by
  have hs := flat_of_before _ h
  have hq := flat_of_before _ hr
  have hc : (Cond.count 1).before args s = true := hs _ (by decide +kernel)
  have harr : (Cond.arrayOf (.arg 0) .int).before args s = true := hs _ (by decide +kernel)
  have hle : (Cond.le (.length (.arg 0)) (.int 260)).before args s = true := hs _ (by decide +kernel)
  have hlen : (Cond.isInt (.length (.arg 0))).before args s = true := hq _ (by decide +kernel)
  have hall : (Cond.all (.arg 0) (.isInt (.elem (.arg 0) (.index 0)))).before args s = true := hq _ (by decide +kernel)
  obtain ⟨b, xs, hb, hx⟩ := State.ints_of_pre rfl harr hlen hall
  have hsm : xs.length < 2 ^ 31 := hx.choose_spec.2.2.2
  have hev : (Term.length (.arg 0)).eval args s none [] s = some (.int xs.length.toInt32) := hx.length_eval hb
  have hv := Cond.le_ints hev (show (Term.int 260).eval args s none [] s = some (.int 260) from rfl)
  have hd : xs.length.toInt32 ≤ 260 := by
    simpa [Cond.before, Cond.holds, hv] using hle
  have hN : xs.length ≤ 260 := (Int32.ofNat_le_ofNat hsm (by decide)).mp (show Int32.ofNat xs.length ≤ Int32.ofNat 260 from hd)
  exact ⟨b, xs, Cond.one_arg hc (show args[0]? = some (.ref b) from hb), hx, hN, h⟩
theorem lw_comes (l : Launch) (hflags : l.flags = flags0) : Comes l x (Jvm.Cond.code x code maxLocals ret :: tables_1) room_1 (fun tb e args s => Calls_1 tb e args s ∧ rest_1 tb e args s ∧ Pre_1 tb e args s)
    (fun _ _ args s o t => lw_Q args s o t) := by
  intro p e ha hc hk s m args below hf hfit hheap happ hpre
  obtain ⟨b, xs, hP⟩ := lw_pre_spec hpre.2.2 hpre.2.1
  obtain ⟨k, o, h1, h2, h3, hQ⟩ := lw_walk l hflags b xs p e ha hc hk s m args below hf ((Spec.applies_iff_loose hf).mp happ).1 hP trivial
  exact ⟨k, o, h1, h2, h3, hQ⟩
theorem lw_frame {s t : State} {o : Outcome} {args : Array Value} (h : Framed s o t [] 639328 7183484) :
    Framed s o t (fieldLocs frame_1_writes args s ++ arrayLocs frame_1_arrays args s ++ staticLocs frame_1_statics s) 639328 7183484 := h
theorem lw_limb (L : Cond) (hL : ∀ (args : Array Value) (s t : State), L.after args s (.returned (some (.int 1))) t = true) :
    ArmFor flags0 classFile x code maxLocals ret World_1 tables_1 room_1 Calls_1 rest_1 Pre_1
      (fun tb e a s o t => postC L tb e a s o t ∧ Framed s o t (fieldLocs frame_1_writes a s ++ arrayLocs frame_1_arrays a s ++ staticLocs frame_1_statics s) 639328 7183484) := by
  intro l hflags _ _ p e ha hc hk s m args below hf hfit hheap happ hpre
  obtain ⟨k, o, h1, h2, h3, rfl, hF⟩ := lw_comes l hflags p e ha hc hk s m args below hf hfit hheap happ hpre
  exact ⟨k, _, h1, h2, h3, hL args s _, lw_frame hF⟩
theorem i_vc : Claimed_1_1 ∧ Claimed_1_2 := ⟨lw_limb limb_1_1 (fun args s t => by simp [limb_1_1, Cond.after, Cond.holds, Cond.value]), lw_limb limb_1_2 (fun args s t => Cond.after_iff.mpr (by
  first | (rw [show limb_1_2 = Cond.eq .result (.int 1) from rfl, Cond.eq_ints (x := 1) (y := 1) rfl rfl]; simp; done) | (simp [limb_1_2, Cond.value, Term.eval]; done)))⟩

