section MROWS2
variable {p : Program} {l : Launch} {e : Env} {R : Room} {s : State} {m : MethodId} {args : Array Value} {below : List Frame} {meth : Method} {c : Code} {H : Heap} {locs : List Loc} {cells slots : Nat} {Q : State → Prop}
variable {cc : ByteArray} {nL : Nat} {own : String} {pc : Nat} {ls : Array Slot} {rest : List Value} {G : Gl} {L L1 : List Nat} {F F1 : Nat → va_E} {a : Nat}
theorem mg_6 : (nI 6).toNatClampNeg = 6 := nI_clamp (by decide)
theorem mg_7 : (nI 7).toNatClampNeg = 7 := nI_clamp (by decide)
theorem mgO_0 (cO : ClassId) (h : Nat) : arrV cO 6 (fun _ => Value.null) = mgO cO h 0 := by
  unfold mgO
  congr 1
section WPM2
variable {E : CtlPost} {d : Bool} {acts : List Action}
theorem mg_make1 {T : State} {cI cc9 : ClassId} {kI : Class} (hk : T.vm.classes[cI]? = some kI) (hkind : kI.kind = .array cc9 .int) (h1 : ¬ 7 > e.platform.arrayLengthLimit) (h2 : ¬ 7 * componentBytes .int > e.platform.maxHeapBytes) (h5 : T.heap.size < e.platform.maxCells) (h6 : T.slotsUsed + 7 ≤ e.platform.maxSlots) {Q9 : Addr → Pre}
    (hq : Q9 T.heap.size d acts (T.pushCell (mgI cI))) : wp (Op.multianewarray.make cI [nI 7]) Q9 E e d acts T := by
  rw [Op.multianewarray.make]
  simp only [wp_bind', W.ite, show ¬ nI 7 < 0 from nI_pos (by decide), if_false, wp_pure', W.theClass, hk, hkind, Option.some.injEq, exists_eq_left', mg_7]
  exact mg_new hk hkind h1 h2 rfl rfl h5 h6 hq
theorem mg_make2 {T : State} {cO cI cc9 : ClassId} {kO kI : Class} (hk : T.vm.classes[cO]? = some kO) (hkind : kO.kind = .array cI (.array .int)) (hkI : T.vm.classes[cI]? = some kI) (hkindI : kI.kind = .array cc9 .int) (h1 : ¬ 7 > e.platform.arrayLengthLimit) (h2 : ¬ 28 > e.platform.maxHeapBytes) (h5 : T.heap.size + 7 ≤ e.platform.maxCells) (h6 : T.slotsUsed + 48 ≤ e.platform.maxSlots) {Q9 : Addr → Pre}
    (hq : ∀ d9 a9, Q9 T.heap.size d9 a9 (mgS T cO cI 6)) : wp (Op.multianewarray.make cO [nI 6, nI 7]) Q9 E e d acts T := by
  rw [Op.multianewarray.make]
  simp only [wp_bind', W.ite, show ¬ nI 6 < 0 from nI_pos (by decide), if_false, wp_pure', W.theClass, hk, hkind, Option.some.injEq, exists_eq_left', mg_6]
  refine mg_new hk hkind (by omega) (by show ¬ 6 * 4 > _; omega) rfl rfl (by omega) (by omega) ?_
  rw [mgO_0 cO T.heap.size]
  have hf : ([nI 7].find? (· < 0)) = none := by decide
  simp only [hf]
  rw [ite_self, wp_bind', Std.Legacy.Range.forIn_eq_forIn_range']
  have hsz : ([:6] : Std.Legacy.Range).size = 6 := by simp [Std.Legacy.Range.size]
  rw [hsz]
  show wp (forIn (List.range' 0 6 1) PUnit.unit _) _ E e d acts _
  refine wp_forIn_inv (fun r9 s9 => ∃ i, i ≤ 6 ∧ r9 = List.range' i (6 - i) ∧ s9 = mgS T cO cI i) _ _ ⟨0, by decide, rfl, rfl⟩ ?_ ?_
  · rintro x r9 s9 d9 a9 Q8 ⟨i, hi, hl, rfl⟩ hnx
    have hlt : i < 6 := by
      rcases Nat.lt_or_ge i 6 with h | h
      · exact h
      · rw [show 6 - i = 0 by omega] at hl
        cases hl
    rw [show 6 - i = (6 - (i + 1)) + 1 by omega, List.range'_succ] at hl
    obtain ⟨rfl, hr⟩ := List.cons.inj hl
    obtain ⟨g1, g2, g3, g4, -, -⟩ := mgS_facts T cO cI x
    simp only [wp_bind']
    refine mg_make1 (by rw [g3]; exact hkI) hkindI h1 (by show ¬ 7 * 4 > _; omega) (by omega) (by omega) ?_
    have hlt0 : T.heap.size < (mgS T cO cI x).heap.size := by omega
    simp only [wp_bind', W.writeLoc, wp_pure']
    refine ⟨mgO cO T.heap.size x, by rw [State.heap_pushCell_of_lt (h := hlt0)]; exact g2, by unfold mgO arrV; simp, by rw [show (mgO cO T.heap.size x).slots.size = 6 from arrV_size _ _ _]; exact hlt, ?_, hnx _ _ _ ⟨x + 1, hlt, hr, ?_⟩⟩
    · show ((mgS T cO cI x).pushCell (mgI cI)).fitsSlot cO .none x _ = true
      simp [State.fitsSlot, State.slotType?, g3, hk, hkind]
      rfl
    · rw [g1, mgO_step]
      rfl
  · rintro s9 d9 a9 ⟨i, hi, hl, rfl⟩
    have e6 : i = 6 := by
      rcases Nat.lt_or_ge i 6 with h | h
      · rw [show 6 - i = (6 - (i + 1)) + 1 by omega, List.range'_succ] at hl
        cases hl
      · omega
    subst e6
    simp only [wp_pure']
    exact hq _ _
end WPM2
theorem q_newM (C0 : Cx p s m args c cc nL own G L) (hAI : g_AI s) (hw : wD G L F s H locs) {idx : Nat} (hcl : Cond.classLink own idx "[[I" ∈ TB) (hac : Cond.arrayClass .int ∈ TB) (hcells : cells + 7 ≤ R.cells) (hslots : slots + 48 ≤ R.slots) (hdg : decode cc pc = .ok (.multianewarray idx 2, 4))
    (kk : ∀ (L1 : List Nat) (F1 : Nat → va_E) (H1 : Heap), gr L L1 H.size → wD G L1 F1 s H1 locs → F1 H.size = oE G (fun i => H.size + 1 + i) → (∀ i, i < 6 → F1 (H.size + 1 + i) = rw7 G (fun _ => zc 0)) → (∀ i, i < 7 → H.size + i ∈ L1) → (∀ q, q < H.size → F1 q = F q) → W p l e R s m args below meth c H1 locs (cells + 7) (slots + 48) Q (F0 m (pc + 4) ls (.ref H.size :: rest))) : W p l e R s m args below meth c H locs cells slots Q (F0 m pc ls (.int (nI 7) :: .int (nI 6) :: rest)) := by
  intro T hT X
  have hS : "[" ++ (FieldType.array .int).toString = "[[I" := by decide
  have hpl : e.platform.magicAccessors = ({} : Platform).magicAccessors := by rw [X.admits.platform]
  obtain ⟨cI, cO, kO, hfI, -, hkO, hkindO, hfO⟩ := arrayOverA_spec (args := #[]) (first := s) (o := none) (idx := []) hAI
  obtain ⟨cI2, kI, cc9, hfI2, hkI, hkindI⟩ := Cond.arrayClass_spec (C0.ts _ hac)
  have eI : cI2 = cI := Option.some.inj (hfI2.symm.trans hfI)
  subst eI
  obtain ⟨c0, hfc0, hlk⟩ := Cond.classLink_spec C0.ow (C0.ts _ hcl) e.platform hpl
  have e0 : c0 = cO := Option.some.inj (hfc0.symm.trans (by rw [← hS]; exact hfO))
  subst e0
  have hcO : c0 = G.2 4 := Option.some.inj (hfO.symm.trans (C0.K.2 4 _ rfl).2)
  have hcI : cI2 = G.2 0 := Option.some.inj (hfI.symm.trans (C0.K.2 0 _ rfl).2)
  subst hcO
  subst hcI
  obtain ⟨hg1, hwm, hrd⟩ := State.classEntry (e := e) X.warmed hlk
  generalize T.vm.noted m.cls idx (.cls (G.2 4)) = vm1 at hg1 hwm hrd
  have hal : s.vm.Alike vm1 := hwm.alike
  obtain ⟨kO1, hkO1, heO⟩ := hal.2.2 _ _ hkO
  obtain ⟨kI1, hkI1, heI⟩ := hal.2.2 _ _ hkI
  have hkindO1 : kO1.kind = .array (G.2 0) (.array .int) := by rw [heO]; exact hkindO
  have hkindI1 : kI1.kind = .array cc9 .int := by rw [heI]; exact hkindI
  have X1 := X.noted hwm
  have XF := mgS_stand X1 (G.2 4) (G.2 0) 6
  have XD := XF.dropFresh (fun x hx => by obtain ⟨j, -, rfl⟩ := List.mem_map.mp hx; exact X.heapGrown)
  obtain ⟨r1, r2⟩ := X.roomAbove hcells hslots
  obtain ⟨f1, f2, -, -, f5, f6⟩ := mgS_facts (T.setVm vm1) (G.2 4) (G.2 0) 6
  have hTs : (T.setVm vm1).heap = H := hT
  rw [hTs] at f1 f2 f5 f6
  have hgl := hw.growL (H1 := (mgS (T.setVm vm1) (G.2 4) (G.2 0) 6).heap) (k := 7) (E := fun j => if j = 0 then oE G (fun i => H.size + 1 + i) else rw7 G (fun _ => zc 0)) (by rw [f1]; omega) f5 (fun j hj => by
    rcases Nat.eq_zero_or_pos j with rfl | hj0
    · show (mgS (T.setVm vm1) (G.2 4) (G.2 0) 6).heap[H.size + 0]? = some (vp_cell (G.2 4) (6, .inr (.inr (.inr (.inr (fun i => some (H.size + 1 + i)))))))
      rw [Nat.add_zero, f2, vp_cell_q]
      unfold mgO arrV
      congr 2
    · show va_at G.1 vwCl (H.size + j, if j = 0 then _ else _) _
      rw [if_neg (by omega)]
      have h9 := f6 (j - 1) (by omega)
      rw [show H.size + 1 + (j - 1) = H.size + j by omega] at h9
      exact h9)
  obtain ⟨t, a1, b1⟩ := kk _ _ _ hgl.1 hgl.2 (by show (if H.size < H.size then _ else _) = _; rw [if_neg (Nat.lt_irrefl _), Nat.sub_self]; rfl) (fun i hi => by show (if H.size + 1 + i < H.size then _ else (if H.size + 1 + i - H.size = 0 then _ else _)) = _; rw [if_neg (by omega), if_neg (by omega)]) (fun i hi => List.mem_append_right _ (List.mem_map.mpr ⟨i, List.mem_range.mpr hi, rfl⟩)) (fun q hq => if_pos hq) (mgS (T.setVm vm1) (G.2 4) (G.2 0) 6) rfl XD
  refine ⟨t, ?_, b1⟩
  rw [← hT] at a1
  have hl1 : ¬ 7 > e.platform.arrayLengthLimit := by rw [Launch.admits_arrayLengthLimit X.admits]; omega
  have hl2 : ¬ 28 > e.platform.maxHeapBytes := by rw [Launch.admits_maxHeapBytes X.admits]; omega
  have hdg2 : decode c.code (F0 m pc ls (.int (nI 7) :: .int (nI 6) :: rest)).pc = .ok (.multianewarray idx 2, 4) := by rw [C0.b]; exact hdg
  generalize hg9 : F0 m pc ls (.int (nI 7) :: .int (nI 6) :: rest) = g9 at hdg2
  have hst9 : g9.stack = .int (nI 7) :: .int (nI 6) :: rest := by rw [← hg9]
  have hm9 : g9.method = m := by rw [← hg9]
  subst hm9
  have a2 : Steps p.tables e below ((mgS (T.setVm vm1) (G.2 4) (G.2 0) 6).setTop { g9 with pc := g9.pc + 4, stack := .ref T.heap.size :: rest }) t := by
    rw [← hg9]
    exact a1
  jvm_step X.here [C0.x, hdg2]
  simp only [Op.multianewarray.sem, wp_bind', W.resolveClassAt_links (State.method?_setTop g9 X.here.top) hg1]
  rw [W.popN, if_neg (by decide)]
  refine ⟨g9, State.topJava?_setTop' (s := T.setVm vm1) g9 X.here.top, [.int (nI 6), .int (nI 7)], rest, rfl, hst9, ?_⟩
  simp only [List.mapM_cons, List.mapM_nil, wp_bind', wp_pure']
  refine mg_make2 hkO1 hkindO1 hkI1 hkindI1 hl1 hl2 (by show T.heap.size + _ ≤ _; omega) (by show T.slotsUsed + _ ≤ _; omega) (fun d9 ac9 => ?_)
  have eS : ((T.setTop g9).setVm vm1).setTop { g9 with stack := rest } = (T.setVm vm1).setTop { g9 with stack := rest } := by
    show ((T.setVm vm1).setTop g9).setTop _ = _
    rw [State.setTop_setTop]
  rw [eS, mgS_top]
  simp only [wp_bind', W.mark, W.pushRef, State.topJava?_setTop' _ XF.here.top, Option.some.injEq, exists_eq_left', State.setTop_setTop, State.heap_setTop]
  intro ac8
  simp [jvm, XF.here.top]
  exact a2
end MROWS2
