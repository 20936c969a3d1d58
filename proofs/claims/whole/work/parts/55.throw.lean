/-! contracts of a call that throws E and leaves the world as it was -/
abbrev xQ (G : Gl) (L : List Nat) (F : Nat → va_E) (E : String) (A : Nat → Prop) : String → State → State → Prop := vx_X (fun F1 : Nat → va_E => F1 = F) (fun E1 F1 t => E1 = E ∧ cB G L F1 t) A
/-- the words of a throw that a warm call keeps, but that no list of good words holds -/
def g_xw : List Cond := [.declares (Bundle.initS "java/lang/RuntimeException"), .declares (Bundle.initS "java/lang/Exception"), .declares (Bundle.initS Bundle.tN), .castable "java/lang/IllegalArgumentException" "java/lang/IllegalArgumentException", .castable "java/lang/IndexOutOfBoundsException" "java/lang/IndexOutOfBoundsException", .castable "java/lang/IllegalStateException" "java/lang/IllegalStateException"]
def g_Xw (U : State) : Prop := ∀ w ∈ g_xw, va_Nw w U
theorem g_xw_ot : ∀ w ∈ g_xw, w.onTables = true := by decide
theorem g_Xw.warm {s U : State} (hW : s.WarmedH U.vm) (h : g_Xw s) : g_Xw U := by
  intro w hw
  have h9 := h w hw
  simp only [g_xw, List.mem_cons, List.not_mem_nil, or_false] at hw
  rcases hw with rfl | rfl | rfl | rfl | rfl | rfl
  · exact va_Nw.warmD hW h9
  · exact va_Nw.warmD hW h9
  · exact va_Nw.warmD hW h9
  · exact va_Nw.warmC hW h9
  · exact va_Nw.warmC hW h9
  · exact va_Nw.warmC hW h9
theorem g_Xw.same {u U : State} (e : u.vm = U.vm) (h : g_Xw u) : g_Xw U := fun w hw => va_Nw.same (g_xw_ot w hw) e (h w hw)
def cPX (G : Gl) (L : List Nat) (F : Nat → va_E) (sz : Nat) (vals : List Value) : Array Value → State → Prop := fun a U => cP G L F sz vals a U ∧ g_Xw U
theorem cPX.blind {G : Gl} {L : List Nat} {F : Nat → va_E} {sz : Nat} {vals : List Value} : FrameBlind (cPX G L F sz vals) := fun a U g mk q => ⟨cP.blind a U g mk q.1, g_Xw.same (u := U) (U := U.calling g mk a) rfl q.2⟩
abbrev xN : Array Value → State → Outcome → State → Prop := fun _ _ _ _ => False
def XG (l : Launch) (y : MethodName) (cc : ByteArray) (nL : Nat) (rt : Option FieldType) (rm : Room) (G : Gl) (L : List Nat) (F : Nat → va_E) (vals : List Value) (E : String) : Prop := ∀ sz, vx_Met l y (.code y cc nL rt :: TB) rm (cPX G L F sz vals) xN (xQ G L F E (wA L sz)) rm.cells rm.slots (wA L sz)
theorem XG_of {l : Launch} {y : MethodName} {cc : ByteArray} {nL : Nat} {rt : Option FieldType} {rm : Room} {G : Gl} {L : List Nat} {F : Nat → va_E} {vals : List Value} {E : String} {lv : List (Nat × Value)}
    (hy : plainName y.cls = true) (hn : (lg_sl vals).length ≤ nL) (hv : lv_args 0 vals = lv)
    (body : ∀ (p : Program) (e : Env) (s : State) (m : MethodId) (args : Array Value) (below : List Frame) (meth : Method) (c : Code) (Q : State → Prop), Cx p s m args c cc nL y.cls G L → g_Xw s → meth.locks = false → (∀ x ∈ c.exceptionTable.toList, False) → Q = vx_MQ below xN (xQ G L F E (wA L s.heap.size)) args s rm.cells rm.slots (wA L s.heap.size) → wD G L F s s.heap [] → ∀ ls : Array Slot, lv_has ls nL lv →
      W p l e rm s m args below meth c s.heap [] 0 0 Q (F0 m 0 ls [])) : XG l y cc nL rt rm G L F vals E := by
  intro sz
  refine vx_ofW (cc := cc) (maxL := nL) (ret := rt) hy rfl ?_
  intro p e s m args below meth c s₁ B hml ht hq
  obtain ⟨⟨rfl, hsz, hP, hD0, hAm⟩, hXw⟩ := hq
  subst hsz
  have hts := atoms_spec (ws := Cond.code y cc nL rt :: TB) B.pre
  have hl := lv_entry vals (n := nL) hn
  rw [lg_entry_eq]
  rw [hv] at hl
  exact body p e s m _ below meth c _ ⟨B.exec, B.bytes, hml, findClass_of_methodNamed B.named, fun w h => hts w (List.mem_cons_of_mem _ h), hAm⟩ hXw B.notSynchronized ht rfl (wD.start hP hD0) _ hl
section XTHROW
variable {p : Program} {l : Launch} {e : Env} {R : Room} {s : State} {m : MethodId} {args : Array Value} {below : List Frame} {meth : Method} {c : Code} {cc : ByteArray} {nL : Nat} {own : String} {G : Gl} {L : List Nat} {H : Heap} {locs : List Loc} {cells slots : Nat} {Q : State → Prop} {ls : Array Slot} {rest : List Value} {pc : Nat} {F Fa : Nat → va_E} {E : String} {mc ms : Nat}
theorem x_hx (hw : wD G L F s H locs) {cls : String} (t : State) (hz : H.size ≤ t.heap.size) (hq : ∀ q : Nat, q < H.size → t.heap[q]? = H[q]?) : xQ G L F cls (wA L s.heap.size) cls s t := by
  refine ⟨F, rfl, ⟨rfl, ?_⟩, Nat.le_trans hw.2.2.1 hz, fun q h1 h2 => ?_⟩
  · exact hw.1.kept (fun k q hk => hq _ (vx_lt hw.1 hk))
  · rw [hq q (Nat.lt_of_lt_of_le h1 hw.2.2.1)]
    exact hw.2.2.2.1 q h1 h2
theorem x_throwW (C0 : Cx p s m args c cc nL own G L) (hXw : g_Xw s) (hst : l.stackTraces = false) (ht : ∀ x ∈ c.exceptionTable.toList, False) (hw : wD G L F s H locs) {cls text : String} {names : List String} {ik is ic : Nat}
    (hcls : Bundle.fit cls = true) (hnames : ∀ n ∈ names, Bundle.fit n = true) (hk : Cond.classLink own ik cls ∈ TB) (hini : Cond.initialized cls ∈ TB) (hat : ∀ w ∈ vx_atS own ic cls names, w ∈ TB ∨ w ∈ g_xw) (hstr : (own, is, text) ∈ g_strs)
    (hsize : ls.size = nL)
    (d0 : decode cc pc = .ok (.new ik, 3)) (d3 : decode cc (pc + 3) = .ok (.dup, 1)) (d4 : decode cc (pc + 4) = .ok (.ldc_w is, 3)) (d6 : decode cc (pc + 7) = .ok (.invokespecial ic, 3)) (d9 : decode cc (pc + 10) = .ok (.athrow, 1))
    (hlk : meth.locks = false) (hR : names.length + 3 < R.frames) (hRl : (rest.map fun v => v.category).sum + (13 * (names.length + 1) + 43) ≤ R.locals) (hRc : cells + 1 ≤ R.cells) (hRs : slots + 6 ≤ R.slots) (hc : cells + 1 ≤ mc) (hs : slots + 6 ≤ ms)
    (hQ : Q = vx_MQ below xN (xQ G L F cls (wA L s.heap.size)) args s mc ms (wA L s.heap.size)) : W p l e R s m args below meth c H locs cells slots Q (F0 m pc ls rest) := by
  subst hQ
  obtain ⟨sa, hsa⟩ := C0.am.2.2.2.2.1 _ hstr
  exact vx_throwSW C0.x C0.b hst C0.ow hcls hnames (C0.ts _ hk) (C0.ts _ hini) hsa (fun w h => (hat w h).elim (C0.ts w) (fun h9 => va_Nw.use (g_xw_ot w h9) (hXw w h9))) (fun w h => by
    have hg : goodWord w = true ∨ w.onTables = true := by
      rcases List.mem_cons.mp h with rfl | h
      · exact Or.inl (tb_good hk)
      · rcases List.mem_cons.mp h with rfl | h
        · exact Or.inl (tb_good hini)
        · exact (hat w h).imp tb_good (g_xw_ot w)
    unfold vx_ot
    rcases hg with hg | hg
    · rw [hg, Bool.or_true]
    · rw [hg, Bool.true_or]) C0.am.2.2.1 C0.am.2.2.2.1 hw.2.2 (hsize.trans C0.ml.symm) d0 d3 d4 d6 d9 (fun x hx => (ht x hx).elim) hR hRl hRc hRs hlk (fun t _ hz hq => x_hx hw t hz hq) (fun z hz => hw.2.2.2.2 z hz) hc hs
theorem x_throw (C0 : Cx p s m args c cc nL own G L) (hXw : g_Xw s) (hst : l.stackTraces = false) (ht : ∀ x ∈ c.exceptionTable.toList, False) (hw : wD G L F s H locs) {cls text : String} {names : List String} {ik is ic : Nat}
    (hcls : Bundle.fit cls = true) (hnames : ∀ n ∈ names, Bundle.fit n = true) (hk : Cond.classLink own ik cls ∈ TB) (hini : Cond.initialized cls ∈ TB) (hat : ∀ w ∈ vx_atS own ic cls names, w ∈ TB ∨ w ∈ g_xw) (hstr : (own, is, text) ∈ g_strs)
    (hsize : ls.size = nL)
    (d0 : decode cc pc = .ok (.new ik, 3)) (d3 : decode cc (pc + 3) = .ok (.dup, 1)) (d4 : decode cc (pc + 4) = .ok (.ldc is, 2)) (d6 : decode cc (pc + 6) = .ok (.invokespecial ic, 3)) (d9 : decode cc (pc + 9) = .ok (.athrow, 1))
    (hlk : meth.locks = false) (hR : names.length + 3 < R.frames) (hRl : (rest.map fun v => v.category).sum + (13 * (names.length + 1) + 43) ≤ R.locals) (hRc : cells + 1 ≤ R.cells) (hRs : slots + 6 ≤ R.slots) (hc : cells + 1 ≤ mc) (hs : slots + 6 ≤ ms)
    (hQ : Q = vx_MQ below xN (xQ G L F cls (wA L s.heap.size)) args s mc ms (wA L s.heap.size)) : W p l e R s m args below meth c H locs cells slots Q (F0 m pc ls rest) := by
  subst hQ
  obtain ⟨sa, hsa⟩ := C0.am.2.2.2.2.1 _ hstr
  exact vx_throwS C0.x C0.b hst C0.ow hcls hnames (C0.ts _ hk) (C0.ts _ hini) hsa (fun w h => (hat w h).elim (C0.ts w) (fun h9 => va_Nw.use (g_xw_ot w h9) (hXw w h9))) (fun w h => by
    have hg : goodWord w = true ∨ w.onTables = true := by
      rcases List.mem_cons.mp h with rfl | h
      · exact Or.inl (tb_good hk)
      · rcases List.mem_cons.mp h with rfl | h
        · exact Or.inl (tb_good hini)
        · exact (hat w h).imp tb_good (g_xw_ot w)
    unfold vx_ot
    rcases hg with hg | hg
    · rw [hg, Bool.or_true]
    · rw [hg, Bool.true_or]) C0.am.2.2.1 C0.am.2.2.2.1 hw.2.2 (hsize.trans C0.ml.symm) d0 d3 d4 d6 d9 (fun x hx => (ht x hx).elim) hR hRl hRc hRs hlk (fun t _ hz hq => x_hx hw t hz hq) (fun z hz => hw.2.2.2.2 z hz) hc hs
/-- a call that throws: the caller has no table, it goes on outwards -/
theorem x_pass (C0 : Cx p s m args c cc nL own G L) (ht : ∀ x ∈ c.exceptionTable.toList, False) (hw : wD G L Fa s H locs) (hlk : meth.locks = false) {k n : Nat} {st0 : List Value} {a9 : Array Value}
    (hr : vx_Run p l e R s m args below meth c H locs cells slots k n (F0 m pc ls st0) rest (xN a9) (xQ G L Fa E (wA L H.size)) (wA L H.size)) (hF : Fa = F) (hc : cells + k ≤ mc) (hs : slots + n ≤ ms)
    (hQ : Q = vx_MQ below xN (xQ G L F E (wA L s.heap.size)) args s mc ms (wA L s.heap.size)) : W p l e R s m args below meth c H locs cells slots Q (F0 m pc ls st0) := by
  subst hQ
  subst hF
  intro T hT X
  rcases hr T hT X with ⟨v, st₀, t, T', L9, h0, X', hL, e1, e2, hf, st⟩ | ⟨q, st₀, t, T', L9, E9, ce, h0, X', hL, e1, e2, ⟨u, hp, ⟨hE, hb⟩, hF9⟩, hce, hcv, hcl, st⟩
  · exact hf.elim
  · subst hp
    subst hE
    obtain ⟨k1, k2, k3⟩ := vx_keep h0 e1 hw.2.2 (fun q _ h => wA.mono hw.2.2.1 q h) (wA.mono hw.2.2.1) hL hF9
    obtain ⟨t2, a1, b1⟩ := vx_out (XC := xQ G L u E9 (wA L s.heap.size)) (Qc := xN) (ls := ls) (rest := rest) (pc := pc) (free := wA L s.heap.size) (fun x hx => (ht x hx).elim) hlk (by rw [e1]; exact hce) hcv hcl (fun t8 h8 _ => ⟨u, rfl, ⟨rfl, by show va_P _ _ _ t8.heap; rw [h8, e1]; exact hb⟩, k3.F h8⟩) k3.2.2 hc hs T' rfl X'
    exact ⟨t2, st.trans a1, b1⟩
end XTHROW
section XCALL
variable {p : Program} {l : Launch} {e : Env} {R : Room} {s : State} {m : MethodId} {args : Array Value} {below : List Frame} {meth : Method} {c : Code} {cc : ByteArray} {nL : Nat} {own : String} {G : Gl} {L : List Nat} {H : Heap} {locs : List Loc} {cells slots : Nat} {ls : Array Slot} {rest : List Value} {pc : Nat} {F : Nat → va_E} {E : String}
variable {y : MethodName} {bytes : ByteArray} {mL idx n : Nat} {rt : Option FieldType} {rm : Room} {As st0 : List Value} {b ci : Nat} {fs : List Value} {q : vw_C}
theorem x_runV (hM : XG l y bytes mL rt rm G L F (.ref b :: As) E) (C0 : Cx p s m args c cc nL own G L) (hXw : g_Xw s) (hw : wD G L F s H locs) (vw : vWd own idx y bytes mL rt n) (hb : b ∈ L) (he : F b = .inr (ci, fs)) (hcl : vwCl[ci]? = some q) (hq : q.1 = y.cls) (hlen : As.length = n) (hsize : ls.size = nL) (hst : st0 = As.reverse ++ .ref b :: rest) (hcat : (rest.map fun v => v.category).sum ≤ 8) (hdg : decode cc pc = .ok (.invokevirtual idx, 3)) (hroom : rm.frames + 1 ≤ R.frames ∧ 8 + (mL + 11) + rm.locals ≤ R.locals) (hcs : cells + rm.cells ≤ R.cells ∧ slots + rm.slots ≤ R.slots) :
    vx_Run p l e R s m args below meth c H locs cells slots rm.cells rm.slots (F0 m pc ls st0) rest (xN (Value.ref b :: As).toArray) (xQ G L F E (wA L H.size)) (wA L H.size) := by
  obtain ⟨k, hk⟩ := va_pl_get (X := []) (f := F) hb
  rw [he] at hk
  have hrecv := va_recv (q0 := k) C0.K hw.1 hcl hk
  rw [hq] at hrecv
  exact vx_runV (As := As) (rest := rest) ⟨C0.x, C0.b, C0.ml, C0.ow, C0.ts⟩ (hM H.size) (cwV_TB C0 vw hroom) ⟨cPX.blind, hrecv, fun U h1 h2 => ⟨cP.hold C0 hw _ U h1 h2, g_Xw.warm h2 hXw⟩⟩ rfl hlen hsize hst (lv_room hcat) hdg hcs
theorem x_runS (hM : XG l y bytes mL rt rm G L F As E) (C0 : Cx p s m args c cc nL own G L) (hXw : g_Xw s) (hw : wD G L F s H locs) (vw : sWd own idx y bytes mL rt n) (hlen : As.length = n) (hsize : ls.size = nL) (hst : st0 = As.reverse ++ rest) (hcat : (rest.map fun v => v.category).sum ≤ 8) (hdg : decode cc pc = .ok (.invokestatic idx, 3)) (hroom : rm.frames + 1 ≤ R.frames ∧ 8 + (mL + 11) + rm.locals ≤ R.locals) (hcs : cells + rm.cells ≤ R.cells ∧ slots + rm.slots ≤ R.slots) :
    vx_Run p l e R s m args below meth c H locs cells slots rm.cells rm.slots (F0 m pc ls st0) rest (xN As.toArray) (xQ G L F E (wA L H.size)) (wA L H.size) :=
  vx_runS (As := As) (rest := rest) ⟨C0.x, C0.b, C0.ml, C0.ow, C0.ts⟩ (hM H.size) (cwS_TB C0 vw hroom) ⟨cPX.blind, fun U h1 h2 => ⟨cP.hold C0 hw _ U h1 h2, g_Xw.warm h2 hXw⟩⟩ rfl hlen hsize hst (lv_room hcat) hdg hcs
end XCALL
