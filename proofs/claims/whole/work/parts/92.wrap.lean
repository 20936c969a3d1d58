/-! the law's own methods: each calls the component, keeps the answer in out[0], and answers which exception came -/
abbrev wr : Room := { frames := 9, cells := 1, slots := 6, locals := 260 }
abbrev wO (G : Gl) (f : Nat → Int64) : va_E := .inl (G.2 5, 1, .inr (.inl f))
def CW (l : Launch) (y : MethodName) (cc : ByteArray) (nL : Nat) (hh : List (Nat × Nat × Nat × Nat)) (G : Gl) (L : List Nat) (F : Nat → va_E) (vals : List Value) (post : Int32 → (Nat → va_E) → Prop) : Prop := ∀ sz, Met l y (.codeWith y cc nL (some .int) hh :: TB) wr (cPX G L F sz vals) (va_Qi post (cB G L) (wA L sz)) 1 6 (wA L sz)
theorem CW_of {l : Launch} {y : MethodName} {cc : ByteArray} {nL : Nat} {hh : List (Nat × Nat × Nat × Nat)} {G : Gl} {L : List Nat} {F : Nat → va_E} {vals : List Value} {post : Int32 → (Nat → va_E) → Prop} {lv : List (Nat × Value)}
    (hy : plainName y.cls = true) (hn : (lg_sl vals).length ≤ nL) (hv : lv_args 0 vals = lv)
    (body : ∀ (p : Program) (e : Env) (s : State) (m : MethodId) (args : Array Value) (below : List Frame) (meth : Method) (c : Code) (Q : State → Prop), Cx p s m args c cc nL y.cls G L → g_Xw s → meth.sig.returnType = some .int → meth.locks = false → c.exceptionTable.toList = tableOf hh → Q = MQ below (va_Qi post (cB G L) (wA L s.heap.size)) args s 1 6 (wA L s.heap.size) → wD G L F s s.heap [] → ∀ ls : Array Slot, lv_has ls nL lv →
      W p l e wr s m args below meth c s.heap [] 0 0 Q (F0 m 0 ls [])) : CW l y cc nL hh G L F vals post := by
  intro sz
  refine va_MetW (cc := cc) (maxL := nL) (ret := some .int) (hh := hh) hy rfl ?_
  intro p e s m args below meth c s₁ B hml hq
  obtain ⟨⟨rfl, hsz, hP, hD0, hAm⟩, hXw⟩ := hq
  subst hsz
  have hts := atoms_spec (ws := Cond.codeWith y cc nL (some .int) hh :: TB) B.pre
  have hl := lv_entry vals (n := nL) hn
  rw [lg_entry_eq]
  rw [hv] at hl
  exact body p e s m _ below meth c _ ⟨B.exec, B.bytes, hml, findClass_of_methodNamed B.named, fun w h => hts w (List.mem_cons_of_mem _ h), hAm⟩ hXw B.returns B.notSynchronized (vx_table (x := y) B (hts _ List.mem_cons_self)) rfl (wD.start hP hD0) _ hl
section WTAIL
variable {p : Program} {l : Launch} {e : Env} {R : Room} {s : State} {m : MethodId} {args : Array Value} {below : List Frame} {meth : Method} {c : Code} {H : Heap} {locs : List Loc} {cells slots : Nat} {Q : State → Prop}
variable {cc : ByteArray} {nL : Nat} {own : String} {pc : Nat} {ls : Array Slot} {rest : List Value} {G : Gl} {L : List Nat} {F : Nat → va_E} {a : Nat}
variable {y : MethodName} {bytes : ByteArray} {mL idx n mc ms : Nat} {rm : Room} {As st0 : List Value} {b ci o : Nat} {fs : List Value} {q : vw_C} {E : String} {lv : List (Nat × Value)}
theorem q_lald (C0 : Cx p s m args c cc nL own G L) (hw : wD G L F s H locs) (ha : a ∈ L) {f : Nat → Int64} (he : F a = wO G f) {v : Int64} (hv : f 0 = v) (hdg : decode cc pc = .ok (.laload, 1))
    (kk : W p l e R s m args below meth c H locs cells slots Q (F0 m (pc + 1) ls (.long v :: rest))) : W p l e R s m args below meth c H locs cells slots Q (F0 m pc ls (.int (nI 0) :: .ref a :: rest)) := by
  obtain ⟨k, hk⟩ := va_pl_get (X := []) (f := F) ha
  rw [he] at hk
  refine va_lald C0.x C0.b C0.K hw.1 k 5 hk rfl (vp_in_nI (n := 0) (N := 1) (by decide) (by decide)) hdg ?_
  rw [nI_clamp (n := 0) (by decide), hv]
  exact kk
theorem q_last (C0 : Cx p s m args c cc nL own G L) (hw : wD G L F s H locs) (ha : a ∈ L) {f : Nat → Int64} (he : F a = wO G f) {x : Int64} (hdg : decode cc pc = .ok (.lastore, 1))
    (kk : ∀ (F' : Nat → va_E) (H1 : Heap) (locs1 : List Loc), wD G L F' s H1 locs1 → F' a = wO G (vp_updL f 0 x) → (∀ q, q ≠ a → F' q = F q) → W p l e R s m args below meth c H1 locs1 cells slots Q (F0 m (pc + 1) ls rest)) : W p l e R s m args below meth c H locs cells slots Q (F0 m pc ls (.long x :: .int (nI 0) :: .ref a :: rest)) := by
  obtain ⟨k, hk⟩ := va_pl_get (X := []) (f := F) ha
  have hk2 := hk
  rw [he] at hk2
  refine va_last C0.x C0.b C0.K hw.1 hw.2.1 hw.2.2 k 5 hk2 rfl (vp_in_nI (n := 0) (N := 1) (by decide) (by decide)) hdg fun H1 locs1 hP hD hS => ?_
  rw [nI_clamp (n := 0) (by decide)] at hP
  exact hw.go (P := fun H1 locs1 => W p l e R s m args below meth c H1 locs1 cells slots Q (F0 m (pc + 1) ls rest)) ha hk hP hS kk
theorem w_norm (C0 : Cx p s m args c cc nL own G L) (hr : meth.sig.returnType = some .int) (hlk : meth.locks = false) (hw : wD G L F s H locs) {post0 post : Int32 → (Nat → va_E) → Prop} {f : Nat → Int64}
    (hM : CI l y bytes mL (some .int) rm G L F (.ref b :: As) post0) (vw : vWd own idx y bytes mL (some .int) n) (hb : b ∈ L) (he : F b = .inr (ci, fs)) (hcl : vwCl[ci]? = some q) (hq : q.1 = y.cls) (hlen : As.length = n) (hsize : ls.size = nL)
    (ho : o ∈ L) (hO : ∀ r F1, post0 r F1 → F1 o = wO G f) (hpost : ∀ r F1 F2 f2, post0 r F1 → F2 o = wO G f2 → f2 0 = r.toInt64 → (∀ q, q ≠ o → F2 q = F1 q) → post (nI 0) F2)
    (hst : st0 = As.reverse ++ .ref b :: [.int (nI 0), .ref o]) {off : Int} {tgt : Nat}
    (d0 : decode cc pc = .ok (.invokevirtual idx, 3)) (d1 : decode cc (pc + 3) = .ok (.i2l, 1)) (d2 : decode cc (pc + 3 + 1) = .ok (.lastore, 1)) (d3 : decode cc (pc + 3 + 1 + 1) = .ok (.goto off, 3)) (ht : ((pc + 3 + 1 + 1 : Nat) : Int) + off = (tgt : Int)) (d4 : decode cc tgt = .ok (.iconst 0, 1)) (d5 : decode cc (tgt + 1) = .ok (.ireturn, 1))
    (hrc : rm.cells = 0) (hrs : rm.slots = 0) (hroom : rm.frames + 1 ≤ R.frames ∧ 8 + (mL + 11) + rm.locals ≤ R.locals) (hcs : cells ≤ R.cells ∧ slots ≤ R.slots) (hc : cells ≤ mc) (hs : slots ≤ ms)
    (hQ : Q = MQ below (va_Qi post (cB G L) (wA L s.heap.size)) args s mc ms (wA L s.heap.size)) : W p l e R s m args below meth c H locs cells slots Q (F0 m pc ls st0) := by
  refine q_calli hw (q_runV hM C0 hw vw hb he hcl hq hlen hsize hst (Nat.le_of_ble_eq_true rfl) d0 hroom (by rw [hrc, hrs]; exact hcs)) hrc hrs (fun r F1 H1 locs1 hw1 hp => ?_)
  refine lv_i2l (v := r.toInt64) C0.x C0.b d1 rfl ?_
  refine q_last C0 hw1 ho (hO r F1 hp) d2 (fun F2 H2 locs2 hw2 he2 ho2 => ?_)
  refine lv_goto (tgt := tgt) C0.x C0.b d3 ht ?_
  refine lv_iconst (v := nI 0) C0.x C0.b d4 rfl ?_
  exact r_i C0 hr hlk hw2 (v := nI 0) rfl (hpost r F1 F2 _ hp he2 rfl ho2) hc hs d5 hQ
theorem w_exc (C0 : Cx p s m args c cc nL own G L) (hXw : g_Xw s) (hw : wD G L F s H locs) (hM : XG l y bytes mL (some .int) rm G L F (.ref b :: As) E) (vw : vWd own idx y bytes mL (some .int) n) (hb : b ∈ L) (he : F b = .inr (ci, fs)) (hcl : vwCl[ci]? = some q) (hq : q.1 = y.cls) (hlen : As.length = n) (hsize : ls.size = nL)
    (hst : st0 = As.reverse ++ .ref b :: [.int (nI 0), .ref o]) (d0 : decode cc pc = .ok (.invokevirtual idx, 3))
    (pre : List ExceptionTableEntry) (x : ExceptionTableEntry) (suf : List ExceptionTableEntry) (hsplit : c.exceptionTable.toList = pre ++ x :: suf) (hpass : ∀ z ∈ pre, z.catchType ≠ 0 ∧ ∃ nm : String, Cond.classLink own z.catchType nm ∈ TB ∧ (E, nm) ∈ g_ncs) (hcov : covers x pc = true) (h0 : x.catchType ≠ 0) (hlink : Cond.classLink own x.catchType E ∈ TB) (hcast : Cond.castable E E ∈ g_xw)
    (hroom : rm.frames + 1 ≤ R.frames ∧ 8 + (mL + 11) + rm.locals ≤ R.locals) (hcs : cells + rm.cells ≤ R.cells ∧ slots + rm.slots ≤ R.slots)
    (kk : ∀ (q9 : Nat) (H1 : Heap) (locs1 : List Loc), wD G L F s H1 locs1 → W p l e R s m args below meth c H1 locs1 (cells + rm.cells) (slots + rm.slots) Q (F0 m x.handlerPc ls [.ref q9])) : W p l e R s m args below meth c H locs cells slots Q (F0 m pc ls st0) := by
  have hr := x_runV (e := e) (meth := meth) (below := below) hM C0 hXw hw vw hb he hcl hq hlen hsize hst (Nat.le_of_ble_eq_true rfl) d0 hroom hcs
  intro T hT X
  rcases hr T hT X with ⟨v, st₀, t, T', L9, h9, X', hL, e1, e2, hf, st⟩ | ⟨q9, st₀, t, T', L9, E9, ce, h9, X', hL, e1, e2, ⟨u, hp, ⟨hE, hb9⟩, hF9⟩, hce, hcv, hcl9, st⟩
  · exact hf.elim
  · subst hp
    subst hE
    obtain ⟨k1, k2, k3⟩ := vx_keep h9 e1 hw.2.2 (fun q _ h => wA.mono hw.2.2.1 q h) (wA.mono hw.2.2.1) hL hF9
    obtain ⟨t2, a1, b1⟩ := vx_catch (ls := ls) (rest := [.int (nI 0), .ref o]) (pc := pc) C0.ow pre x suf hsplit (fun z hz => Or.inr ((hpass z hz).imp_right (fun ⟨nm, h1, h2⟩ => ⟨nm, C0.ts _ h1, C0.am.2.2.2.2.2 _ h2⟩))) hcov h0 (C0.ts _ hlink) (va_Nw.use (g_xw_ot _ hcast) (hXw _ hcast)) (by rw [e1]; exact hce) hcv hcl9 (kk q9 T'.heap (locs ++ L9) (hw.back e1.symm hb9 k3)) T' rfl X'
    exact ⟨t2, st.trans a1, b1⟩
/-- a wrapper called by the law -/
def tWd (own : String) (idx : Nat) (y : MethodName) (bytes : ByteArray) (mL : Nat) (hh : List (Nat × Nat × Nat × Nat)) (n : Nat) : Prop := Cond.methodLink own idx y ∈ TB ∧ Cond.static y ∈ TB ∧ Cond.initialized y.cls ∈ TB ∧ Cond.codeWith y bytes mL (some .int) hh ∈ TB ∧ dWd y n
theorem q_runW {hh : List (Nat × Nat × Nat × Nat)} {post : Int32 → (Nat → va_E) → Prop} (hM : CW l y bytes mL hh G L F As post) (C0 : Cx p s m args c cc nL own G L) (hXw : g_Xw s) (hw : wD G L F s H locs) (tw : tWd own idx y bytes mL hh n) (hlen : As.length = n) (hsize : ls.size = nL) (hst : st0 = As.reverse ++ rest) (hcat : (rest.map fun v => v.category).sum ≤ 8) (hdg : decode cc pc = .ok (.invokestatic idx, 3)) (hroom : wr.frames + 1 ≤ R.frames ∧ 8 + (mL + 11) + wr.locals ≤ R.locals) (hcs : cells + 1 ≤ R.cells ∧ slots + 6 ≤ R.slots) :
    va_Run p l e R s m args below meth c H locs cells slots 1 6 (F0 m pc ls st0) rest (va_Qi post (cB G L) (wA L H.size) As.toArray) (wA L H.size) := by
  obtain ⟨h1, h2, h3, h4, h5⟩ := tw
  have hcw : vx_CSW R s args own idx y bytes mL (some .int) hh (.codeWith y bytes mL (some .int) hh :: TB) wr 1 6 n := by
    refine vx_cwSW n C0.ts (tb_gi fun w hw9 => ?_) rfl rfl rfl h5 hroom
    unfold va_wsS at hw9
    rcases List.mem_append.mp hw9 with h | h
    · simp only [List.mem_cons, List.not_mem_nil, or_false] at h
      rcases h with rfl | rfl | rfl
      · first | exact h1 | exact h2 | exact h3
      · first | exact h1 | exact h2 | exact h3
      · first | exact h1 | exact h2 | exact h3
    · exact (List.mem_cons.mp h).elim (fun z => z ▸ h4) id
  exact vx_runSW (As := As) (rest := rest) ⟨C0.x, C0.b, C0.ml, C0.ow, C0.ts⟩ (hM H.size) hcw ⟨cPX.blind, fun U g1 g2 => ⟨cP.hold C0 hw _ U g1 g2, g_Xw.warm g2 hXw⟩⟩ rfl hlen hsize hst (lv_room hcat) hdg hcs
theorem q_callw (hw : wD G L F s H locs) {post : Int32 → (Nat → va_E) → Prop} {a9 : Array Value} (hr : va_Run p l e R s m args below meth c H locs cells slots 1 6 (F0 m pc ls st0) rest (va_Qi post (cB G L) (wA L H.size) a9) (wA L H.size))
    (kk : ∀ (r : Int32) (F' : Nat → va_E) (H1 : Heap) (locs1 : List Loc), wD G L F' s H1 locs1 → post r F' → W p l e R s m args below meth c H1 locs1 (cells + 1) (slots + 6) Q (F0 m (pc + 3) ls (.int r :: rest))) : W p l e R s m args below meth c H locs cells slots Q (F0 m pc ls st0) :=
  va_calli hr hw.2.2 (fun q _ h => wA.mono hw.2.2.1 q h) (wA.mono hw.2.2.1) (fun r u t H1 locs1 ht _ hp hB _ _ hS => kk r u H1 locs1 (hw.back ht hB hS) hp)
end WTAIL
