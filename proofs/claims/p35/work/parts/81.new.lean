/-! making objects and rows: the list of addresses grows -/
section NROWS
variable {p : Program} {l : Launch} {e : Env} {R : Room} {s : State} {m : MethodId} {args : Array Value} {below : List Frame} {meth : Method} {c : Code} {H : Heap} {locs : List Loc} {cells slots : Nat} {Q : State → Prop}
variable {cc : ByteArray} {nL : Nat} {own : String} {pc : Nat} {ls : Array Slot} {rest : List Value} {G : Gl} {L L1 : List Nat} {F F1 : Nat → va_E} {a : Nat}
def gr (L L1 : List Nat) (sz : Nat) : Prop := (∀ q ∈ L, q ∈ L1) ∧ ∀ q ∈ L1, q ∈ L ∨ sz ≤ q
theorem gr.rfl {L : List Nat} (sz : Nat) : gr L L sz := ⟨fun _ h => h, fun _ h => Or.inl h⟩
theorem gr.step {L L1 L2 : List Nat} {sz sz2 : Nat} (h : gr L L1 sz) (h2 : gr L1 L2 sz2) (hz : sz ≤ sz2) : gr L L2 sz := ⟨fun q hq => h2.1 q (h.1 q hq), fun q hq => (h2.2 q hq).elim (h.2 q) (fun z => Or.inr (Nat.le_trans hz z))⟩
theorem gr.wA {L L1 : List Nat} {sz s0 : Nat} (h : gr L L1 sz) (hz : s0 ≤ sz) : wA L1 s0 = wA L s0 := by
  funext q
  refine propext ⟨fun h9 => h9.elim (fun z => (h.2 q z).elim Or.inl (fun z2 => Or.inr (Nat.le_trans hz z2))) Or.inr, fun h9 => h9.elim (fun z => Or.inl (h.1 q z)) Or.inr⟩
theorem wD.lt (hw : wD G L F s H locs) (ha : a ∈ L) : a < H.size := by
  obtain ⟨k, hk⟩ := va_pl_get (X := []) (f := F) ha
  exact (hw.1 k _ hk).lt
theorem va_pl_grow {h : Nat} {e9 : va_E} (hlt : ∀ a ∈ L, a < h) : va_pl (L ++ [h]) (va_up F h e9) = va_pl L F ++ [(h, e9)] := by
  unfold va_pl
  rw [List.map_append]
  congr 1
  · exact List.map_congr_left (fun a ha => by rw [va_up_ne _ _ (Nat.ne_of_lt (hlt a ha))])
  · show [(h, va_up F h e9 h)] = _
    rw [va_up_self]
theorem gr1 (hw : wD G L F s H locs) : gr L (L ++ [H.size]) H.size := ⟨fun q hq => List.mem_append_left _ hq, fun q hq => (List.mem_append.mp hq).elim Or.inl (fun z => Or.inr (Nat.le_of_eq (List.mem_singleton.mp z).symm))⟩
theorem Cx.grow (C0 : Cx p s m args c cc nL own G L) {sz : Nat} (h : gr L L1 sz) (hz : s.heap.size ≤ sz) : Cx p s m args c cc nL own G L1 := ⟨C0.1, C0.2.1, C0.2.2.1, C0.2.2.2.1, C0.2.2.2.2.1, by rw [h.wA hz]; exact C0.am⟩
theorem wD.grow {H1 : Heap} {e9 : va_E} (hw : wD G L F s H locs) (hz : H1.size = H.size + 1) (ho : ∀ q : Nat, q < H.size → H1[q]? = H[q]?) (he : va_at G.1 vwCl (H.size, e9) H1) : wD G (L ++ [H.size]) (va_up F H.size e9) s H1 locs := by
  have hlt : ∀ a ∈ L, a < H.size := fun a ha => hw.lt ha
  have hA : wA (L ++ [H.size]) s.heap.size = wA L s.heap.size := (gr1 hw).wA hw.2.2.1
  unfold wD
  rw [hA, va_pl_grow hlt]
  refine ⟨(hw.1.kept (fun k x hx => ho x.1 ((hw.1 k x hx).lt))).app (fun k x hx => ?_), hw.2.1.push hw.1 rfl (Or.inr hw.2.2.1), Nat.le_trans hw.2.2.1 (by omega), fun x h1 h2 => (ho x (Nat.lt_of_lt_of_le h1 hw.2.2.1)).trans (hw.2.2.2.1 x h1 h2), hw.2.2.2.2⟩
  have hz2 : k < 1 := (List.getElem?_eq_some_iff.mp hx).1
  rw [show k = 0 by omega] at hx
  cases hx
  exact he
/-- arrays of numbers -/
theorem q_newa (C0 : Cx p s m args c cc nL own G L) (hw : wD G L F s H locs) {atype : ArrayType} {ty : FieldType} (t0 : Nat) (hty : newarray.typeOf atype = ty) (ht : (g_tys G)[t0]? = some (G.2 t0, ty)) (hra : va_RA s (G.2 t0) ty → s.vm.findClass ("[" ++ ty.toString) = some (G.2 t0)) (hac : Cond.arrayClass ty ∈ TB) {N : Nat} (hN : N < 2 ^ 26) {a0 : vp_A} (ha : vp_cell (G.2 t0) a0 = arrV (G.2 t0) N (fun _ => defaultValue ty)) (hby : N * componentBytes ty ≤ 536870912) (hcells : cells + 1 ≤ R.cells) (hslots : slots + N ≤ R.slots) (hdg : decode cc pc = .ok (.newarray atype, 2))
    (kk : ∀ (H1 : Heap), H1.size = H.size + 1 → wD G (L ++ [H.size]) (va_up F H.size (.inl (G.2 t0, a0))) s H1 locs → W p l e R s m args below meth c H1 locs (cells + 1) (slots + N) Q (F0 m (pc + 2) ls (.ref H.size :: rest))) : W p l e R s m args below meth c H locs cells slots Q (F0 m pc ls (.int (nI N) :: rest)) := by
  subst hty
  refine va_newaK C0.x C0.b (C0.ts _ hac) rfl hdg rfl (nI_pos (by omega)) (nI_clamp (by omega)) hby hcells hslots rfl fun H1 cA e1 z1 o1 hAr hNm => ?_
  have hcA : cA = G.2 t0 := Option.some.inj (hNm.symm.trans (hra (C0.K.2 t0 _ ht).2))
  subst hcA
  exact kk H1 z1 (hw.grow z1 o1 (by show H1[H.size]? = some (vp_cell _ _); rw [ha]; exact e1))
/-- arrays of references -/
theorem q_newq (C0 : Cx p s m args c cc nL own G L) (hw : wD G L F s H locs) {C : String} (t0 : Nat) (ht : (g_tys G)[t0]? = some (G.2 t0, .object C)) {idx : Nat} (hcl : Cond.classLink own idx C ∈ TB) (hov : va_AO C s) {N : Nat} (hN : N < 2 ^ 26) (hcells : cells + 1 ≤ R.cells) (hslots : slots + N ≤ R.slots) (hdg : decode cc pc = .ok (.anewarray idx, 3))
    (kk : ∀ (H1 : Heap), H1.size = H.size + 1 → wD G (L ++ [H.size]) (va_up F H.size (.inl (G.2 t0, N, .inr (.inr (.inr (.inr (fun _ => none))))))) s H1 locs → W p l e R s m args below meth c H1 locs (cells + 1) (slots + N) Q (F0 m (pc + 3) ls (.ref H.size :: rest))) : W p l e R s m args below meth c H locs cells slots Q (F0 m pc ls (.int (nI N) :: rest)) := by
  have en : (nI N).toNatClampNeg = N := nI_clamp (by omega)
  refine W.anew C0.x C0.b C0.ow (C0.ts _ hcl) (va_AO.use hov) rfl hdg rfl (nI_pos (by omega)) (by rw [en]; omega) hcells (by rw [en]; exact hslots) fun cA kA comp f1 f2 f3 f4 => ?_
  obtain ⟨kA2, comp2, g1, g2, g3, g4⟩ := (C0.K.2 t0 _ ht).2
  have hcA : cA = G.2 t0 := Option.some.inj (f1.symm.trans g4)
  subst hcA
  rw [en]
  generalize hH1 : H.push ({ cls := G.2 t0, slots := Array.replicate N .null, vm := .none } : Cell) = H1
  have z1 : H1.size = H.size + 1 := by rw [← hH1, Array.size_push]
  have e1 : H1[H.size]? = some (arrV (G.2 t0) N (fun _ => .null)) := by rw [← hH1, Array.getElem?_push_size, ← arrV_new]
  have o1 : ∀ q : Nat, q < H.size → H1[q]? = H[q]? := fun q hq => by rw [← hH1, Array.getElem?_push, if_neg (Nat.ne_of_lt hq)]
  exact kk H1 z1 (hw.grow z1 o1 (by show H1[H.size]? = some (vp_cell _ _); rw [vp_cell_q]; exact e1))
/-- an object -/
def nWd (own : String) (idx : Nat) (C : String) (T : u_T) (N ci : Nat) (fs : List Value) : Prop := (∀ w ∈ u_ws C T N, w ∈ TB) ∧ vwCl[ci]? = some (C, T, N) ∧ Cond.classLink own idx C ∈ TB ∧ Cond.instantiable C N ∈ TB ∧ Cond.initialized C ∈ TB ∧ ∃ ty : Nat → FieldType, (∀ k, k < N → parseFieldDescriptor (T k).2.2.1 = some (ty k)) ∧ ∀ j, j < N → defaultValue (ty j) = vp_V fs j
theorem q_new (C0 : Cx p s m args c cc nL own G L) (hw : wD G L F s H locs) {idx N ci : Nat} {C : String} {T : u_T} {fs : List Value} (nw : nWd own idx C T N ci fs) (hcells : cells + 1 ≤ R.cells) (hslots : slots + N ≤ R.slots) (hdg : decode cc pc = .ok (.new idx, 3))
    (kk : ∀ (H1 : Heap), H1.size = H.size + 1 → wD G (L ++ [H.size]) (va_up F H.size (.inr (ci, fs))) s H1 locs → W p l e R s m args below meth c H1 locs (cells + 1) (slots + N) Q (F0 m (pc + 3) ls (.ref H.size :: rest))) : W p l e R s m args below meth c H locs cells slots Q (F0 m pc ls rest) := by
  obtain ⟨hin, hc, hcl, hins, hini, ty, hty, hfs⟩ := nw
  have hKn := C0.K.1 ci _ hc
  refine W.newcK C0.x C0.b C0.ow (C0.ts _ hcl) (C0.ts _ hins) (C0.ts _ hini) rfl hdg hcells hslots hKn.2.1 rfl fun H1 kC hkC e1 z1 o1 => ?_
  exact kk H1 z1 (hw.grow z1 o1 ⟨_, hc, (u_born ty C0.ts hin hKn hkC e1 hty).to hfs⟩)
theorem q_obj (C0 : Cx p s m args c cc nL own G L) (hsz : ls.size = nL) {idx : Nat} (hl : Cond.methodLink own idx Lib.objectInit ∈ TB) (hi : Cond.instanceMethod Lib.objectInit ∈ TB) (hcd : Cond.code Lib.objectInit ⟨#[0xb1]⟩ 1 none ∈ TB) (hfr : 1 ≤ R.frames) (hlo : (rest.map fun v => v.category).sum + 12 ≤ R.locals) (hdg : decode cc pc = .ok (.invokespecial idx, 3))
    (kk : W p l e R s m args below meth c H locs cells slots Q (F0 m (pc + 3) ls rest)) : W p l e R s m args below meth c H locs cells slots Q (F0 m pc ls (.ref a :: rest)) :=
  W.objInit C0.x C0.b C0.ow (C0.ts _ hl) (C0.ts _ hi) (C0.ts _ hcd) (g := F0 m pc ls (.ref a :: rest)) rfl (hsz.trans C0.ml.symm) rfl hdg hfr (by show 2 * 0 + _ + _ ≤ _; omega) kk
theorem q_putF (C0 : Cx p s m args c cc nL own G L) (hnm9 : meth.name = "<init>") (hw : wD G L F s H locs) (ha : a ∈ L) {idx N ci k : Nat} {C : String} {T : u_T} {fs : List Value} (he : F a = .inr (ci, fs)) (fw : fWd own idx C T N ci k) {ty : FieldType} (pw : pWd T N k ty) {v : Value} (hfin : (T k).2.2.2 = true) (hdecl : (T k).1 = own) (hn : narrow ty v = v) (hfit : fits ty v = true) (hl : k < fs.length) (hdg : decode cc pc = .ok (.putfield idx, 3))
    (kk : ∀ (F' : Nat → va_E) (H1 : Heap) (locs1 : List Loc), wD G L F' s H1 locs1 → F' a = .inr (ci, fs.set k v) → (∀ q, q ≠ a → F' q = F q) → W p l e R s m args below meth c H1 locs1 cells slots Q (F0 m (pc + 3) ls rest)) : W p l e R s m args below meth c H locs cells slots Q (F0 m pc ls (v :: .ref a :: rest)) := by
  obtain ⟨k9, hk⟩ := va_pl_get (X := []) (f := F) ha
  have hk2 := hk
  rw [he] at hk2
  obtain ⟨⟨tyf, htyf⟩, hnm, hty⟩ := pw
  exact va_putF C0.x C0.b C0.ts fw.1 tyf htyf hnm C0.ow C0.K hw.1 hw.2.1 hw.2.2 k9 hk2 fw.2.1 k fw.2.2.1 (C0.ts _ fw.2.2.2) (fun _ h => h) hfin hnm9 hdecl hty hn hfit hl hdg fun H1 locs1 hP hD hS =>
    hw.go (P := fun H1 locs1 => W p l e R s m args below meth c H1 locs1 cells slots Q (F0 m (pc + 3) ls rest)) ha hk hP hS kk
/-- the words for arrays of references -/
def g_AI (U : State) : Prop := (Cond.arrayOver (.array .int)).before #[] U = true
theorem g_AI.moved {u U : State} (hvm : u.vm.Alike U.vm) (h : g_AI u) : g_AI U := by
  have h2 : (Cond.arrayOver (.array .int)).before #[] (u.setVm U.vm) = true := by rw [show (Cond.arrayOver (.array .int)).before #[] (u.setVm U.vm) = (Cond.arrayOver (.array .int)).before #[] u from Cond.arrayOver_setVmC hvm _]; exact h
  exact h2
def g_Ov (U : State) : Prop := va_AO "LineFields$State" U ∧ va_AO "LineFields$Shape" U ∧ g_AI U
theorem g_Ov.moved {u U : State} (hvm : u.vm.Alike U.vm) (h : g_Ov u) : g_Ov U := ⟨h.1.moved hvm, h.2.1.moved hvm, h.2.2.moved hvm⟩
/-- contracts of constructors -/
def cBN (G : Gl) : List Nat × (Nat → va_E) → State → Prop := fun u t => va_P G.1 vwCl (va_pl u.1 u.2) t.heap ∧ va_D (fun _ => True) (va_pl u.1 u.2)
def cPN (G : Gl) (L : List Nat) (F : Nat → va_E) (sz : Nat) (vals : List Value) : Array Value → State → Prop := fun a U => cP G L F sz vals a U ∧ g_Ov U
theorem cPN.blind {G : Gl} {L : List Nat} {F : Nat → va_E} {sz : Nat} {vals : List Value} : FrameBlind (cPN G L F sz vals) := fun a U g mk q => ⟨cP.blind a U g mk q.1, q.2⟩
abbrev CNQ (G : Gl) (sz : Nat) (post : Nat → List Nat → (Nat → va_E) → Prop) (A : Nat → Prop) : Array Value → State → Outcome → State → Prop := va_Qv (S := List Nat × (Nat → va_E)) (fun u => post sz u.1 u.2) (cBN G) A
def CN (l : Launch) (y : MethodName) (cc : ByteArray) (nL : Nat) (rm : Room) (G : Gl) (L : List Nat) (F : Nat → va_E) (vals : List Value) (post : Nat → List Nat → (Nat → va_E) → Prop) : Prop := ∀ sz, Met l y (.code y cc nL none :: TB) rm (cPN G L F sz vals) (CNQ G sz post (wA L sz)) rm.cells rm.slots (wA L sz)
theorem CN_of {l : Launch} {y : MethodName} {cc : ByteArray} {nL : Nat} {rm : Room} {G : Gl} {L : List Nat} {F : Nat → va_E} {vals : List Value} {post : Nat → List Nat → (Nat → va_E) → Prop} {lv : List (Nat × Value)}
    (hy : plainName y.cls = true) (hn : (lg_sl vals).length ≤ nL) (hv : lv_args 0 vals = lv)
    (body : ∀ (p : Program) (e : Env) (s : State) (m : MethodId) (args : Array Value) (below : List Frame) (meth : Method) (c : Code) (Q : State → Prop), Cx p s m args c cc nL y.cls G L → g_Ov s → meth.sig.returnType = none → meth.locks = false → meth.name = y.name → Q = MQ below (CNQ G s.heap.size post (wA L s.heap.size)) args s rm.cells rm.slots (wA L s.heap.size) → wD G L F s s.heap [] → ∀ ls : Array Slot, lv_has ls nL lv →
      W p l e rm s m args below meth c s.heap [] 0 0 Q (F0 m 0 ls [])) : CN l y cc nL rm G L F vals post := by
  intro sz
  refine Met.ofW (cc := cc) (maxL := nL) (ret := none) hy rfl ?_
  intro p e s m args below meth c s₁ B hml hq
  obtain ⟨⟨rfl, hsz, hP, hD0, hAm⟩, hOv⟩ := hq
  subst hsz
  have hts := atoms_spec (ws := Cond.code y cc nL none :: TB) B.pre
  have hl := lv_entry vals (n := nL) hn
  rw [lg_entry_eq]
  rw [hv] at hl
  exact body p e s m _ below meth c _ ⟨B.exec, B.bytes, hml, findClass_of_methodNamed B.named, fun w h => hts w (List.mem_cons_of_mem _ h), hAm⟩ hOv B.returns B.notSynchronized (name_of_methodNamed B.named B.method).1 rfl (wD.start hP hD0) _ hl
theorem r_vN (C0 : Cx p s m args c cc nL own G L1) (hg : gr L L1 s.heap.size) {mc ms : Nat} (hr : meth.sig.returnType = none) (hlk : meth.locks = false) (hw : wD G L1 F1 s H locs) {post : Nat → List Nat → (Nat → va_E) → Prop} (hp : post s.heap.size L1 F1) (hc : cells ≤ mc) (hs : slots ≤ ms) (hdg : decode cc pc = .ok (.return_, 1)) (hQ : Q = MQ below (CNQ G s.heap.size post (wA L s.heap.size)) args s mc ms (wA L s.heap.size)) : W p l e R s m args below meth c H locs cells slots Q (F0 m pc ls []) := by
  have hA : wA L1 s.heap.size = wA L s.heap.size := hg.wA (Nat.le_refl _)
  have hw2 := hw.2.2
  rw [hA] at hw2
  exact hQ ▸ W.widen hc hs (W.vret C0.x C0.b hr (fun t ht _ => ⟨⟨(L1, F1), rfl, hp, by show va_P _ _ _ t.heap; rw [ht]; exact hw.1, hw.2.1.weaken (fun _ _ _ _ => trivial)⟩, hw2.F ht⟩) hw2.2.2 hdg hlk)
theorem q_runI {y : MethodName} {bytes : ByteArray} {mL idx n : Nat} {rm : Room} {As st0 : List Value} {b : Nat} {post : Nat → List Nat → (Nat → va_E) → Prop} (hM : CN l y bytes mL rm G L F (.ref b :: As) post) (C0 : Cx p s m args c cc nL own G L) (hOv : g_Ov s) (hw : wD G L F s H locs) (iw : iWd own idx y bytes mL n) (hlen : As.length = n) (hsize : ls.size = nL) (hst : st0 = As.reverse ++ .ref b :: rest) (hcat : (rest.map fun v => v.category).sum ≤ 8) (hdg : decode cc pc = .ok (.invokespecial idx, 3)) (hroom : rm.frames + 1 ≤ R.frames ∧ 8 + (mL + 11) + rm.locals ≤ R.locals) (hcs : cells + rm.cells ≤ R.cells ∧ slots + rm.slots ≤ R.slots) :
    va_Run p l e R s m args below meth c H locs cells slots rm.cells rm.slots (F0 m pc ls st0) rest (CNQ G H.size post (wA L H.size) (Value.ref b :: As).toArray) (wA L H.size) := by
  obtain ⟨h1, h2, h3, h4, h5, h6⟩ := iw
  exact va_runI (As := As) (rest := rest) ⟨C0.x, C0.b, C0.ml, C0.ow, C0.ts⟩ (hM H.size) (cwI n C0.ts (tb_gi (tb_code h4)) rfl rfl rfl (C0.ts _ h3) (C0.ts _ h1) (C0.ts _ h2) h5 h6 hroom) ⟨cPN.blind, fun U hU hW => ⟨cP.hold C0 hw _ U hU hW, hOv.moved hW.alike⟩⟩ rfl hlen hsize hst (lv_room hcat) hdg hcs
theorem q_calln (hw : wD G L F s H locs) {mc ms : Nat} {a9 : Array Value} {st0 : List Value} {post : Nat → List Nat → (Nat → va_E) → Prop} (hpg : ∀ L1 F1, post H.size L1 F1 → gr L L1 H.size) (hr : va_Run p l e R s m args below meth c H locs cells slots mc ms (F0 m pc ls st0) rest (CNQ G H.size post (wA L H.size) a9) (wA L H.size))
    (kk : ∀ (L1 : List Nat) (F1 : Nat → va_E) (H1 : Heap) (locs1 : List Loc), H.size ≤ H1.size → wD G L1 F1 s H1 locs1 → post H.size L1 F1 → W p l e R s m args below meth c H1 locs1 (cells + mc) (slots + ms) Q (F0 m (pc + 3) ls rest)) : W p l e R s m args below meth c H locs cells slots Q (F0 m pc ls st0) := by
  refine va_callv hr hw.2.2 (fun q _ h => wA.mono hw.2.2.1 q h) (wA.mono hw.2.2.1) (fun u t H1 locs1 ht _ hp hB hz _ hS => ?_)
  have hA : wA u.1 s.heap.size = wA L s.heap.size := (hpg _ _ hp).wA hw.2.2.1
  refine kk u.1 u.2 H1 locs1 hz ⟨by rw [← ht]; exact hB.1, hB.2.weaken (fun k q hq _ => Or.inl ?_), by rw [hA]; exact hS⟩ hp
  have hm := List.mem_of_getElem? hq
  obtain ⟨a, ha, rfl⟩ := List.mem_map.mp hm
  exact ha
end NROWS
