theorem va_pl_D {A : Nat → Prop} {L : List Nat} {F F' : Nat → va_E} (h : va_D A (va_pl L F)) : va_D A (va_pl L F') := by
  have g : ∀ (i : Nat) (q : Nat × va_E), (va_pl L F')[i]? = some q → (va_pl L F)[i]? = some (q.1, F q.1) := by
    intro i q hq
    rw [va_pl, List.getElem?_map] at hq ⊢
    obtain ⟨x, hx, rfl⟩ := Option.map_eq_some_iff.mp hq
    rw [hx]
    rfl
  exact ⟨fun i j p q hp hq e => h.1 i j _ _ (g i p hp) (g j q hq) e, fun k q hq => by
    have h9 := h.2 k (q.1, F q.1) (g k q hq)
    exact h9⟩
section ROWS
variable {p : Program} {l : Launch} {e : Env} {R : Room} {s : State} {m : MethodId} {args : Array Value} {below : List Frame} {meth : Method} {c : Code} {H : Heap} {locs : List Loc} {cells slots : Nat} {Q : State → Prop}
variable {cc : ByteArray} {nL : Nat} {own : String} {pc : Nat} {ls : Array Slot} {rest : List Value} {G : Gl} {L : List Nat} {F : Nat → va_E} {a : Nat}
theorem Cx.x (C0 : Cx p s m args c cc nL own G L) : p.tables.exec = Jvm.exec := C0.1
theorem Cx.b (C0 : Cx p s m args c cc nL own G L) : c.code = cc := C0.2.1
theorem Cx.ml (C0 : Cx p s m args c cc nL own G L) : c.maxLocals = nL := C0.2.2.1
theorem Cx.ow (C0 : Cx p s m args c cc nL own G L) : s.vm.findClass own = some m.cls := C0.2.2.2.1
theorem Cx.ts (C0 : Cx p s m args c cc nL own G L) : ∀ w ∈ TB, w.before args s = true := C0.2.2.2.2.1
theorem Cx.am (C0 : Cx p s m args c cc nL own G L) : g_Am G (wA L s.heap.size) s s.heap := C0.2.2.2.2.2
theorem Cx.K (C0 : Cx p s m args c cc nL own G L) : va_K G.1 vwCl (g_tys G) s := C0.am.1
theorem wD.up {H1 : Heap} {locs1 : List Loc} {k : Nat} {e' : va_E} (hw : wD G L F s H locs) (ha : a ∈ L) (hk : ([] ++ va_pl L F)[k]? = some (a, F a)) (hP : va_P G.1 vwCl ((va_pl L F).set k (a, e')) H1) (hS : va_S (wA L s.heap.size) s.heap H1 locs1) : wD G L (va_up F a e') s H1 locs1 := by
  have h : (va_pl L F).set k (a, e') = va_pl L (va_up F a e') := va_pl_set (X := []) hw.2.1 ha hk
  rw [h] at hP
  exact ⟨hP, va_pl_D hw.2.1, hS⟩
/-- the walk goes on over a heap that differs at one address -/
theorem wD.go {H1 : Heap} {locs1 : List Loc} {k : Nat} {e' : va_E} {P : Heap → List Loc → Prop} (hw : wD G L F s H locs) (ha : a ∈ L) (hk : ([] ++ va_pl L F)[k]? = some (a, F a)) (hP : va_P G.1 vwCl ((va_pl L F).set k (a, e')) H1) (hS : va_S (wA L s.heap.size) s.heap H1 locs1)
    (kk : ∀ (F' : Nat → va_E) (H1 : Heap) (locs1 : List Loc), wD G L F' s H1 locs1 → F' a = e' → (∀ q, q ≠ a → F' q = F q) → P H1 locs1) : P H1 locs1 :=
  kk _ H1 locs1 (hw.up ha hk hP hS) (va_up_self _ _ _) (fun _ hq => va_up_ne _ _ hq)
theorem q_iald (C0 : Cx p s m args c cc nL own G L) (hw : wD G L F s H locs) (ha : a ∈ L) {N : Nat} {f : Nat → Int32} (he : F a = .inl (G.2 0, N, .inl f)) (i : Nat) (hi : i < N) (hN : N < 2 ^ 31) {v : Int32} (hv : f i = v) (hdg : decode cc pc = .ok (.iaload, 1))
    (kk : W p l e R s m args below meth c H locs cells slots Q (F0 m (pc + 1) ls (.int v :: rest))) : W p l e R s m args below meth c H locs cells slots Q (F0 m pc ls (.int (nI i) :: .ref a :: rest)) := by
  obtain ⟨k, hk⟩ := va_pl_get (X := []) (f := F) ha
  rw [he] at hk
  refine va_iald C0.x C0.b C0.K hw.1 k 0 hk rfl (vp_in_nI hi hN) hdg ?_
  rw [nI_clamp (Nat.lt_trans hi hN), hv]
  exact kk
theorem q_zald (C0 : Cx p s m args c cc nL own G L) (hw : wD G L F s H locs) (ha : a ∈ L) {N : Nat} {f : Nat → Int32} (he : F a = .inl (G.2 1, N, .inl f)) (i : Nat) (hi : i < N) (hN : N < 2 ^ 31) {v : Int32} (hv : f i = v) (hdg : decode cc pc = .ok (.baload, 1))
    (kk : W p l e R s m args below meth c H locs cells slots Q (F0 m (pc + 1) ls (.int v :: rest))) : W p l e R s m args below meth c H locs cells slots Q (F0 m pc ls (.int (nI i) :: .ref a :: rest)) := by
  obtain ⟨k, hk⟩ := va_pl_get (X := []) (f := F) ha
  rw [he] at hk
  refine va_zald C0.x C0.b C0.K hw.1 k 1 hk rfl (vp_in_nI hi hN) hdg ?_
  rw [nI_clamp (Nat.lt_trans hi hN), hv]
  exact kk
theorem q_iast (C0 : Cx p s m args c cc nL own G L) (hw : wD G L F s H locs) (ha : a ∈ L) {N : Nat} {f : Nat → Int32} (he : F a = .inl (G.2 0, N, .inl f)) (i : Nat) (hi : i < N) (hN : N < 2 ^ 31) {x : Int32} (hdg : decode cc pc = .ok (.iastore, 1))
    (kk : ∀ (F' : Nat → va_E) (H1 : Heap) (locs1 : List Loc), wD G L F' s H1 locs1 → F' a = .inl (G.2 0, N, .inl (upd f i x)) → (∀ q, q ≠ a → F' q = F q) → W p l e R s m args below meth c H1 locs1 cells slots Q (F0 m (pc + 1) ls rest)) : W p l e R s m args below meth c H locs cells slots Q (F0 m pc ls (.int x :: .int (nI i) :: .ref a :: rest)) := by
  obtain ⟨k, hk⟩ := va_pl_get (X := []) (f := F) ha
  have hk2 := hk
  rw [he] at hk2
  refine va_iast C0.x C0.b C0.K hw.1 hw.2.1 hw.2.2 k 0 hk2 rfl (vp_in_nI hi hN) hdg fun H1 locs1 hP hD hS => ?_
  rw [nI_clamp (Nat.lt_trans hi hN)] at hP
  exact hw.go (P := fun H1 locs1 => W p l e R s m args below meth c H1 locs1 cells slots Q (F0 m (pc + 1) ls rest)) ha hk hP hS kk
theorem q_zast (C0 : Cx p s m args c cc nL own G L) (hw : wD G L F s H locs) (ha : a ∈ L) {N : Nat} {f : Nat → Int32} (he : F a = .inl (G.2 1, N, .inl f)) (i : Nat) (hi : i < N) (hN : N < 2 ^ 31) {x : Int32} (hdg : decode cc pc = .ok (.bastore, 1))
    (kk : ∀ (F' : Nat → va_E) (H1 : Heap) (locs1 : List Loc), wD G L F' s H1 locs1 → F' a = .inl (G.2 1, N, .inl (upd f i (vp_nar .boolean x))) → (∀ q, q ≠ a → F' q = F q) → W p l e R s m args below meth c H1 locs1 cells slots Q (F0 m (pc + 1) ls rest)) : W p l e R s m args below meth c H locs cells slots Q (F0 m pc ls (.int x :: .int (nI i) :: .ref a :: rest)) := by
  obtain ⟨k, hk⟩ := va_pl_get (X := []) (f := F) ha
  have hk2 := hk
  rw [he] at hk2
  refine va_zast C0.x C0.b C0.K hw.1 hw.2.1 hw.2.2 k 1 hk2 rfl (vp_in_nI hi hN) hdg fun H1 locs1 hP hD hS => ?_
  rw [nI_clamp (Nat.lt_trans hi hN)] at hP
  exact hw.go (P := fun H1 locs1 => W p l e R s m args below meth c H1 locs1 cells slots Q (F0 m (pc + 1) ls rest)) ha hk hP hS kk
theorem q_alen (C0 : Cx p s m args c cc nL own G L) (hw : wD G L F s H locs) (ha : a ∈ L) {N : Nat} {f : Nat → Int32} (he : F a = .inl (G.2 0, N, .inl f)) (hdg : decode cc pc = .ok (.arraylength, 1))
    (kk : W p l e R s m args below meth c H locs cells slots Q (F0 m (pc + 1) ls (.int (nI N) :: rest))) : W p l e R s m args below meth c H locs cells slots Q (F0 m pc ls (.ref a :: rest)) := by
  obtain ⟨k, hk⟩ := va_pl_get (X := []) (f := F) ha
  rw [he] at hk
  exact va_alen C0.x C0.b C0.K hw.1 k 0 hk (ty := .int) rfl rfl hdg kk
/-- an array of references: Shape[] (t0 = 2), State[] (t0 = 3) -/
theorem q_aald (C0 : Cx p s m args c cc nL own G L) (hw : wD G L F s H locs) (ha : a ∈ L) (t0 : Nat) {C : String} (ht : (g_tys G)[t0]? = some (G.2 t0, .object C)) {N : Nat} {f : Nat → Option Nat} (he : F a = .inl (G.2 t0, N, .inr (.inr (.inr (.inr f))))) (i : Nat) (hi : i < N) (hN : N < 2 ^ 31) {b : Nat} (hv : f i = some b) (hdg : decode cc pc = .ok (.aaload, 1))
    (kk : W p l e R s m args below meth c H locs cells slots Q (F0 m (pc + 1) ls (.ref b :: rest))) : W p l e R s m args below meth c H locs cells slots Q (F0 m pc ls (.int (nI i) :: .ref a :: rest)) := by
  obtain ⟨k, hk⟩ := va_pl_get (X := []) (f := F) ha
  rw [he] at hk
  refine va_aldq C0.x C0.b C0.K hw.1 k t0 hk ht (vp_in_nI hi hN) hdg ?_
  rw [nI_clamp (Nat.lt_trans hi hN), hv]
  exact kk
/-- int[][] -/
theorem q_aaldi (C0 : Cx p s m args c cc nL own G L) (hw : wD G L F s H locs) (ha : a ∈ L) {N : Nat} {f : Nat → Option Nat} (he : F a = .inl (G.2 4, N, .inr (.inr (.inr (.inr f))))) (i : Nat) (hi : i < N) (hN : N < 2 ^ 31) {b : Nat} (hv : f i = some b) (hdg : decode cc pc = .ok (.aaload, 1))
    (kk : W p l e R s m args below meth c H locs cells slots Q (F0 m (pc + 1) ls (.ref b :: rest))) : W p l e R s m args below meth c H locs cells slots Q (F0 m pc ls (.int (nI i) :: .ref a :: rest)) := by
  obtain ⟨k, hk⟩ := va_pl_get (X := []) (f := F) ha
  rw [he] at hk
  have hin := vp_in_nI hi hN
  have hlt : (nI i).toNatClampNeg < N := by rw [nI_clamp (Nat.lt_trans hi hN)]; exact hi
  refine W.aald (v := va_rf (f (nI i).toNatClampNeg)) (ty := .array .int) C0.x C0.b (hw.1 k _ hk) ((C0.K.2 4 _ rfl).1 N (fun j => va_rf (f j))) rfl (fun q => by cases q) (by show ¬ (_ < 0 ∨ (arrV _ _ _).slots.size ≤ _); rw [arrV_size]; exact hin) (by show (arrV _ _ _).slots[_]? = _; rw [arrV_read _ _ hlt]) rfl rfl hdg ?_
  rw [nI_clamp (Nat.lt_trans hi hN), hv]
  exact kk
def fWd (own : String) (idx : Nat) (C : String) (T : u_T) (N ci k : Nat) : Prop := (∀ w ∈ u_ws C T N, w ∈ TB) ∧ vwCl[ci]? = some (C, T, N) ∧ k < N ∧ Cond.fieldLink own idx (T k).1 (T k).2.1 (T k).2.2.1 ∈ TB
def pWd (T : u_T) (N k : Nat) (ty : FieldType) : Prop := (∃ tyf : Nat → FieldType, ∀ k, k < N → parseFieldDescriptor (T k).2.2.1 = some (tyf k)) ∧ (∀ a, a < N → ∀ b, b < N → a ≠ b → (T a).2.1 ≠ (T b).2.1) ∧ parseFieldDescriptor (T k).2.2.1 = some ty
theorem q_get (C0 : Cx p s m args c cc nL own G L) (hw : wD G L F s H locs) (ha : a ∈ L) {idx N ci k : Nat} {C : String} {T : u_T} {fs : List Value} (he : F a = .inr (ci, fs)) (fw : fWd own idx C T N ci k) {v : Value} (hv : fs[k]? = some v) (hdg : decode cc pc = .ok (.getfield idx, 3))
    (kk : W p l e R s m args below meth c H locs cells slots Q (F0 m (pc + 3) ls (v :: rest))) : W p l e R s m args below meth c H locs cells slots Q (F0 m pc ls (.ref a :: rest)) := by
  obtain ⟨k9, hk⟩ := va_pl_get (X := []) (f := F) ha
  rw [he] at hk
  exact va_get C0.x C0.b C0.ts fw.1 C0.ow C0.K hw.1 k9 hk fw.2.1 k fw.2.2.1 (C0.ts _ fw.2.2.2) (fun _ h => h) hv hdg kk
theorem q_put (C0 : Cx p s m args c cc nL own G L) (hw : wD G L F s H locs) (ha : a ∈ L) {idx N ci k : Nat} {C : String} {T : u_T} {fs : List Value} (he : F a = .inr (ci, fs)) (fw : fWd own idx C T N ci k) {ty : FieldType} (pw : pWd T N k ty) {v : Value} (hfin : (T k).2.2.2 = false) (hn : narrow ty v = v) (hfit : fits ty v = true) (hl : k < fs.length) (hdg : decode cc pc = .ok (.putfield idx, 3))
    (kk : ∀ (F' : Nat → va_E) (H1 : Heap) (locs1 : List Loc), wD G L F' s H1 locs1 → F' a = .inr (ci, fs.set k v) → (∀ q, q ≠ a → F' q = F q) → W p l e R s m args below meth c H1 locs1 cells slots Q (F0 m (pc + 3) ls rest)) : W p l e R s m args below meth c H locs cells slots Q (F0 m pc ls (v :: .ref a :: rest)) := by
  obtain ⟨k9, hk⟩ := va_pl_get (X := []) (f := F) ha
  have hk2 := hk
  rw [he] at hk2
  obtain ⟨⟨tyf, htyf⟩, hnm, hty⟩ := pw
  exact va_put C0.x C0.b C0.ts fw.1 tyf htyf hnm C0.ow C0.K hw.1 hw.2.1 hw.2.2 k9 hk2 fw.2.1 k fw.2.2.1 (C0.ts _ fw.2.2.2) (fun _ h => h) hfin hty hn hfit hl hdg fun H1 locs1 hP hD hS =>
    hw.go (P := fun H1 locs1 => W p l e R s m args below meth c H1 locs1 cells slots Q (F0 m (pc + 3) ls rest)) ha hk hP hS kk
/-- the table INVERSES -/
theorem q_inv (C0 : Cx p s m args c cc nL own G L) (hw : wD G L F s H locs) {idx : Nat} (hl : Cond.fieldLink own idx RX1 "INVERSES" "[I" ∈ TB) (hdg : decode cc pc = .ok (.getstatic idx, 3))
    (kk : ∀ t : Nat, va_T .int t 6 g_inv (wA L s.heap.size) s s.heap → W p l e R s m args below meth c H locs cells slots Q (F0 m (pc + 3) ls (.ref t :: rest))) : W p l e R s m args below meth c H locs cells slots Q (F0 m pc ls rest) := by
  obtain ⟨t, hZ, hT⟩ := C0.am.2.1
  exact va_gets C0.x C0.b hZ hw.2.2 C0.ow (C0.ts _ hl) (fun _ h => h) hdg (kk t hT)
theorem q_invld (C0 : Cx p s m args c cc nL own G L) (hw : wD G L F s H locs) {t : Nat} (hT : va_T .int t 6 g_inv (wA L s.heap.size) s s.heap) (i : Nat) (hi : i < 6) {v : Value} (hv : g_inv i = v) (hdg : decode cc pc = .ok (.iaload, 1))
    (kk : W p l e R s m args below meth c H locs cells slots Q (F0 m (pc + 1) ls (v :: rest))) : W p l e R s m args below meth c H locs cells slots Q (F0 m pc ls (.int (nI i) :: .ref t :: rest)) :=
  va_ti C0.x C0.b hT hw.2.2 (vp_in_nI hi (by decide)) (by rw [nI_clamp (Nat.lt_trans hi (by decide))]; exact hv) hdg kk
-- returns
theorem r_i (C0 : Cx p s m args c cc nL own G L) {F' : Nat → va_E} {mc ms : Nat} {ty : FieldType} (hr : meth.sig.returnType = some ty) (hlk : meth.locks = false) (hw : wD G L F' s H locs) {v : Int32} (hn : narrow ty (.int v) = .int v) {post : Int32 → (Nat → va_E) → Prop} (hp : post v F') (hc : cells ≤ mc) (hs : slots ≤ ms) (hdg : decode cc pc = .ok (.ireturn, 1)) (hQ : Q = MQ below (va_Qi post (cB G L) (wA L s.heap.size)) args s mc ms (wA L s.heap.size)) : W p l e R s m args below meth c H locs cells slots Q (F0 m pc ls [.int v]) :=
  hQ ▸ W.widen hc hs (W.zret C0.x C0.b hr hn (fun t ht _ => ⟨⟨v, F', rfl, hp, by show va_P _ _ _ t.heap; rw [ht]; exact hw.1⟩, hw.2.2.F ht⟩) hw.2.2.2.2 hdg hlk)
theorem r_l (C0 : Cx p s m args c cc nL own G L) {F' : Nat → va_E} {mc ms : Nat} (hr : meth.sig.returnType = some .long) (hlk : meth.locks = false) (hw : wD G L F' s H locs) {v : Int64} {post : Int64 → (Nat → va_E) → Prop} (hp : post v F') (hc : cells ≤ mc) (hs : slots ≤ ms) (hdg : decode cc pc = .ok (.lreturn, 1)) (hQ : Q = MQ below (va_Ql post (cB G L) (wA L s.heap.size)) args s mc ms (wA L s.heap.size)) : W p l e R s m args below meth c H locs cells slots Q (F0 m pc ls [.long v]) :=
  hQ ▸ W.widen hc hs (W.lret C0.x C0.b hr (fun t ht _ => ⟨⟨v, F', rfl, hp, by show va_P _ _ _ t.heap; rw [ht]; exact hw.1⟩, hw.2.2.F ht⟩) hw.2.2.2.2 hdg hlk)
theorem r_d (C0 : Cx p s m args c cc nL own G L) {F' : Nat → va_E} {mc ms : Nat} (hr : meth.sig.returnType = some .double) (hlk : meth.locks = false) (hw : wD G L F' s H locs) {v : UInt64} {post : UInt64 → (Nat → va_E) → Prop} (hp : post v F') (hc : cells ≤ mc) (hs : slots ≤ ms) (hdg : decode cc pc = .ok (.dreturn, 1)) (hQ : Q = MQ below (va_Qd post (cB G L) (wA L s.heap.size)) args s mc ms (wA L s.heap.size)) : W p l e R s m args below meth c H locs cells slots Q (F0 m pc ls [.double v]) :=
  hQ ▸ W.widen hc hs (W.dret C0.x C0.b hr (fun t ht _ => ⟨⟨v, F', rfl, hp, by show va_P _ _ _ t.heap; rw [ht]; exact hw.1⟩, hw.2.2.F ht⟩) hw.2.2.2.2 hdg hlk)
theorem r_v (C0 : Cx p s m args c cc nL own G L) {F' : Nat → va_E} {mc ms : Nat} (hr : meth.sig.returnType = none) (hlk : meth.locks = false) (hw : wD G L F' s H locs) {post : (Nat → va_E) → Prop} (hp : post F') (hc : cells ≤ mc) (hs : slots ≤ ms) (hdg : decode cc pc = .ok (.return_, 1)) (hQ : Q = MQ below (va_Qv post (cB G L) (wA L s.heap.size)) args s mc ms (wA L s.heap.size)) : W p l e R s m args below meth c H locs cells slots Q (F0 m pc ls []) :=
  hQ ▸ W.widen hc hs (W.vret C0.x C0.b hr (fun t ht _ => ⟨⟨F', rfl, hp, by show va_P _ _ _ t.heap; rw [ht]; exact hw.1⟩, hw.2.2.F ht⟩) hw.2.2.2.2 hdg hlk)
-- calls
def dWd (y : MethodName) (n : Nat) : Prop := y.cls ≠ "java/lang/invoke/MethodHandle" ∧ y.cls ≠ "java/lang/invoke/VarHandle" ∧ (parseMethodDescriptor y.desc).map (fun d => d.parameters.length) = some n
def vWd (own : String) (idx : Nat) (y : MethodName) (bytes : ByteArray) (mL : Nat) (rt : Option FieldType) (n : Nat) : Prop := Cond.methodLink own idx y ∈ TB ∧ Cond.instanceMethod y ∈ TB ∧ Cond.selects y.cls y y ∈ TB ∧ Cond.initialized y.cls ∈ TB ∧ Cond.code y bytes mL rt ∈ TB ∧ dWd y n
def sWd (own : String) (idx : Nat) (y : MethodName) (bytes : ByteArray) (mL : Nat) (rt : Option FieldType) (n : Nat) : Prop := Cond.methodLink own idx y ∈ TB ∧ Cond.static y ∈ TB ∧ Cond.initialized y.cls ∈ TB ∧ Cond.code y bytes mL rt ∈ TB ∧ dWd y n
theorem tb_code {y : MethodName} {bytes : ByteArray} {mL : Nat} {rt : Option FieldType} (h : Cond.code y bytes mL rt ∈ TB) : ∀ w ∈ Cond.code y bytes mL rt :: TB, w ∈ TB := fun w hw => (List.mem_cons.mp hw).elim (fun z => z ▸ h) id
theorem cwV_TB {y : MethodName} {bytes : ByteArray} {mL idx n : Nat} {rt : Option FieldType} {rm : Room} (C0 : Cx p s m args c cc nL own G L) (vw : vWd own idx y bytes mL rt n) (hroom : rm.frames + 1 ≤ R.frames ∧ 8 + (mL + 11) + rm.locals ≤ R.locals) : CallW R s args own y.cls idx y bytes mL rt (Cond.code y bytes mL rt :: TB) rm rm.cells rm.slots n := by
  obtain ⟨h1, h2, h3, h4, h5, h6⟩ := vw
  refine cwV n C0.ts (tb_gi fun w hw => ?_) rfl rfl rfl ⟨rfl, h6⟩ hroom
  rcases List.mem_append.mp hw with h | h
  · rcases List.mem_cons.mp h with rfl | h
    · exact h1
    rcases List.mem_cons.mp h with rfl | h
    · exact h2
    rcases List.mem_cons.mp h with rfl | h
    · exact h3
    rcases List.mem_cons.mp h with rfl | h
    · exact h4
    · exact absurd h List.not_mem_nil
  · exact tb_code h5 w h
theorem cwS_TB {y : MethodName} {bytes : ByteArray} {mL idx n : Nat} {rt : Option FieldType} {rm : Room} (C0 : Cx p s m args c cc nL own G L) (vw : sWd own idx y bytes mL rt n) (hroom : rm.frames + 1 ≤ R.frames ∧ 8 + (mL + 11) + rm.locals ≤ R.locals) : CallB R s args own idx y bytes mL rt (Cond.code y bytes mL rt :: TB) rm rm.cells rm.slots n ∧ (Cond.static y).before args s = true := by
  obtain ⟨h1, h2, h3, h4, h5⟩ := vw
  exact ⟨callB_of n C0.ts (tb_gi (tb_code h4)) rfl rfl rfl (C0.ts _ h3) (C0.ts _ h1) h5 hroom, C0.ts _ h2⟩
theorem cP.hold (C0 : Cx p s m args c cc nL own G L) (hw : wD G L F s H locs) (vals : List Value) : ∀ U : State, U.heap = H → s.WarmedH U.vm → cP G L F H.size vals vals.toArray U := fun U hU hW => ⟨rfl, by rw [hU], by rw [hU]; exact hw.1, hw.2.1.weaken (fun _ _ _ _ => trivial), C0.am.call hw.2.2 (wA.mono hw.2.2.1) hU hW⟩
section CALL
variable {y : MethodName} {bytes : ByteArray} {mL idx n : Nat} {rt : Option FieldType} {rm : Room} {As st0 : List Value} {b ci : Nat} {fs : List Value} {q : vw_C} {Qf : (Nat → Prop) → Array Value → State → Outcome → State → Prop}
theorem q_runV (hM : CG l y bytes mL rt rm G L F (.ref b :: As) Qf) (C0 : Cx p s m args c cc nL own G L) (hw : wD G L F s H locs) (vw : vWd own idx y bytes mL rt n) (hb : b ∈ L) (he : F b = .inr (ci, fs)) (hcl : vwCl[ci]? = some q) (hq : q.1 = y.cls) (hlen : As.length = n) (hsize : ls.size = nL) (hst : st0 = As.reverse ++ .ref b :: rest) (hcat : (rest.map fun v => v.category).sum ≤ 8) (hdg : decode cc pc = .ok (.invokevirtual idx, 3)) (hroom : rm.frames + 1 ≤ R.frames ∧ 8 + (mL + 11) + rm.locals ≤ R.locals) (hcs : cells + rm.cells ≤ R.cells ∧ slots + rm.slots ≤ R.slots) :
    va_Run p l e R s m args below meth c H locs cells slots rm.cells rm.slots (F0 m pc ls st0) rest (Qf (wA L H.size) (Value.ref b :: As).toArray) (wA L H.size) := by
  obtain ⟨k, hk⟩ := va_pl_get (X := []) (f := F) hb
  rw [he] at hk
  have hrecv := va_recv (q0 := k) C0.K hw.1 hcl hk
  rw [hq] at hrecv
  exact va_runV (As := As) (rest := rest) ⟨C0.x, C0.b, C0.ml, C0.ow, C0.ts⟩ (hM H.size) (cwV_TB C0 vw hroom) ⟨cP.blind, hrecv, cP.hold C0 hw _⟩ rfl hlen hsize hst (lv_room hcat) hdg hcs
theorem q_runS (hM : CG l y bytes mL rt rm G L F As Qf) (C0 : Cx p s m args c cc nL own G L) (hw : wD G L F s H locs) (vw : sWd own idx y bytes mL rt n) (hlen : As.length = n) (hsize : ls.size = nL) (hst : st0 = As.reverse ++ rest) (hcat : (rest.map fun v => v.category).sum ≤ 8) (hdg : decode cc pc = .ok (.invokestatic idx, 3)) (hroom : rm.frames + 1 ≤ R.frames ∧ 8 + (mL + 11) + rm.locals ≤ R.locals) (hcs : cells + rm.cells ≤ R.cells ∧ slots + rm.slots ≤ R.slots) :
    va_Run p l e R s m args below meth c H locs cells slots rm.cells rm.slots (F0 m pc ls st0) rest (Qf (wA L H.size) As.toArray) (wA L H.size) :=
  va_runS (As := As) (rest := rest) ⟨C0.x, C0.b, C0.ml, C0.ow, C0.ts⟩ (hM H.size) (cwS_TB C0 vw hroom) ⟨cP.blind, cP.hold C0 hw _⟩ rfl hlen hsize hst (lv_room hcat) hdg hcs
end CALL
section BACK
variable {mc ms : Nat} {a9 : Array Value} {st0 : List Value}
theorem wD.back (hw : wD G L F s H locs) {F' : Nat → va_E} {t : State} {H1 : Heap} {locs1 : List Loc} (ht : t.heap = H1) (hB : cB G L F' t) (hS : va_S (wA L s.heap.size) s.heap H1 locs1) : wD G L F' s H1 locs1 := ⟨by rw [← ht]; exact hB, va_pl_D hw.2.1, hS⟩
theorem q_calli (hw : wD G L F s H locs) {post : Int32 → (Nat → va_E) → Prop} (hr : va_Run p l e R s m args below meth c H locs cells slots mc ms (F0 m pc ls st0) rest (va_Qi post (cB G L) (wA L H.size) a9) (wA L H.size)) (hmc : mc = 0) (hms : ms = 0)
    (kk : ∀ (r : Int32) (F' : Nat → va_E) (H1 : Heap) (locs1 : List Loc), wD G L F' s H1 locs1 → post r F' → W p l e R s m args below meth c H1 locs1 cells slots Q (F0 m (pc + 3) ls (.int r :: rest))) : W p l e R s m args below meth c H locs cells slots Q (F0 m pc ls st0) := by
  subst hmc
  subst hms
  exact va_calli hr hw.2.2 (fun q _ h => wA.mono hw.2.2.1 q h) (wA.mono hw.2.2.1) (fun r u t H1 locs1 ht _ hp hB _ _ hS => kk r u H1 locs1 (hw.back ht hB hS) hp)
theorem q_calll (hw : wD G L F s H locs) {post : Int64 → (Nat → va_E) → Prop} (hr : va_Run p l e R s m args below meth c H locs cells slots mc ms (F0 m pc ls st0) rest (va_Ql post (cB G L) (wA L H.size) a9) (wA L H.size)) (hmc : mc = 0) (hms : ms = 0)
    (kk : ∀ (r : Int64) (F' : Nat → va_E) (H1 : Heap) (locs1 : List Loc), wD G L F' s H1 locs1 → post r F' → W p l e R s m args below meth c H1 locs1 cells slots Q (F0 m (pc + 3) ls (.long r :: rest))) : W p l e R s m args below meth c H locs cells slots Q (F0 m pc ls st0) := by
  subst hmc
  subst hms
  exact va_calll hr hw.2.2 (fun q _ h => wA.mono hw.2.2.1 q h) (wA.mono hw.2.2.1) (fun r u t H1 locs1 ht _ hp hB _ _ hS => kk r u H1 locs1 (hw.back ht hB hS) hp)
theorem q_calld (hw : wD G L F s H locs) {post : UInt64 → (Nat → va_E) → Prop} (hr : va_Run p l e R s m args below meth c H locs cells slots mc ms (F0 m pc ls st0) rest (va_Qd post (cB G L) (wA L H.size) a9) (wA L H.size)) (hmc : mc = 0) (hms : ms = 0)
    (kk : ∀ (r : UInt64) (F' : Nat → va_E) (H1 : Heap) (locs1 : List Loc), wD G L F' s H1 locs1 → post r F' → W p l e R s m args below meth c H1 locs1 cells slots Q (F0 m (pc + 3) ls (.double r :: rest))) : W p l e R s m args below meth c H locs cells slots Q (F0 m pc ls st0) := by
  subst hmc
  subst hms
  exact va_calld hr hw.2.2 (fun q _ h => wA.mono hw.2.2.1 q h) (wA.mono hw.2.2.1) (fun r u t H1 locs1 ht _ hp hB _ _ hS => kk r u H1 locs1 (hw.back ht hB hS) hp)
theorem q_callv (hw : wD G L F s H locs) {post : (Nat → va_E) → Prop} (hr : va_Run p l e R s m args below meth c H locs cells slots mc ms (F0 m pc ls st0) rest (va_Qv post (cB G L) (wA L H.size) a9) (wA L H.size)) (hmc : mc = 0) (hms : ms = 0)
    (kk : ∀ (F' : Nat → va_E) (H1 : Heap) (locs1 : List Loc), wD G L F' s H1 locs1 → post F' → W p l e R s m args below meth c H1 locs1 cells slots Q (F0 m (pc + 3) ls rest)) : W p l e R s m args below meth c H locs cells slots Q (F0 m pc ls st0) := by
  subst hmc
  subst hms
  exact va_callv hr hw.2.2 (fun q _ h => wA.mono hw.2.2.1 q h) (wA.mono hw.2.2.1) (fun u t H1 locs1 ht _ hp hB _ _ hS => kk u H1 locs1 (hw.back ht hB hS) hp)
end BACK
end ROWS
