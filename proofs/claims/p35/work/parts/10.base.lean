/-! words of the tables that stay good over calls; the world as one function of addresses -/
def TB : List Cond := lw_tbl.filter goodWord
theorem tb_l {w : Cond} (h : w ∈ lw_tbl) (g : goodWord w = true) : w ∈ TB := List.mem_filter.mpr ⟨h, g⟩
theorem tb_t {w : Cond} (i : Nat) (h : tables_1[i]? = some w) (g : goodWord w = true) : w ∈ TB := tb_l (List.mem_append_right _ (List.mem_of_getElem? h)) g
theorem tb_s {w : Cond} (i : Nat) (h : (k2_sels lw_privs)[i]? = some w) (g : goodWord w = true) : w ∈ TB := tb_l (List.mem_append_left _ (List.mem_of_getElem? h)) g
theorem tb_good {w : Cond} (h : w ∈ TB) : goodWord w = true := (List.mem_filter.mp h).2
theorem tb_in {w : Cond} (h : w ∈ TB) : w ∈ lw_tbl := (List.mem_filter.mp h).1
theorem tb_gi {ws : List Cond} (h : ∀ w ∈ ws, w ∈ TB) : GoodIn TB ws := fun w hw => ⟨h w hw, good_of_word (tb_good (h w hw))⟩
def g_strs : List (String × Nat × String) := []
def g_ncs : List (String × String) := []
abbrev Gl : Type := va_G × (Nat → ClassId)
def g_tys (G : Gl) : List (ClassId × FieldType) := [(G.2 0, .int), (G.2 1, .boolean), (G.2 2, .object "LineFields$Shape"), (G.2 3, .object "LineFields$State"), (G.2 4, .array .int)]
def g_inv : Nat → Value := fun j => .int (([0, 1, 5004, 3336, 2502, 4003] : List Int32).getD j 0)
/-- what stays as it is over every call -/
def g_Am (G : Gl) (A : Nat → Prop) (U : State) (H : Heap) : Prop := va_K G.1 vwCl (g_tys G) U ∧ (∃ t, va_Z RX1 "INVERSES" "[I" (.ref t) A U H ∧ va_T .int t 6 g_inv A U H) ∧ vx_Zq Bundle.tN "UNASSIGNED_STACK" Bundle.steD A U H ∧ vx_Zq Bundle.tN "SUPPRESSED_SENTINEL" Bundle.listD A U H ∧ (∀ q ∈ g_strs, ∃ sa, vk_R q.1 q.2.1 q.2.2 sa U) ∧ (∀ q ∈ g_ncs, va_Nc q.1 q.2 U)
theorem g_Am.call {G : Gl} {A B : Nat → Prop} {s U : State} {H : Heap} {locs : List Loc} (h : g_Am G A s s.heap) (hS : va_S A s.heap H locs) (hAB : ∀ q, B q → A q) (hU : U.heap = H) (hW : s.WarmedH U.vm) : g_Am G B U U.heap := by
  obtain ⟨hK, ⟨t, hZ, hT⟩, h1, h2, h3, h4⟩ := h
  have k : ∀ a : Nat, a < s.heap.size → ¬ A a → U.heap[a]? = s.heap[a]? := fun a ha hn => by rw [hU]; exact hS.2.1 a ha hn
  refine ⟨va_K.moved hW.alike hK, ⟨t, ((hZ.kept k).narrow hAB).moved hW.alike, ((hT.kept k).narrow hAB).moved hW.alike⟩, ((h1.kept k).narrow hAB).moved hW.alike, ((h2.kept k).narrow hAB).moved hW.alike, fun q hq => ?_, fun q hq => (h4 q hq).moved hW.alike⟩
  obtain ⟨sa, hs⟩ := h3 q hq
  exact ⟨sa, hs.warm hW⟩
theorem g_Am.blind {G : Gl} {A : Nat → Prop} {U : State} (a : Array Value) (g : JFrame) (mk : MethodId) (h : g_Am G A U U.heap) : g_Am G A (U.calling g mk a) (U.calling g mk a).heap := by
  obtain ⟨hK, ⟨t, hZ, hT⟩, h1, h2, h3, h4⟩ := h
  have e : U.vm.Alike (U.calling g mk a).vm := Vm.Alike.refl U.vm
  refine ⟨va_K.moved e hK, ⟨t, va_Z.moved e hZ, va_T.moved e hT⟩, vx_Zq.moved e h1, vx_Zq.moved e h2, fun q hq => ?_, fun q hq => va_Nc.moved e (h4 q hq)⟩
  obtain ⟨sa, hs⟩ := h3 q hq
  exact ⟨sa, hs.same rfl⟩
/-- the addresses that may be written: those of the world, and new ones -/
def wA (L : List Nat) (sz : Nat) : Nat → Prop := fun q => q ∈ L ∨ sz ≤ q
theorem wA.mono {L : List Nat} {a b : Nat} (h : a ≤ b) (q : Nat) (hq : wA L b q) : wA L a q := hq.elim Or.inl (fun z => Or.inr (Nat.le_trans h z))
def wD (G : Gl) (L : List Nat) (F : Nat → va_E) (s : State) (H : Heap) (locs : List Loc) : Prop := va_P G.1 vwCl (va_pl L F) H ∧ va_D (wA L s.heap.size) (va_pl L F) ∧ va_S (wA L s.heap.size) s.heap H locs
/-- a contract's start -/
def cP (G : Gl) (L : List Nat) (F : Nat → va_E) (sz : Nat) (vals : List Value) : Array Value → State → Prop := va_Pc vals (fun U => U.heap.size = sz ∧ va_P G.1 vwCl (va_pl L F) U.heap ∧ va_D (fun _ => True) (va_pl L F) ∧ g_Am G (wA L sz) U U.heap)
theorem cP.blind {G : Gl} {L : List Nat} {F : Nat → va_E} {sz : Nat} {vals : List Value} : FrameBlind (cP G L F sz vals) := fun a U g mk q => by
  obtain ⟨q0, q1, q2, q3, q4⟩ := q
  exact ⟨q0, q1, q2, q3, q4.blind a g mk⟩
def cB (G : Gl) (L : List Nat) : (Nat → va_E) → State → Prop := fun F t => va_P G.1 vwCl (va_pl L F) t.heap
/-- what a walk knows of its method all along -/
def Cx (p : Program) (s : State) (m : MethodId) (args : Array Value) (c : Code) (cc : ByteArray) (nL : Nat) (own : String) (G : Gl) (L : List Nat) : Prop := p.tables.exec = Jvm.exec ∧ c.code = cc ∧ c.maxLocals = nL ∧ s.vm.findClass own = some m.cls ∧ (∀ w ∈ TB, w.before args s = true) ∧ g_Am G (wA L s.heap.size) s s.heap
def CG (l : Launch) (y : MethodName) (cc : ByteArray) (nL : Nat) (rt : Option FieldType) (rm : Room) (G : Gl) (L : List Nat) (F : Nat → va_E) (vals : List Value) (Qf : (Nat → Prop) → Array Value → State → Outcome → State → Prop) : Prop := ∀ sz, Met l y (.code y cc nL rt :: TB) rm (cP G L F sz vals) (Qf (wA L sz)) rm.cells rm.slots (wA L sz)
abbrev CI (l : Launch) (y : MethodName) (cc : ByteArray) (nL : Nat) (rt : Option FieldType) (rm : Room) (G : Gl) (L : List Nat) (F : Nat → va_E) (vals : List Value) (post : Int32 → (Nat → va_E) → Prop) : Prop := CG l y cc nL rt rm G L F vals (fun A => va_Qi post (cB G L) A)
abbrev CL (l : Launch) (y : MethodName) (cc : ByteArray) (nL : Nat) (rt : Option FieldType) (rm : Room) (G : Gl) (L : List Nat) (F : Nat → va_E) (vals : List Value) (post : Int64 → (Nat → va_E) → Prop) : Prop := CG l y cc nL rt rm G L F vals (fun A => va_Ql post (cB G L) A)
abbrev CD (l : Launch) (y : MethodName) (cc : ByteArray) (nL : Nat) (rt : Option FieldType) (rm : Room) (G : Gl) (L : List Nat) (F : Nat → va_E) (vals : List Value) (post : UInt64 → (Nat → va_E) → Prop) : Prop := CG l y cc nL rt rm G L F vals (fun A => va_Qd post (cB G L) A)
abbrev CV (l : Launch) (y : MethodName) (cc : ByteArray) (nL : Nat) (rt : Option FieldType) (rm : Room) (G : Gl) (L : List Nat) (F : Nat → va_E) (vals : List Value) (post : (Nat → va_E) → Prop) : Prop := CG l y cc nL rt rm G L F vals (fun A => va_Qv post (cB G L) A)
theorem wD.start {G : Gl} {L : List Nat} {F : Nat → va_E} {s : State} (h1 : va_P G.1 vwCl (va_pl L F) s.heap) (h2 : va_D (fun _ => True) (va_pl L F)) : wD G L F s s.heap [] := by
  refine ⟨h1, h2.weaken (fun k q hq _ => Or.inl ?_), va_S.rf⟩
  have hm := List.mem_of_getElem? hq
  obtain ⟨a, ha, rfl⟩ := List.mem_map.mp hm
  exact ha
theorem CG_of {l : Launch} {y : MethodName} {cc : ByteArray} {nL : Nat} {rt : Option FieldType} {rm : Room} {G : Gl} {L : List Nat} {F : Nat → va_E} {vals : List Value} {Qf : (Nat → Prop) → Array Value → State → Outcome → State → Prop} {lv : List (Nat × Value)}
    (hy : plainName y.cls = true) (hn : (lg_sl vals).length ≤ nL) (hv : lv_args 0 vals = lv)
    (body : ∀ (p : Program) (e : Env) (s : State) (m : MethodId) (args : Array Value) (below : List Frame) (meth : Method) (c : Code) (Q : State → Prop), Cx p s m args c cc nL y.cls G L → meth.sig.returnType = rt → meth.locks = false → meth.name = y.name → Q = MQ below (Qf (wA L s.heap.size)) args s rm.cells rm.slots (wA L s.heap.size) → wD G L F s s.heap [] → ∀ ls : Array Slot, lv_has ls nL lv →
      W p l e rm s m args below meth c s.heap [] 0 0 Q (F0 m 0 ls [])) : CG l y cc nL rt rm G L F vals Qf := by
  intro sz
  refine Met.ofW (cc := cc) (maxL := nL) (ret := rt) hy rfl ?_
  intro p e s m args below meth c s₁ B hml hq
  obtain ⟨rfl, hsz, hP, hD0, hAm⟩ := hq
  subst hsz
  have hts := atoms_spec (ws := Cond.code y cc nL rt :: TB) B.pre
  have hl := lv_entry vals (n := nL) hn
  rw [lg_entry_eq]
  rw [hv] at hl
  exact body p e s m _ below meth c _ ⟨B.exec, B.bytes, hml, findClass_of_methodNamed B.named, fun w h => hts w (List.mem_cons_of_mem _ h), hAm⟩ B.returns B.notSynchronized (name_of_methodNamed B.named B.method).1 rfl (wD.start hP hD0) _ hl
