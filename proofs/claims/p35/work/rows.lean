section
-- ===== PART A: goes FIRST, ahead of the names: the tables' words, and 'selects' of the private methods out of them =====
/-- a private method of a class that the tables say can be made, by its rows of tables_1 -/
def lw_okq (q : MethodName × Nat) : Prop := (q.1.cls ≠ "java/lang/invoke/MethodHandle" ∧ q.1.cls ≠ "java/lang/invoke/VarHandle") ∧ Cond.instantiable q.1.cls q.2 ∈ tables_1 ∧ Cond.privateMethod q.1 ∈ tables_1 ∧ Cond.instanceMethod q.1 ∈ tables_1
theorem lw_p0 : lw_okq (⟨"java/lang/Throwable", "fillInStackTrace", "(I)Ljava/lang/Throwable;"⟩, 6) := ⟨⟨by decide +kernel, by decide +kernel⟩, List.mem_of_getElem? (i := 239) (by decide +kernel), List.mem_of_getElem? (i := 237) (by decide +kernel), List.mem_of_getElem? (i := 238) (by decide +kernel)⟩
theorem lw_p1 : lw_okq (⟨"LineFields$History", "dropOldest", "()V"⟩, 2) := ⟨⟨by decide +kernel, by decide +kernel⟩, List.mem_of_getElem? (i := 74) (by decide +kernel), List.mem_of_getElem? (i := 277) (by decide +kernel), List.mem_of_getElem? (i := 278) (by decide +kernel)⟩
theorem lw_p2 : lw_okq (⟨"LineFields", "orderAlone", "(IIII)I"⟩, 8) := ⟨⟨by decide +kernel, by decide +kernel⟩, List.mem_of_getElem? (i := 17) (by decide +kernel), List.mem_of_getElem? (i := 355) (by decide +kernel), List.mem_of_getElem? (i := 356) (by decide +kernel)⟩
theorem lw_p3 : lw_okq (⟨"LineFields", "needMoney", "(I)V"⟩, 8) := ⟨⟨by decide +kernel, by decide +kernel⟩, List.mem_of_getElem? (i := 17) (by decide +kernel), List.mem_of_getElem? (i := 362) (by decide +kernel), List.mem_of_getElem? (i := 363) (by decide +kernel)⟩
theorem lw_p4 : lw_okq (⟨"LineFields", "costOf", "(I)I"⟩, 8) := ⟨⟨by decide +kernel, by decide +kernel⟩, List.mem_of_getElem? (i := 17) (by decide +kernel), List.mem_of_getElem? (i := 366) (by decide +kernel), List.mem_of_getElem? (i := 367) (by decide +kernel)⟩
theorem lw_p5 : lw_okq (⟨"LineFields", "carryOut", "(IIII)I"⟩, 8) := ⟨⟨by decide +kernel, by decide +kernel⟩, List.mem_of_getElem? (i := 17) (by decide +kernel), List.mem_of_getElem? (i := 371) (by decide +kernel), List.mem_of_getElem? (i := 372) (by decide +kernel)⟩
theorem lw_p6 : lw_okq (⟨"LineFields", "pay", "(I)V"⟩, 8) := ⟨⟨by decide +kernel, by decide +kernel⟩, List.mem_of_getElem? (i := 17) (by decide +kernel), List.mem_of_getElem? (i := 375) (by decide +kernel), List.mem_of_getElem? (i := 376) (by decide +kernel)⟩
theorem lw_p7 : lw_okq (⟨"LineFields", "put", "([I)I"⟩, 8) := ⟨⟨by decide +kernel, by decide +kernel⟩, List.mem_of_getElem? (i := 17) (by decide +kernel), List.mem_of_getElem? (i := 393) (by decide +kernel), List.mem_of_getElem? (i := 394) (by decide +kernel)⟩
theorem lw_p8 : lw_okq (⟨"LineFields", "repeat", "(III)I"⟩, 8) := ⟨⟨by decide +kernel, by decide +kernel⟩, List.mem_of_getElem? (i := 17) (by decide +kernel), List.mem_of_getElem? (i := 508) (by decide +kernel), List.mem_of_getElem? (i := 509) (by decide +kernel)⟩
def lw_privs_1 : List (MethodName × Nat) := [(⟨"java/lang/Throwable", "fillInStackTrace", "(I)Ljava/lang/Throwable;"⟩, 6), (⟨"LineFields$History", "dropOldest", "()V"⟩, 2), (⟨"LineFields", "orderAlone", "(IIII)I"⟩, 8), (⟨"LineFields", "needMoney", "(I)V"⟩, 8), (⟨"LineFields", "costOf", "(I)I"⟩, 8), (⟨"LineFields", "carryOut", "(IIII)I"⟩, 8), (⟨"LineFields", "pay", "(I)V"⟩, 8), (⟨"LineFields", "put", "([I)I"⟩, 8), (⟨"LineFields", "repeat", "(III)I"⟩, 8)]
theorem lw_r1 : ∀ q ∈ lw_privs_1, lw_okq q := List.forall_mem_cons.mpr ⟨lw_p0, List.forall_mem_cons.mpr ⟨lw_p1, List.forall_mem_cons.mpr ⟨lw_p2, List.forall_mem_cons.mpr ⟨lw_p3, List.forall_mem_cons.mpr ⟨lw_p4, List.forall_mem_cons.mpr ⟨lw_p5, List.forall_mem_cons.mpr ⟨lw_p6, List.forall_mem_cons.mpr ⟨lw_p7, List.forall_mem_cons.mpr ⟨lw_p8, fun _ h => absurd h List.not_mem_nil⟩⟩⟩⟩⟩⟩⟩⟩⟩
def lw_privs : List (MethodName × Nat) := lw_privs_1
def lw_tbl : List Cond := k2_sels lw_privs ++ tables_1
theorem lw_privs_ok : ∀ q ∈ lw_privs, lw_okq q := lw_r1
-- ===== end of PART A; then your names; then what follows =====
end
section
/-! ===== BEGIN words of one list among another's, by their places ===== -/
theorem goodIn_r {big : List Cond} (ws : List Cond) (ps : List Nat) (hp : ws = ps.filterMap (fun i => big[i]?)) (h : ws.all goodWord = true) : GoodIn big ws := by
  intro w hw
  have h1 := List.all_eq_true.mp h w hw
  rw [hp] at hw
  obtain ⟨i, -, hi⟩ := List.mem_filterMap.mp hw
  have hm : w ∈ big := by first | exact List.mem_of_getElem? hi | exact List.getElem?_mem hi
  exact ⟨hm, good_of_word h1⟩
theorem goodIn_app {big a b : List Cond} (ha : GoodIn big a) (hb : GoodIn big b) : GoodIn big (a ++ b) := fun w h => (List.mem_append.mp h).elim (ha w) (hb w)
theorem goodIn_ca {big a b : List Cond} {c : Cond} (ha : GoodIn big (c :: a)) (hb : GoodIn big b) : GoodIn big (c :: (a ++ b)) := fun w h => (List.mem_cons.mp h).elim (fun e => ha w (List.mem_cons.mpr (Or.inl e))) (fun h => (List.mem_append.mp h).elim (fun h => ha w (List.mem_cons.mpr (Or.inr h))) (hb w))
theorem goodIn_sub {big ws : List Cond} (hm : ∀ w ∈ ws, w ∈ big) (h : ws.all goodWord = true) : GoodIn big ws := fun w hw => ⟨hm w hw, good_of_word (List.all_eq_true.mp h w hw)⟩
/-! ===== END ===== -/
/-! ===== BEGIN exceptions that leave a method, and their catching by the caller (launches without stack traces) ===== -/
section VXA
/-! The laws vx_back, vx_callV, vx_callS, vx_callSW, vx_throw0, vx_throwS follow proofs of the library, with one case more: JvmDerived/Free/Laws.lean (Back.of_free), Shelf42/LK1.lean (callV, callS), Shelf/KitTraced.lean (throwNew0V, throwNewS). -/
/-- where a method has thrown q: the class by its name, the cell, what was written, the world -/
def vx_T (XC : String → State → State → Prop) (st : State) (q : Addr) (t : State) (mc ms : Nat) (free : Addr → Prop) : Prop :=
  ∃ (E : String) (ce : Cell) (L : List Loc), XC E st t ∧ t.heap[q]? = some ce ∧ ce.vm = .none ∧ st.vm.findClass E = some ce.cls ∧ st.WarmedH t.vm ∧ st.sameButNew ({ t with vm := st.vm } : State) L mc ms ∧ ∀ z ∈ L, free z.base
def vx_Q (Qc : Array Value → State → Outcome → State → Prop) (XC : String → State → State → Prop) (mc ms : Nat) (free : Addr → Prop) : Array Value → State → Outcome → State → Prop := fun a st o t =>
  (Qc a st o t ∧ ∃ L, FrameEnd st o t L mc ms ∧ ∀ q ∈ L, free q.base) ∨ ∃ q, o = .threw q ∧ vx_T XC st q t mc ms free
/-- a callee that returns or throws -/
def vx_Met (l : Launch) (y : MethodName) (ws : List Cond) (rm : Room) (Pc : Array Value → State → Prop) (Qc : Array Value → State → Outcome → State → Prop) (XC : String → State → State → Prop) (mc ms : Nat) (free : Addr → Prop) : Prop :=
  MetFree l y (headSpec ws rm) Pc (fun _ _ _ _ _ => True) (vx_Q Qc XC mc ms free)
def vx_Post (XC : String → State → State → Prop) (mc ms : Nat) (free : Addr → Prop) : Pt → Array Value → Addr → Pt → Prop := fun A a q B =>
  ∃ (g : JFrame) (mk : MethodId) (t : State) (L : List Loc) (E : String) (ce : Cell), B.U.heap = t.heap ∧ B.U.vm = t.vm ∧ XC E (A.U.calling g mk a) t ∧ t.heap[q]? = some ce ∧ ce.vm = .none ∧ A.U.vm.findClass E = some ce.cls ∧ B.locs = A.locs ++ L ∧ (∀ z ∈ L, free z.base) ∧ B.cells = A.cells + mc ∧ B.slots = A.slots + ms
def vx_Back (l : Launch) (R : Room) (p : Program) (e : Env) (below : List Frame) (s : State) (sargs : Array Value) (y : MethodName) (len W9 : Nat)
    (Pre : Pt → Array Value → Prop) (Post : Pt → Array Value → Option Value → Pt → Prop) (PostX : Pt → Array Value → Addr → Pt → Prop) : Prop :=
  ∀ (m : MethodId) (meth : Method) (c : Code) (A : Pt) (g : JFrame) (ig : Instr) (mk : MethodId) (a : Array Value),
    Stand p l e R s m sargs below meth c A.U A.locs A.cells A.slots → g.method = m → g.locals.size = c.maxLocals → decode c.code g.pc = .ok (ig, len) →
    2 * g.monitorRoom + (g.stack.map fun v => v.category).sum ≤ W9 → A.U.methodNamed? y = some mk → Pre A a →
    (∃ (v : Option Value) (B : Pt), Stand p l e R s m sargs below meth c B.U B.locs B.cells B.slots ∧ Post A a v B ∧
      Steps p.tables e below (doInvoke e (A.U.setTop g) [] mk a).1 (B.U.setTop { g with pc := g.pc + len, stack := v.toList ++ g.stack })) ∨
    (∃ (q : Addr) (B : Pt), Stand p l e R s m sargs below meth c B.U B.locs B.cells B.slots ∧ PostX A a q B ∧
      Steps p.tables e below (doInvoke e (A.U.setTop g) [] mk a).1 ((B.U.setTop g).pushFrame (.throwing q)))
section Payer
variable {l : Launch} {R : Room} {p : Program} {e : Env} {below : List Frame} {s : State} {sargs : Array Value} {y : MethodName} {len W9 : Nat}
theorem vx_back {ws : List Cond} {rm : Room} {Pc : Array Value → State → Prop} {Qc : Array Value → State → Outcome → State → Prop} {XC : String → State → State → Prop} {mc ms : Nat} {free : Addr → Prop} {bytes : ByteArray} {maxL : Nat} {ret : Option FieldType}
    (hM : vx_Met l y ws rm Pc Qc XC mc ms free) (hblind : FrameBlind Pc) (hrc : rm.cells = mc) (hrs : rm.slots = ms)
    (hframes : rm.frames + 1 ≤ R.frames) (hlocals : W9 + (maxL + 11) + rm.locals ≤ R.locals)
    (hws : ∀ w ∈ ws, ∀ a' U, s.WarmedH U.vm → w.before a' U = true) (hcode : Cond.code y bytes maxL ret ∈ ws) (hinit : ∀ a' U, s.WarmedH U.vm → (Cond.initialized y.cls).before a' U = true) :
    vx_Back l R p e below s sargs y len W9 (PreOf R mc ms Pc) (PostOf Qc mc ms free) (vx_Post XC mc ms free) := by
  intro m meth c A g ig mk a X hg hsize hdg hW hn hp
  have h1 : (headSpec ws rm).pre.before a A.U = true := atoms_intro fun w hw => hws w hw _ _ X.warmed
  have h2 : (Cond.code y bytes maxL ret).before a A.U = true := hws _ hcode _ _ X.warmed
  have h3 : (Cond.initialized y.cls).before a A.U = true := hinit _ _ X.warmed
  have h4 : A.cells + (headSpec ws rm).room.cells ≤ R.cells := by rw [show (headSpec ws rm).room.cells = mc from hrc]; exact hp.1
  have h5 : A.slots + (headSpec ws rm).room.slots ≤ R.slots := by rw [show (headSpec ws rm).room.slots = ms from hrs]; exact hp.2.1
  have hPc : Pc a (A.U.calling g mk a) := hblind _ _ _ _ hp.2.2
  obtain ⟨U, Ls, c0, s0⟩ := A
  dsimp only [Pt.U, Pt.locs, Pt.cells, Pt.slots] at h1 h2 h3 h4 h5 X hn hPc ⊢
  obtain ⟨methY, cY, hmY, hcY, -, hlY, -, -, -, -⟩ := Cond.code_spec hn h2
  obtain ⟨kY, hkY, -⟩ := className_of_methodNamed hn
  have hinitY : kY.init = .initialized := Cond.initialized_spec (findClass_of_methodNamed hn) hkY h3
  have h : At U g.method c below := by rw [hg]; exact X.here
  have hlocals9 : W9 + (maxL + 11) + (headSpec ws rm).room.locals ≤ R.locals := hlocals
  have happ : (headSpec ws rm).appliesLoose y e.platform (U.calling g mk a) = true :=
    Spec.appliesLoose_calling (g := g) h hdg hn hkY hinitY
      (X.room_calling (g := g) (R' := (headSpec ws rm).room) hsize hmY hcY hframes (by rw [hlY]; omega) h4 h5) h1
  obtain ⟨mid, hmid⟩ := h.above
  have hfr : (U.setTop g).frames = (.java g :: mid) ++ below := by rw [State.frames_setTop' g h.top, hmid]; rfl
  obtain ⟨o, s₂, hsteps, -, hend, hq⟩ := Steps.callFree hM p X.admits X.cas X.clock (acts := []) hfr happ hPc trivial
  have hq' : vx_Q Qc XC mc ms free a (U.calling g mk a) o s₂ := hq
  rw [State.frames_setTop' g h.top] at hend
  obtain ⟨g₀, hg0⟩ := Option.isSome_iff_exists.mp h.top
  obtain ⟨r, hr⟩ := State.topJava?_eq_some.mp hg0
  have hr' : (({ U with heap := s₂.heap, slotsUsed := s₂.slotsUsed } : State).setVm s₂.vm).frames = .java g₀ :: r := hr
  rcases hq' with ⟨hqc, L, hfe, hL⟩ | ⟨q, rfl, E, ce, L, hx, hce, hcv, hcl, hW₂, hsm, hL⟩
  · obtain ⟨⟨v, rfl⟩, hW₂, e2, q2, q3, q4, q5, q6⟩ := id hfe
    have e3 : s₂ = ({ (U.calling g mk a).setFrames s₂.frames with heap := s₂.heap, slotsUsed := s₂.slotsUsed } : State).setVm s₂.vm := by
      have : s₂ = ({ s₂ with vm := (U.calling g mk a).vm } : State).setVm s₂.vm := rfl
      rw [e2] at this
      exact this
    obtain ⟨c₂, i₂, len₂, hc₂, hd₂, hf₂⟩ := hend
    have hW' : U.WarmedH s₂.vm := hW₂
    have hcc : c₂ = c := by
      have h1 : s₂.code? g.method = U.code? g.method := by
        rw [State.code?_eq, State.code?_eq, hW'.alike.method?]
      exact Option.some.inj (hc₂.symm.trans (h1.trans h.code))
    subst hcc
    have hlen : len₂ = len := by rw [hdg] at hd₂; cases hd₂; rfl
    subst hlen
    have hs₂ : s₂ = (({ U with heap := s₂.heap, slotsUsed := s₂.slotsUsed } : State).setVm s₂.vm).setTop { g with pc := g.pc + len₂, stack := v.toList ++ g.stack } := by
      refine e3.trans ?_
      rw [hf₂, State.calling_eq h.top, State.setFrames_setFrames, State.setTop_of_frames _ hr', hr]
      rfl
    have hsame : U.sameButNew ({ U with heap := s₂.heap, slotsUsed := s₂.slotsUsed } : State) L mc ms := by
      refine ⟨?_, q2, q3, q4, q5, q6⟩
      obtain ⟨t, ht, -⟩ := State.frames_cons hr
      show ({ U with heap := s₂.heap, slotsUsed := s₂.slotsUsed } : State) = { U.setFrames U.frames with heap := s₂.heap, slotsUsed := s₂.slotsUsed }
      rw [State.setFrames_self ht]
    subst hg
    refine Or.inl ⟨v, ⟨(({ U with heap := s₂.heap, slotsUsed := s₂.slotsUsed } : State).setVm s₂.vm), Ls ++ L, c0 + mc, s0 + ms⟩,
      ⟨X.admits, X.cas, X.clock, X.frames, X.room, X.hears, X.method, X.code, (X.here.setHeapUsed s₂.heap s₂.slotsUsed).setVm hW'.alike, X.tail, State.WarmedH.trans X.warmed hW', X.limits, X.bytes, X.same.trans (hsame.setVm s.vm)⟩,
      ⟨g, mk, s₂, L, rfl, rfl, hqc, rfl, hL, rfl, rfl⟩, ?_⟩
    show Steps p.tables e below _ ((({ U with heap := s₂.heap, slotsUsed := s₂.slotsUsed } : State).setVm s₂.vm).setTop { g with pc := g.pc + len₂, stack := v.toList ++ g.stack })
    rw [← hs₂]
    exact hsteps
  · obtain ⟨e2, q2, q3, q4, q5, q6⟩ := id hsm
    have e3 : s₂ = ({ (U.calling g mk a).setFrames s₂.frames with heap := s₂.heap, slotsUsed := s₂.slotsUsed } : State).setVm s₂.vm := by
      have : s₂ = ({ s₂ with vm := (U.calling g mk a).vm } : State).setVm s₂.vm := rfl
      rw [e2] at this
      exact this
    have hf₂ : s₂.frames = .throwing q :: .java g :: U.frames.tail := hend
    have hW' : U.WarmedH s₂.vm := hW₂
    have hs₂ : s₂ = ((({ U with heap := s₂.heap, slotsUsed := s₂.slotsUsed } : State).setVm s₂.vm).setTop g).pushFrame (.throwing q) := by
      refine e3.trans ?_
      rw [hf₂, State.calling_eq h.top, State.setFrames_setFrames, State.pushFrame, State.frames_setTop _ hr', State.setTop_of_frames _ hr', State.setFrames_setFrames, hr]
      rfl
    have hsame : U.sameButNew ({ U with heap := s₂.heap, slotsUsed := s₂.slotsUsed } : State) L mc ms := by
      refine ⟨?_, q2, q3, q4, q5, q6⟩
      obtain ⟨t, ht, -⟩ := State.frames_cons hr
      show ({ U with heap := s₂.heap, slotsUsed := s₂.slotsUsed } : State) = { U.setFrames U.frames with heap := s₂.heap, slotsUsed := s₂.slotsUsed }
      rw [State.setFrames_self ht]
    subst hg
    refine Or.inr ⟨q, ⟨(({ U with heap := s₂.heap, slotsUsed := s₂.slotsUsed } : State).setVm s₂.vm), Ls ++ L, c0 + mc, s0 + ms⟩,
      ⟨X.admits, X.cas, X.clock, X.frames, X.room, X.hears, X.method, X.code, (X.here.setHeapUsed s₂.heap s₂.slotsUsed).setVm hW'.alike, X.tail, State.WarmedH.trans X.warmed hW', X.limits, X.bytes, X.same.trans (hsame.setVm s.vm)⟩,
      ⟨g, mk, s₂, L, E, ce, rfl, rfl, hx, hce, hcv, hcl, rfl, hL, rfl, rfl⟩, ?_⟩
    show Steps p.tables e below _ (((({ U with heap := s₂.heap, slotsUsed := s₂.slotsUsed } : State).setVm s₂.vm).setTop g).pushFrame (.throwing q))
    rw [← hs₂]
    exact hsteps
end Payer
section Calls
variable {p : Program} {l : Launch} {e : Env} {R : Room} {s : State} {m : MethodId} {args : Array Value} {below : List Frame} {meth : Method} {c : Code} {T : State} {locs : List Loc} {cells slots : Nat}
theorem vx_callV (X : Stand p l e R s m args below meth c T locs cells slots) (hexec : p.tables.exec = Jvm.exec) {own C : String} {index : Nat} {y : MethodName} {bytes : ByteArray} {maxL : Nat} {ret : Option FieldType}
    (hown : s.vm.findClass own = some m.cls) (hlink : (Cond.methodLink own index y).before args s = true) (hinst : (Cond.instanceMethod y).before args s = true) (hsel : (Cond.selects C y y).before args s = true)
    (hcode : (Cond.code y bytes maxL ret).before args s = true) (hy : y.cls ≠ "java/lang/invoke/MethodHandle" ∧ y.cls ≠ "java/lang/invoke/VarHandle")
    {W9 : Nat} {Pre : Pt → Array Value → Prop} {Post : Pt → Array Value → Option Value → Pt → Prop} {PostX : Pt → Array Value → Addr → Pt → Prop} (hK : vx_Back l R p e below s args y 3 W9 Pre Post PostX)
    {b : Addr} {cellB : Cell} (hcell : T.heap[b]? = some cellB) (hobj : cellB.vm.isStatics = false) (hcls : s.vm.findClass C = some cellB.cls)
    {g : JFrame} (hg : g.method = m) (hsize : g.locals.size = c.maxLocals) {argsL rest : List Value} (hlen : ∀ sig, parseMethodDescriptor y.desc = some sig → argsL.length = sig.parameters.length)
    (hstack : g.stack = argsL.reverse ++ .ref b :: rest) (hW : 2 * g.monitorRoom + (rest.map fun v => v.category).sum ≤ W9) (hdg : decode c.code g.pc = .ok (.invokevirtual index, 3))
    (hpre : ∀ vm₁, s.WarmedH vm₁ → Pre ⟨T.setVm vm₁, locs, cells, slots⟩ (Value.ref b :: argsL).toArray) :
    (∃ (v : Option Value) (vm₁ : Vm) (B : Pt), s.WarmedH vm₁ ∧ Stand p l e R s m args below meth c B.U B.locs B.cells B.slots ∧ Post ⟨T.setVm vm₁, locs, cells, slots⟩ (Value.ref b :: argsL).toArray v B ∧
      ∀ target, Steps p.tables e below (B.U.setTop { g with pc := g.pc + 3, stack := v.toList ++ rest }) target → Steps p.tables e below (T.setTop g) target) ∨
    (∃ (q : Addr) (vm₁ : Vm) (B : Pt), s.WarmedH vm₁ ∧ Stand p l e R s m args below meth c B.U B.locs B.cells B.slots ∧ PostX ⟨T.setVm vm₁, locs, cells, slots⟩ (Value.ref b :: argsL).toArray q B ∧
      Steps p.tables e below (T.setTop g) ((B.U.setTop { g with stack := rest }).pushFrame (.throwing q))) := by
  obtain ⟨mk, methM, hnamed, hmethM, hstM, habM⟩ := Cond.instanceMethod_spec hinst
  obtain ⟨methM', cM, hmethM', -, -, -, -, -, -, hsigM⟩ := Cond.code_spec hnamed hcode
  cases hmethM.symm.trans hmethM'
  obtain ⟨c2, r2, m2, q1, q2, q3, q4, kP, hkP, hkPi⟩ := Cond.selects_spec hsel
  cases hcls.symm.trans q1
  cases (State.methodFound?_of_named hnamed hy).symm.trans q2
  cases hnamed.symm.trans q3
  have hselP : selectMethod e.platform s.vm cellB.cls mk = .method mk := by rw [Launch.admits_selectMethod X.admits]; exact q4
  obtain ⟨vm₁, X₁, hstep₁⟩ := X.invokevirtual hexec hown hlink hnamed hmethM hstM hkP hkPi hy (a := b) (cell := cellB) hcell
    (fun z h => by rw [h] at hobj; cases hobj) hselP hmethM habM hkP hkPi (g := g) hg (argsL := argsL) (rest := rest) (hlen _ hsigM) hstack hdg
  rcases hK m meth c ⟨T.setVm vm₁, locs, cells, slots⟩ { g with stack := rest } (.invokevirtual index) mk (Value.ref b :: argsL).toArray X₁ hg hsize hdg hW (X₁.named hnamed) (hpre vm₁ X₁.warmed) with ⟨v, B, X', hpost, hsteps⟩ | ⟨q, B, X', hpost, hsteps⟩
  · exact Or.inl ⟨v, vm₁, B, X₁.warmed, X', hpost, fun target h => hstep₁ _ fun acts => by rw [doInvoke_state]; exact hsteps.trans h⟩
  · exact Or.inr ⟨q, vm₁, B, X₁.warmed, X', hpost, hstep₁ _ fun acts => by rw [doInvoke_state]; exact hsteps⟩
theorem vx_callS (X : Stand p l e R s m args below meth c T locs cells slots) (hexec : p.tables.exec = Jvm.exec) {own : String} {index : Nat} {y : MethodName} {bytes : ByteArray} {maxL : Nat} {ret : Option FieldType}
    (hown : s.vm.findClass own = some m.cls) (hlink : (Cond.methodLink own index y).before args s = true) (hstat : (Cond.static y).before args s = true) (hinit : (Cond.initialized y.cls).before args s = true)
    (hcode : (Cond.code y bytes maxL ret).before args s = true) (hy : y.cls ≠ "java/lang/invoke/MethodHandle" ∧ y.cls ≠ "java/lang/invoke/VarHandle")
    {W9 : Nat} {Pre : Pt → Array Value → Prop} {Post : Pt → Array Value → Option Value → Pt → Prop} {PostX : Pt → Array Value → Addr → Pt → Prop} (hK : vx_Back l R p e below s args y 3 W9 Pre Post PostX)
    {g : JFrame} (hg : g.method = m) (hsize : g.locals.size = c.maxLocals) {argsL rest : List Value} (hlen : ∀ sig, parseMethodDescriptor y.desc = some sig → argsL.length = sig.parameters.length)
    (hstack : g.stack = argsL.reverse ++ rest) (hW : 2 * g.monitorRoom + (rest.map fun v => v.category).sum ≤ W9) (hdg : decode c.code g.pc = .ok (.invokestatic index, 3))
    (hpre : ∀ vm₁, s.WarmedH vm₁ → Pre ⟨T.setVm vm₁, locs, cells, slots⟩ argsL.toArray) :
    (∃ (v : Option Value) (vm₁ : Vm) (B : Pt), s.WarmedH vm₁ ∧ Stand p l e R s m args below meth c B.U B.locs B.cells B.slots ∧ Post ⟨T.setVm vm₁, locs, cells, slots⟩ argsL.toArray v B ∧
      ∀ target, Steps p.tables e below (B.U.setTop { g with pc := g.pc + 3, stack := v.toList ++ rest }) target → Steps p.tables e below (T.setTop g) target) ∨
    (∃ (q : Addr) (vm₁ : Vm) (B : Pt), s.WarmedH vm₁ ∧ Stand p l e R s m args below meth c B.U B.locs B.cells B.slots ∧ PostX ⟨T.setVm vm₁, locs, cells, slots⟩ argsL.toArray q B ∧
      Steps p.tables e below (T.setTop g) ((B.U.setTop { g with stack := rest }).pushFrame (.throwing q))) := by
  obtain ⟨mk, hnamed⟩ := Cond.code_named hcode
  obtain ⟨methM, cM, hmethM, -, -, -, -, -, -, hsigM⟩ := Cond.code_spec hnamed hcode
  have hstatic : methM.isStatic = true := Cond.static_spec hnamed hmethM hstat
  obtain ⟨kP, hkP, -⟩ := className_of_methodNamed hnamed
  have hinitP : kP.init = .initialized := Cond.initialized_spec (findClass_of_methodNamed hnamed) hkP hinit
  obtain ⟨vm₁, X₁, hstep₁⟩ := X.invokestatic hexec hown hlink hnamed hmethM hstatic hkP hinitP hy (g := g) hg (argsL := argsL) (rest := rest) (hlen _ hsigM) hstack hdg
  rcases hK m meth c ⟨T.setVm vm₁, locs, cells, slots⟩ { g with stack := rest } (.invokestatic index) mk argsL.toArray X₁ hg hsize hdg hW (X₁.named hnamed) (hpre vm₁ X₁.warmed) with ⟨v, B, X', hpost, hsteps⟩ | ⟨q, B, X', hpost, hsteps⟩
  · exact Or.inl ⟨v, vm₁, B, X₁.warmed, X', hpost, fun target h => hstep₁ _ fun acts => by rw [doInvoke_state]; exact hsteps.trans h⟩
  · exact Or.inr ⟨q, vm₁, B, X₁.warmed, X', hpost, hstep₁ _ fun acts => by rw [doInvoke_state]; exact hsteps⟩
end Calls
theorem vx_cls {s : State} {T : State} {vm₁ : Vm} {E : String} {k : ClassId} (hW : s.WarmedH vm₁) (h : (T.setVm vm₁).vm.findClass E = some k) : s.vm.findClass E = some k := by
  have h1 : vm₁.findClass E = some k := h
  rw [hW.alike.findClass] at h1
  exact h1
/-- the method's frame g, with q thrown over it -/
def vx_W (p : Program) (l : Launch) (e : Env) (R : Room) (s : State) (m : MethodId) (args : Array Value) (below : List Frame) (meth : Method) (c : Code) (H : Heap) (locs : List Loc) (cells slots : Nat) (Q : State → Prop) (g : JFrame) (q : Addr) : Prop :=
  ∀ T : State, T.heap = H → Stand p l e R s m args below meth c T locs cells slots → ∃ t, Steps p.tables e below ((T.setTop g).pushFrame (.throwing q)) t ∧ Q t
def vx_Run (p : Program) (l : Launch) (e : Env) (R : Room) (s : State) (m : MethodId) (args : Array Value) (below : List Frame) (meth : Method) (c : Code) (H : Heap) (locs : List Loc) (cells slots mc ms : Nat) (g : JFrame) (rest : List Value) (Qa : State → Outcome → State → Prop) (XC : String → State → State → Prop) (free : Addr → Prop) : Prop :=
  ∀ T : State, T.heap = H → Stand p l e R s m args below meth c T locs cells slots →
    (∃ (v : Option Value) (st₀ t T' : State) (L : List Loc), st₀.heap = H ∧ Stand p l e R s m args below meth c T' (locs ++ L) (cells + mc) (slots + ms) ∧ (∀ q ∈ L, free q.base) ∧ T'.heap = t.heap ∧ T'.vm = t.vm ∧ Qa st₀ (.returned v) t ∧
      Goes p e below T g T' { g with pc := g.pc + 3, stack := v.toList ++ rest }) ∨
    (∃ (q : Addr) (st₀ t T' : State) (L : List Loc) (E : String) (ce : Cell), st₀.heap = H ∧ Stand p l e R s m args below meth c T' (locs ++ L) (cells + mc) (slots + ms) ∧ (∀ z ∈ L, free z.base) ∧ T'.heap = t.heap ∧ T'.vm = t.vm ∧ XC E st₀ t ∧ t.heap[q]? = some ce ∧ ce.vm = .none ∧ s.vm.findClass E = some ce.cls ∧
      Steps p.tables e below (T.setTop g) ((T'.setTop { g with stack := rest }).pushFrame (.throwing q)))
def vx_X {S : Type} (px : S → Prop) (B : String → S → State → Prop) (A : Nat → Prop) : String → State → State → Prop := fun E st t => ∃ u : S, px u ∧ B E u t ∧ va_F A st t
section Runs
variable {p : Program} {l : Launch} {e : Env} {R : Room} {s : State} {m : MethodId} {args : Array Value} {below : List Frame} {meth : Method} {c : Code} {H : Heap} {locs : List Loc} {cells slots : Nat}
variable {y : MethodName} {bytes cc : ByteArray} {maxL nL mc ms n index : Nat} {ret : Option FieldType} {ws : List Cond} {rm : Room} {Pc : Array Value → State → Prop} {Qc : Array Value → State → Outcome → State → Prop} {XC : String → State → State → Prop} {free : Addr → Prop} {Ts : List Cond} {own C : String} {b : Addr} {As rest : List Value} {g : JFrame}
theorem vx_callBack (cb : CallB R s args own index y bytes maxL ret ws rm mc ms n) (hM : vx_Met l y ws rm Pc Qc XC mc ms free) (hbl : FrameBlind Pc) : vx_Back l R p e below s args y 3 8 (PreOf R mc ms Pc) (PostOf Qc mc ms free) (vx_Post XC mc ms free) := by
  obtain ⟨hrc, hrs, hfr, hlo, hws, hcw, -, hini, -⟩ := cb
  exact vx_back (bytes := bytes) (maxL := maxL) (ret := ret) hM hbl hrc hrs hfr hlo hws hcw (fun a' U hW => word_at hW (Or.inl (by first | rfl | simp [Cond.onTables, Cond.keeps, Cond.steady])) hini)
theorem vx_runV (S : CallFix p m c cc nL s args Ts own) (hM : vx_Met l y ws rm Pc Qc XC mc ms free) (cw : CallW R s args own C index y bytes maxL ret ws rm mc ms n) (hp : PreV s H C b Pc As)
    (hg : g.method = m) (hn : As.length = n) (hsize : g.locals.size = nL) (hstack : g.stack = As.reverse ++ .ref b :: rest) (hW : 2 * g.monitorRoom + (rest.map fun v => v.category).sum ≤ 8) (hdg : decode cc g.pc = .ok (.invokevirtual index, 3)) (hf : cells + mc ≤ R.cells ∧ slots + ms ≤ R.slots) :
    vx_Run p l e R s m args below meth c H locs cells slots mc ms g rest (Qc (Value.ref b :: As).toArray) XC free := by
  have hK : vx_Back l R p e below s args y 3 8 (PreOf R mc ms Pc) (PostOf Qc mc ms free) (vx_Post XC mc ms free) := vx_callBack cw.1 hM hp.1
  obtain ⟨⟨-, -, -, -, -, -, hcode, -, hy, hlen, hl⟩, hin, hse⟩ := cw
  obtain ⟨hx, hb, hml, ho, -⟩ := S
  obtain ⟨-, ⟨cellB, hcB, hoB, hclB⟩, hPc⟩ := hp
  intro T hT X
  rcases vx_callV X hx (C := C) (bytes := bytes) (maxL := maxL) (ret := ret) ho hl hin hse hcode hy hK (by rw [hT]; exact hcB) hoB hclB hg (hsize.trans hml.symm) (argsL := As) (rest := rest) (fun sig h => hn.trans (hlen sig h)) hstack hW (by rw [hb]; exact hdg)
    (fun vm₁ hW₁ => ⟨hf.1, hf.2, hPc (T.setVm vm₁) hT hW₁⟩) with ⟨v, vm₁, ⟨U', l2, c2, s2⟩, hW₁, X', ⟨g', mk, t, L, e1, e2, hq, h1, hL, h2, h3⟩, st⟩ | ⟨q, vm₁, ⟨U', l2, c2, s2⟩, hW₁, X', ⟨g', mk, t, L, E, ce, e1, e2, hq, hce, hcv, hcl, h1, hL, h2, h3⟩, st⟩
  · dsimp only [Pt.U, Pt.locs, Pt.cells, Pt.slots] at X' e1 e2 h1 h2 h3 st
    subst h1; subst h2; subst h3
    exact Or.inl ⟨v, (T.setVm vm₁).calling g' mk (Value.ref b :: As).toArray, t, U', L, hT, X', hL, e1, e2, hq, st⟩
  · dsimp only [Pt.U, Pt.locs, Pt.cells, Pt.slots] at X' e1 e2 h1 h2 h3 st hcl
    subst h1; subst h2; subst h3
    exact Or.inr ⟨q, (T.setVm vm₁).calling g' mk (Value.ref b :: As).toArray, t, U', L, E, ce, hT, X', hL, e1, e2, hq, hce, hcv, vx_cls hW₁ hcl, st⟩
theorem vx_runS (S : CallFix p m c cc nL s args Ts own) (hM : vx_Met l y ws rm Pc Qc XC mc ms free) (cw : CallB R s args own index y bytes maxL ret ws rm mc ms n ∧ (Cond.static y).before args s = true) (hp : PreS s H Pc As)
    (hg : g.method = m) (hn : As.length = n) (hsize : g.locals.size = nL) (hstack : g.stack = As.reverse ++ rest) (hW : 2 * g.monitorRoom + (rest.map fun v => v.category).sum ≤ 8) (hdg : decode cc g.pc = .ok (.invokestatic index, 3)) (hf : cells + mc ≤ R.cells ∧ slots + ms ≤ R.slots) :
    vx_Run p l e R s m args below meth c H locs cells slots mc ms g rest (Qc As.toArray) XC free := by
  have hK : vx_Back l R p e below s args y 3 8 (PreOf R mc ms Pc) (PostOf Qc mc ms free) (vx_Post XC mc ms free) := vx_callBack cw.1 hM hp.1
  obtain ⟨⟨-, -, -, -, -, -, hcode, hini, hy, hlen, hl⟩, hstt⟩ := cw
  obtain ⟨hx, hb, hml, ho, -⟩ := S
  intro T hT X
  rcases vx_callS X hx (bytes := bytes) (maxL := maxL) (ret := ret) ho hl hstt hini hcode hy hK hg (hsize.trans hml.symm) (argsL := As) (rest := rest) (fun sig h => hn.trans (hlen sig h)) hstack hW (by rw [hb]; exact hdg)
    (fun vm₁ hW₁ => ⟨hf.1, hf.2, hp.2 (T.setVm vm₁) hT hW₁⟩) with ⟨v, vm₁, ⟨U', l2, c2, s2⟩, hW₁, X', ⟨g', mk, t, L, e1, e2, hq, h1, hL, h2, h3⟩, st⟩ | ⟨q, vm₁, ⟨U', l2, c2, s2⟩, hW₁, X', ⟨g', mk, t, L, E, ce, e1, e2, hq, hce, hcv, hcl, h1, hL, h2, h3⟩, st⟩
  · dsimp only [Pt.U, Pt.locs, Pt.cells, Pt.slots] at X' e1 e2 h1 h2 h3 st
    subst h1; subst h2; subst h3
    exact Or.inl ⟨v, (T.setVm vm₁).calling g' mk As.toArray, t, U', L, hT, X', hL, e1, e2, hq, st⟩
  · dsimp only [Pt.U, Pt.locs, Pt.cells, Pt.slots] at X' e1 e2 h1 h2 h3 st hcl
    subst h1; subst h2; subst h3
    exact Or.inr ⟨q, (T.setVm vm₁).calling g' mk As.toArray, t, U', L, E, ce, hT, X', hL, e1, e2, hq, hce, hcv, vx_cls hW₁ hcl, st⟩
end Runs
section Rows
variable {p : Program} {l : Launch} {e : Env} {R : Room} {s : State} {m : MethodId} {args : Array Value} {below : List Frame} {meth : Method} {c : Code} {H : Heap} {locs : List Loc} {cells slots : Nat} {Q : State → Prop}
variable {mc ms : Nat} {free : Addr → Prop} {A0 A1 : Nat → Prop} {H0 : Heap} {a : Array Value} {pc : Nat} {ls : Array Slot} {st0 rest : List Value}
theorem vx_keep {st₀ t T' : State} {L : List Loc} (h0 : st₀.heap = H) (e1 : T'.heap = t.heap) (hS : va_S A0 H0 H locs) (hA : ∀ q, q < H.size → A1 q → A0 q) (hf : ∀ q, free q → A0 q) (hL : ∀ q ∈ L, free q.base) (hF : va_F A1 st₀ t) :
    H.size ≤ T'.heap.size ∧ (∀ q : Nat, q < H.size → ¬ A1 q → T'.heap[q]? = H[q]?) ∧ va_S A0 H0 T'.heap (locs ++ L) := by
  obtain ⟨hz, hk⟩ := hF
  rw [h0] at hz hk
  exact ⟨by rw [e1]; exact hz, fun q h1 h2 => by rw [e1]; exact hk q h1 h2,
    ⟨Nat.le_trans hS.1 (by rw [e1]; exact hz), fun q h1 h2 => by rw [e1, hk q (Nat.lt_of_lt_of_le h1 hS.1) (fun z => h2 (hA q (Nat.lt_of_lt_of_le h1 hS.1) z))]; exact hS.2.1 q h1 h2, fun q hq => by
      rcases List.mem_append.mp hq with h | h
      · exact hS.2.2 q h
      · exact hf _ (hL q h)⟩⟩
theorem vx_calli {S SX : Type} {post : Int32 → S → Prop} {px : SX → Prop} {B : S → State → Prop} {BX : String → SX → State → Prop} {AX : Nat → Prop} (hr : vx_Run p l e R s m args below meth c H locs cells slots mc ms (F0 m pc ls st0) rest (va_Qi post B A1 a) (vx_X px BX AX) free) (hS : va_S A0 H0 H locs) (hA : ∀ q, q < H.size → A1 q → A0 q) (hf : ∀ q, free q → A0 q) (hAX : ∀ q, q < H.size → AX q → A0 q)
    (kx : ∀ (E : String) (ce : Cell) (q9 : Addr) (u : SX) (t : State) (H1 : Heap) (locs1 : List Loc), t.heap = H1 → s.vm.Alike t.vm → px u → BX E u t → H.size ≤ H1.size → (∀ q : Nat, q < H.size → ¬ AX q → H1[q]? = H[q]?) → va_S A0 H0 H1 locs1 → H1[q9]? = some ce → ce.vm = .none → s.vm.findClass E = some ce.cls → vx_W p l e R s m args below meth c H1 locs1 (cells + mc) (slots + ms) Q (F0 m pc ls rest) q9)
    (kk : ∀ (r : Int32) (u : S) (t : State) (H1 : Heap) (locs1 : List Loc), t.heap = H1 → s.vm.Alike t.vm → post r u → B u t → H.size ≤ H1.size → (∀ q : Nat, q < H.size → ¬ A1 q → H1[q]? = H[q]?) → va_S A0 H0 H1 locs1 → W p l e R s m args below meth c H1 locs1 (cells + mc) (slots + ms) Q (F0 m (pc + 3) ls (.int r :: rest))) : W p l e R s m args below meth c H locs cells slots Q (F0 m pc ls st0) := by
  intro T hT X
  rcases hr T hT X with ⟨v, st₀, t, T', L, h0, X', hL, e1, e2, ⟨⟨r, u, hv, hp, hb⟩, hF⟩, st⟩ | ⟨q, st₀, t, T', L, E, ce, h0, X', hL, e1, e2, ⟨u, hp, hb, hF⟩, hce, hcv, hcl, st⟩
  · cases hv
    obtain ⟨k1, k2, k3⟩ := vx_keep h0 e1 hS hA hf hL hF
    obtain ⟨t2, a1, b1⟩ := kk r u t T'.heap (locs ++ L) e1.symm (by rw [← e2]; exact X'.warmed.alike) hp hb k1 k2 k3 T' rfl X'
    exact ⟨t2, st t2 a1, b1⟩
  · obtain ⟨k1, k2, k3⟩ := vx_keep h0 e1 hS hAX hf hL hF
    obtain ⟨t2, a1, b1⟩ := kx E ce q u t T'.heap (locs ++ L) e1.symm (by rw [← e2]; exact X'.warmed.alike) hp hb k1 k2 k3 (by rw [e1]; exact hce) hcv hcl T' rfl X'
    exact ⟨t2, st.trans a1, b1⟩
theorem vx_calll {S SX : Type} {post : Int64 → S → Prop} {px : SX → Prop} {B : S → State → Prop} {BX : String → SX → State → Prop} {AX : Nat → Prop} (hr : vx_Run p l e R s m args below meth c H locs cells slots mc ms (F0 m pc ls st0) rest (va_Ql post B A1 a) (vx_X px BX AX) free) (hS : va_S A0 H0 H locs) (hA : ∀ q, q < H.size → A1 q → A0 q) (hf : ∀ q, free q → A0 q) (hAX : ∀ q, q < H.size → AX q → A0 q)
    (kx : ∀ (E : String) (ce : Cell) (q9 : Addr) (u : SX) (t : State) (H1 : Heap) (locs1 : List Loc), t.heap = H1 → s.vm.Alike t.vm → px u → BX E u t → H.size ≤ H1.size → (∀ q : Nat, q < H.size → ¬ AX q → H1[q]? = H[q]?) → va_S A0 H0 H1 locs1 → H1[q9]? = some ce → ce.vm = .none → s.vm.findClass E = some ce.cls → vx_W p l e R s m args below meth c H1 locs1 (cells + mc) (slots + ms) Q (F0 m pc ls rest) q9)
    (kk : ∀ (r : Int64) (u : S) (t : State) (H1 : Heap) (locs1 : List Loc), t.heap = H1 → s.vm.Alike t.vm → post r u → B u t → H.size ≤ H1.size → (∀ q : Nat, q < H.size → ¬ A1 q → H1[q]? = H[q]?) → va_S A0 H0 H1 locs1 → W p l e R s m args below meth c H1 locs1 (cells + mc) (slots + ms) Q (F0 m (pc + 3) ls (.long r :: rest))) : W p l e R s m args below meth c H locs cells slots Q (F0 m pc ls st0) := by
  intro T hT X
  rcases hr T hT X with ⟨v, st₀, t, T', L, h0, X', hL, e1, e2, ⟨⟨r, u, hv, hp, hb⟩, hF⟩, st⟩ | ⟨q, st₀, t, T', L, E, ce, h0, X', hL, e1, e2, ⟨u, hp, hb, hF⟩, hce, hcv, hcl, st⟩
  · cases hv
    obtain ⟨k1, k2, k3⟩ := vx_keep h0 e1 hS hA hf hL hF
    obtain ⟨t2, a1, b1⟩ := kk r u t T'.heap (locs ++ L) e1.symm (by rw [← e2]; exact X'.warmed.alike) hp hb k1 k2 k3 T' rfl X'
    exact ⟨t2, st t2 a1, b1⟩
  · obtain ⟨k1, k2, k3⟩ := vx_keep h0 e1 hS hAX hf hL hF
    obtain ⟨t2, a1, b1⟩ := kx E ce q u t T'.heap (locs ++ L) e1.symm (by rw [← e2]; exact X'.warmed.alike) hp hb k1 k2 k3 (by rw [e1]; exact hce) hcv hcl T' rfl X'
    exact ⟨t2, st.trans a1, b1⟩
theorem vx_callf {S SX : Type} {post : UInt32 → S → Prop} {px : SX → Prop} {B : S → State → Prop} {BX : String → SX → State → Prop} {AX : Nat → Prop} (hr : vx_Run p l e R s m args below meth c H locs cells slots mc ms (F0 m pc ls st0) rest (va_Qf post B A1 a) (vx_X px BX AX) free) (hS : va_S A0 H0 H locs) (hA : ∀ q, q < H.size → A1 q → A0 q) (hf : ∀ q, free q → A0 q) (hAX : ∀ q, q < H.size → AX q → A0 q)
    (kx : ∀ (E : String) (ce : Cell) (q9 : Addr) (u : SX) (t : State) (H1 : Heap) (locs1 : List Loc), t.heap = H1 → s.vm.Alike t.vm → px u → BX E u t → H.size ≤ H1.size → (∀ q : Nat, q < H.size → ¬ AX q → H1[q]? = H[q]?) → va_S A0 H0 H1 locs1 → H1[q9]? = some ce → ce.vm = .none → s.vm.findClass E = some ce.cls → vx_W p l e R s m args below meth c H1 locs1 (cells + mc) (slots + ms) Q (F0 m pc ls rest) q9)
    (kk : ∀ (r : UInt32) (u : S) (t : State) (H1 : Heap) (locs1 : List Loc), t.heap = H1 → s.vm.Alike t.vm → post r u → B u t → H.size ≤ H1.size → (∀ q : Nat, q < H.size → ¬ A1 q → H1[q]? = H[q]?) → va_S A0 H0 H1 locs1 → W p l e R s m args below meth c H1 locs1 (cells + mc) (slots + ms) Q (F0 m (pc + 3) ls (.float r :: rest))) : W p l e R s m args below meth c H locs cells slots Q (F0 m pc ls st0) := by
  intro T hT X
  rcases hr T hT X with ⟨v, st₀, t, T', L, h0, X', hL, e1, e2, ⟨⟨r, u, hv, hp, hb⟩, hF⟩, st⟩ | ⟨q, st₀, t, T', L, E, ce, h0, X', hL, e1, e2, ⟨u, hp, hb, hF⟩, hce, hcv, hcl, st⟩
  · cases hv
    obtain ⟨k1, k2, k3⟩ := vx_keep h0 e1 hS hA hf hL hF
    obtain ⟨t2, a1, b1⟩ := kk r u t T'.heap (locs ++ L) e1.symm (by rw [← e2]; exact X'.warmed.alike) hp hb k1 k2 k3 T' rfl X'
    exact ⟨t2, st t2 a1, b1⟩
  · obtain ⟨k1, k2, k3⟩ := vx_keep h0 e1 hS hAX hf hL hF
    obtain ⟨t2, a1, b1⟩ := kx E ce q u t T'.heap (locs ++ L) e1.symm (by rw [← e2]; exact X'.warmed.alike) hp hb k1 k2 k3 (by rw [e1]; exact hce) hcv hcl T' rfl X'
    exact ⟨t2, st.trans a1, b1⟩
theorem vx_calld {S SX : Type} {post : UInt64 → S → Prop} {px : SX → Prop} {B : S → State → Prop} {BX : String → SX → State → Prop} {AX : Nat → Prop} (hr : vx_Run p l e R s m args below meth c H locs cells slots mc ms (F0 m pc ls st0) rest (va_Qd post B A1 a) (vx_X px BX AX) free) (hS : va_S A0 H0 H locs) (hA : ∀ q, q < H.size → A1 q → A0 q) (hf : ∀ q, free q → A0 q) (hAX : ∀ q, q < H.size → AX q → A0 q)
    (kx : ∀ (E : String) (ce : Cell) (q9 : Addr) (u : SX) (t : State) (H1 : Heap) (locs1 : List Loc), t.heap = H1 → s.vm.Alike t.vm → px u → BX E u t → H.size ≤ H1.size → (∀ q : Nat, q < H.size → ¬ AX q → H1[q]? = H[q]?) → va_S A0 H0 H1 locs1 → H1[q9]? = some ce → ce.vm = .none → s.vm.findClass E = some ce.cls → vx_W p l e R s m args below meth c H1 locs1 (cells + mc) (slots + ms) Q (F0 m pc ls rest) q9)
    (kk : ∀ (r : UInt64) (u : S) (t : State) (H1 : Heap) (locs1 : List Loc), t.heap = H1 → s.vm.Alike t.vm → post r u → B u t → H.size ≤ H1.size → (∀ q : Nat, q < H.size → ¬ A1 q → H1[q]? = H[q]?) → va_S A0 H0 H1 locs1 → W p l e R s m args below meth c H1 locs1 (cells + mc) (slots + ms) Q (F0 m (pc + 3) ls (.double r :: rest))) : W p l e R s m args below meth c H locs cells slots Q (F0 m pc ls st0) := by
  intro T hT X
  rcases hr T hT X with ⟨v, st₀, t, T', L, h0, X', hL, e1, e2, ⟨⟨r, u, hv, hp, hb⟩, hF⟩, st⟩ | ⟨q, st₀, t, T', L, E, ce, h0, X', hL, e1, e2, ⟨u, hp, hb, hF⟩, hce, hcv, hcl, st⟩
  · cases hv
    obtain ⟨k1, k2, k3⟩ := vx_keep h0 e1 hS hA hf hL hF
    obtain ⟨t2, a1, b1⟩ := kk r u t T'.heap (locs ++ L) e1.symm (by rw [← e2]; exact X'.warmed.alike) hp hb k1 k2 k3 T' rfl X'
    exact ⟨t2, st t2 a1, b1⟩
  · obtain ⟨k1, k2, k3⟩ := vx_keep h0 e1 hS hAX hf hL hF
    obtain ⟨t2, a1, b1⟩ := kx E ce q u t T'.heap (locs ++ L) e1.symm (by rw [← e2]; exact X'.warmed.alike) hp hb k1 k2 k3 (by rw [e1]; exact hce) hcv hcl T' rfl X'
    exact ⟨t2, st.trans a1, b1⟩
theorem vx_callv {S SX : Type} {post : S → Prop} {px : SX → Prop} {B : S → State → Prop} {BX : String → SX → State → Prop} {AX : Nat → Prop} (hr : vx_Run p l e R s m args below meth c H locs cells slots mc ms (F0 m pc ls st0) rest (va_Qv post B A1 a) (vx_X px BX AX) free) (hS : va_S A0 H0 H locs) (hA : ∀ q, q < H.size → A1 q → A0 q) (hf : ∀ q, free q → A0 q) (hAX : ∀ q, q < H.size → AX q → A0 q)
    (kx : ∀ (E : String) (ce : Cell) (q9 : Addr) (u : SX) (t : State) (H1 : Heap) (locs1 : List Loc), t.heap = H1 → s.vm.Alike t.vm → px u → BX E u t → H.size ≤ H1.size → (∀ q : Nat, q < H.size → ¬ AX q → H1[q]? = H[q]?) → va_S A0 H0 H1 locs1 → H1[q9]? = some ce → ce.vm = .none → s.vm.findClass E = some ce.cls → vx_W p l e R s m args below meth c H1 locs1 (cells + mc) (slots + ms) Q (F0 m pc ls rest) q9)
    (kk : ∀ (u : S) (t : State) (H1 : Heap) (locs1 : List Loc), t.heap = H1 → s.vm.Alike t.vm → post u → B u t → H.size ≤ H1.size → (∀ q : Nat, q < H.size → ¬ A1 q → H1[q]? = H[q]?) → va_S A0 H0 H1 locs1 → W p l e R s m args below meth c H1 locs1 (cells + mc) (slots + ms) Q (F0 m (pc + 3) ls (rest))) : W p l e R s m args below meth c H locs cells slots Q (F0 m pc ls st0) := by
  intro T hT X
  rcases hr T hT X with ⟨v, st₀, t, T', L, h0, X', hL, e1, e2, ⟨⟨u, hv, hp, hb⟩, hF⟩, st⟩ | ⟨q, st₀, t, T', L, E, ce, h0, X', hL, e1, e2, ⟨u, hp, hb, hF⟩, hce, hcv, hcl, st⟩
  · cases hv
    obtain ⟨k1, k2, k3⟩ := vx_keep h0 e1 hS hA hf hL hF
    obtain ⟨t2, a1, b1⟩ := kk u t T'.heap (locs ++ L) e1.symm (by rw [← e2]; exact X'.warmed.alike) hp hb k1 k2 k3 T' rfl X'
    exact ⟨t2, st t2 a1, b1⟩
  · obtain ⟨k1, k2, k3⟩ := vx_keep h0 e1 hS hAX hf hL hF
    obtain ⟨t2, a1, b1⟩ := kx E ce q u t T'.heap (locs ++ L) e1.symm (by rw [← e2]; exact X'.warmed.alike) hp hb k1 k2 k3 (by rw [e1]; exact hce) hcv hcl T' rfl X'
    exact ⟨t2, st.trans a1, b1⟩
/-- caught by the row x of this method's table; the rows ahead don't take it -/
theorem vx_catch {own name : String} {E : String} {ce : Cell} {q : Addr} (hown : s.vm.findClass own = some m.cls) (pre : List ExceptionTableEntry) (x : ExceptionTableEntry) (suf : List ExceptionTableEntry) (hsplit : c.exceptionTable.toList = pre ++ x :: suf)
    (hpass : ∀ z ∈ pre, covers z pc = false ∨ (z.catchType ≠ 0 ∧ ∃ nm : String, (Cond.classLink own z.catchType nm).before args s = true ∧ va_Nc E nm s)) (hx : covers x pc = true) (h0 : x.catchType ≠ 0)
    (hlink : (Cond.classLink own x.catchType name).before args s = true) (hcast : (Cond.castable E name).before args s = true) (hcell : H[q]? = some ce) (hv : ce.vm = .none) (hcl : s.vm.findClass E = some ce.cls)
    (kk : W p l e R s m args below meth c H locs cells slots Q (F0 m x.handlerPc ls [.ref q])) : vx_W p l e R s m args below meth c H locs cells slots Q (F0 m pc ls rest) q := by
  intro T hT X
  have hpl : e.platform.magicAccessors = ({} : Platform).magicAccessors := by rw [X.admits.platform]
  obtain ⟨c3, c4, hc3, hc4, hasg⟩ := Cond.castable_spec hcast
  cases Option.some.inj (hc3.symm.trans hcl)
  obtain ⟨c5, hc5, hcl5⟩ := Cond.classLink_spec hown hlink e.platform hpl
  cases Option.some.inj (hc4.symm.trans hc5)
  obtain ⟨vm', X', st⟩ := X.thenCaughtThrough q (g := F0 m pc ls rest) rfl (Steps.refl _) (by rw [hT]; exact hcell) (by rw [hv]; rfl) (by obtain ⟨k9, h9, -⟩ := Vm.findClass_spec hcl; exact ⟨k9, h9⟩) pre x suf hsplit
    (fun z hz => by
      rcases hpass z hz with h | ⟨hz0, nm, hl1, hn1⟩
      · exact Or.inl h
      · obtain ⟨c6, hc6, hcl6⟩ := Cond.classLink_spec hown hl1 e.platform hpl
        obtain ⟨a8, b8, h1, h2, h3⟩ := hn1
        cases Option.some.inj (h1.symm.trans hcl)
        cases Option.some.inj (h2.symm.trans hc6)
        exact Or.inr ⟨hz0, _, hcl6, h3⟩) hx (Or.inr ⟨h0, c4, hcl5, hasg⟩)
  obtain ⟨t, a1, b1⟩ := kk (T.setVm vm') hT X'
  exact ⟨t, st.trans a1, b1⟩
end Rows
section Ends
variable {p : Program} {l : Launch} {e : Env} {R : Room} {s : State} {m : MethodId} {args : Array Value} {below : List Frame} {meth : Method} {c : Code} {H : Heap} {locs : List Loc} {cells slots : Nat} {Q : State → Prop}
variable {mc ms : Nat} {free : Addr → Prop} {A0 A1 : Nat → Prop} {H0 : Heap} {a : Array Value} {ls : Array Slot} {st0 rest : List Value}
variable {Qc : Array Value → State → Outcome → State → Prop} {XC : String → State → State → Prop}
/-- what a body that may throw owes at its end -/
def vx_MQ (below : List Frame) (Qc : Array Value → State → Outcome → State → Prop) (XC : String → State → State → Prop) (a : Array Value) (s : State) (mc ms : Nat) (free : Addr → Prop) : State → Prop := fun t =>
  ∃ o, t.status = .running ∧ Ended t below o ∧ vx_Q Qc XC mc ms free a s o t
theorem vx_ret {g : JFrame} {mc ms : Nat} (k : W p l e R s m args below meth c H locs cells slots (MQ below Qc args s mc ms free) g) : W p l e R s m args below meth c H locs cells slots (vx_MQ below Qc XC args s mc ms free) g := by
  intro T hT X
  obtain ⟨t, a1, o, b1, b2, b3, b4⟩ := k T hT X
  exact ⟨t, a1, o, b1, b2, Or.inl ⟨b3, b4⟩⟩
/-- not caught here: it goes on to the caller -/
theorem vx_widen {g : JFrame} {q : Addr} {k n : Nat} (h1 : cells ≤ k) (h2 : slots ≤ n) (kk : vx_W p l e R s m args below meth c H locs k n Q g q) : vx_W p l e R s m args below meth c H locs cells slots Q g q := fun T hT X => kk T hT (stand_widen X h1 h2)
theorem vx_out {pc : Nat} {E : String} {ce : Cell} {q : Addr} {mc ms : Nat} (hout : ∀ x ∈ c.exceptionTable.toList, covers x pc = false) (hlocks : meth.locks = false) (hcell : H[q]? = some ce) (hv : ce.vm = .none) (hcl : s.vm.findClass E = some ce.cls)
    (hx : ∀ t : State, t.heap = H → s.vm.Alike t.vm → XC E s t) (hf : ∀ z ∈ locs, free z.base) (hc : cells ≤ mc) (hs : slots ≤ ms) :
    vx_W p l e R s m args below meth c H locs cells slots (vx_MQ below Qc XC args s mc ms free) (F0 m pc ls rest) q := by
  intro T hT X
  obtain ⟨st1, hrun, hend, hW, hsm⟩ := X.leaveThrown q (g := F0 m pc ls rest) rfl rfl rfl hout hlocks
  have hcell9 : (T.setFrames (.throwing q :: below)).heap[q]? = some ce := by
    show T.heap[q]? = some ce
    rw [hT]; exact hcell
  exact ⟨_, st1, .threw q, hrun, hend, Or.inr ⟨q, rfl, E, ce, locs, hx _ hT hW.alike, hcell9, hv, hcl, hW, hsm.mono hc hs, hf⟩⟩
theorem vx_frame {U : State} {k n : Nat} (h : s.sameButNew ({ U with vm := s.vm } : State) locs k n) : s.heap.size ≤ U.heap.size ∧ ∀ q : Nat, q < s.heap.size → (∀ z ∈ locs, z.base ≠ q) → U.heap[q]? = s.heap[q]? := by
  obtain ⟨-, h2, -, -, -, h6⟩ := h
  refine ⟨h2, fun q hq hz => ?_⟩
  obtain ⟨c9, e1, e2, e3, e4⟩ := h6 q _ (Array.getElem?_eq_getElem hq)
  have hs : c9.slots = (s.heap[q]).slots := Array.ext_getElem? fun i => e4 i fun hm => hz _ hm rfl
  have h9 : c9 = s.heap[q] := by
    rw [hs] at e2
    exact e2
  have e5 : U.heap[q]? = some c9 := e1
  rw [e5, h9, Array.getElem?_eq_getElem hq]
/-- the words of a throw but the four that speak of the heap -/
def vx_no (w : Cond) : Bool := decide (w ≠ .isRef (.static Bundle.tN "UNASSIGNED_STACK" Bundle.steD)) && decide (w ≠ .isRef (.static Bundle.tN "SUPPRESSED_SENTINEL" Bundle.listD)) && decide (w ≠ .laysStatic Bundle.tN "UNASSIGNED_STACK" Bundle.steD) && decide (w ≠ .laysStatic Bundle.tN "SUPPRESSED_SENTINEL" Bundle.listD)
def vx_at0 (own : String) (ic : Nat) (X : String) (names : List String) : List Cond := (Bundle.ownAtoms0 own ic X names).filter vx_no
def vx_atS (own : String) (ic : Nat) (X : String) (names : List String) : List Cond := (Bundle.ownAtoms own ic X names).filter vx_no
/-- a word that the tables alone decide, or a good one -/
def vx_ot (w : Cond) : Bool := w.onTables || goodWord w
theorem vx_ot_at {args a' : Array Value} {s U : State} {w : Cond} (hW : s.WarmedH U.vm) (hvm : s.vm = U.vm) (hg : vx_ot w = true) (h : w.before args s = true) : w.before a' U = true := by
  simp only [vx_ot, Bool.or_eq_true] at hg
  rcases hg with hg | hg
  · exact va_tabs hg hvm h
  · exact word_at hW (good_of_word hg) h
/-- a list's words: the good ones out of the method's own list, the others by premises of their own -/
theorem vx_hat {args : Array Value} {s : State} {L B : List Cond} (h1 : ∀ w ∈ L.filter goodWord, w.before args s = true) (h2 : ∀ w ∈ L.filter (fun w => !goodWord w), w ∈ B) (h3 : ∀ w ∈ B, w.before args s = true) : ∀ w ∈ L, w.before args s = true := by
  intro w hw
  by_cases g : goodWord w = true
  · exact h1 w (List.mem_filter.mpr ⟨hw, g⟩)
  · refine h3 w (h2 w (List.mem_filter.mpr ⟨hw, ?_⟩))
    show (!goodWord w) = true
    cases hgw : goodWord w
    · rfl
    · exact absurd hgw g
theorem vx_c {args : Array Value} {s : State} {w : Cond} {B : List Cond} (h : w.before args s = true) (t : ∀ w ∈ B, w.before args s = true) : ∀ w' ∈ w :: B, w'.before args s = true := fun w' h' => (List.mem_cons.mp h').elim (fun e => by rw [e]; exact h) (t w')
theorem vx_n {args : Array Value} {s : State} : ∀ w ∈ ([] : List Cond), w.before args s = true := fun _ h => nomatch h
theorem vx_own {args : Array Value} {s : State} {L : List Cond} (h1 : ∀ w ∈ L.filter vx_no, w.before args s = true)
    (hU : (Cond.isRef (.static Bundle.tN "UNASSIGNED_STACK" Bundle.steD)).before args s = true) (hN : (Cond.isRef (.static Bundle.tN "SUPPRESSED_SENTINEL" Bundle.listD)).before args s = true)
    (lU : (Cond.laysStatic Bundle.tN "UNASSIGNED_STACK" Bundle.steD).before args s = true) (lN : (Cond.laysStatic Bundle.tN "SUPPRESSED_SENTINEL" Bundle.listD).before args s = true) : ∀ w ∈ L, w.before args s = true := by
  intro w hw
  by_cases e1 : w = .isRef (.static Bundle.tN "UNASSIGNED_STACK" Bundle.steD)
  · rw [e1]; exact hU
  · by_cases e2 : w = .isRef (.static Bundle.tN "SUPPRESSED_SENTINEL" Bundle.listD)
    · rw [e2]; exact hN
    · by_cases e3 : w = .laysStatic Bundle.tN "UNASSIGNED_STACK" Bundle.steD
      · rw [e3]; exact lU
      · by_cases e4 : w = .laysStatic Bundle.tN "SUPPRESSED_SENTINEL" Bundle.listD
        · rw [e4]; exact lN
        · exact h1 w (List.mem_filter.mpr ⟨hw, by unfold vx_no; rw [decide_eq_true e1, decide_eq_true e2, decide_eq_true e3, decide_eq_true e4]; rfl⟩)
/-- where a static field lies, its class's statics cell in H -/
def vx_L (C n d : String) (A : Nat → Prop) (U : State) (H : Heap) : Prop := ∃ (c : ClassId) (k : Class) (i : Nat) (f : Field) (a : Nat) (cell : Cell), U.vm.findClass C = some c ∧ U.fieldFound? C n d = some (c, k, i, f) ∧ f.isStatic = true ∧ k.statics = some a ∧ H[a]? = some cell ∧ cell.vm.isStatics = true ∧ cell.cls = c ∧ f.slot < cell.slots.size ∧ k.staticTypes[f.slot]? = some f.type ∧ ¬ A a
theorem vx_L.moved {C n d : String} {A : Nat → Prop} {u U : State} {H : Heap} (hvm : u.vm.Alike U.vm) (h : vx_L C n d A u H) : vx_L C n d A U H := by
  obtain ⟨c, k, i, f, a, cell, h1, h2, h3, h4, h5, h6, h7, h8, h9, h10⟩ := h
  obtain ⟨k', hi', he⟩ := State.fieldFound?_setVm hvm h2
  exact ⟨c, k', i, f, a, cell, by rw [hvm.findClass]; exact h1, hi', h3, by rw [he]; exact h4, h5, h6, h7, h8, by rw [he]; exact h9, h10⟩
theorem vx_L.kept {C n d : String} {A : Nat → Prop} {U : State} {H H1 : Heap} (h : vx_L C n d A U H) (hq : ∀ a : Nat, a < H.size → ¬ A a → H1[a]? = H[a]?) : vx_L C n d A U H1 := by
  obtain ⟨c, k, i, f, a, cell, h1, h2, h3, h4, h5, h6, h7, h8, h9, h10⟩ := h
  exact ⟨c, k, i, f, a, cell, h1, h2, h3, h4, by rw [hq a (Array.getElem?_eq_some_iff.mp h5).1 h10]; exact h5, h6, h7, h8, h9, h10⟩
theorem vx_L.narrow {C n d : String} {A B : Nat → Prop} {U : State} {H : Heap} (h : vx_L C n d A U H) (hAB : ∀ q, B q → A q) : vx_L C n d B U H := by
  obtain ⟨c, k, i, f, a, cell, h1, h2, h3, h4, h5, h6, h7, h8, h9, h10⟩ := h
  exact ⟨c, k, i, f, a, cell, h1, h2, h3, h4, h5, h6, h7, h8, h9, fun z => h10 (hAB _ z)⟩
theorem vx_L.word {C n d : String} {A : Nat → Prop} {s : State} {args : Array Value} (h : vx_L C n d A s s.heap) : (Cond.laysStatic C n d).before args s = true := by
  obtain ⟨c, k, i, f, a, cell, h1, h2, h3, h4, h5, h6, h7, h8, h9, -⟩ := h
  show (Cond.laysStatic C n d).holds args s none s [] = true
  exact Cond.laysStatic_of h1 h2 h3 h4 h5 h6 h7 h8 h9
/-- .. and what it holds: null or some reference -/
def vx_Zq (C n d : String) (A : Nat → Prop) (U : State) (H : Heap) : Prop := va_Zq C n d A U H ∧ vx_L C n d A U H
theorem vx_Zq.moved {C n d : String} {A : Nat → Prop} {u U : State} {H : Heap} (hvm : u.vm.Alike U.vm) (h : vx_Zq C n d A u H) : vx_Zq C n d A U H := ⟨va_Zq.moved hvm h.1, vx_L.moved hvm h.2⟩
theorem vx_Zq.kept {C n d : String} {A : Nat → Prop} {U : State} {H H1 : Heap} (h : vx_Zq C n d A U H) (hq : ∀ a : Nat, a < H.size → ¬ A a → H1[a]? = H[a]?) : vx_Zq C n d A U H1 := ⟨va_Zq.kept h.1 hq, vx_L.kept h.2 hq⟩
theorem vx_Zq.narrow {C n d : String} {A B : Nat → Prop} {U : State} {H : Heap} (h : vx_Zq C n d A U H) (hAB : ∀ q, B q → A q) : vx_Zq C n d B U H := ⟨va_Zq.narrow h.1 hAB, vx_L.narrow h.2 hAB⟩
theorem vx_Zqof {args : Array Value} {s : State} {C n d : String} {A : Nat → Prop} (hl : (Cond.laysStatic C n d).before args s = true) (hini : (Cond.initialized C).before args s = true) (h : (Cond.isRef (.static C n d)).before args s = true) (hA : ∀ a : Nat, a < s.heap.size → ¬ A a) : vx_Zq C n d A s s.heap := by
  refine ⟨va_Zqof hl hini h hA, ?_⟩
  obtain ⟨c, k, i, f, a, cell, h1, h2, h3, h4, h5, h6, h7, h8, h9⟩ := Cond.laysStatic_spec hl
  exact ⟨c, k, i, f, a, cell, h1, h2, h3, h4, h5, h6, h7, h8, h9, hA a (Array.getElem?_eq_some_iff.mp h5).1⟩
theorem vx_isRef {C n d : String} {v : Value} {A : Nat → Prop} {s : State} {args : Array Value} (h : va_Z C n d v A s s.heap) (hv : v.isRef = true) : (Cond.isRef (.static C n d)).before args s = true := by
  obtain ⟨cf, kf, fi, f, a, cell, h1, h2, h3, h4, h5, h6, h7, -⟩ := h
  have he : (Term.static C n d).eval args s none [] s = some v := by
    simp [Term.eval, State.fieldNamed?, h1, h2, h4, h5, h6, h7]
  simp only [Cond.before, Cond.holds, Cond.value, he]
  cases v <;> simp_all [Value.isRef]
theorem vx_isRefq {C n d : String} {A : Nat → Prop} {s : State} {args : Array Value} (h : va_Zq C n d A s s.heap) : (Cond.isRef (.static C n d)).before args s = true := by
  rcases h with h | ⟨t, h⟩
  · exact vx_isRef h rfl
  · exact vx_isRef h rfl
/-- the same frame, seen from here: as if the method were called anew in this heap -/
theorem vx_rebase {T : State} (X : Stand p l e R s m args below meth c T locs cells slots) {R' : Room} (hf : R'.frames ≤ R.frames) (hl : R'.locals ≤ R.locals) (hc : cells + R'.cells ≤ R.cells) (hs : slots + R'.slots ≤ R.slots) :
    Stand p l e R' ((T.setVm s.vm).setFrames (.invoking m args :: below)) m args below meth c T [] 0 0 := by
  have htop : (T.setVm s.vm).topJava?.isSome := X.here.top
  have hF : ((T.setVm s.vm).setFrames (.invoking m args :: below)).frames = .invoking m args :: below := State.frames_setFrames _ (State.cur_lt_of_top htop)
  obtain ⟨g₀, hg0⟩ := Option.isSome_iff_exists.mp htop
  obtain ⟨r, hr⟩ := State.topJava?_eq_some.mp hg0
  have hl9 : e.platform.stackLimits (T.setVm s.vm).me = e.platform.stackLimits s.me := X.limits
  have hb9 : (T.setVm s.vm).me.stackBytes = s.me.stackBytes := X.bytes
  refine ⟨X.admits, X.cas, X.clock, hF, ?_, X.hears, X.method, X.code, X.here, X.tail, X.warmed, ?_, ?_, ?_⟩
  · have h := X.room
    have hU : ((T.setVm s.vm).setFrames (.invoking m args :: below)).localsInUse = s.localsInUse := by
      rw [State.localsInUse_invoking hF (meth := meth) (c := c) X.method X.code, State.localsInUse_invoking X.frames X.method X.code]
    simp only [State.hasRoom, Bool.and_eq_true, decide_eq_true_eq] at h ⊢
    obtain ⟨⟨⟨⟨h1, h2, h3, h4, h5, h6⟩, h7⟩, h8⟩, h9⟩ := h
    rw [X.frames, List.length_cons] at h2 h3
    have q1 := X.heapSize
    have q2 := X.used
    simp only [hF, hU, List.length_cons, State.stackLimits_setFrames, State.stackBytes_setFrames, hl9, hb9]
    refine ⟨⟨⟨⟨by omega, by omega, by omega, by omega, by omega, h6⟩, ?_⟩, ?_⟩, X.book⟩
    · show T.heap.size + R'.cells ≤ e.platform.maxCells
      omega
    · show T.slotsUsed + R'.slots ≤ e.platform.maxSlots
      omega
  · rw [State.stackLimits_setFrames]; rfl
  · rw [State.stackBytes_setFrames]; rfl
  · refine ⟨?_, Nat.le_refl _, Nat.le_refl _, ?_, ?_, fun a c9 h9 => ⟨c9, h9, rfl, rfl, fun _ _ => rfl⟩⟩
    · obtain ⟨t, ht, -⟩ := State.frames_cons hr
      show T.setVm s.vm = { ((T.setVm s.vm).setFrames (.invoking m args :: below)).setFrames (T.setVm s.vm).frames with heap := T.heap, slotsUsed := T.slotsUsed }
      rw [State.setFrames_setFrames, State.setFrames_self ht]
      rfl
    · show T.slotsUsed = T.slotsUsed + ((T.heap.toList.drop T.heap.size).map (·.slots.size)).sum
      rw [List.drop_eq_nil_of_le (Nat.le_of_eq Array.length_toList)]
      rfl
    · show ((T.heap.toList.drop T.heap.size).map (·.slots.size)).sum ≤ 0
      rw [List.drop_eq_nil_of_le (Nat.le_of_eq Array.length_toList)]
      exact Nat.le_refl _
/-- 'throw new E()': new; dup; invokespecial; athrow -/
theorem vx_throw0 {cc : ByteArray} {pc : Nat} (hexec : p.tables.exec = Jvm.exec) (hb : c.code = cc) (hl : l.stackTraces = false) {own cls : String} {names : List String} {ik ic mc ms : Nat} {A : Nat → Prop}
    (hown : s.vm.findClass own = some m.cls) (hcls : Bundle.fit cls = true) (hnames : ∀ n ∈ names, Bundle.fit n = true)
    (hk : (Cond.classLink own ik cls).before args s = true) (hini : (Cond.initialized cls).before args s = true) (hat : ∀ w ∈ vx_at0 own ic cls names, w.before args s = true)
    (hgood : ∀ w ∈ Cond.classLink own ik cls :: Cond.initialized cls :: vx_at0 own ic cls names, vx_ot w = true)
    (hU : vx_Zq Bundle.tN "UNASSIGNED_STACK" Bundle.steD A s s.heap) (hN : vx_Zq Bundle.tN "SUPPRESSED_SENTINEL" Bundle.listD A s s.heap) (hS : va_S A s.heap H locs) (hsize : ls.size = c.maxLocals)
    (d0 : decode cc pc = .ok (.new ik, 3)) (d3 : decode cc (pc + 3) = .ok (.dup, 1)) (d4 : decode cc (pc + 4) = .ok (.invokespecial ic, 3)) (d7 : decode cc (pc + 7) = .ok (.athrow, 1))
    (hout : ∀ x ∈ c.exceptionTable.toList, covers x (pc + 7) = false)
    (hRframes : names.length + 3 < R.frames) (hRlocals : (rest.map fun v => v.category).sum + (13 * (names.length + 1) + 42) ≤ R.locals) (hRcells : cells + 1 ≤ R.cells) (hRslots : slots + 6 ≤ R.slots) (hlocks : meth.locks = false)
    (hx : ∀ t : State, s.vm.Alike t.vm → H.size ≤ t.heap.size → (∀ q : Nat, q < H.size → t.heap[q]? = H[q]?) → XC cls s t)
    (hf : ∀ z ∈ locs, free z.base) (hc : cells + 1 ≤ mc) (hs : slots + 6 ≤ ms) :
    W p l e R s m args below meth c H locs cells slots (vx_MQ below Qc XC args s mc ms free) (F0 m pc ls rest) := by
  intro T hT X
  have htr : e.platform.stackTraces = false := (show e.platform.stackTraces = l.stackTraces by rw [X.admits.platform]).trans hl
  have Y := vx_rebase X (R' := { frames := R.frames, locals := R.locals, cells := 1, slots := 6 }) (Nat.le_refl _) (Nat.le_refl _) hRcells hRslots
  obtain ⟨s', hA⟩ : ∃ z, z = (T.setVm s.vm).setFrames (.invoking m args :: below) := ⟨_, rfl⟩
  rw [← hA] at Y
  have hvm : s'.vm = s.vm := by rw [hA]; rfl
  have hhp : s'.heap = H := by rw [hA]; exact hT
  have hW0 : s.WarmedH s'.vm := by rw [hvm]; exact State.WarmedH.refl s
  have hat' : ∀ w ∈ vx_at0 own ic cls names, w.before args s' = true := fun w hw => vx_ot_at hW0 hvm.symm (hgood w (List.mem_cons_of_mem _ (List.mem_cons_of_mem _ hw))) (hat w hw)
  have hk' : (Cond.classLink own ik cls).before args s' = true := vx_ot_at hW0 hvm.symm (hgood _ List.mem_cons_self) hk
  have hini' : (Cond.initialized cls).before args s' = true := vx_ot_at hW0 hvm.symm (hgood _ (List.mem_cons_of_mem _ List.mem_cons_self)) hini
  have hU' : vx_Zq Bundle.tN "UNASSIGNED_STACK" Bundle.steD A s' s'.heap := by rw [hhp]; exact vx_Zq.moved hW0.alike (hU.kept hS.2.1)
  have hN' : vx_Zq Bundle.tN "SUPPRESSED_SENTINEL" Bundle.listD A s' s'.heap := by rw [hhp]; exact vx_Zq.moved hW0.alike (hN.kept hS.2.1)
  have h : ∀ w ∈ Bundle.ownAtoms0 own ic cls names, w.before args s' = true := vx_own hat' (vx_isRefq hU'.1) (vx_isRefq hN'.1) hU'.2.word hN'.2.word
  have hown' : s'.vm.findClass own = some m.cls := by rw [hvm]; exact hown
  have hins : (Cond.instantiable cls 6).before args s' = true := h _ (by simp [Bundle.ownAtoms0])
  obtain ⟨vm₁, cX, kX, hfX, hkX, -, -, X₁, st1⟩ := Y.newCold hexec (own := own) (C := cls) (index := ik) (n := 6) hown' hk' hins hini'
    (g := F0 m pc ls rest) rfl (by rw [hb]; exact d0) (Nat.le_refl _) (Nat.le_refl _)
  generalize hT1 : (T.setVm vm₁).pushCell { cls := cX, slots := kX.instanceTypes.map defaultValue, vm := .none } = T1 at X₁ st1
  have hcat : (Value.ref T.heap.size).category = 1 := rfl
  have hcellA : T1.heap[T.heap.size]? = some (freshCell cX kX) := by rw [← hT1]; exact State.heap_pushCell_size _ _
  have d3' : decode c.code (pc + 3) = .ok (.dup, 1) := by rw [hb]; exact d3
  obtain ⟨U, hsteps, hrun, hend, hW, hsame, ce, hce, hO⟩ := X₁.ctorThrow0 hexec htr (own := own) (cls := cls) (names := names) (ic := ic) hown' hcls hnames h (fun x hx => nomatch hx) hfX hkX hcellA (by rw [hhp, hT]; exact Nat.le_refl _)
    (g := { method := m, pc := pc + 4, locals := ls, stack := .ref T.heap.size :: .ref T.heap.size :: rest, locked := none }) rfl hsize rfl rfl (rest := rest) rfl
    (by rw [hb]; exact d4) (by rw [hb]; exact d7) hout hRframes (by simp only [List.map_cons, List.sum_cons, hcat]; omega) hlocks
  obtain ⟨f1, f2⟩ := vx_frame hsame
  rw [hhp] at f1 f2
  have hWs : s.WarmedH U.vm := State.WarmedH.trans hW0 hW
  have hcl : s.vm.findClass cls = some ce.cls := by
    have h9 := hO.cls
    rw [hvm] at h9
    exact h9
  have hall : s.sameButNew ({ U with vm := s.vm } : State) locs mc ms := by
    subst hA
    obtain ⟨e1, e2⟩ := hsame
    rw [State.setFrames_setFrames] at e1
    have h2 : (T.setVm s.vm).sameButNew ({ U with vm := s.vm } : State) [] (0 + 1) (0 + 6) := ⟨e1, e2⟩
    have h3 := X.same.trans h2
    rw [List.append_nil] at h3
    exact h3.mono hc hs
  refine ⟨U, ?_, .threw T.heap.size, hrun, hend, Or.inr ⟨T.heap.size, rfl, cls, ce, locs, hx U hWs.alike f1 (fun q hq => f2 q hq (fun z hz => nomatch hz)), hce, hO.vm, hcl, hWs, hall, hf⟩⟩
  refine st1 _ ?_
  show Steps p.tables e below (T1.setTop { method := m, pc := pc + 3, locals := ls, stack := .ref T.heap.size :: rest, locked := none }) _
  jvm_step X₁.here [X₁.here.top, hexec, d3', Value.category]
  exact hsteps
/-- 'throw new E("text")': new; dup; ldc; invokespecial; athrow -/
theorem vx_throwS {cc : ByteArray} {pc : Nat} (hexec : p.tables.exec = Jvm.exec) (hb : c.code = cc) (hl : l.stackTraces = false) {own cls text : String} {names : List String} {ik is ic mc ms sa : Nat} {A : Nat → Prop}
    (hown : s.vm.findClass own = some m.cls) (hcls : Bundle.fit cls = true) (hnames : ∀ n ∈ names, Bundle.fit n = true)
    (hk : (Cond.classLink own ik cls).before args s = true) (hini : (Cond.initialized cls).before args s = true) (hstr : vk_R own is text sa s) (hat : ∀ w ∈ vx_atS own ic cls names, w.before args s = true)
    (hgood : ∀ w ∈ Cond.classLink own ik cls :: Cond.initialized cls :: vx_atS own ic cls names, vx_ot w = true)
    (hU : vx_Zq Bundle.tN "UNASSIGNED_STACK" Bundle.steD A s s.heap) (hN : vx_Zq Bundle.tN "SUPPRESSED_SENTINEL" Bundle.listD A s s.heap) (hS : va_S A s.heap H locs) (hsize : ls.size = c.maxLocals)
    (d0 : decode cc pc = .ok (.new ik, 3)) (d3 : decode cc (pc + 3) = .ok (.dup, 1)) (d4 : decode cc (pc + 4) = .ok (.ldc is, 2)) (d6 : decode cc (pc + 6) = .ok (.invokespecial ic, 3)) (d9 : decode cc (pc + 9) = .ok (.athrow, 1))
    (hout : ∀ x ∈ c.exceptionTable.toList, covers x (pc + 9) = false)
    (hRframes : names.length + 3 < R.frames) (hRlocals : (rest.map fun v => v.category).sum + (13 * (names.length + 1) + 43) ≤ R.locals) (hRcells : cells + 1 ≤ R.cells) (hRslots : slots + 6 ≤ R.slots) (hlocks : meth.locks = false)
    (hx : ∀ t : State, s.vm.Alike t.vm → H.size ≤ t.heap.size → (∀ q : Nat, q < H.size → t.heap[q]? = H[q]?) → XC cls s t)
    (hf : ∀ z ∈ locs, free z.base) (hc : cells + 1 ≤ mc) (hs : slots + 6 ≤ ms) :
    W p l e R s m args below meth c H locs cells slots (vx_MQ below Qc XC args s mc ms free) (F0 m pc ls rest) := by
  intro T hT X
  have htr : e.platform.stackTraces = false := (show e.platform.stackTraces = l.stackTraces by rw [X.admits.platform]).trans hl
  have Y := vx_rebase X (R' := { frames := R.frames, locals := R.locals, cells := 1, slots := 6 }) (Nat.le_refl _) (Nat.le_refl _) hRcells hRslots
  obtain ⟨s', hA⟩ : ∃ z, z = (T.setVm s.vm).setFrames (.invoking m args :: below) := ⟨_, rfl⟩
  rw [← hA] at Y
  have hvm : s'.vm = s.vm := by rw [hA]; rfl
  have hhp : s'.heap = H := by rw [hA]; exact hT
  have hW0 : s.WarmedH s'.vm := by rw [hvm]; exact State.WarmedH.refl s
  have hat' : ∀ w ∈ vx_atS own ic cls names, w.before args s' = true := fun w hw => vx_ot_at hW0 hvm.symm (hgood w (List.mem_cons_of_mem _ (List.mem_cons_of_mem _ hw))) (hat w hw)
  have hk' : (Cond.classLink own ik cls).before args s' = true := vx_ot_at hW0 hvm.symm (hgood _ List.mem_cons_self) hk
  have hini' : (Cond.initialized cls).before args s' = true := vx_ot_at hW0 hvm.symm (hgood _ (List.mem_cons_of_mem _ List.mem_cons_self)) hini
  have hU' : vx_Zq Bundle.tN "UNASSIGNED_STACK" Bundle.steD A s' s'.heap := by rw [hhp]; exact vx_Zq.moved hW0.alike (hU.kept hS.2.1)
  have hN' : vx_Zq Bundle.tN "SUPPRESSED_SENTINEL" Bundle.listD A s' s'.heap := by rw [hhp]; exact vx_Zq.moved hW0.alike (hN.kept hS.2.1)
  have h : ∀ w ∈ Bundle.ownAtoms own ic cls names, w.before args s' = true := vx_own hat' (vx_isRefq hU'.1) (vx_isRefq hN'.1) hU'.2.word hN'.2.word
  have hown' : s'.vm.findClass own = some m.cls := by rw [hvm]; exact hown
  have hins : (Cond.instantiable cls 6).before args s' = true := h _ (by simp [Bundle.ownAtoms])
  obtain ⟨vm₁, cX, kX, hfX, hkX, -, -, X₁, st1⟩ := Y.newCold hexec (own := own) (C := cls) (index := ik) (n := 6) hown' hk' hins hini'
    (g := F0 m pc ls rest) rfl (by rw [hb]; exact d0) (Nat.le_refl _) (Nat.le_refl _)
  generalize hT1 : (T.setVm vm₁).pushCell { cls := cX, slots := kX.instanceTypes.map defaultValue, vm := .none } = T1 at X₁ st1
  have hcat : (Value.ref T.heap.size).category = 1 := rfl
  have hcellA : T1.heap[T.heap.size]? = some (freshCell cX kX) := by rw [← hT1]; exact State.heap_pushCell_size _ _
  have d3' : decode c.code (pc + 3) = .ok (.dup, 1) := by rw [hb]; exact d3
  have d4' : decode c.code (pc + 4) = .ok (.ldc is, 2) := by rw [hb]; exact d4
  have hstr' : vk_R own is text sa s' := vk_R.warm hW0 hstr
  obtain ⟨U, hsteps, hrun, hend, hW, hsame, ce, hce, hO⟩ := X₁.ctorThrowS hexec htr (own := own) (cls := cls) (names := names) (ic := ic) hown' hcls hnames h (fun x hx => nomatch hx) hfX hkX hcellA (by rw [hhp, hT]; exact Nat.le_refl _) (msg := .ref sa) rfl
    (g := { method := m, pc := pc + 6, locals := ls, stack := .ref sa :: .ref T.heap.size :: .ref T.heap.size :: rest, locked := none }) rfl hsize rfl rfl (rest := rest) rfl
    (by rw [hb]; exact d6) (by rw [hb]; exact d9) hout hRframes (by simp only [List.map_cons, List.sum_cons, hcat]; omega) hlocks
  obtain ⟨f1, f2⟩ := vx_frame hsame
  rw [hhp] at f1 f2
  have hWs : s.WarmedH U.vm := State.WarmedH.trans hW0 hW
  have hcl : s.vm.findClass cls = some ce.cls := by
    have h9 := hO.cls
    rw [hvm] at h9
    exact h9
  have hall : s.sameButNew ({ U with vm := s.vm } : State) locs mc ms := by
    subst hA
    obtain ⟨e1, e2⟩ := hsame
    rw [State.setFrames_setFrames] at e1
    have h2 : (T.setVm s.vm).sameButNew ({ U with vm := s.vm } : State) [] (0 + 1) (0 + 6) := ⟨e1, e2⟩
    have h3 := X.same.trans h2
    rw [List.append_nil] at h3
    exact h3.mono hc hs
  refine ⟨U, ?_, .threw T.heap.size, hrun, hend, Or.inr ⟨T.heap.size, rfl, cls, ce, locs, hx U hWs.alike f1 (fun q hq => f2 q hq (fun z hz => nomatch hz)), hce, hO.vm, hcl, hWs, hall, hf⟩⟩
  refine st1 _ ?_
  show Steps p.tables e below (T1.setTop { method := m, pc := pc + 3, locals := ls, stack := .ref T.heap.size :: rest, locked := none }) _
  jvm_step X₁.here [X₁.here.top, hexec, d3', Value.category]
  exact X₁.ldcString hexec (own := own) (text := text) (index := is) (a := sa) hown' hstr'.1 hstr'.2
    (g := { method := m, pc := pc + 4, locals := ls, stack := .ref T.heap.size :: .ref T.heap.size :: rest, locked := none }) rfl d4' _ hsteps
/-- 'throw new E("text")', the text by a wide index -/
theorem vx_throwSW {cc : ByteArray} {pc : Nat} (hexec : p.tables.exec = Jvm.exec) (hb : c.code = cc) (hl : l.stackTraces = false) {own cls text : String} {names : List String} {ik is ic mc ms sa : Nat} {A : Nat → Prop}
    (hown : s.vm.findClass own = some m.cls) (hcls : Bundle.fit cls = true) (hnames : ∀ n ∈ names, Bundle.fit n = true)
    (hk : (Cond.classLink own ik cls).before args s = true) (hini : (Cond.initialized cls).before args s = true) (hstr : vk_R own is text sa s) (hat : ∀ w ∈ vx_atS own ic cls names, w.before args s = true)
    (hgood : ∀ w ∈ Cond.classLink own ik cls :: Cond.initialized cls :: vx_atS own ic cls names, vx_ot w = true)
    (hU : vx_Zq Bundle.tN "UNASSIGNED_STACK" Bundle.steD A s s.heap) (hN : vx_Zq Bundle.tN "SUPPRESSED_SENTINEL" Bundle.listD A s s.heap) (hS : va_S A s.heap H locs) (hsize : ls.size = c.maxLocals)
    (d0 : decode cc pc = .ok (.new ik, 3)) (d3 : decode cc (pc + 3) = .ok (.dup, 1)) (d4 : decode cc (pc + 4) = .ok (.ldc_w is, 3)) (d7 : decode cc (pc + 7) = .ok (.invokespecial ic, 3)) (d10 : decode cc (pc + 10) = .ok (.athrow, 1))
    (hout : ∀ x ∈ c.exceptionTable.toList, covers x (pc + 10) = false)
    (hRframes : names.length + 3 < R.frames) (hRlocals : (rest.map fun v => v.category).sum + (13 * (names.length + 1) + 43) ≤ R.locals) (hRcells : cells + 1 ≤ R.cells) (hRslots : slots + 6 ≤ R.slots) (hlocks : meth.locks = false)
    (hx : ∀ t : State, s.vm.Alike t.vm → H.size ≤ t.heap.size → (∀ q : Nat, q < H.size → t.heap[q]? = H[q]?) → XC cls s t)
    (hf : ∀ z ∈ locs, free z.base) (hc : cells + 1 ≤ mc) (hs : slots + 6 ≤ ms) :
    W p l e R s m args below meth c H locs cells slots (vx_MQ below Qc XC args s mc ms free) (F0 m pc ls rest) := by
  intro T hT X
  have htr : e.platform.stackTraces = false := (show e.platform.stackTraces = l.stackTraces by rw [X.admits.platform]).trans hl
  have Y := vx_rebase X (R' := { frames := R.frames, locals := R.locals, cells := 1, slots := 6 }) (Nat.le_refl _) (Nat.le_refl _) hRcells hRslots
  obtain ⟨s', hA⟩ : ∃ z, z = (T.setVm s.vm).setFrames (.invoking m args :: below) := ⟨_, rfl⟩
  rw [← hA] at Y
  have hvm : s'.vm = s.vm := by rw [hA]; rfl
  have hhp : s'.heap = H := by rw [hA]; exact hT
  have hW0 : s.WarmedH s'.vm := by rw [hvm]; exact State.WarmedH.refl s
  have hat' : ∀ w ∈ vx_atS own ic cls names, w.before args s' = true := fun w hw => vx_ot_at hW0 hvm.symm (hgood w (List.mem_cons_of_mem _ (List.mem_cons_of_mem _ hw))) (hat w hw)
  have hk' : (Cond.classLink own ik cls).before args s' = true := vx_ot_at hW0 hvm.symm (hgood _ List.mem_cons_self) hk
  have hini' : (Cond.initialized cls).before args s' = true := vx_ot_at hW0 hvm.symm (hgood _ (List.mem_cons_of_mem _ List.mem_cons_self)) hini
  have hU' : vx_Zq Bundle.tN "UNASSIGNED_STACK" Bundle.steD A s' s'.heap := by rw [hhp]; exact vx_Zq.moved hW0.alike (hU.kept hS.2.1)
  have hN' : vx_Zq Bundle.tN "SUPPRESSED_SENTINEL" Bundle.listD A s' s'.heap := by rw [hhp]; exact vx_Zq.moved hW0.alike (hN.kept hS.2.1)
  have h : ∀ w ∈ Bundle.ownAtoms own ic cls names, w.before args s' = true := vx_own hat' (vx_isRefq hU'.1) (vx_isRefq hN'.1) hU'.2.word hN'.2.word
  have hown' : s'.vm.findClass own = some m.cls := by rw [hvm]; exact hown
  have hins : (Cond.instantiable cls 6).before args s' = true := h _ (by simp [Bundle.ownAtoms])
  obtain ⟨vm₁, cX, kX, hfX, hkX, -, -, X₁, st1⟩ := Y.newCold hexec (own := own) (C := cls) (index := ik) (n := 6) hown' hk' hins hini'
    (g := F0 m pc ls rest) rfl (by rw [hb]; exact d0) (Nat.le_refl _) (Nat.le_refl _)
  generalize hT1 : (T.setVm vm₁).pushCell { cls := cX, slots := kX.instanceTypes.map defaultValue, vm := .none } = T1 at X₁ st1
  have hcat : (Value.ref T.heap.size).category = 1 := rfl
  have hcellA : T1.heap[T.heap.size]? = some (freshCell cX kX) := by rw [← hT1]; exact State.heap_pushCell_size _ _
  have d3' : decode c.code (pc + 3) = .ok (.dup, 1) := by rw [hb]; exact d3
  have d4' : decode c.code (pc + 4) = .ok (.ldc_w is, 3) := by rw [hb]; exact d4
  have hstr' : vk_R own is text sa s' := vk_R.warm hW0 hstr
  obtain ⟨U, hsteps, hrun, hend, hW, hsame, ce, hce, hO⟩ := X₁.ctorThrowS hexec htr (own := own) (cls := cls) (names := names) (ic := ic) hown' hcls hnames h (fun x hx => nomatch hx) hfX hkX hcellA (by rw [hhp, hT]; exact Nat.le_refl _) (msg := .ref sa) rfl
    (g := { method := m, pc := pc + 7, locals := ls, stack := .ref sa :: .ref T.heap.size :: .ref T.heap.size :: rest, locked := none }) rfl hsize rfl rfl (rest := rest) rfl
    (by rw [hb]; exact d7) (by rw [hb]; exact d10) hout hRframes (by simp only [List.map_cons, List.sum_cons, hcat]; omega) hlocks
  obtain ⟨f1, f2⟩ := vx_frame hsame
  rw [hhp] at f1 f2
  have hWs : s.WarmedH U.vm := State.WarmedH.trans hW0 hW
  have hcl : s.vm.findClass cls = some ce.cls := by
    have h9 := hO.cls
    rw [hvm] at h9
    exact h9
  have hall : s.sameButNew ({ U with vm := s.vm } : State) locs mc ms := by
    subst hA
    obtain ⟨e1, e2⟩ := hsame
    rw [State.setFrames_setFrames] at e1
    have h2 : (T.setVm s.vm).sameButNew ({ U with vm := s.vm } : State) [] (0 + 1) (0 + 6) := ⟨e1, e2⟩
    have h3 := X.same.trans h2
    rw [List.append_nil] at h3
    exact h3.mono hc hs
  refine ⟨U, ?_, .threw T.heap.size, hrun, hend, Or.inr ⟨T.heap.size, rfl, cls, ce, locs, hx U hWs.alike f1 (fun q hq => f2 q hq (fun z hz => nomatch hz)), hce, hO.vm, hcl, hWs, hall, hf⟩⟩
  refine st1 _ ?_
  show Steps p.tables e below (T1.setTop { method := m, pc := pc + 3, locals := ls, stack := .ref T.heap.size :: rest, locked := none }) _
  jvm_step X₁.here [X₁.here.top, hexec, d3', Value.category]
  exact X₁.ldcStringW hexec (own := own) (text := text) (index := is) (a := sa) hown' hstr'.1 hstr'.2
    (g := { method := m, pc := pc + 4, locals := ls, stack := .ref T.heap.size :: .ref T.heap.size :: rest, locked := none }) rfl d4' _ hsteps
end Ends
section Bodies
variable {l : Launch}
theorem vx_ofW {y : MethodName} {ws ws' : List Cond} {rm : Room} {Pc : Array Value → State → Prop} {Qc : Array Value → State → Outcome → State → Prop} {XC : String → State → State → Prop} {mc ms : Nat} {free : Addr → Prop} {cc : ByteArray} {maxL : Nat} {ret : Option FieldType}
    (hy : plainName y.cls = true) (hw : ws = Cond.code y cc maxL ret :: ws')
    (body : ∀ p e s m args below meth c s₁, BodyLoose p l y (headSpec ws rm) cc maxL ret e s m args below meth c s₁ → c.maxLocals = maxL → (∀ x ∈ c.exceptionTable.toList, False) → Pc args s →
      W p l e (headSpec ws rm).room s m args below meth c s.heap [] 0 0 (vx_MQ below Qc XC args s mc ms free) (entryFrame m args maxL)) : vx_Met l y ws rm Pc Qc XC mc ms free := by
  refine MetFree.of_bodyS (code := cc) (maxLocals := maxL) (ret := ret) hy ?_ ?_
  · intro args s m h hn
    obtain ⟨meth, c, h1, h2, h3, h4, h5, h6, -, -⟩ := Cond.code_spec hn (atoms_spec (ws := ws) h _ (by rw [hw]; exact List.mem_cons_self))
    exact ⟨meth, c, h1, h2, h3, h4, h5, h6⟩
  · intro p e s m args below meth c s₁ B hml hP _
    have hh0 : s₁.heap = s.heap := by rw [B.state]; rfl
    have ht : ∀ x ∈ c.exceptionTable.toList, False := by
      obtain ⟨meth9, c9, h1, h2, -, -, -, -, h7, -⟩ := Cond.code_spec B.named (atoms_spec (ws := ws) B.pre _ (by rw [hw]; exact List.mem_cons_self))
      cases Option.some.inj (h1.symm.trans B.method)
      cases Option.some.inj (h2.symm.trans (Stand.of_body B).code)
      intro x hx
      rw [Array.isEmpty_iff.mp h7] at hx
      cases hx
    obtain ⟨t, a1, o, b1, b2, b3⟩ := body p e s m args below meth c s₁ B hml ht hP s₁ hh0 (Stand.of_body B)
    exact ⟨t, o, a1, b1, b2, b3⟩
/-- the table of a body with handlers -/
theorem vx_table {p : Program} {x y : MethodName} {S : Spec} {cc bytes : ByteArray} {maxL maxL' : Nat} {ret ret' : Option FieldType} {e : Env} {s s₁ : State} {m : MethodId} {args : Array Value} {below : List Frame} {meth : Method} {c : Code} {hh : List (Nat × Nat × Nat × Nat)}
    (B : BodyLoose p l y S cc maxL ret e s m args below meth c s₁) (h : (Cond.codeWith y bytes maxL' ret' hh).before args s = true) : c.exceptionTable.toList = tableOf hh := by
  obtain ⟨m9, meth9, c9, hn9, h1, h2, -, -, h6, -⟩ := Cond.codeWith_spec h
  cases Option.some.inj (hn9.symm.trans B.named)
  cases Option.some.inj (h1.symm.trans B.method)
  cases Option.some.inj (h2.symm.trans (Stand.of_body B).code)
  rw [← h6, table_eq]
end Bodies
end VXA
/-! ===== END ===== -/
/-! ===== BEGIN a static call of a method with an exception table ===== -/
section VXS
variable {p : Program} {l : Launch} {e : Env} {R : Room} {s : State} {m : MethodId} {args : Array Value} {below : List Frame} {meth : Method} {c : Code} {T : State} {H : Heap} {locs : List Loc} {cells slots : Nat}
abbrev vx_CSW (R : Room) (s : State) (args : Array Value) (own : String) (index : Nat) (y : MethodName) (bytes : ByteArray) (maxL : Nat) (ret : Option FieldType) (hh : List (Nat × Nat × Nat × Nat)) (ws : List Cond) (rm : Room) (mc ms n : Nat) : Prop :=
  (rm.cells = mc ∧ rm.slots = ms ∧ rm.frames + 1 ≤ R.frames ∧ 8 + (maxL + 11) + rm.locals ≤ R.locals ∧ (∀ w ∈ ws, ∀ (a' : Array Value) (U : State), s.WarmedH U.vm → w.before a' U = true) ∧ Cond.codeWith y bytes maxL ret hh ∈ ws) ∧
  (Cond.codeWith y bytes maxL ret hh).before args s = true ∧ (Cond.initialized y.cls).before args s = true ∧ (y.cls ≠ "java/lang/invoke/MethodHandle" ∧ y.cls ≠ "java/lang/invoke/VarHandle") ∧
  (∀ sig, parseMethodDescriptor y.desc = some sig → n = sig.parameters.length) ∧ (Cond.methodLink own index y).before args s = true ∧ (Cond.static y).before args s = true
theorem vx_cwSW {own : String} {index maxL mc ms : Nat} {y : MethodName} {bytes : ByteArray} {ret : Option FieldType} {hh : List (Nat × Nat × Nat × Nat)} {Ts ws ws' : List Cond} {rm : Room} (n : Nat) (ht : ∀ w ∈ Ts, w.before args s = true) (hT : GoodIn Ts (va_wsS own index y ws)) (hw : ws = Cond.codeWith y bytes maxL ret hh :: ws') (hrc : rm.cells = mc) (hrs : rm.slots = ms)
    (hd : y.cls ≠ "java/lang/invoke/MethodHandle" ∧ y.cls ≠ "java/lang/invoke/VarHandle" ∧ (parseMethodDescriptor y.desc).map (fun d => d.parameters.length) = some n) (hR : rm.frames + 1 ≤ R.frames ∧ 8 + (maxL + 11) + rm.locals ≤ R.locals) :
    vx_CSW R s args own index y bytes maxL ret hh ws rm mc ms n := by
  have ok : ∀ w ∈ va_wsS own index y ws, w.before args s = true := fun w h => ht w (hT w h).1
  have hG : GoodIn Ts ws := fun w h => hT w (by unfold va_wsS; exact List.mem_append_right _ h)
  have hc : Cond.codeWith y bytes maxL ret hh ∈ ws := by rw [hw]; exact List.mem_cons_self
  refine ⟨⟨hrc, hrs, hR.1, hR.2, pay_in ht hG, hc⟩, ht _ (hG _ hc).1, ok _ (by simp [va_wsS]), ⟨hd.1, hd.2.1⟩, fun sig h => ?_, ok _ (by simp [va_wsS]), ok _ (by simp [va_wsS])⟩
  have h2 := hd.2.2
  rw [h] at h2
  exact (Option.some.inj h2).symm
theorem vx_callSW (X : Stand p l e R s m args below meth c T locs cells slots) (hexec : p.tables.exec = Jvm.exec) {own : String} {index : Nat} {y : MethodName} {bytes : ByteArray} {maxL : Nat} {ret : Option FieldType} {hh : List (Nat × Nat × Nat × Nat)}
    (hown : s.vm.findClass own = some m.cls) (hlink : (Cond.methodLink own index y).before args s = true) (hstat : (Cond.static y).before args s = true) (hinit : (Cond.initialized y.cls).before args s = true)
    (hcode : (Cond.codeWith y bytes maxL ret hh).before args s = true) (hy : y.cls ≠ "java/lang/invoke/MethodHandle" ∧ y.cls ≠ "java/lang/invoke/VarHandle")
    {W9 : Nat} {Pre : Pt → Array Value → Prop} {Post : Pt → Array Value → Option Value → Pt → Prop} (hK : Back l R p e below s args y 3 W9 Pre Post)
    {g : JFrame} (hg : g.method = m) (hsize : g.locals.size = c.maxLocals) {argsL rest : List Value} (hlen : ∀ sig, parseMethodDescriptor y.desc = some sig → argsL.length = sig.parameters.length)
    (hstack : g.stack = argsL.reverse ++ rest) (hW : 2 * g.monitorRoom + (rest.map fun v => v.category).sum ≤ W9) (hdg : decode c.code g.pc = .ok (.invokestatic index, 3))
    (hpre : ∀ vm₁, s.WarmedH vm₁ → Pre ⟨T.setVm vm₁, locs, cells, slots⟩ argsL.toArray) :
    ∃ (v : Option Value) (vm₁ : Vm) (B : Pt), s.WarmedH vm₁ ∧ Stand p l e R s m args below meth c B.U B.locs B.cells B.slots ∧ Post ⟨T.setVm vm₁, locs, cells, slots⟩ argsL.toArray v B ∧
      ∀ target, Steps p.tables e below (B.U.setTop { g with pc := g.pc + 3, stack := v.toList ++ rest }) target → Steps p.tables e below (T.setTop g) target := by
  obtain ⟨mk, methM, cM, hnamed, hmethM, -, -, -, -, -, -, hsigM⟩ := Cond.codeWith_spec hcode
  have hstatic : methM.isStatic = true := Cond.static_spec hnamed hmethM hstat
  obtain ⟨kP, hkP, -⟩ := className_of_methodNamed hnamed
  have hinitP : kP.init = .initialized := Cond.initialized_spec (findClass_of_methodNamed hnamed) hkP hinit
  obtain ⟨vm₁, X₁, hstep₁⟩ := X.invokestatic hexec hown hlink hnamed hmethM hstatic hkP hinitP hy (g := g) hg (argsL := argsL) (rest := rest) (hlen _ hsigM) hstack hdg
  obtain ⟨v, B, X', hpost, hsteps⟩ := hK m meth c ⟨T.setVm vm₁, locs, cells, slots⟩ { g with stack := rest } (.invokestatic index) mk argsL.toArray X₁ hg hsize hdg hW (X₁.named hnamed) (hpre vm₁ X₁.warmed)
  exact ⟨v, vm₁, B, X₁.warmed, X', hpost, fun target h => hstep₁ _ fun acts => by rw [doInvoke_state]; exact hsteps.trans h⟩
theorem vx_runSW {y : MethodName} {bytes cc : ByteArray} {maxL nL mc ms n index : Nat} {ret : Option FieldType} {hh : List (Nat × Nat × Nat × Nat)} {ws : List Cond} {rm : Room} {Pc : Array Value → State → Prop} {Qc : Array Value → State → Outcome → State → Prop} {free : Addr → Prop} {Ts : List Cond} {own : String} {As rest : List Value} {g : JFrame}
    (S : CallFix p m c cc nL s args Ts own) (hM : Met l y ws rm Pc Qc mc ms free) (cw : vx_CSW R s args own index y bytes maxL ret hh ws rm mc ms n) (hp : PreS s H Pc As)
    (hg : g.method = m) (hn : As.length = n) (hsize : g.locals.size = nL) (hstack : g.stack = As.reverse ++ rest) (hW : 2 * g.monitorRoom + (rest.map fun v => v.category).sum ≤ 8) (hdg : decode cc g.pc = .ok (.invokestatic index, 3)) (hf : cells + mc ≤ R.cells ∧ slots + ms ≤ R.slots) :
    va_Run p l e R s m args below meth c H locs cells slots mc ms g rest (Qc As.toArray) (free) := by
  obtain ⟨⟨hrc, hrs, hfr, hlo, hws, hcw⟩, hcode, hini, hy, hlen, hl, hstt⟩ := cw
  have hK : Back l R p e below s args y 3 8 (PreOf R mc ms Pc) (PostOf Qc mc ms free) := va_backW (hh := hh) (bytes := bytes) (maxL := maxL) (ret := ret) hM hp.1 hrc hrs hfr hlo hws hcw (fun a' U hW => word_at hW (Or.inl (by first | rfl | simp [Cond.onTables, Cond.keeps, Cond.steady])) hini)
  obtain ⟨hx, hb, hml, ho, -⟩ := S
  intro T hT X
  obtain ⟨v, vm₁, ⟨U', l2, c2, s2⟩, hW₁, X', ⟨g', mk, t, L, e1, e2, hq, h1, hL, h2, h3⟩, st⟩ := vx_callSW X hx (hh := hh) (bytes := bytes) (maxL := maxL) (ret := ret) ho hl hstt hini hcode hy hK hg (hsize.trans hml.symm) (argsL := As) (rest := rest) (fun sig h => hn.trans (hlen sig h)) hstack hW (by rw [hb]; exact hdg)
    (fun vm₁ hW₁ => ⟨hf.1, hf.2, hp.2 (T.setVm vm₁) hT hW₁⟩)
  dsimp only [Pt.U, Pt.locs, Pt.cells, Pt.slots] at X' e1 e2 h1 h2 h3 st
  subst h1; subst h2; subst h3
  exact ⟨v, (T.setVm vm₁).calling g' mk As.toArray, t, U', L, hT, X', hL, e1, e2, hq, st⟩
/-- not caught here, past rows that name other classes: it goes on to the caller -/
theorem vx_outP {p : Program} {l : Launch} {e : Env} {R : Room} {s : State} {m : MethodId} {args : Array Value} {below : List Frame} {meth : Method} {c : Code} {H : Heap} {locs : List Loc} {cells slots : Nat} {free : Addr → Prop} {ls : Array Slot} {rest : List Value} {Qc : Array Value → State → Outcome → State → Prop} {XC : String → State → State → Prop}
    {pc : Nat} {own E : String} {ce : Cell} {q : Addr} {mc ms : Nat} (hown : s.vm.findClass own = some m.cls) (hlocks : meth.locks = false)
    (hpass : ∀ z ∈ c.exceptionTable.toList, covers z pc = false ∨ (z.catchType ≠ 0 ∧ ∃ nm : String, (Cond.classLink own z.catchType nm).before args s = true ∧ va_Nc E nm s)) (hcell : H[q]? = some ce) (hv : ce.vm = .none) (hcl : s.vm.findClass E = some ce.cls)
    (hx : ∀ t : State, t.heap = H → s.vm.Alike t.vm → XC E s t) (hf : ∀ z ∈ locs, free z.base) (hc : cells ≤ mc) (hs : slots ≤ ms) :
    vx_W p l e R s m args below meth c H locs cells slots (vx_MQ below Qc XC args s mc ms free) (F0 m pc ls rest) q := by
  intro T hT X
  have hpl : e.platform.magicAccessors = ({} : Platform).magicAccessors := by rw [X.admits.platform]
  obtain ⟨vm', hW', X', st⟩ := X.outThrough hlocks q (g := F0 m pc ls rest) rfl rfl rfl (cell := ce) (by rw [hT]; exact hcell) (by rw [hv]; rfl)
    (by obtain ⟨k9, h9, -⟩ := Vm.findClass_spec hcl; exact ⟨k9, h9⟩) (fun z hz => by
      rcases hpass z hz with h | ⟨hz0, nm, hl1, hn1⟩
      · exact Or.inl h
      · obtain ⟨c6, hc6, hcl6⟩ := Cond.classLink_spec hown hl1 e.platform hpl
        obtain ⟨a8, b8, h1, h2, h3⟩ := hn1
        cases Option.some.inj (h1.symm.trans hcl)
        cases Option.some.inj (h2.symm.trans hc6)
        exact Or.inr ⟨hz0, _, hcl6, h3⟩)
  obtain ⟨g₀, hfr⟩ := X'.frames_eq
  have hcell9 : ((T.setVm vm').setFrames (.throwing q :: below)).heap[q]? = some ce := by
    show T.heap[q]? = some ce
    rw [hT]; exact hcell
  have hend : Ended ((T.setVm vm').setFrames (.throwing q :: below)) below (.threw q) := State.frames_setFrames _ (State.cur_lt_of_frames hfr)
  refine ⟨(T.setVm vm').setFrames (.throwing q :: below), ?_, .threw q, X'.here.running, hend, Or.inr ⟨q, rfl, E, ce, locs, hx _ hT (X'.ends _).1.alike, hcell9, hv, hcl, (X'.ends _).1, (X'.ends _).2.mono hc hs, hf⟩⟩
  rw [X.pushThrowing_eq]
  exact st
/-- a thing of a world lies in the heap -/
theorem vx_lt {D : va_G} {cl : List vw_C} {ws : va_W} {H1 : Heap} (h : va_P D cl ws H1) {k : Nat} {q : Nat × va_E} (hk : ws[k]? = some q) : q.1 < H1.size := (h k q hk).lt
end VXS
/-! ===== END ===== -/
/-! ===== BEGIN methods with a table of their own: called by a name, returning or throwing ===== -/
section VXH
/-! vx_backW, vx_callVX, vx_callSX, vx_callVW, vx_runVW, vx_runVX, vx_runSX, vx_ofWH follow the same proofs as their sisters above (Free/Laws.lean, Shelf42/LK1.lean); vx_outP calls Shelf42/NT130.lean (outThrough). -/
section
variable {l : Launch} {R : Room} {p : Program} {e : Env} {below : List Frame} {s : State} {sargs : Array Value} {y : MethodName} {len W9 : Nat}
theorem vx_backW {ws : List Cond} {rm : Room} {Pc : Array Value → State → Prop} {Qc : Array Value → State → Outcome → State → Prop} {XC : String → State → State → Prop} {mc ms : Nat} {free : Addr → Prop} {bytes : ByteArray} {maxL : Nat} {ret : Option FieldType} {hh : List (Nat × Nat × Nat × Nat)}
    (hM : vx_Met l y ws rm Pc Qc XC mc ms free) (hblind : FrameBlind Pc) (hrc : rm.cells = mc) (hrs : rm.slots = ms)
    (hframes : rm.frames + 1 ≤ R.frames) (hlocals : W9 + (maxL + 11) + rm.locals ≤ R.locals)
    (hws : ∀ w ∈ ws, ∀ a' U, s.WarmedH U.vm → w.before a' U = true) (hcode : Cond.codeWith y bytes maxL ret hh ∈ ws) (hinit : ∀ a' U, s.WarmedH U.vm → (Cond.initialized y.cls).before a' U = true) :
    vx_Back l R p e below s sargs y len W9 (PreOf R mc ms Pc) (PostOf Qc mc ms free) (vx_Post XC mc ms free) := by
  intro m meth c A g ig mk a X hg hsize hdg hW hn hp
  have h1 : (headSpec ws rm).pre.before a A.U = true := atoms_intro fun w hw => hws w hw _ _ X.warmed
  have h2 : (Cond.codeWith y bytes maxL ret hh).before a A.U = true := hws _ hcode _ _ X.warmed
  have h3 : (Cond.initialized y.cls).before a A.U = true := hinit _ _ X.warmed
  have h4 : A.cells + (headSpec ws rm).room.cells ≤ R.cells := by rw [show (headSpec ws rm).room.cells = mc from hrc]; exact hp.1
  have h5 : A.slots + (headSpec ws rm).room.slots ≤ R.slots := by rw [show (headSpec ws rm).room.slots = ms from hrs]; exact hp.2.1
  have hPc : Pc a (A.U.calling g mk a) := hblind _ _ _ _ hp.2.2
  obtain ⟨U, Ls, c0, s0⟩ := A
  dsimp only [Pt.U, Pt.locs, Pt.cells, Pt.slots] at h1 h2 h3 h4 h5 X hn hPc ⊢
  obtain ⟨m9, methY, cY, hn9, hmY, hcY, -, hlY, -⟩ := Cond.codeWith_spec h2
  cases Option.some.inj (hn9.symm.trans hn)
  obtain ⟨kY, hkY, -⟩ := className_of_methodNamed hn
  have hinitY : kY.init = .initialized := Cond.initialized_spec (findClass_of_methodNamed hn) hkY h3
  have h : At U g.method c below := by rw [hg]; exact X.here
  have hlocals9 : W9 + (maxL + 11) + (headSpec ws rm).room.locals ≤ R.locals := hlocals
  have happ : (headSpec ws rm).appliesLoose y e.platform (U.calling g mk a) = true :=
    Spec.appliesLoose_calling (g := g) h hdg hn hkY hinitY
      (X.room_calling (g := g) (R' := (headSpec ws rm).room) hsize hmY hcY hframes (by rw [hlY]; omega) h4 h5) h1
  obtain ⟨mid, hmid⟩ := h.above
  have hfr : (U.setTop g).frames = (.java g :: mid) ++ below := by rw [State.frames_setTop' g h.top, hmid]; rfl
  obtain ⟨o, s₂, hsteps, -, hend, hq⟩ := Steps.callFree hM p X.admits X.cas X.clock (acts := []) hfr happ hPc trivial
  have hq' : vx_Q Qc XC mc ms free a (U.calling g mk a) o s₂ := hq
  rw [State.frames_setTop' g h.top] at hend
  obtain ⟨g₀, hg0⟩ := Option.isSome_iff_exists.mp h.top
  obtain ⟨r, hr⟩ := State.topJava?_eq_some.mp hg0
  have hr' : (({ U with heap := s₂.heap, slotsUsed := s₂.slotsUsed } : State).setVm s₂.vm).frames = .java g₀ :: r := hr
  rcases hq' with ⟨hqc, L, hfe, hL⟩ | ⟨q, rfl, E, ce, L, hx, hce, hcv, hcl, hW₂, hsm, hL⟩
  · obtain ⟨⟨v, rfl⟩, hW₂, e2, q2, q3, q4, q5, q6⟩ := id hfe
    have e3 : s₂ = ({ (U.calling g mk a).setFrames s₂.frames with heap := s₂.heap, slotsUsed := s₂.slotsUsed } : State).setVm s₂.vm := by
      have : s₂ = ({ s₂ with vm := (U.calling g mk a).vm } : State).setVm s₂.vm := rfl
      rw [e2] at this
      exact this
    obtain ⟨c₂, i₂, len₂, hc₂, hd₂, hf₂⟩ := hend
    have hW' : U.WarmedH s₂.vm := hW₂
    have hcc : c₂ = c := by
      have h1 : s₂.code? g.method = U.code? g.method := by
        rw [State.code?_eq, State.code?_eq, hW'.alike.method?]
      exact Option.some.inj (hc₂.symm.trans (h1.trans h.code))
    subst hcc
    have hlen : len₂ = len := by rw [hdg] at hd₂; cases hd₂; rfl
    subst hlen
    have hs₂ : s₂ = (({ U with heap := s₂.heap, slotsUsed := s₂.slotsUsed } : State).setVm s₂.vm).setTop { g with pc := g.pc + len₂, stack := v.toList ++ g.stack } := by
      refine e3.trans ?_
      rw [hf₂, State.calling_eq h.top, State.setFrames_setFrames, State.setTop_of_frames _ hr', hr]
      rfl
    have hsame : U.sameButNew ({ U with heap := s₂.heap, slotsUsed := s₂.slotsUsed } : State) L mc ms := by
      refine ⟨?_, q2, q3, q4, q5, q6⟩
      obtain ⟨t, ht, -⟩ := State.frames_cons hr
      show ({ U with heap := s₂.heap, slotsUsed := s₂.slotsUsed } : State) = { U.setFrames U.frames with heap := s₂.heap, slotsUsed := s₂.slotsUsed }
      rw [State.setFrames_self ht]
    subst hg
    refine Or.inl ⟨v, ⟨(({ U with heap := s₂.heap, slotsUsed := s₂.slotsUsed } : State).setVm s₂.vm), Ls ++ L, c0 + mc, s0 + ms⟩,
      ⟨X.admits, X.cas, X.clock, X.frames, X.room, X.hears, X.method, X.code, (X.here.setHeapUsed s₂.heap s₂.slotsUsed).setVm hW'.alike, X.tail, State.WarmedH.trans X.warmed hW', X.limits, X.bytes, X.same.trans (hsame.setVm s.vm)⟩,
      ⟨g, mk, s₂, L, rfl, rfl, hqc, rfl, hL, rfl, rfl⟩, ?_⟩
    show Steps p.tables e below _ ((({ U with heap := s₂.heap, slotsUsed := s₂.slotsUsed } : State).setVm s₂.vm).setTop { g with pc := g.pc + len₂, stack := v.toList ++ g.stack })
    rw [← hs₂]
    exact hsteps
  · obtain ⟨e2, q2, q3, q4, q5, q6⟩ := id hsm
    have e3 : s₂ = ({ (U.calling g mk a).setFrames s₂.frames with heap := s₂.heap, slotsUsed := s₂.slotsUsed } : State).setVm s₂.vm := by
      have : s₂ = ({ s₂ with vm := (U.calling g mk a).vm } : State).setVm s₂.vm := rfl
      rw [e2] at this
      exact this
    have hf₂ : s₂.frames = .throwing q :: .java g :: U.frames.tail := hend
    have hW' : U.WarmedH s₂.vm := hW₂
    have hs₂ : s₂ = ((({ U with heap := s₂.heap, slotsUsed := s₂.slotsUsed } : State).setVm s₂.vm).setTop g).pushFrame (.throwing q) := by
      refine e3.trans ?_
      rw [hf₂, State.calling_eq h.top, State.setFrames_setFrames, State.pushFrame, State.frames_setTop _ hr', State.setTop_of_frames _ hr', State.setFrames_setFrames, hr]
      rfl
    have hsame : U.sameButNew ({ U with heap := s₂.heap, slotsUsed := s₂.slotsUsed } : State) L mc ms := by
      refine ⟨?_, q2, q3, q4, q5, q6⟩
      obtain ⟨t, ht, -⟩ := State.frames_cons hr
      show ({ U with heap := s₂.heap, slotsUsed := s₂.slotsUsed } : State) = { U.setFrames U.frames with heap := s₂.heap, slotsUsed := s₂.slotsUsed }
      rw [State.setFrames_self ht]
    subst hg
    refine Or.inr ⟨q, ⟨(({ U with heap := s₂.heap, slotsUsed := s₂.slotsUsed } : State).setVm s₂.vm), Ls ++ L, c0 + mc, s0 + ms⟩,
      ⟨X.admits, X.cas, X.clock, X.frames, X.room, X.hears, X.method, X.code, (X.here.setHeapUsed s₂.heap s₂.slotsUsed).setVm hW'.alike, X.tail, State.WarmedH.trans X.warmed hW', X.limits, X.bytes, X.same.trans (hsame.setVm s.vm)⟩,
      ⟨g, mk, s₂, L, E, ce, rfl, rfl, hx, hce, hcv, hcl, rfl, hL, rfl, rfl⟩, ?_⟩
    show Steps p.tables e below _ (((({ U with heap := s₂.heap, slotsUsed := s₂.slotsUsed } : State).setVm s₂.vm).setTop g).pushFrame (.throwing q))
    rw [← hs₂]
    exact hsteps
end
variable {p : Program} {l : Launch} {e : Env} {R : Room} {s : State} {m : MethodId} {args : Array Value} {below : List Frame} {meth : Method} {c : Code} {T : State} {H : Heap} {locs : List Loc} {cells slots : Nat}
theorem vx_callVX (X : Stand p l e R s m args below meth c T locs cells slots) (hexec : p.tables.exec = Jvm.exec) {own C : String} {index : Nat} {y : MethodName} {bytes : ByteArray} {maxL : Nat} {ret : Option FieldType} {hh : List (Nat × Nat × Nat × Nat)}
    (hown : s.vm.findClass own = some m.cls) (hlink : (Cond.methodLink own index y).before args s = true) (hinst : (Cond.instanceMethod y).before args s = true) (hsel : (Cond.selects C y y).before args s = true)
    (hcode : (Cond.codeWith y bytes maxL ret hh).before args s = true) (hy : y.cls ≠ "java/lang/invoke/MethodHandle" ∧ y.cls ≠ "java/lang/invoke/VarHandle")
    {W9 : Nat} {Pre : Pt → Array Value → Prop} {Post : Pt → Array Value → Option Value → Pt → Prop} {PostX : Pt → Array Value → Addr → Pt → Prop} (hK : vx_Back l R p e below s args y 3 W9 Pre Post PostX)
    {b : Addr} {cellB : Cell} (hcell : T.heap[b]? = some cellB) (hobj : cellB.vm.isStatics = false) (hcls : s.vm.findClass C = some cellB.cls)
    {g : JFrame} (hg : g.method = m) (hsize : g.locals.size = c.maxLocals) {argsL rest : List Value} (hlen : ∀ sig, parseMethodDescriptor y.desc = some sig → argsL.length = sig.parameters.length)
    (hstack : g.stack = argsL.reverse ++ .ref b :: rest) (hW : 2 * g.monitorRoom + (rest.map fun v => v.category).sum ≤ W9) (hdg : decode c.code g.pc = .ok (.invokevirtual index, 3))
    (hpre : ∀ vm₁, s.WarmedH vm₁ → Pre ⟨T.setVm vm₁, locs, cells, slots⟩ (Value.ref b :: argsL).toArray) :
    (∃ (v : Option Value) (vm₁ : Vm) (B : Pt), s.WarmedH vm₁ ∧ Stand p l e R s m args below meth c B.U B.locs B.cells B.slots ∧ Post ⟨T.setVm vm₁, locs, cells, slots⟩ (Value.ref b :: argsL).toArray v B ∧
      ∀ target, Steps p.tables e below (B.U.setTop { g with pc := g.pc + 3, stack := v.toList ++ rest }) target → Steps p.tables e below (T.setTop g) target) ∨
    (∃ (q : Addr) (vm₁ : Vm) (B : Pt), s.WarmedH vm₁ ∧ Stand p l e R s m args below meth c B.U B.locs B.cells B.slots ∧ PostX ⟨T.setVm vm₁, locs, cells, slots⟩ (Value.ref b :: argsL).toArray q B ∧
      Steps p.tables e below (T.setTop g) ((B.U.setTop { g with stack := rest }).pushFrame (.throwing q))) := by
  obtain ⟨mk, methM, hnamed, hmethM, hstM, habM⟩ := Cond.instanceMethod_spec hinst
  obtain ⟨m8, methM', cM, hn8, hmethM', -, -, -, -, -, -, hsigM⟩ := Cond.codeWith_spec hcode
  cases Option.some.inj (hn8.symm.trans hnamed)
  cases hmethM.symm.trans hmethM'
  obtain ⟨c2, r2, m2, q1, q2, q3, q4, kP, hkP, hkPi⟩ := Cond.selects_spec hsel
  cases hcls.symm.trans q1
  cases (State.methodFound?_of_named hnamed hy).symm.trans q2
  cases hnamed.symm.trans q3
  have hselP : selectMethod e.platform s.vm cellB.cls mk = .method mk := by rw [Launch.admits_selectMethod X.admits]; exact q4
  obtain ⟨vm₁, X₁, hstep₁⟩ := X.invokevirtual hexec hown hlink hnamed hmethM hstM hkP hkPi hy (a := b) (cell := cellB) hcell
    (fun z h => by rw [h] at hobj; cases hobj) hselP hmethM habM hkP hkPi (g := g) hg (argsL := argsL) (rest := rest) (hlen _ hsigM) hstack hdg
  rcases hK m meth c ⟨T.setVm vm₁, locs, cells, slots⟩ { g with stack := rest } (.invokevirtual index) mk (Value.ref b :: argsL).toArray X₁ hg hsize hdg hW (X₁.named hnamed) (hpre vm₁ X₁.warmed) with ⟨v, B, X', hpost, hsteps⟩ | ⟨q, B, X', hpost, hsteps⟩
  · exact Or.inl ⟨v, vm₁, B, X₁.warmed, X', hpost, fun target h => hstep₁ _ fun acts => by rw [doInvoke_state]; exact hsteps.trans h⟩
  · exact Or.inr ⟨q, vm₁, B, X₁.warmed, X', hpost, hstep₁ _ fun acts => by rw [doInvoke_state]; exact hsteps⟩
theorem vx_callSX (X : Stand p l e R s m args below meth c T locs cells slots) (hexec : p.tables.exec = Jvm.exec) {own : String} {index : Nat} {y : MethodName} {bytes : ByteArray} {maxL : Nat} {ret : Option FieldType} {hh : List (Nat × Nat × Nat × Nat)}
    (hown : s.vm.findClass own = some m.cls) (hlink : (Cond.methodLink own index y).before args s = true) (hstat : (Cond.static y).before args s = true) (hinit : (Cond.initialized y.cls).before args s = true)
    (hcode : (Cond.codeWith y bytes maxL ret hh).before args s = true) (hy : y.cls ≠ "java/lang/invoke/MethodHandle" ∧ y.cls ≠ "java/lang/invoke/VarHandle")
    {W9 : Nat} {Pre : Pt → Array Value → Prop} {Post : Pt → Array Value → Option Value → Pt → Prop} {PostX : Pt → Array Value → Addr → Pt → Prop} (hK : vx_Back l R p e below s args y 3 W9 Pre Post PostX)
    {g : JFrame} (hg : g.method = m) (hsize : g.locals.size = c.maxLocals) {argsL rest : List Value} (hlen : ∀ sig, parseMethodDescriptor y.desc = some sig → argsL.length = sig.parameters.length)
    (hstack : g.stack = argsL.reverse ++ rest) (hW : 2 * g.monitorRoom + (rest.map fun v => v.category).sum ≤ W9) (hdg : decode c.code g.pc = .ok (.invokestatic index, 3))
    (hpre : ∀ vm₁, s.WarmedH vm₁ → Pre ⟨T.setVm vm₁, locs, cells, slots⟩ argsL.toArray) :
    (∃ (v : Option Value) (vm₁ : Vm) (B : Pt), s.WarmedH vm₁ ∧ Stand p l e R s m args below meth c B.U B.locs B.cells B.slots ∧ Post ⟨T.setVm vm₁, locs, cells, slots⟩ argsL.toArray v B ∧
      ∀ target, Steps p.tables e below (B.U.setTop { g with pc := g.pc + 3, stack := v.toList ++ rest }) target → Steps p.tables e below (T.setTop g) target) ∨
    (∃ (q : Addr) (vm₁ : Vm) (B : Pt), s.WarmedH vm₁ ∧ Stand p l e R s m args below meth c B.U B.locs B.cells B.slots ∧ PostX ⟨T.setVm vm₁, locs, cells, slots⟩ argsL.toArray q B ∧
      Steps p.tables e below (T.setTop g) ((B.U.setTop { g with stack := rest }).pushFrame (.throwing q))) := by
  obtain ⟨mk, methM, cM, hnamed, hmethM, -, -, -, -, -, -, hsigM⟩ := Cond.codeWith_spec hcode
  have hstatic : methM.isStatic = true := Cond.static_spec hnamed hmethM hstat
  obtain ⟨kP, hkP, -⟩ := className_of_methodNamed hnamed
  have hinitP : kP.init = .initialized := Cond.initialized_spec (findClass_of_methodNamed hnamed) hkP hinit
  obtain ⟨vm₁, X₁, hstep₁⟩ := X.invokestatic hexec hown hlink hnamed hmethM hstatic hkP hinitP hy (g := g) hg (argsL := argsL) (rest := rest) (hlen _ hsigM) hstack hdg
  rcases hK m meth c ⟨T.setVm vm₁, locs, cells, slots⟩ { g with stack := rest } (.invokestatic index) mk argsL.toArray X₁ hg hsize hdg hW (X₁.named hnamed) (hpre vm₁ X₁.warmed) with ⟨v, B, X', hpost, hsteps⟩ | ⟨q, B, X', hpost, hsteps⟩
  · exact Or.inl ⟨v, vm₁, B, X₁.warmed, X', hpost, fun target h => hstep₁ _ fun acts => by rw [doInvoke_state]; exact hsteps.trans h⟩
  · exact Or.inr ⟨q, vm₁, B, X₁.warmed, X', hpost, hstep₁ _ fun acts => by rw [doInvoke_state]; exact hsteps⟩
theorem vx_callVW (X : Stand p l e R s m args below meth c T locs cells slots) (hexec : p.tables.exec = Jvm.exec) {own C : String} {index : Nat} {y : MethodName} {bytes : ByteArray} {maxL : Nat} {ret : Option FieldType} {hh : List (Nat × Nat × Nat × Nat)}
    (hown : s.vm.findClass own = some m.cls) (hlink : (Cond.methodLink own index y).before args s = true) (hinst : (Cond.instanceMethod y).before args s = true) (hsel : (Cond.selects C y y).before args s = true)
    (hcode : (Cond.codeWith y bytes maxL ret hh).before args s = true) (hy : y.cls ≠ "java/lang/invoke/MethodHandle" ∧ y.cls ≠ "java/lang/invoke/VarHandle")
    {W9 : Nat} {Pre : Pt → Array Value → Prop} {Post : Pt → Array Value → Option Value → Pt → Prop} (hK : Back l R p e below s args y 3 W9 Pre Post)
    {b : Addr} {cellB : Cell} (hcell : T.heap[b]? = some cellB) (hobj : cellB.vm.isStatics = false) (hcls : s.vm.findClass C = some cellB.cls)
    {g : JFrame} (hg : g.method = m) (hsize : g.locals.size = c.maxLocals) {argsL rest : List Value} (hlen : ∀ sig, parseMethodDescriptor y.desc = some sig → argsL.length = sig.parameters.length)
    (hstack : g.stack = argsL.reverse ++ .ref b :: rest) (hW : 2 * g.monitorRoom + (rest.map fun v => v.category).sum ≤ W9) (hdg : decode c.code g.pc = .ok (.invokevirtual index, 3))
    (hpre : ∀ vm₁, s.WarmedH vm₁ → Pre ⟨T.setVm vm₁, locs, cells, slots⟩ (Value.ref b :: argsL).toArray) :
    ∃ (v : Option Value) (vm₁ : Vm) (B : Pt), s.WarmedH vm₁ ∧ Stand p l e R s m args below meth c B.U B.locs B.cells B.slots ∧ Post ⟨T.setVm vm₁, locs, cells, slots⟩ (Value.ref b :: argsL).toArray v B ∧
      ∀ target, Steps p.tables e below (B.U.setTop { g with pc := g.pc + 3, stack := v.toList ++ rest }) target → Steps p.tables e below (T.setTop g) target := by
  obtain ⟨mk, methM, hnamed, hmethM, hstM, habM⟩ := Cond.instanceMethod_spec hinst
  obtain ⟨m8, methM', cM, hn8, hmethM', -, -, -, -, -, -, hsigM⟩ := Cond.codeWith_spec hcode
  cases Option.some.inj (hn8.symm.trans hnamed)
  cases hmethM.symm.trans hmethM'
  obtain ⟨c2, r2, m2, q1, q2, q3, q4, kP, hkP, hkPi⟩ := Cond.selects_spec hsel
  cases hcls.symm.trans q1
  cases (State.methodFound?_of_named hnamed hy).symm.trans q2
  cases hnamed.symm.trans q3
  have hselP : selectMethod e.platform s.vm cellB.cls mk = .method mk := by rw [Launch.admits_selectMethod X.admits]; exact q4
  obtain ⟨vm₁, X₁, hstep₁⟩ := X.invokevirtual hexec hown hlink hnamed hmethM hstM hkP hkPi hy (a := b) (cell := cellB) hcell
    (fun z h => by rw [h] at hobj; cases hobj) hselP hmethM habM hkP hkPi (g := g) hg (argsL := argsL) (rest := rest) (hlen _ hsigM) hstack hdg
  obtain ⟨v, B, X', hpost, hsteps⟩ := hK m meth c ⟨T.setVm vm₁, locs, cells, slots⟩ { g with stack := rest } (.invokevirtual index) mk (Value.ref b :: argsL).toArray X₁ hg hsize hdg hW (X₁.named hnamed) (hpre vm₁ X₁.warmed)
  exact ⟨v, vm₁, B, X₁.warmed, X', hpost, fun target h => hstep₁ _ fun acts => by rw [doInvoke_state]; exact hsteps.trans h⟩
abbrev vx_CVW (R : Room) (s : State) (args : Array Value) (own C : String) (index : Nat) (y : MethodName) (bytes : ByteArray) (maxL : Nat) (ret : Option FieldType) (hh : List (Nat × Nat × Nat × Nat)) (ws : List Cond) (rm : Room) (mc ms n : Nat) : Prop :=
  (rm.cells = mc ∧ rm.slots = ms ∧ rm.frames + 1 ≤ R.frames ∧ 8 + (maxL + 11) + rm.locals ≤ R.locals ∧ (∀ w ∈ ws, ∀ (a' : Array Value) (U : State), s.WarmedH U.vm → w.before a' U = true) ∧ Cond.codeWith y bytes maxL ret hh ∈ ws) ∧
  (Cond.codeWith y bytes maxL ret hh).before args s = true ∧ (Cond.initialized y.cls).before args s = true ∧ (y.cls ≠ "java/lang/invoke/MethodHandle" ∧ y.cls ≠ "java/lang/invoke/VarHandle") ∧
  (∀ sig, parseMethodDescriptor y.desc = some sig → n = sig.parameters.length) ∧ (Cond.methodLink own index y).before args s = true ∧ (Cond.instanceMethod y).before args s = true ∧ (Cond.selects C y y).before args s = true
theorem vx_cwVW {own C : String} {index maxL mc ms : Nat} {y : MethodName} {bytes : ByteArray} {ret : Option FieldType} {hh : List (Nat × Nat × Nat × Nat)} {Ts ws ws' : List Cond} {rm : Room} (n : Nat) (ht : ∀ w ∈ Ts, w.before args s = true) (hT : GoodIn Ts (wsV own index C y ws)) (hw : ws = Cond.codeWith y bytes maxL ret hh :: ws') (hrc : rm.cells = mc) (hrs : rm.slots = ms)
    (hd : y.cls = C ∧ y.cls ≠ "java/lang/invoke/MethodHandle" ∧ y.cls ≠ "java/lang/invoke/VarHandle" ∧ (parseMethodDescriptor y.desc).map (fun d => d.parameters.length) = some n) (hR : rm.frames + 1 ≤ R.frames ∧ 8 + (maxL + 11) + rm.locals ≤ R.locals) :
    vx_CVW R s args own C index y bytes maxL ret hh ws rm mc ms n := by
  obtain ⟨hC, hd⟩ := hd
  subst hC
  have ok : ∀ w ∈ wsV own index y.cls y ws, w.before args s = true := fun w h => ht w (hT w h).1
  have hG : GoodIn Ts ws := fun w h => hT w (by unfold wsV; exact List.mem_append_right _ h)
  have hc : Cond.codeWith y bytes maxL ret hh ∈ ws := by rw [hw]; exact List.mem_cons_self
  refine ⟨⟨hrc, hrs, hR.1, hR.2, pay_in ht hG, hc⟩, ht _ (hG _ hc).1, ok _ (by simp [wsV]), ⟨hd.1, hd.2.1⟩, fun sig h => ?_, ok _ (by simp [wsV]), ok _ (by simp [wsV]), ok _ (by simp [wsV])⟩
  have h2 := hd.2.2
  rw [h] at h2
  exact (Option.some.inj h2).symm
theorem vx_runVW {y : MethodName} {bytes cc : ByteArray} {maxL nL mc ms n index : Nat} {ret : Option FieldType} {hh : List (Nat × Nat × Nat × Nat)} {ws : List Cond} {rm : Room} {Pc : Array Value → State → Prop} {Qc : Array Value → State → Outcome → State → Prop} {free : Addr → Prop} {Ts : List Cond} {own C : String} {b : Addr} {As rest : List Value} {g : JFrame}
    (S : CallFix p m c cc nL s args Ts own) (hM : Met l y ws rm Pc Qc mc ms free) (cw : vx_CVW R s args own C index y bytes maxL ret hh ws rm mc ms n) (hp : PreV s H C b Pc As)
    (hg : g.method = m) (hn : As.length = n) (hsize : g.locals.size = nL) (hstack : g.stack = As.reverse ++ .ref b :: rest) (hW : 2 * g.monitorRoom + (rest.map fun v => v.category).sum ≤ 8) (hdg : decode cc g.pc = .ok (.invokevirtual index, 3)) (hf : cells + mc ≤ R.cells ∧ slots + ms ≤ R.slots) :
    va_Run p l e R s m args below meth c H locs cells slots mc ms g rest (Qc (Value.ref b :: As).toArray) free := by
  obtain ⟨⟨hrc, hrs, hfr, hlo, hws, hcw⟩, hcode, hini, hy, hlen, hl, hin, hse⟩ := cw
  have hK : Back l R p e below s args y 3 8 (PreOf R mc ms Pc) (PostOf Qc mc ms free) := va_backW (hh := hh) (bytes := bytes) (maxL := maxL) (ret := ret) hM hp.1 hrc hrs hfr hlo hws hcw (fun a' U hW => word_at hW (Or.inl (by first | rfl | simp [Cond.onTables, Cond.keeps, Cond.steady])) hini)
  obtain ⟨hx, hb, hml, ho, -⟩ := S
  obtain ⟨-, ⟨cellB, hcB, hoB, hclB⟩, hPc⟩ := hp
  intro T hT X
  obtain ⟨v, vm₁, ⟨U', l2, c2, s2⟩, hW₁, X', ⟨g', mk, t, L, e1, e2, hq, h1, hL, h2, h3⟩, st⟩ := vx_callVW X hx (C := C) (hh := hh) (bytes := bytes) (maxL := maxL) (ret := ret) ho hl hin hse hcode hy hK (by rw [hT]; exact hcB) hoB hclB hg (hsize.trans hml.symm) (argsL := As) (rest := rest) (fun sig h => hn.trans (hlen sig h)) hstack hW (by rw [hb]; exact hdg)
    (fun vm₁ hW₁ => ⟨hf.1, hf.2, hPc (T.setVm vm₁) hT hW₁⟩)
  dsimp only [Pt.U, Pt.locs, Pt.cells, Pt.slots] at X' e1 e2 h1 h2 h3 st
  subst h1; subst h2; subst h3
  exact ⟨v, (T.setVm vm₁).calling g' mk (Value.ref b :: As).toArray, t, U', L, hT, X', hL, e1, e2, hq, st⟩
section
variable {y : MethodName} {bytes cc : ByteArray} {maxL nL mc ms n index : Nat} {ret : Option FieldType} {ws : List Cond} {rm : Room} {Pc : Array Value → State → Prop} {Qc : Array Value → State → Outcome → State → Prop} {XC : String → State → State → Prop} {free : Addr → Prop} {Ts : List Cond} {own C : String} {b : Addr} {As rest : List Value} {g : JFrame}
theorem vx_runVX {hh : List (Nat × Nat × Nat × Nat)} (S : CallFix p m c cc nL s args Ts own) (hM : vx_Met l y ws rm Pc Qc XC mc ms free) (cw : vx_CVW R s args own C index y bytes maxL ret hh ws rm mc ms n) (hp : PreV s H C b Pc As)
    (hg : g.method = m) (hn : As.length = n) (hsize : g.locals.size = nL) (hstack : g.stack = As.reverse ++ .ref b :: rest) (hW : 2 * g.monitorRoom + (rest.map fun v => v.category).sum ≤ 8) (hdg : decode cc g.pc = .ok (.invokevirtual index, 3)) (hf : cells + mc ≤ R.cells ∧ slots + ms ≤ R.slots) :
    vx_Run p l e R s m args below meth c H locs cells slots mc ms g rest (Qc (Value.ref b :: As).toArray) XC free := by
  obtain ⟨⟨hrc, hrs, hfr, hlo, hws, hcw⟩, hcode, hini, hy, hlen, hl, hin, hse⟩ := cw
  have hK : vx_Back l R p e below s args y 3 8 (PreOf R mc ms Pc) (PostOf Qc mc ms free) (vx_Post XC mc ms free) := vx_backW (hh := hh) (bytes := bytes) (maxL := maxL) (ret := ret) hM hp.1 hrc hrs hfr hlo hws hcw (fun a' U hW => word_at hW (Or.inl (by first | rfl | simp [Cond.onTables, Cond.keeps, Cond.steady])) hini)
  obtain ⟨hx, hb, hml, ho, -⟩ := S
  obtain ⟨-, ⟨cellB, hcB, hoB, hclB⟩, hPc⟩ := hp
  intro T hT X
  rcases vx_callVX X hx (C := C) (hh := hh) (bytes := bytes) (maxL := maxL) (ret := ret) ho hl hin hse hcode hy hK (by rw [hT]; exact hcB) hoB hclB hg (hsize.trans hml.symm) (argsL := As) (rest := rest) (fun sig h => hn.trans (hlen sig h)) hstack hW (by rw [hb]; exact hdg)
    (fun vm₁ hW₁ => ⟨hf.1, hf.2, hPc (T.setVm vm₁) hT hW₁⟩) with ⟨v, vm₁, ⟨U', l2, c2, s2⟩, hW₁, X', ⟨g', mk, t, L, e1, e2, hq, h1, hL, h2, h3⟩, st⟩ | ⟨q, vm₁, ⟨U', l2, c2, s2⟩, hW₁, X', ⟨g', mk, t, L, E, ce, e1, e2, hq, hce, hcv, hcl, h1, hL, h2, h3⟩, st⟩
  · dsimp only [Pt.U, Pt.locs, Pt.cells, Pt.slots] at X' e1 e2 h1 h2 h3 st
    subst h1; subst h2; subst h3
    exact Or.inl ⟨v, (T.setVm vm₁).calling g' mk (Value.ref b :: As).toArray, t, U', L, hT, X', hL, e1, e2, hq, st⟩
  · dsimp only [Pt.U, Pt.locs, Pt.cells, Pt.slots] at X' e1 e2 h1 h2 h3 st hcl
    subst h1; subst h2; subst h3
    exact Or.inr ⟨q, (T.setVm vm₁).calling g' mk (Value.ref b :: As).toArray, t, U', L, E, ce, hT, X', hL, e1, e2, hq, hce, hcv, vx_cls hW₁ hcl, st⟩
theorem vx_runSX {hh : List (Nat × Nat × Nat × Nat)} (S : CallFix p m c cc nL s args Ts own) (hM : vx_Met l y ws rm Pc Qc XC mc ms free) (cw : vx_CSW R s args own index y bytes maxL ret hh ws rm mc ms n) (hp : PreS s H Pc As)
    (hg : g.method = m) (hn : As.length = n) (hsize : g.locals.size = nL) (hstack : g.stack = As.reverse ++ rest) (hW : 2 * g.monitorRoom + (rest.map fun v => v.category).sum ≤ 8) (hdg : decode cc g.pc = .ok (.invokestatic index, 3)) (hf : cells + mc ≤ R.cells ∧ slots + ms ≤ R.slots) :
    vx_Run p l e R s m args below meth c H locs cells slots mc ms g rest (Qc As.toArray) XC free := by
  obtain ⟨⟨hrc, hrs, hfr, hlo, hws, hcw⟩, hcode, hini, hy, hlen, hl, hstt⟩ := cw
  have hK : vx_Back l R p e below s args y 3 8 (PreOf R mc ms Pc) (PostOf Qc mc ms free) (vx_Post XC mc ms free) := vx_backW (hh := hh) (bytes := bytes) (maxL := maxL) (ret := ret) hM hp.1 hrc hrs hfr hlo hws hcw (fun a' U hW => word_at hW (Or.inl (by first | rfl | simp [Cond.onTables, Cond.keeps, Cond.steady])) hini)
  obtain ⟨hx, hb, hml, ho, -⟩ := S
  intro T hT X
  rcases vx_callSX X hx (hh := hh) (bytes := bytes) (maxL := maxL) (ret := ret) ho hl hstt hini hcode hy hK hg (hsize.trans hml.symm) (argsL := As) (rest := rest) (fun sig h => hn.trans (hlen sig h)) hstack hW (by rw [hb]; exact hdg)
    (fun vm₁ hW₁ => ⟨hf.1, hf.2, hp.2 (T.setVm vm₁) hT hW₁⟩) with ⟨v, vm₁, ⟨U', l2, c2, s2⟩, hW₁, X', ⟨g', mk, t, L, e1, e2, hq, h1, hL, h2, h3⟩, st⟩ | ⟨q, vm₁, ⟨U', l2, c2, s2⟩, hW₁, X', ⟨g', mk, t, L, E, ce, e1, e2, hq, hce, hcv, hcl, h1, hL, h2, h3⟩, st⟩
  · dsimp only [Pt.U, Pt.locs, Pt.cells, Pt.slots] at X' e1 e2 h1 h2 h3 st
    subst h1; subst h2; subst h3
    exact Or.inl ⟨v, (T.setVm vm₁).calling g' mk As.toArray, t, U', L, hT, X', hL, e1, e2, hq, st⟩
  · dsimp only [Pt.U, Pt.locs, Pt.cells, Pt.slots] at X' e1 e2 h1 h2 h3 st hcl
    subst h1; subst h2; subst h3
    exact Or.inr ⟨q, (T.setVm vm₁).calling g' mk As.toArray, t, U', L, E, ce, hT, X', hL, e1, e2, hq, hce, hcv, vx_cls hW₁ hcl, st⟩
end
end VXH
theorem vx_ofWH {l : Launch} {y : MethodName} {ws ws' : List Cond} {rm : Room} {Pc : Array Value → State → Prop} {Qc : Array Value → State → Outcome → State → Prop} {XC : String → State → State → Prop} {mc ms : Nat} {free : Addr → Prop} {cc : ByteArray} {maxL : Nat} {ret : Option FieldType} {hh : List (Nat × Nat × Nat × Nat)}
    (hy : plainName y.cls = true) (hw : ws = Cond.codeWith y cc maxL ret hh :: ws')
    (body : ∀ p e s m args below meth c s₁, BodyLoose p l y (headSpec ws rm) cc maxL ret e s m args below meth c s₁ → c.maxLocals = maxL → Pc args s →
      W p l e (headSpec ws rm).room s m args below meth c s.heap [] 0 0 (vx_MQ below Qc XC args s mc ms free) (entryFrame m args maxL)) : vx_Met l y ws rm Pc Qc XC mc ms free := by
  refine MetFree.of_bodyS (code := cc) (maxLocals := maxL) (ret := ret) hy ?_ ?_
  · intro args s m h hn
    obtain ⟨m9, meth, c, hn9, h1, h2, h3, h4, -, h5, h6, -⟩ := Cond.codeWith_spec (atoms_spec (ws := ws) h _ (by rw [hw]; exact List.mem_cons_self))
    cases hn.symm.trans hn9
    exact ⟨meth, c, h1, h2, h3, h4, h5, h6⟩
  · intro p e s m args below meth c s₁ B hml hP _
    have hh0 : s₁.heap = s.heap := by rw [B.state]; rfl
    obtain ⟨t, a1, o, b1, b2, b3⟩ := body p e s m args below meth c s₁ B hml hP s₁ hh0 (Stand.of_body B)
    exact ⟨t, o, a1, b1, b2, b3⟩
/-! ===== END ===== -/
end
section
/-! ===== BEGIN printed: names, fields, word lists, decode rows ===== -/
def RX0 : String := "LineFields$History"
def TX0 : u_T := fun k => match k with
  | 0 => ("LineFields$History", "states", "[LLineFields$State;", true)
  | _ => ("LineFields$History", "size", "I", false)
def tyX0 : Nat → FieldType := fun k => match k with
  | 0 => .array (.object "LineFields$State")
  | _ => .int
theorem nmX0 : ∀ a, a < 2 → ∀ b, b < 2 → a ≠ b → (TX0 a).2.1 ≠ (TX0 b).2.1 := by decide +kernel
theorem tyX0_ok : ∀ k, k < 2 → parseFieldDescriptor (TX0 k).2.2.1 = some (tyX0 k) := by decide +kernel
abbrev cX0_init : ByteArray := prog_2_method_1_code
def yX0_init : MethodName := ⟨RX0, "<init>", "()V"⟩
abbrev cX0_save : ByteArray := prog_2_method_2_code
def yX0_save : MethodName := ⟨RX0, "save", "(LLineFields$State;)V"⟩
abbrev cX0_dropOldest : ByteArray := prog_2_method_3_code
def yX0_dropOldest : MethodName := ⟨RX0, "dropOldest", "()V"⟩
def RX1 : String := "LineFields$Reckoner"
def TX1 : u_T := fun k => match k with
  | 0 => ("LineFields$Reckoner", "reversed", "[I", true)
  | 1 => ("LineFields$Reckoner", "term", "[I", true)
  | 2 => ("LineFields$Reckoner", "nextTerm", "[I", true)
  | 3 => ("LineFields$Reckoner", "product", "[I", true)
  | 4 => ("LineFields$Reckoner", "trial", "[I", true)
  | 5 => ("LineFields$Reckoner", "moved", "[I", true)
  | 6 => ("LineFields$Reckoner", "back", "[I", true)
  | 7 => ("LineFields$Reckoner", "repeated", "[I", true)
  | 8 => ("LineFields$Reckoner", "bracketAB", "[I", true)
  | 9 => ("LineFields$Reckoner", "bracketAW", "[I", true)
  | 10 => ("LineFields$Reckoner", "bracketBW", "[I", true)
  | 11 => ("LineFields$Reckoner", "flowA", "[I", true)
  | 12 => ("LineFields$Reckoner", "flowB", "[I", true)
  | _ => ("LineFields$Reckoner", "composed", "[I", true)
def tyX1 : Nat → FieldType := fun k => match k with
  | 0 => .array .int
  | 1 => .array .int
  | 2 => .array .int
  | 3 => .array .int
  | 4 => .array .int
  | 5 => .array .int
  | 6 => .array .int
  | 7 => .array .int
  | 8 => .array .int
  | 9 => .array .int
  | 10 => .array .int
  | 11 => .array .int
  | 12 => .array .int
  | _ => .array .int
theorem nmX1 : ∀ a, a < 14 → ∀ b, b < 14 → a ≠ b → (TX1 a).2.1 ≠ (TX1 b).2.1 := by decide +kernel
theorem tyX1_ok : ∀ k, k < 14 → parseFieldDescriptor (TX1 k).2.2.1 = some (tyX1 k) := by decide +kernel
abbrev cX1_init : ByteArray := prog_3_method_1_code
def yX1_init : MethodName := ⟨RX1, "<init>", "()V"⟩
abbrev cX1_lowestPower : ByteArray := prog_3_method_2_code
def yX1_lowestPower : MethodName := ⟨RX1, "lowestPower", "([I)I"⟩
abbrev cX1_addRows : ByteArray := prog_3_method_6_code
def yX1_addRows : MethodName := ⟨RX1, "addRows", "([I[I[I)V"⟩
abbrev cX1_scaleRow : ByteArray := prog_3_method_7_code
def yX1_scaleRow : MethodName := ⟨RX1, "scaleRow", "([II[I)V"⟩
abbrev cX1_addMultiple : ByteArray := prog_3_method_8_code
def yX1_addMultiple : MethodName := ⟨RX1, "addMultiple", "([I[II)V"⟩
abbrev cX1_makeX : ByteArray := prog_3_method_9_code
def yX1_makeX : MethodName := ⟨RX1, "makeX", "([I)V"⟩
abbrev cX1_act : ByteArray := prog_3_method_10_code
def yX1_act : MethodName := ⟨RX1, "act", "([I[II[I)V"⟩
abbrev cX1_multiply : ByteArray := prog_3_method_11_code
def yX1_multiply : MethodName := ⟨RX1, "multiply", "([I[II[I)V"⟩
abbrev cX1_takeBracket : ByteArray := prog_3_method_12_code
def yX1_takeBracket : MethodName := ⟨RX1, "takeBracket", "([I[II[I)V"⟩
abbrev cX1_exponential : ByteArray := prog_3_method_13_code
def yX1_exponential : MethodName := ⟨RX1, "exponential", "([II[I)V"⟩
abbrev cX1_substitute : ByteArray := prog_3_method_14_code
def yX1_substitute : MethodName := ⟨RX1, "substitute", "([I[II[I)V"⟩
abbrev cX1_inverse : ByteArray := prog_3_method_15_code
def yX1_inverse : MethodName := ⟨RX1, "inverse", "([II[I)V"⟩
abbrev cX1_logarithm : ByteArray := prog_3_method_16_code
def yX1_logarithm : MethodName := ⟨RX1, "logarithm", "([II[I)V"⟩
abbrev cX1_repeatFlow : ByteArray := prog_3_method_17_code
def yX1_repeatFlow : MethodName := ⟨RX1, "repeatFlow", "([III[I)V"⟩
abbrev cX1_pushField : ByteArray := prog_3_method_18_code
def yX1_pushField : MethodName := ⟨RX1, "pushField", "([I[II[I)V"⟩
abbrev cX1_secondWay : ByteArray := prog_3_method_19_code
def yX1_secondWay : MethodName := ⟨RX1, "secondWay", "([I[III[I)V"⟩
def RX2 : String := "LineFields$Shape"
def TX2 : u_T := fun k => match k with
  | 0 => ("LineFields$Shape", "cut", "I", false)
  | 1 => ("LineFields$Shape", "fields", "[[I", true)
  | _ => ("LineFields$Shape", "flows", "[[I", true)
def tyX2 : Nat → FieldType := fun k => match k with
  | 0 => .int
  | 1 => .array (.array .int)
  | _ => .array (.array .int)
theorem nmX2 : ∀ a, a < 3 → ∀ b, b < 3 → a ≠ b → (TX2 a).2.1 ≠ (TX2 b).2.1 := by decide +kernel
theorem tyX2_ok : ∀ k, k < 3 → parseFieldDescriptor (TX2 k).2.2.1 = some (tyX2 k) := by decide +kernel
abbrev cX2_init : ByteArray := prog_4_method_1_code
def yX2_init : MethodName := ⟨RX2, "<init>", "()V"⟩
abbrev cX2_copyFrom : ByteArray := prog_4_method_2_code
def yX2_copyFrom : MethodName := ⟨RX2, "copyFrom", "(LLineFields$Shape;)V"⟩
abbrev cX2_cutAt : ByteArray := prog_4_method_3_code
def yX2_cutAt : MethodName := ⟨RX2, "cutAt", "(I)V"⟩
abbrev cX2_fieldsThatAreNotZero : ByteArray := prog_4_method_4_code
def yX2_fieldsThatAreNotZero : MethodName := ⟨RX2, "fieldsThatAreNotZero", "()I"⟩
abbrev cX2_flowsThatAreNotX : ByteArray := prog_4_method_5_code
def yX2_flowsThatAreNotX : MethodName := ⟨RX2, "flowsThatAreNotX", "()I"⟩
abbrev cX2_rowsWithPowers : ByteArray := prog_4_method_6_code
def yX2_rowsWithPowers : MethodName := ⟨RX2, "rowsWithPowers", "([[I)I"⟩
def RX3 : String := "LineFields$State"
def TX3 : u_T := fun k => match k with
  | 0 => ("LineFields$State", "shape", "LLineFields$Shape;", true)
  | 1 => ("LineFields$State", "purse", "I", false)
  | 2 => ("LineFields$State", "paid", "I", false)
  | 3 => ("LineFields$State", "deeds", "I", false)
  | _ => ("LineFields$State", "brackets", "I", false)
def tyX3 : Nat → FieldType := fun k => match k with
  | 0 => .object "LineFields$Shape"
  | 1 => .int
  | 2 => .int
  | 3 => .int
  | _ => .int
theorem nmX3 : ∀ a, a < 5 → ∀ b, b < 5 → a ≠ b → (TX3 a).2.1 ≠ (TX3 b).2.1 := by decide +kernel
theorem tyX3_ok : ∀ k, k < 5 → parseFieldDescriptor (TX3 k).2.2.1 = some (tyX3 k) := by decide +kernel
abbrev cX3_init : ByteArray := prog_5_method_1_code
def yX3_init : MethodName := ⟨RX3, "<init>", "()V"⟩
abbrev cX3_copyFrom : ByteArray := prog_5_method_2_code
def yX3_copyFrom : MethodName := ⟨RX3, "copyFrom", "(LLineFields$State;)V"⟩
def RX4 : String := "LineFields$Text"
def TX4 : u_T := fun k => match k with
  | 0 => ("LineFields$Text", "codes", "[I", true)
  | _ => ("LineFields$Text", "length", "I", false)
def tyX4 : Nat → FieldType := fun k => match k with
  | 0 => .array .int
  | _ => .int
theorem nmX4 : ∀ a, a < 2 → ∀ b, b < 2 → a ≠ b → (TX4 a).2.1 ≠ (TX4 b).2.1 := by decide +kernel
theorem tyX4_ok : ∀ k, k < 2 → parseFieldDescriptor (TX4 k).2.2.1 = some (tyX4 k) := by decide +kernel
abbrev cX4_init : ByteArray := prog_6_method_1_code
def yX4_init : MethodName := ⟨RX4, "<init>", "()V"⟩
def RX5 : String := "LineFields"
def TX5 : u_T := fun k => match k with
  | 0 => ("LineFields", "now", "LLineFields$State;", true)
  | 1 => ("LineFields", "history", "LLineFields$History;", true)
  | 2 => ("LineFields", "snapshots", "[LLineFields$Shape;", true)
  | 3 => ("LineFields", "taken", "[Z", true)
  | 4 => ("LineFields", "buffer", "LLineFields$Text;", true)
  | 5 => ("LineFields", "reckoner", "LLineFields$Reckoner;", true)
  | 6 => ("LineFields", "result", "[I", true)
  | _ => ("LineFields", "compared", "[I", true)
def tyX5 : Nat → FieldType := fun k => match k with
  | 0 => .object "LineFields$State"
  | 1 => .object "LineFields$History"
  | 2 => .array (.object "LineFields$Shape")
  | 3 => .array .boolean
  | 4 => .object "LineFields$Text"
  | 5 => .object "LineFields$Reckoner"
  | 6 => .array .int
  | _ => .array .int
theorem nmX5 : ∀ a, a < 8 → ∀ b, b < 8 → a ≠ b → (TX5 a).2.1 ≠ (TX5 b).2.1 := by decide +kernel
theorem tyX5_ok : ∀ k, k < 8 → parseFieldDescriptor (TX5 k).2.2.1 = some (tyX5 k) := by decide +kernel
abbrev cX5_init : ByteArray := prog_1_method_1_code
def yX5_init : MethodName := ⟨RX5, "<init>", "()V"⟩
abbrev cX5_cut : ByteArray := prog_1_method_2_code
def yX5_cut : MethodName := ⟨RX5, "cut", "(I)I"⟩
abbrev cX5_setField : ByteArray := prog_1_method_3_code
def yX5_setField : MethodName := ⟨RX5, "setField", "(III)I"⟩
abbrev cX5_setFlow : ByteArray := prog_1_method_4_code
def yX5_setFlow : MethodName := ⟨RX5, "setFlow", "(III)I"⟩
abbrev cX5_earn : ByteArray := prog_1_method_5_code
def yX5_earn : MethodName := ⟨RX5, "earn", "(I)I"⟩
abbrev cX5_bracket : ByteArray := prog_1_method_6_code
def yX5_bracket : MethodName := ⟨RX5, "bracket", "(III)I"⟩
abbrev cX5_sum : ByteArray := prog_1_method_7_code
def yX5_sum : MethodName := ⟨RX5, "sum", "(III)I"⟩
abbrev cX5_scale : ByteArray := prog_1_method_8_code
def yX5_scale : MethodName := ⟨RX5, "scale", "(III)I"⟩
abbrev cX5_byBrackets : ByteArray := prog_1_method_9_code
def yX5_byBrackets : MethodName := ⟨RX5, "byBrackets", "(III)I"⟩
abbrev cX5_push : ByteArray := prog_1_method_10_code
def yX5_push : MethodName := ⟨RX5, "push", "(III)I"⟩
abbrev cX5_log : ByteArray := prog_1_method_11_code
def yX5_log : MethodName := ⟨RX5, "log", "(II)I"⟩
abbrev cX5_exp : ByteArray := prog_1_method_12_code
def yX5_exp : MethodName := ⟨RX5, "exp", "(II)I"⟩
abbrev cX5_compose : ByteArray := prog_1_method_13_code
def yX5_compose : MethodName := ⟨RX5, "compose", "(III)I"⟩
abbrev cX5_invert : ByteArray := prog_1_method_14_code
def yX5_invert : MethodName := ⟨RX5, "invert", "(II)I"⟩
abbrev cX5_power : ByteArray := prog_1_method_15_code
def yX5_power : MethodName := ⟨RX5, "power", "(III)I"⟩
abbrev cX5_field : ByteArray := prog_1_method_24_code
def yX5_field : MethodName := ⟨RX5, "field", "(II)I"⟩
abbrev cX5_flow : ByteArray := prog_1_method_25_code
def yX5_flow : MethodName := ⟨RX5, "flow", "(II)I"⟩
abbrev cX5_count : ByteArray := prog_1_method_31_code
def yX5_count : MethodName := ⟨RX5, "count", "(I)I"⟩
abbrev cX5_needSlot : ByteArray := prog_1_method_34_code
def yX5_needSlot : MethodName := ⟨RX5, "needSlot", "(I)V"⟩
abbrev cX5_needPower : ByteArray := prog_1_method_35_code
def yX5_needPower : MethodName := ⟨RX5, "needPower", "(III)V"⟩
abbrev cX5_needMoney : ByteArray := prog_1_method_37_code
def yX5_needMoney : MethodName := ⟨RX5, "needMoney", "(I)V"⟩
abbrev cX5_costOf : ByteArray := prog_1_method_38_code
def yX5_costOf : MethodName := ⟨RX5, "costOf", "(I)I"⟩
abbrev cX5_pay : ByteArray := prog_1_method_39_code
def yX5_pay : MethodName := ⟨RX5, "pay", "(I)V"⟩
abbrev cX5_replace : ByteArray := prog_1_method_40_code
def yX5_replace : MethodName := ⟨RX5, "replace", "([III)I"⟩
abbrev cX5_put : ByteArray := prog_1_method_41_code
def yX5_put : MethodName := ⟨RX5, "put", "([I)I"⟩
abbrev cX5_repeat : ByteArray := prog_1_method_42_code
def yX5_repeat : MethodName := ⟨RX5, "repeat", "(III)I"⟩
abbrev cX5_unitsOf : ByteArray := prog_1_method_43_code
def yX5_unitsOf : MethodName := ⟨RX5, "unitsOf", "(I)I"⟩
abbrev cX5_orderAlone : ByteArray := prog_1_method_44_code
def yX5_orderAlone : MethodName := ⟨RX5, "orderAlone", "(IIII)I"⟩
abbrev cX5_carryOut : ByteArray := prog_1_method_46_code
def yX5_carryOut : MethodName := ⟨RX5, "carryOut", "(IIII)I"⟩
def RX6 : String := "LineFieldsModel"
def TX6 : u_T := fun k => match k with
  | _ => ("", "", "", false)
def tyX6 : Nat → FieldType := fun k => match k with
  | _ => .int
theorem nmX6 : ∀ a, a < 0 → ∀ b, b < 0 → a ≠ b → (TX6 a).2.1 ≠ (TX6 b).2.1 := by decide +kernel
theorem tyX6_ok : ∀ k, k < 0 → parseFieldDescriptor (TX6 k).2.2.1 = some (tyX6 k) := by decide +kernel
def RJx145de : String := "java/io/Serializable"
def TJx145de : u_T := fun k => match k with
  | _ => ("", "", "", false)
def tyJx145de : Nat → FieldType := fun k => match k with
  | _ => .int
theorem nmJx145de : ∀ a, a < 0 → ∀ b, b < 0 → a ≠ b → (TJx145de a).2.1 ≠ (TJx145de b).2.1 := by decide +kernel
theorem tyJx145de_ok : ∀ k, k < 0 → parseFieldDescriptor (TJx145de k).2.2.1 = some (tyJx145de k) := by decide +kernel
def RJ9 : String := "java/lang/Math"
def TJ9 : u_T := fun k => match k with
  | _ => ("", "", "", false)
def tyJ9 : Nat → FieldType := fun k => match k with
  | _ => .int
theorem nmJ9 : ∀ a, a < 0 → ∀ b, b < 0 → a ≠ b → (TJ9 a).2.1 ≠ (TJ9 b).2.1 := by decide +kernel
theorem tyJ9_ok : ∀ k, k < 0 → parseFieldDescriptor (TJ9 k).2.2.1 = some (tyJ9 k) := by decide +kernel
abbrev cJ9_floorMod_7cf53 : ByteArray := prog_13_method_50_code
def yJ9_floorMod_7cf53 : MethodName := ⟨RJ9, "floorMod", "(II)I"⟩
def RJ0 : String := "java/lang/String"
def TJ0 : u_T := fun k => match k with
  | _ => ("", "", "", false)
def tyJ0 : Nat → FieldType := fun k => match k with
  | _ => .int
theorem nmJ0 : ∀ a, a < 0 → ∀ b, b < 0 → a ≠ b → (TJ0 a).2.1 ≠ (TJ0 b).2.1 := by decide +kernel
theorem tyJ0_ok : ∀ k, k < 0 → parseFieldDescriptor (TJ0 k).2.2.1 = some (tyJ0 k) := by decide +kernel
def RJ10 : String := "java/lang/System"
def TJ10 : u_T := fun k => match k with
  | _ => ("", "", "", false)
def tyJ10 : Nat → FieldType := fun k => match k with
  | _ => .int
theorem nmJ10 : ∀ a, a < 0 → ∀ b, b < 0 → a ≠ b → (TJ10 a).2.1 ≠ (TJ10 b).2.1 := by decide +kernel
theorem tyJ10_ok : ∀ k, k < 0 → parseFieldDescriptor (TJ10 k).2.2.1 = some (tyJ10 k) := by decide +kernel
def RJ7 : String := "java/util/Arrays"
def TJ7 : u_T := fun k => match k with
  | _ => ("", "", "", false)
def tyJ7 : Nat → FieldType := fun k => match k with
  | _ => .int
theorem nmJ7 : ∀ a, a < 0 → ∀ b, b < 0 → a ≠ b → (TJ7 a).2.1 ≠ (TJ7 b).2.1 := by decide +kernel
theorem tyJ7_ok : ∀ k, k < 0 → parseFieldDescriptor (TJ7 k).2.2.1 = some (tyJ7 k) := by decide +kernel
abbrev cJ7_fill_53178 : ByteArray := prog_18_method_103_code
def yJ7_fill_53178 : MethodName := ⟨RJ7, "fill", "([II)V"⟩
def RL : String := "LineFieldsLaw"
abbrev cL_cell : ByteArray := method_2_code
def yL_cell : MethodName := ⟨RL, "cell", "([II)I"⟩
abbrev cL_at : ByteArray := method_3_code
def yL_at : MethodName := ⟨RL, "at", "(II)I"⟩
abbrev cL_mod : ByteArray := method_4_code
def yL_mod : MethodName := ⟨RL, "mod", "(I)I"⟩
abbrev cL_over : ByteArray := method_5_code
def yL_over : MethodName := ⟨RL, "over", "(II)I"⟩
abbrev cL_get : ByteArray := method_6_code
def yL_get : MethodName := ⟨RL, "get", "([II)[I"⟩
abbrev cL_times : ByteArray := method_7_code
def yL_times : MethodName := ⟨RL, "times", "(I[I[I)[I"⟩
abbrev cL_slope : ByteArray := method_8_code
def yL_slope : MethodName := ⟨RL, "slope", "([I)[I"⟩
abbrev cL_plus : ByteArray := method_9_code
def yL_plus : MethodName := ⟨RL, "plus", "([I[II)[I"⟩
abbrev cL_bracket : ByteArray := method_10_code
def yL_bracket : MethodName := ⟨RL, "bracket", "(I[I[I)[I"⟩
abbrev cL_within : ByteArray := method_11_code
def yL_within : MethodName := ⟨RL, "within", "(I[I[I)[I"⟩
abbrev cL_exp : ByteArray := method_12_code
def yL_exp : MethodName := ⟨RL, "exp", "(I[I)[I"⟩
abbrev cL_log : ByteArray := method_13_code
def yL_log : MethodName := ⟨RL, "log", "(I[I)[I"⟩
abbrev cL_inverse : ByteArray := method_14_code
def yL_inverse : MethodName := ⟨RL, "inverse", "(I[I)[I"⟩
abbrev cL_power : ByteArray := method_15_code
def yL_power : MethodName := ⟨RL, "power", "(I[II)[I"⟩
abbrev cL_way : ByteArray := method_16_code
def yL_way : MethodName := ⟨RL, "way", "(I[I[I)[I"⟩
abbrev cL_put : ByteArray := method_17_code
def yL_put : MethodName := ⟨RL, "put", "([I[II[II)I"⟩
abbrev cL_done : ByteArray := method_18_code
def yL_done : MethodName := ⟨RL, "done", "(LLineFields;IIIII[I[I[I)Z"⟩
abbrev cL_act : ByteArray := method_19_code
def yL_act : MethodName := ⟨RL, "act", "(LLineFields;II[I[I[I)Z"⟩
abbrev cL_agree : ByteArray := method_20_code
def yL_agree : MethodName := ⟨RL, "agree", "(LLineFields;[I[I[I)Z"⟩
abbrev cL_law : ByteArray := code
def yL_law : MethodName := ⟨RL, "law", "([I)Z"⟩
abbrev vwCl : List vw_C := [(RX0, TX0, 2), (RX1, TX1, 14), (RX2, TX2, 3), (RX3, TX3, 5), (RX4, TX4, 2), (RX5, TX5, 8)]
end
section
theorem dX0_init_0 : decode cX0_init 0 = .ok (.aload_n 0, 1) := by decide +kernel
theorem dX0_init_1 : decode cX0_init 1 = .ok (.invokespecial 3, 3) := by decide +kernel
theorem dX0_init_4 : decode cX0_init 4 = .ok (.aload_n 0, 1) := by decide +kernel
theorem dX0_init_5 : decode cX0_init 5 = .ok (.bipush 6, 2) := by decide +kernel
theorem dX0_init_7 : decode cX0_init 7 = .ok (.anewarray 9, 3) := by decide +kernel
theorem dX0_init_10 : decode cX0_init 10 = .ok (.putfield 11, 3) := by decide +kernel
theorem dX0_init_13 : decode cX0_init 13 = .ok (.iconst 0, 1) := by decide +kernel
theorem dX0_init_14 : decode cX0_init 14 = .ok (.istore_n 1, 1) := by decide +kernel
theorem dX0_init_15 : decode cX0_init 15 = .ok (.iload_n 1, 1) := by decide +kernel
theorem dX0_init_16 : decode cX0_init 16 = .ok (.bipush 6, 2) := by decide +kernel
theorem dX0_init_18 : decode cX0_init 18 = .ok (.if_icmp .ge 22, 3) := by decide +kernel
theorem dX0_init_21 : decode cX0_init 21 = .ok (.aload_n 0, 1) := by decide +kernel
theorem dX0_init_22 : decode cX0_init 22 = .ok (.getfield 11, 3) := by decide +kernel
theorem dX0_init_25 : decode cX0_init 25 = .ok (.iload_n 1, 1) := by decide +kernel
theorem dX0_init_26 : decode cX0_init 26 = .ok (.new 9, 3) := by decide +kernel
theorem dX0_init_29 : decode cX0_init 29 = .ok (.dup, 1) := by decide +kernel
theorem dX0_init_30 : decode cX0_init 30 = .ok (.invokespecial 17, 3) := by decide +kernel
theorem dX0_init_33 : decode cX0_init 33 = .ok (.aastore, 1) := by decide +kernel
theorem dX0_init_34 : decode cX0_init 34 = .ok (.iinc 1 1, 3) := by decide +kernel
theorem dX0_init_37 : decode cX0_init 37 = .ok (.goto (-22), 3) := by decide +kernel
theorem dX0_init_40 : decode cX0_init 40 = .ok (.return_, 1) := by decide +kernel
theorem dX0_save_0 : decode cX0_save 0 = .ok (.aload_n 0, 1) := by decide +kernel
theorem dX0_save_1 : decode cX0_save 1 = .ok (.getfield 18, 3) := by decide +kernel
theorem dX0_save_4 : decode cX0_save 4 = .ok (.bipush 6, 2) := by decide +kernel
theorem dX0_save_6 : decode cX0_save 6 = .ok (.if_icmp .lt 7, 3) := by decide +kernel
theorem dX0_save_9 : decode cX0_save 9 = .ok (.aload_n 0, 1) := by decide +kernel
theorem dX0_save_10 : decode cX0_save 10 = .ok (.invokevirtual 22, 3) := by decide +kernel
theorem dX0_save_13 : decode cX0_save 13 = .ok (.aload_n 0, 1) := by decide +kernel
theorem dX0_save_14 : decode cX0_save 14 = .ok (.getfield 11, 3) := by decide +kernel
theorem dX0_save_17 : decode cX0_save 17 = .ok (.aload_n 0, 1) := by decide +kernel
theorem dX0_save_18 : decode cX0_save 18 = .ok (.getfield 18, 3) := by decide +kernel
theorem dX0_save_21 : decode cX0_save 21 = .ok (.aaload, 1) := by decide +kernel
theorem dX0_save_22 : decode cX0_save 22 = .ok (.aload_n 1, 1) := by decide +kernel
theorem dX0_save_23 : decode cX0_save 23 = .ok (.invokevirtual 25, 3) := by decide +kernel
theorem dX0_save_26 : decode cX0_save 26 = .ok (.aload_n 0, 1) := by decide +kernel
theorem dX0_save_27 : decode cX0_save 27 = .ok (.dup, 1) := by decide +kernel
theorem dX0_save_28 : decode cX0_save 28 = .ok (.getfield 18, 3) := by decide +kernel
theorem dX0_save_31 : decode cX0_save 31 = .ok (.iconst 1, 1) := by decide +kernel
theorem dX0_save_32 : decode cX0_save 32 = .ok (.iadd, 1) := by decide +kernel
theorem dX0_save_33 : decode cX0_save 33 = .ok (.putfield 18, 3) := by decide +kernel
theorem dX0_save_36 : decode cX0_save 36 = .ok (.return_, 1) := by decide +kernel
theorem dX0_dropOldest_0 : decode cX0_dropOldest 0 = .ok (.aload_n 0, 1) := by decide +kernel
theorem dX0_dropOldest_1 : decode cX0_dropOldest 1 = .ok (.getfield 11, 3) := by decide +kernel
theorem dX0_dropOldest_4 : decode cX0_dropOldest 4 = .ok (.iconst 0, 1) := by decide +kernel
theorem dX0_dropOldest_5 : decode cX0_dropOldest 5 = .ok (.aaload, 1) := by decide +kernel
theorem dX0_dropOldest_6 : decode cX0_dropOldest 6 = .ok (.astore_n 1, 1) := by decide +kernel
theorem dX0_dropOldest_7 : decode cX0_dropOldest 7 = .ok (.iconst 1, 1) := by decide +kernel
theorem dX0_dropOldest_8 : decode cX0_dropOldest 8 = .ok (.istore_n 2, 1) := by decide +kernel
theorem dX0_dropOldest_9 : decode cX0_dropOldest 9 = .ok (.iload_n 2, 1) := by decide +kernel
theorem dX0_dropOldest_10 : decode cX0_dropOldest 10 = .ok (.bipush 6, 2) := by decide +kernel
theorem dX0_dropOldest_12 : decode cX0_dropOldest 12 = .ok (.if_icmp .ge 23, 3) := by decide +kernel
theorem dX0_dropOldest_15 : decode cX0_dropOldest 15 = .ok (.aload_n 0, 1) := by decide +kernel
theorem dX0_dropOldest_16 : decode cX0_dropOldest 16 = .ok (.getfield 11, 3) := by decide +kernel
theorem dX0_dropOldest_19 : decode cX0_dropOldest 19 = .ok (.iload_n 2, 1) := by decide +kernel
theorem dX0_dropOldest_20 : decode cX0_dropOldest 20 = .ok (.iconst 1, 1) := by decide +kernel
theorem dX0_dropOldest_21 : decode cX0_dropOldest 21 = .ok (.isub, 1) := by decide +kernel
theorem dX0_dropOldest_22 : decode cX0_dropOldest 22 = .ok (.aload_n 0, 1) := by decide +kernel
theorem dX0_dropOldest_23 : decode cX0_dropOldest 23 = .ok (.getfield 11, 3) := by decide +kernel
theorem dX0_dropOldest_26 : decode cX0_dropOldest 26 = .ok (.iload_n 2, 1) := by decide +kernel
theorem dX0_dropOldest_27 : decode cX0_dropOldest 27 = .ok (.aaload, 1) := by decide +kernel
theorem dX0_dropOldest_28 : decode cX0_dropOldest 28 = .ok (.aastore, 1) := by decide +kernel
theorem dX0_dropOldest_29 : decode cX0_dropOldest 29 = .ok (.iinc 2 1, 3) := by decide +kernel
theorem dX0_dropOldest_32 : decode cX0_dropOldest 32 = .ok (.goto (-23), 3) := by decide +kernel
theorem dX0_dropOldest_35 : decode cX0_dropOldest 35 = .ok (.aload_n 0, 1) := by decide +kernel
theorem dX0_dropOldest_36 : decode cX0_dropOldest 36 = .ok (.getfield 11, 3) := by decide +kernel
theorem dX0_dropOldest_39 : decode cX0_dropOldest 39 = .ok (.iconst 5, 1) := by decide +kernel
theorem dX0_dropOldest_40 : decode cX0_dropOldest 40 = .ok (.aload_n 1, 1) := by decide +kernel
theorem dX0_dropOldest_41 : decode cX0_dropOldest 41 = .ok (.aastore, 1) := by decide +kernel
theorem dX0_dropOldest_42 : decode cX0_dropOldest 42 = .ok (.aload_n 0, 1) := by decide +kernel
theorem dX0_dropOldest_43 : decode cX0_dropOldest 43 = .ok (.iconst 5, 1) := by decide +kernel
theorem dX0_dropOldest_44 : decode cX0_dropOldest 44 = .ok (.putfield 18, 3) := by decide +kernel
theorem dX0_dropOldest_47 : decode cX0_dropOldest 47 = .ok (.return_, 1) := by decide +kernel
theorem dX1_init_0 : decode cX1_init 0 = .ok (.aload_n 0, 1) := by decide +kernel
theorem dX1_init_1 : decode cX1_init 1 = .ok (.invokespecial 3, 3) := by decide +kernel
theorem dX1_init_4 : decode cX1_init 4 = .ok (.aload_n 0, 1) := by decide +kernel
theorem dX1_init_5 : decode cX1_init 5 = .ok (.bipush 7, 2) := by decide +kernel
theorem dX1_init_7 : decode cX1_init 7 = .ok (.newarray .int, 2) := by decide +kernel
theorem dX1_init_9 : decode cX1_init 9 = .ok (.putfield 9, 3) := by decide +kernel
theorem dX1_init_12 : decode cX1_init 12 = .ok (.aload_n 0, 1) := by decide +kernel
theorem dX1_init_13 : decode cX1_init 13 = .ok (.bipush 7, 2) := by decide +kernel
theorem dX1_init_15 : decode cX1_init 15 = .ok (.newarray .int, 2) := by decide +kernel
theorem dX1_init_17 : decode cX1_init 17 = .ok (.putfield 15, 3) := by decide +kernel
theorem dX1_init_20 : decode cX1_init 20 = .ok (.aload_n 0, 1) := by decide +kernel
theorem dX1_init_21 : decode cX1_init 21 = .ok (.bipush 7, 2) := by decide +kernel
theorem dX1_init_23 : decode cX1_init 23 = .ok (.newarray .int, 2) := by decide +kernel
theorem dX1_init_25 : decode cX1_init 25 = .ok (.putfield 18, 3) := by decide +kernel
theorem dX1_init_28 : decode cX1_init 28 = .ok (.aload_n 0, 1) := by decide +kernel
theorem dX1_init_29 : decode cX1_init 29 = .ok (.bipush 7, 2) := by decide +kernel
theorem dX1_init_31 : decode cX1_init 31 = .ok (.newarray .int, 2) := by decide +kernel
theorem dX1_init_33 : decode cX1_init 33 = .ok (.putfield 21, 3) := by decide +kernel
theorem dX1_init_36 : decode cX1_init 36 = .ok (.aload_n 0, 1) := by decide +kernel
theorem dX1_init_37 : decode cX1_init 37 = .ok (.bipush 7, 2) := by decide +kernel
theorem dX1_init_39 : decode cX1_init 39 = .ok (.newarray .int, 2) := by decide +kernel
theorem dX1_init_41 : decode cX1_init 41 = .ok (.putfield 24, 3) := by decide +kernel
theorem dX1_init_44 : decode cX1_init 44 = .ok (.aload_n 0, 1) := by decide +kernel
theorem dX1_init_45 : decode cX1_init 45 = .ok (.bipush 7, 2) := by decide +kernel
theorem dX1_init_47 : decode cX1_init 47 = .ok (.newarray .int, 2) := by decide +kernel
theorem dX1_init_49 : decode cX1_init 49 = .ok (.putfield 27, 3) := by decide +kernel
theorem dX1_init_52 : decode cX1_init 52 = .ok (.aload_n 0, 1) := by decide +kernel
theorem dX1_init_53 : decode cX1_init 53 = .ok (.bipush 7, 2) := by decide +kernel
theorem dX1_init_55 : decode cX1_init 55 = .ok (.newarray .int, 2) := by decide +kernel
theorem dX1_init_57 : decode cX1_init 57 = .ok (.putfield 30, 3) := by decide +kernel
theorem dX1_init_60 : decode cX1_init 60 = .ok (.aload_n 0, 1) := by decide +kernel
theorem dX1_init_61 : decode cX1_init 61 = .ok (.bipush 7, 2) := by decide +kernel
theorem dX1_init_63 : decode cX1_init 63 = .ok (.newarray .int, 2) := by decide +kernel
theorem dX1_init_65 : decode cX1_init 65 = .ok (.putfield 33, 3) := by decide +kernel
theorem dX1_init_68 : decode cX1_init 68 = .ok (.aload_n 0, 1) := by decide +kernel
theorem dX1_init_69 : decode cX1_init 69 = .ok (.bipush 7, 2) := by decide +kernel
theorem dX1_init_71 : decode cX1_init 71 = .ok (.newarray .int, 2) := by decide +kernel
theorem dX1_init_73 : decode cX1_init 73 = .ok (.putfield 36, 3) := by decide +kernel
theorem dX1_init_76 : decode cX1_init 76 = .ok (.aload_n 0, 1) := by decide +kernel
theorem dX1_init_77 : decode cX1_init 77 = .ok (.bipush 7, 2) := by decide +kernel
theorem dX1_init_79 : decode cX1_init 79 = .ok (.newarray .int, 2) := by decide +kernel
theorem dX1_init_81 : decode cX1_init 81 = .ok (.putfield 39, 3) := by decide +kernel
theorem dX1_init_84 : decode cX1_init 84 = .ok (.aload_n 0, 1) := by decide +kernel
theorem dX1_init_85 : decode cX1_init 85 = .ok (.bipush 7, 2) := by decide +kernel
theorem dX1_init_87 : decode cX1_init 87 = .ok (.newarray .int, 2) := by decide +kernel
theorem dX1_init_89 : decode cX1_init 89 = .ok (.putfield 42, 3) := by decide +kernel
theorem dX1_init_92 : decode cX1_init 92 = .ok (.aload_n 0, 1) := by decide +kernel
theorem dX1_init_93 : decode cX1_init 93 = .ok (.bipush 7, 2) := by decide +kernel
theorem dX1_init_95 : decode cX1_init 95 = .ok (.newarray .int, 2) := by decide +kernel
theorem dX1_init_97 : decode cX1_init 97 = .ok (.putfield 45, 3) := by decide +kernel
theorem dX1_init_100 : decode cX1_init 100 = .ok (.aload_n 0, 1) := by decide +kernel
theorem dX1_init_101 : decode cX1_init 101 = .ok (.bipush 7, 2) := by decide +kernel
theorem dX1_init_103 : decode cX1_init 103 = .ok (.newarray .int, 2) := by decide +kernel
theorem dX1_init_105 : decode cX1_init 105 = .ok (.putfield 48, 3) := by decide +kernel
theorem dX1_init_108 : decode cX1_init 108 = .ok (.aload_n 0, 1) := by decide +kernel
theorem dX1_init_109 : decode cX1_init 109 = .ok (.bipush 7, 2) := by decide +kernel
theorem dX1_init_111 : decode cX1_init 111 = .ok (.newarray .int, 2) := by decide +kernel
theorem dX1_init_113 : decode cX1_init 113 = .ok (.putfield 51, 3) := by decide +kernel
theorem dX1_init_116 : decode cX1_init 116 = .ok (.return_, 1) := by decide +kernel
theorem dX1_lowestPower_0 : decode cX1_lowestPower 0 = .ok (.iconst 2, 1) := by decide +kernel
theorem dX1_lowestPower_1 : decode cX1_lowestPower 1 = .ok (.istore_n 1, 1) := by decide +kernel
theorem dX1_lowestPower_2 : decode cX1_lowestPower 2 = .ok (.iload_n 1, 1) := by decide +kernel
theorem dX1_lowestPower_3 : decode cX1_lowestPower 3 = .ok (.bipush 6, 2) := by decide +kernel
theorem dX1_lowestPower_5 : decode cX1_lowestPower 5 = .ok (.if_icmp .gt 17, 3) := by decide +kernel
theorem dX1_lowestPower_8 : decode cX1_lowestPower 8 = .ok (.aload_n 0, 1) := by decide +kernel
theorem dX1_lowestPower_9 : decode cX1_lowestPower 9 = .ok (.iload_n 1, 1) := by decide +kernel
theorem dX1_lowestPower_10 : decode cX1_lowestPower 10 = .ok (.iaload, 1) := by decide +kernel
theorem dX1_lowestPower_11 : decode cX1_lowestPower 11 = .ok (.ifCond .eq 5, 3) := by decide +kernel
theorem dX1_lowestPower_14 : decode cX1_lowestPower 14 = .ok (.iload_n 1, 1) := by decide +kernel
theorem dX1_lowestPower_15 : decode cX1_lowestPower 15 = .ok (.ireturn, 1) := by decide +kernel
theorem dX1_lowestPower_16 : decode cX1_lowestPower 16 = .ok (.iinc 1 1, 3) := by decide +kernel
theorem dX1_lowestPower_19 : decode cX1_lowestPower 19 = .ok (.goto (-17), 3) := by decide +kernel
theorem dX1_lowestPower_22 : decode cX1_lowestPower 22 = .ok (.iconst (-1), 1) := by decide +kernel
theorem dX1_lowestPower_23 : decode cX1_lowestPower 23 = .ok (.ireturn, 1) := by decide +kernel
theorem dX1_addRows_0 : decode cX1_addRows 0 = .ok (.iconst 0, 1) := by decide +kernel
theorem dX1_addRows_1 : decode cX1_addRows 1 = .ok (.istore_n 3, 1) := by decide +kernel
theorem dX1_addRows_2 : decode cX1_addRows 2 = .ok (.iload_n 3, 1) := by decide +kernel
theorem dX1_addRows_3 : decode cX1_addRows 3 = .ok (.bipush 6, 2) := by decide +kernel
theorem dX1_addRows_5 : decode cX1_addRows 5 = .ok (.if_icmp .gt 23, 3) := by decide +kernel
theorem dX1_addRows_8 : decode cX1_addRows 8 = .ok (.aload_n 2, 1) := by decide +kernel
theorem dX1_addRows_9 : decode cX1_addRows 9 = .ok (.iload_n 3, 1) := by decide +kernel
theorem dX1_addRows_10 : decode cX1_addRows 10 = .ok (.aload_n 0, 1) := by decide +kernel
theorem dX1_addRows_11 : decode cX1_addRows 11 = .ok (.iload_n 3, 1) := by decide +kernel
theorem dX1_addRows_12 : decode cX1_addRows 12 = .ok (.iaload, 1) := by decide +kernel
theorem dX1_addRows_13 : decode cX1_addRows 13 = .ok (.aload_n 1, 1) := by decide +kernel
theorem dX1_addRows_14 : decode cX1_addRows 14 = .ok (.iload_n 3, 1) := by decide +kernel
theorem dX1_addRows_15 : decode cX1_addRows 15 = .ok (.iaload, 1) := by decide +kernel
theorem dX1_addRows_16 : decode cX1_addRows 16 = .ok (.iadd, 1) := by decide +kernel
theorem dX1_addRows_17 : decode cX1_addRows 17 = .ok (.sipush 10007, 3) := by decide +kernel
theorem dX1_addRows_20 : decode cX1_addRows 20 = .ok (.irem, 1) := by decide +kernel
theorem dX1_addRows_21 : decode cX1_addRows 21 = .ok (.iastore, 1) := by decide +kernel
theorem dX1_addRows_22 : decode cX1_addRows 22 = .ok (.iinc 3 1, 3) := by decide +kernel
theorem dX1_addRows_25 : decode cX1_addRows 25 = .ok (.goto (-23), 3) := by decide +kernel
theorem dX1_addRows_28 : decode cX1_addRows 28 = .ok (.return_, 1) := by decide +kernel
theorem dX1_scaleRow_0 : decode cX1_scaleRow 0 = .ok (.iconst 0, 1) := by decide +kernel
theorem dX1_scaleRow_1 : decode cX1_scaleRow 1 = .ok (.istore_n 3, 1) := by decide +kernel
theorem dX1_scaleRow_2 : decode cX1_scaleRow 2 = .ok (.iload_n 3, 1) := by decide +kernel
theorem dX1_scaleRow_3 : decode cX1_scaleRow 3 = .ok (.bipush 6, 2) := by decide +kernel
theorem dX1_scaleRow_5 : decode cX1_scaleRow 5 = .ok (.if_icmp .gt 24, 3) := by decide +kernel
theorem dX1_scaleRow_8 : decode cX1_scaleRow 8 = .ok (.aload_n 2, 1) := by decide +kernel
theorem dX1_scaleRow_9 : decode cX1_scaleRow 9 = .ok (.iload_n 3, 1) := by decide +kernel
theorem dX1_scaleRow_10 : decode cX1_scaleRow 10 = .ok (.aload_n 0, 1) := by decide +kernel
theorem dX1_scaleRow_11 : decode cX1_scaleRow 11 = .ok (.iload_n 3, 1) := by decide +kernel
theorem dX1_scaleRow_12 : decode cX1_scaleRow 12 = .ok (.iaload, 1) := by decide +kernel
theorem dX1_scaleRow_13 : decode cX1_scaleRow 13 = .ok (.i2l, 1) := by decide +kernel
theorem dX1_scaleRow_14 : decode cX1_scaleRow 14 = .ok (.iload_n 1, 1) := by decide +kernel
theorem dX1_scaleRow_15 : decode cX1_scaleRow 15 = .ok (.i2l, 1) := by decide +kernel
theorem dX1_scaleRow_16 : decode cX1_scaleRow 16 = .ok (.lmul, 1) := by decide +kernel
theorem dX1_scaleRow_17 : decode cX1_scaleRow 17 = .ok (.ldc2_w 54, 3) := by decide +kernel
theorem dX1_scaleRow_20 : decode cX1_scaleRow 20 = .ok (.lrem, 1) := by decide +kernel
theorem dX1_scaleRow_21 : decode cX1_scaleRow 21 = .ok (.l2i, 1) := by decide +kernel
theorem dX1_scaleRow_22 : decode cX1_scaleRow 22 = .ok (.iastore, 1) := by decide +kernel
theorem dX1_scaleRow_23 : decode cX1_scaleRow 23 = .ok (.iinc 3 1, 3) := by decide +kernel
theorem dX1_scaleRow_26 : decode cX1_scaleRow 26 = .ok (.goto (-24), 3) := by decide +kernel
theorem dX1_scaleRow_29 : decode cX1_scaleRow 29 = .ok (.return_, 1) := by decide +kernel
theorem dX1_addMultiple_0 : decode cX1_addMultiple 0 = .ok (.iconst 0, 1) := by decide +kernel
theorem dX1_addMultiple_1 : decode cX1_addMultiple 1 = .ok (.istore_n 3, 1) := by decide +kernel
theorem dX1_addMultiple_2 : decode cX1_addMultiple 2 = .ok (.iload_n 3, 1) := by decide +kernel
theorem dX1_addMultiple_3 : decode cX1_addMultiple 3 = .ok (.bipush 6, 2) := by decide +kernel
theorem dX1_addMultiple_5 : decode cX1_addMultiple 5 = .ok (.if_icmp .gt 29, 3) := by decide +kernel
theorem dX1_addMultiple_8 : decode cX1_addMultiple 8 = .ok (.aload_n 0, 1) := by decide +kernel
theorem dX1_addMultiple_9 : decode cX1_addMultiple 9 = .ok (.iload_n 3, 1) := by decide +kernel
theorem dX1_addMultiple_10 : decode cX1_addMultiple 10 = .ok (.aload_n 0, 1) := by decide +kernel
theorem dX1_addMultiple_11 : decode cX1_addMultiple 11 = .ok (.iload_n 3, 1) := by decide +kernel
theorem dX1_addMultiple_12 : decode cX1_addMultiple 12 = .ok (.iaload, 1) := by decide +kernel
theorem dX1_addMultiple_13 : decode cX1_addMultiple 13 = .ok (.i2l, 1) := by decide +kernel
theorem dX1_addMultiple_14 : decode cX1_addMultiple 14 = .ok (.aload_n 1, 1) := by decide +kernel
theorem dX1_addMultiple_15 : decode cX1_addMultiple 15 = .ok (.iload_n 3, 1) := by decide +kernel
theorem dX1_addMultiple_16 : decode cX1_addMultiple 16 = .ok (.iaload, 1) := by decide +kernel
theorem dX1_addMultiple_17 : decode cX1_addMultiple 17 = .ok (.i2l, 1) := by decide +kernel
theorem dX1_addMultiple_18 : decode cX1_addMultiple 18 = .ok (.iload_n 2, 1) := by decide +kernel
theorem dX1_addMultiple_19 : decode cX1_addMultiple 19 = .ok (.i2l, 1) := by decide +kernel
theorem dX1_addMultiple_20 : decode cX1_addMultiple 20 = .ok (.lmul, 1) := by decide +kernel
theorem dX1_addMultiple_21 : decode cX1_addMultiple 21 = .ok (.ladd, 1) := by decide +kernel
theorem dX1_addMultiple_22 : decode cX1_addMultiple 22 = .ok (.ldc2_w 54, 3) := by decide +kernel
theorem dX1_addMultiple_25 : decode cX1_addMultiple 25 = .ok (.lrem, 1) := by decide +kernel
theorem dX1_addMultiple_26 : decode cX1_addMultiple 26 = .ok (.l2i, 1) := by decide +kernel
theorem dX1_addMultiple_27 : decode cX1_addMultiple 27 = .ok (.iastore, 1) := by decide +kernel
theorem dX1_addMultiple_28 : decode cX1_addMultiple 28 = .ok (.iinc 3 1, 3) := by decide +kernel
theorem dX1_addMultiple_31 : decode cX1_addMultiple 31 = .ok (.goto (-29), 3) := by decide +kernel
theorem dX1_addMultiple_34 : decode cX1_addMultiple 34 = .ok (.return_, 1) := by decide +kernel
theorem dX1_makeX_0 : decode cX1_makeX 0 = .ok (.aload_n 0, 1) := by decide +kernel
theorem dX1_makeX_1 : decode cX1_makeX 1 = .ok (.iconst 0, 1) := by decide +kernel
theorem dX1_makeX_2 : decode cX1_makeX 2 = .ok (.invokestatic 62, 3) := by decide +kernel
theorem dX1_makeX_5 : decode cX1_makeX 5 = .ok (.aload_n 0, 1) := by decide +kernel
theorem dX1_makeX_6 : decode cX1_makeX 6 = .ok (.iconst 1, 1) := by decide +kernel
theorem dX1_makeX_7 : decode cX1_makeX 7 = .ok (.iconst 1, 1) := by decide +kernel
theorem dX1_makeX_8 : decode cX1_makeX 8 = .ok (.iastore, 1) := by decide +kernel
theorem dX1_makeX_9 : decode cX1_makeX 9 = .ok (.return_, 1) := by decide +kernel
theorem dX1_act_0 : decode cX1_act 0 = .ok (.aload_n 3, 1) := by decide +kernel
theorem dX1_act_1 : decode cX1_act 1 = .ok (.iconst 0, 1) := by decide +kernel
theorem dX1_act_2 : decode cX1_act 2 = .ok (.invokestatic 62, 3) := by decide +kernel
theorem dX1_act_5 : decode cX1_act 5 = .ok (.iconst 2, 1) := by decide +kernel
theorem dX1_act_6 : decode cX1_act 6 = .ok (.istore 4, 2) := by decide +kernel
theorem dX1_act_8 : decode cX1_act 8 = .ok (.iload 4, 2) := by decide +kernel
theorem dX1_act_10 : decode cX1_act 10 = .ok (.iload_n 2, 1) := by decide +kernel
theorem dX1_act_11 : decode cX1_act 11 = .ok (.if_icmp .gt 68, 3) := by decide +kernel
theorem dX1_act_14 : decode cX1_act 14 = .ok (.lconst 0, 1) := by decide +kernel
theorem dX1_act_15 : decode cX1_act 15 = .ok (.lstore 5, 2) := by decide +kernel
theorem dX1_act_17 : decode cX1_act 17 = .ok (.iconst 2, 1) := by decide +kernel
theorem dX1_act_18 : decode cX1_act 18 = .ok (.istore 7, 2) := by decide +kernel
theorem dX1_act_20 : decode cX1_act 20 = .ok (.iload 7, 2) := by decide +kernel
theorem dX1_act_22 : decode cX1_act 22 = .ok (.iload 4, 2) := by decide +kernel
theorem dX1_act_24 : decode cX1_act 24 = .ok (.if_icmp .gt 38, 3) := by decide +kernel
theorem dX1_act_27 : decode cX1_act 27 = .ok (.iload 4, 2) := by decide +kernel
theorem dX1_act_29 : decode cX1_act 29 = .ok (.iload 7, 2) := by decide +kernel
theorem dX1_act_31 : decode cX1_act 31 = .ok (.isub, 1) := by decide +kernel
theorem dX1_act_32 : decode cX1_act 32 = .ok (.iconst 1, 1) := by decide +kernel
theorem dX1_act_33 : decode cX1_act 33 = .ok (.iadd, 1) := by decide +kernel
theorem dX1_act_34 : decode cX1_act 34 = .ok (.istore 8, 2) := by decide +kernel
theorem dX1_act_36 : decode cX1_act 36 = .ok (.lload 5, 2) := by decide +kernel
theorem dX1_act_38 : decode cX1_act 38 = .ok (.aload_n 0, 1) := by decide +kernel
theorem dX1_act_39 : decode cX1_act 39 = .ok (.iload 7, 2) := by decide +kernel
theorem dX1_act_41 : decode cX1_act 41 = .ok (.iaload, 1) := by decide +kernel
theorem dX1_act_42 : decode cX1_act 42 = .ok (.i2l, 1) := by decide +kernel
theorem dX1_act_43 : decode cX1_act 43 = .ok (.aload_n 1, 1) := by decide +kernel
theorem dX1_act_44 : decode cX1_act 44 = .ok (.iload 8, 2) := by decide +kernel
theorem dX1_act_46 : decode cX1_act 46 = .ok (.iaload, 1) := by decide +kernel
theorem dX1_act_47 : decode cX1_act 47 = .ok (.i2l, 1) := by decide +kernel
theorem dX1_act_48 : decode cX1_act 48 = .ok (.lmul, 1) := by decide +kernel
theorem dX1_act_49 : decode cX1_act 49 = .ok (.iload 8, 2) := by decide +kernel
theorem dX1_act_51 : decode cX1_act 51 = .ok (.i2l, 1) := by decide +kernel
theorem dX1_act_52 : decode cX1_act 52 = .ok (.lmul, 1) := by decide +kernel
theorem dX1_act_53 : decode cX1_act 53 = .ok (.ladd, 1) := by decide +kernel
theorem dX1_act_54 : decode cX1_act 54 = .ok (.lstore 5, 2) := by decide +kernel
theorem dX1_act_56 : decode cX1_act 56 = .ok (.iinc 7 1, 3) := by decide +kernel
theorem dX1_act_59 : decode cX1_act 59 = .ok (.goto (-39), 3) := by decide +kernel
theorem dX1_act_62 : decode cX1_act 62 = .ok (.aload_n 3, 1) := by decide +kernel
theorem dX1_act_63 : decode cX1_act 63 = .ok (.iload 4, 2) := by decide +kernel
theorem dX1_act_65 : decode cX1_act 65 = .ok (.lload 5, 2) := by decide +kernel
theorem dX1_act_67 : decode cX1_act 67 = .ok (.ldc2_w 54, 3) := by decide +kernel
theorem dX1_act_70 : decode cX1_act 70 = .ok (.lrem, 1) := by decide +kernel
theorem dX1_act_71 : decode cX1_act 71 = .ok (.l2i, 1) := by decide +kernel
theorem dX1_act_72 : decode cX1_act 72 = .ok (.iastore, 1) := by decide +kernel
theorem dX1_act_73 : decode cX1_act 73 = .ok (.iinc 4 1, 3) := by decide +kernel
theorem dX1_act_76 : decode cX1_act 76 = .ok (.goto (-68), 3) := by decide +kernel
theorem dX1_act_79 : decode cX1_act 79 = .ok (.return_, 1) := by decide +kernel
theorem dX1_multiply_0 : decode cX1_multiply 0 = .ok (.iconst 0, 1) := by decide +kernel
theorem dX1_multiply_1 : decode cX1_multiply 1 = .ok (.istore 4, 2) := by decide +kernel
theorem dX1_multiply_3 : decode cX1_multiply 3 = .ok (.iload 4, 2) := by decide +kernel
theorem dX1_multiply_5 : decode cX1_multiply 5 = .ok (.iload_n 2, 1) := by decide +kernel
theorem dX1_multiply_6 : decode cX1_multiply 6 = .ok (.if_icmp .gt 58, 3) := by decide +kernel
theorem dX1_multiply_9 : decode cX1_multiply 9 = .ok (.lconst 0, 1) := by decide +kernel
theorem dX1_multiply_10 : decode cX1_multiply 10 = .ok (.lstore 5, 2) := by decide +kernel
theorem dX1_multiply_12 : decode cX1_multiply 12 = .ok (.iconst 0, 1) := by decide +kernel
theorem dX1_multiply_13 : decode cX1_multiply 13 = .ok (.istore 7, 2) := by decide +kernel
theorem dX1_multiply_15 : decode cX1_multiply 15 = .ok (.iload 7, 2) := by decide +kernel
theorem dX1_multiply_17 : decode cX1_multiply 17 = .ok (.iload 4, 2) := by decide +kernel
theorem dX1_multiply_19 : decode cX1_multiply 19 = .ok (.if_icmp .gt 28, 3) := by decide +kernel
theorem dX1_multiply_22 : decode cX1_multiply 22 = .ok (.lload 5, 2) := by decide +kernel
theorem dX1_multiply_24 : decode cX1_multiply 24 = .ok (.aload_n 0, 1) := by decide +kernel
theorem dX1_multiply_25 : decode cX1_multiply 25 = .ok (.iload 7, 2) := by decide +kernel
theorem dX1_multiply_27 : decode cX1_multiply 27 = .ok (.iaload, 1) := by decide +kernel
theorem dX1_multiply_28 : decode cX1_multiply 28 = .ok (.i2l, 1) := by decide +kernel
theorem dX1_multiply_29 : decode cX1_multiply 29 = .ok (.aload_n 1, 1) := by decide +kernel
theorem dX1_multiply_30 : decode cX1_multiply 30 = .ok (.iload 4, 2) := by decide +kernel
theorem dX1_multiply_32 : decode cX1_multiply 32 = .ok (.iload 7, 2) := by decide +kernel
theorem dX1_multiply_34 : decode cX1_multiply 34 = .ok (.isub, 1) := by decide +kernel
theorem dX1_multiply_35 : decode cX1_multiply 35 = .ok (.iaload, 1) := by decide +kernel
theorem dX1_multiply_36 : decode cX1_multiply 36 = .ok (.i2l, 1) := by decide +kernel
theorem dX1_multiply_37 : decode cX1_multiply 37 = .ok (.lmul, 1) := by decide +kernel
theorem dX1_multiply_38 : decode cX1_multiply 38 = .ok (.ladd, 1) := by decide +kernel
theorem dX1_multiply_39 : decode cX1_multiply 39 = .ok (.lstore 5, 2) := by decide +kernel
theorem dX1_multiply_41 : decode cX1_multiply 41 = .ok (.iinc 7 1, 3) := by decide +kernel
theorem dX1_multiply_44 : decode cX1_multiply 44 = .ok (.goto (-29), 3) := by decide +kernel
theorem dX1_multiply_47 : decode cX1_multiply 47 = .ok (.aload_n 3, 1) := by decide +kernel
theorem dX1_multiply_48 : decode cX1_multiply 48 = .ok (.iload 4, 2) := by decide +kernel
theorem dX1_multiply_50 : decode cX1_multiply 50 = .ok (.lload 5, 2) := by decide +kernel
theorem dX1_multiply_52 : decode cX1_multiply 52 = .ok (.ldc2_w 54, 3) := by decide +kernel
theorem dX1_multiply_55 : decode cX1_multiply 55 = .ok (.lrem, 1) := by decide +kernel
theorem dX1_multiply_56 : decode cX1_multiply 56 = .ok (.l2i, 1) := by decide +kernel
theorem dX1_multiply_57 : decode cX1_multiply 57 = .ok (.iastore, 1) := by decide +kernel
theorem dX1_multiply_58 : decode cX1_multiply 58 = .ok (.iinc 4 1, 3) := by decide +kernel
theorem dX1_multiply_61 : decode cX1_multiply 61 = .ok (.goto (-58), 3) := by decide +kernel
theorem dX1_multiply_64 : decode cX1_multiply 64 = .ok (.return_, 1) := by decide +kernel
theorem dX1_takeBracket_0 : decode cX1_takeBracket 0 = .ok (.aload_n 1, 1) := by decide +kernel
theorem dX1_takeBracket_1 : decode cX1_takeBracket 1 = .ok (.aload_n 2, 1) := by decide +kernel
theorem dX1_takeBracket_2 : decode cX1_takeBracket 2 = .ok (.iload_n 3, 1) := by decide +kernel
theorem dX1_takeBracket_3 : decode cX1_takeBracket 3 = .ok (.aload 4, 2) := by decide +kernel
theorem dX1_takeBracket_5 : decode cX1_takeBracket 5 = .ok (.invokestatic 68, 3) := by decide +kernel
theorem dX1_takeBracket_8 : decode cX1_takeBracket 8 = .ok (.aload_n 2, 1) := by decide +kernel
theorem dX1_takeBracket_9 : decode cX1_takeBracket 9 = .ok (.aload_n 1, 1) := by decide +kernel
theorem dX1_takeBracket_10 : decode cX1_takeBracket 10 = .ok (.iload_n 3, 1) := by decide +kernel
theorem dX1_takeBracket_11 : decode cX1_takeBracket 11 = .ok (.aload_n 0, 1) := by decide +kernel
theorem dX1_takeBracket_12 : decode cX1_takeBracket 12 = .ok (.getfield 9, 3) := by decide +kernel
theorem dX1_takeBracket_15 : decode cX1_takeBracket 15 = .ok (.invokestatic 68, 3) := by decide +kernel
theorem dX1_takeBracket_18 : decode cX1_takeBracket 18 = .ok (.aload 4, 2) := by decide +kernel
theorem dX1_takeBracket_20 : decode cX1_takeBracket 20 = .ok (.aload_n 0, 1) := by decide +kernel
theorem dX1_takeBracket_21 : decode cX1_takeBracket 21 = .ok (.getfield 9, 3) := by decide +kernel
theorem dX1_takeBracket_24 : decode cX1_takeBracket 24 = .ok (.sipush 10006, 3) := by decide +kernel
theorem dX1_takeBracket_27 : decode cX1_takeBracket 27 = .ok (.invokestatic 72, 3) := by decide +kernel
theorem dX1_takeBracket_30 : decode cX1_takeBracket 30 = .ok (.return_, 1) := by decide +kernel
theorem dX1_exponential_0 : decode cX1_exponential 0 = .ok (.aload_n 3, 1) := by decide +kernel
theorem dX1_exponential_1 : decode cX1_exponential 1 = .ok (.invokestatic 76, 3) := by decide +kernel
theorem dX1_exponential_4 : decode cX1_exponential 4 = .ok (.aload_n 0, 1) := by decide +kernel
theorem dX1_exponential_5 : decode cX1_exponential 5 = .ok (.getfield 15, 3) := by decide +kernel
theorem dX1_exponential_8 : decode cX1_exponential 8 = .ok (.invokestatic 76, 3) := by decide +kernel
theorem dX1_exponential_11 : decode cX1_exponential 11 = .ok (.iconst 1, 1) := by decide +kernel
theorem dX1_exponential_12 : decode cX1_exponential 12 = .ok (.istore 4, 2) := by decide +kernel
theorem dX1_exponential_14 : decode cX1_exponential 14 = .ok (.iload 4, 2) := by decide +kernel
theorem dX1_exponential_16 : decode cX1_exponential 16 = .ok (.iload_n 2, 1) := by decide +kernel
theorem dX1_exponential_17 : decode cX1_exponential 17 = .ok (.if_icmp .ge 57, 3) := by decide +kernel
theorem dX1_exponential_20 : decode cX1_exponential 20 = .ok (.iload 4, 2) := by decide +kernel
theorem dX1_exponential_22 : decode cX1_exponential 22 = .ok (.getstatic 80, 3) := by decide +kernel
theorem dX1_exponential_25 : decode cX1_exponential 25 = .ok (.arraylength, 1) := by decide +kernel
theorem dX1_exponential_26 : decode cX1_exponential 26 = .ok (.if_icmp .ge 48, 3) := by decide +kernel
theorem dX1_exponential_29 : decode cX1_exponential 29 = .ok (.aload_n 1, 1) := by decide +kernel
theorem dX1_exponential_30 : decode cX1_exponential 30 = .ok (.aload_n 0, 1) := by decide +kernel
theorem dX1_exponential_31 : decode cX1_exponential 31 = .ok (.getfield 15, 3) := by decide +kernel
theorem dX1_exponential_34 : decode cX1_exponential 34 = .ok (.iload_n 2, 1) := by decide +kernel
theorem dX1_exponential_35 : decode cX1_exponential 35 = .ok (.aload_n 0, 1) := by decide +kernel
theorem dX1_exponential_36 : decode cX1_exponential 36 = .ok (.getfield 18, 3) := by decide +kernel
theorem dX1_exponential_39 : decode cX1_exponential 39 = .ok (.invokestatic 68, 3) := by decide +kernel
theorem dX1_exponential_42 : decode cX1_exponential 42 = .ok (.aload_n 0, 1) := by decide +kernel
theorem dX1_exponential_43 : decode cX1_exponential 43 = .ok (.getfield 18, 3) := by decide +kernel
theorem dX1_exponential_46 : decode cX1_exponential 46 = .ok (.getstatic 80, 3) := by decide +kernel
theorem dX1_exponential_49 : decode cX1_exponential 49 = .ok (.iload 4, 2) := by decide +kernel
theorem dX1_exponential_51 : decode cX1_exponential 51 = .ok (.iaload, 1) := by decide +kernel
theorem dX1_exponential_52 : decode cX1_exponential 52 = .ok (.aload_n 0, 1) := by decide +kernel
theorem dX1_exponential_53 : decode cX1_exponential 53 = .ok (.getfield 15, 3) := by decide +kernel
theorem dX1_exponential_56 : decode cX1_exponential 56 = .ok (.invokestatic 83, 3) := by decide +kernel
theorem dX1_exponential_59 : decode cX1_exponential 59 = .ok (.aload_n 3, 1) := by decide +kernel
theorem dX1_exponential_60 : decode cX1_exponential 60 = .ok (.aload_n 0, 1) := by decide +kernel
theorem dX1_exponential_61 : decode cX1_exponential 61 = .ok (.getfield 15, 3) := by decide +kernel
theorem dX1_exponential_64 : decode cX1_exponential 64 = .ok (.iconst 1, 1) := by decide +kernel
theorem dX1_exponential_65 : decode cX1_exponential 65 = .ok (.invokestatic 72, 3) := by decide +kernel
theorem dX1_exponential_68 : decode cX1_exponential 68 = .ok (.iinc 4 1, 3) := by decide +kernel
theorem dX1_exponential_71 : decode cX1_exponential 71 = .ok (.goto (-57), 3) := by decide +kernel
theorem dX1_exponential_74 : decode cX1_exponential 74 = .ok (.return_, 1) := by decide +kernel
theorem dX1_substitute_0 : decode cX1_substitute 0 = .ok (.aload 4, 2) := by decide +kernel
theorem dX1_substitute_2 : decode cX1_substitute 2 = .ok (.iconst 0, 1) := by decide +kernel
theorem dX1_substitute_3 : decode cX1_substitute 3 = .ok (.invokestatic 62, 3) := by decide +kernel
theorem dX1_substitute_6 : decode cX1_substitute 6 = .ok (.iload_n 3, 1) := by decide +kernel
theorem dX1_substitute_7 : decode cX1_substitute 7 = .ok (.istore 5, 2) := by decide +kernel
theorem dX1_substitute_9 : decode cX1_substitute 9 = .ok (.iload 5, 2) := by decide +kernel
theorem dX1_substitute_11 : decode cX1_substitute 11 = .ok (.ifCond .lt 55, 3) := by decide +kernel
theorem dX1_substitute_14 : decode cX1_substitute 14 = .ok (.aload 4, 2) := by decide +kernel
theorem dX1_substitute_16 : decode cX1_substitute 16 = .ok (.aload_n 1, 1) := by decide +kernel
theorem dX1_substitute_17 : decode cX1_substitute 17 = .ok (.iload_n 3, 1) := by decide +kernel
theorem dX1_substitute_18 : decode cX1_substitute 18 = .ok (.aload_n 0, 1) := by decide +kernel
theorem dX1_substitute_19 : decode cX1_substitute 19 = .ok (.getfield 21, 3) := by decide +kernel
theorem dX1_substitute_22 : decode cX1_substitute 22 = .ok (.invokestatic 87, 3) := by decide +kernel
theorem dX1_substitute_25 : decode cX1_substitute 25 = .ok (.aload_n 0, 1) := by decide +kernel
theorem dX1_substitute_26 : decode cX1_substitute 26 = .ok (.getfield 21, 3) := by decide +kernel
theorem dX1_substitute_29 : decode cX1_substitute 29 = .ok (.iconst 0, 1) := by decide +kernel
theorem dX1_substitute_30 : decode cX1_substitute 30 = .ok (.aload_n 0, 1) := by decide +kernel
theorem dX1_substitute_31 : decode cX1_substitute 31 = .ok (.getfield 21, 3) := by decide +kernel
theorem dX1_substitute_34 : decode cX1_substitute 34 = .ok (.iconst 0, 1) := by decide +kernel
theorem dX1_substitute_35 : decode cX1_substitute 35 = .ok (.iaload, 1) := by decide +kernel
theorem dX1_substitute_36 : decode cX1_substitute 36 = .ok (.aload_n 2, 1) := by decide +kernel
theorem dX1_substitute_37 : decode cX1_substitute 37 = .ok (.iload 5, 2) := by decide +kernel
theorem dX1_substitute_39 : decode cX1_substitute 39 = .ok (.iaload, 1) := by decide +kernel
theorem dX1_substitute_40 : decode cX1_substitute 40 = .ok (.iadd, 1) := by decide +kernel
theorem dX1_substitute_41 : decode cX1_substitute 41 = .ok (.sipush 10007, 3) := by decide +kernel
theorem dX1_substitute_44 : decode cX1_substitute 44 = .ok (.irem, 1) := by decide +kernel
theorem dX1_substitute_45 : decode cX1_substitute 45 = .ok (.iastore, 1) := by decide +kernel
theorem dX1_substitute_46 : decode cX1_substitute 46 = .ok (.aload_n 0, 1) := by decide +kernel
theorem dX1_substitute_47 : decode cX1_substitute 47 = .ok (.getfield 21, 3) := by decide +kernel
theorem dX1_substitute_50 : decode cX1_substitute 50 = .ok (.iconst 0, 1) := by decide +kernel
theorem dX1_substitute_51 : decode cX1_substitute 51 = .ok (.aload 4, 2) := by decide +kernel
theorem dX1_substitute_53 : decode cX1_substitute 53 = .ok (.iconst 0, 1) := by decide +kernel
theorem dX1_substitute_54 : decode cX1_substitute 54 = .ok (.iload_n 3, 1) := by decide +kernel
theorem dX1_substitute_55 : decode cX1_substitute 55 = .ok (.iconst 1, 1) := by decide +kernel
theorem dX1_substitute_56 : decode cX1_substitute 56 = .ok (.iadd, 1) := by decide +kernel
theorem dX1_substitute_57 : decode cX1_substitute 57 = .ok (.invokestatic 90, 3) := by decide +kernel
theorem dX1_substitute_60 : decode cX1_substitute 60 = .ok (.iinc 5 (-1), 3) := by decide +kernel
theorem dX1_substitute_63 : decode cX1_substitute 63 = .ok (.goto (-54), 3) := by decide +kernel
theorem dX1_substitute_66 : decode cX1_substitute 66 = .ok (.return_, 1) := by decide +kernel
theorem dX1_inverse_0 : decode cX1_inverse 0 = .ok (.aload_n 3, 1) := by decide +kernel
theorem dX1_inverse_1 : decode cX1_inverse 1 = .ok (.invokestatic 76, 3) := by decide +kernel
theorem dX1_inverse_4 : decode cX1_inverse 4 = .ok (.iconst 2, 1) := by decide +kernel
theorem dX1_inverse_5 : decode cX1_inverse 5 = .ok (.istore 4, 2) := by decide +kernel
theorem dX1_inverse_7 : decode cX1_inverse 7 = .ok (.iload 4, 2) := by decide +kernel
theorem dX1_inverse_9 : decode cX1_inverse 9 = .ok (.iload_n 2, 1) := by decide +kernel
theorem dX1_inverse_10 : decode cX1_inverse 10 = .ok (.if_icmp .gt 40, 3) := by decide +kernel
theorem dX1_inverse_13 : decode cX1_inverse 13 = .ok (.aload_n 0, 1) := by decide +kernel
theorem dX1_inverse_14 : decode cX1_inverse 14 = .ok (.aload_n 1, 1) := by decide +kernel
theorem dX1_inverse_15 : decode cX1_inverse 15 = .ok (.aload_n 3, 1) := by decide +kernel
theorem dX1_inverse_16 : decode cX1_inverse 16 = .ok (.iload 4, 2) := by decide +kernel
theorem dX1_inverse_18 : decode cX1_inverse 18 = .ok (.aload_n 0, 1) := by decide +kernel
theorem dX1_inverse_19 : decode cX1_inverse 19 = .ok (.getfield 24, 3) := by decide +kernel
theorem dX1_inverse_22 : decode cX1_inverse 22 = .ok (.invokevirtual 96, 3) := by decide +kernel
theorem dX1_inverse_25 : decode cX1_inverse 25 = .ok (.aload_n 3, 1) := by decide +kernel
theorem dX1_inverse_26 : decode cX1_inverse 26 = .ok (.iload 4, 2) := by decide +kernel
theorem dX1_inverse_28 : decode cX1_inverse 28 = .ok (.sipush 10007, 3) := by decide +kernel
theorem dX1_inverse_31 : decode cX1_inverse 31 = .ok (.aload_n 0, 1) := by decide +kernel
theorem dX1_inverse_32 : decode cX1_inverse 32 = .ok (.getfield 24, 3) := by decide +kernel
theorem dX1_inverse_35 : decode cX1_inverse 35 = .ok (.iload 4, 2) := by decide +kernel
theorem dX1_inverse_37 : decode cX1_inverse 37 = .ok (.iaload, 1) := by decide +kernel
theorem dX1_inverse_38 : decode cX1_inverse 38 = .ok (.isub, 1) := by decide +kernel
theorem dX1_inverse_39 : decode cX1_inverse 39 = .ok (.sipush 10007, 3) := by decide +kernel
theorem dX1_inverse_42 : decode cX1_inverse 42 = .ok (.irem, 1) := by decide +kernel
theorem dX1_inverse_43 : decode cX1_inverse 43 = .ok (.iastore, 1) := by decide +kernel
theorem dX1_inverse_44 : decode cX1_inverse 44 = .ok (.iinc 4 1, 3) := by decide +kernel
theorem dX1_inverse_47 : decode cX1_inverse 47 = .ok (.goto (-40), 3) := by decide +kernel
theorem dX1_inverse_50 : decode cX1_inverse 50 = .ok (.return_, 1) := by decide +kernel
theorem dX1_logarithm_0 : decode cX1_logarithm 0 = .ok (.aload_n 3, 1) := by decide +kernel
theorem dX1_logarithm_1 : decode cX1_logarithm 1 = .ok (.iconst 0, 1) := by decide +kernel
theorem dX1_logarithm_2 : decode cX1_logarithm 2 = .ok (.invokestatic 62, 3) := by decide +kernel
theorem dX1_logarithm_5 : decode cX1_logarithm 5 = .ok (.iconst 2, 1) := by decide +kernel
theorem dX1_logarithm_6 : decode cX1_logarithm 6 = .ok (.istore 4, 2) := by decide +kernel
theorem dX1_logarithm_8 : decode cX1_logarithm 8 = .ok (.iload 4, 2) := by decide +kernel
theorem dX1_logarithm_10 : decode cX1_logarithm 10 = .ok (.iload_n 2, 1) := by decide +kernel
theorem dX1_logarithm_11 : decode cX1_logarithm 11 = .ok (.if_icmp .gt 44, 3) := by decide +kernel
theorem dX1_logarithm_14 : decode cX1_logarithm 14 = .ok (.aload_n 0, 1) := by decide +kernel
theorem dX1_logarithm_15 : decode cX1_logarithm 15 = .ok (.aload_n 3, 1) := by decide +kernel
theorem dX1_logarithm_16 : decode cX1_logarithm 16 = .ok (.iload 4, 2) := by decide +kernel
theorem dX1_logarithm_18 : decode cX1_logarithm 18 = .ok (.aload_n 0, 1) := by decide +kernel
theorem dX1_logarithm_19 : decode cX1_logarithm 19 = .ok (.getfield 24, 3) := by decide +kernel
theorem dX1_logarithm_22 : decode cX1_logarithm 22 = .ok (.invokevirtual 99, 3) := by decide +kernel
theorem dX1_logarithm_25 : decode cX1_logarithm 25 = .ok (.aload_n 3, 1) := by decide +kernel
theorem dX1_logarithm_26 : decode cX1_logarithm 26 = .ok (.iload 4, 2) := by decide +kernel
theorem dX1_logarithm_28 : decode cX1_logarithm 28 = .ok (.aload_n 1, 1) := by decide +kernel
theorem dX1_logarithm_29 : decode cX1_logarithm 29 = .ok (.iload 4, 2) := by decide +kernel
theorem dX1_logarithm_31 : decode cX1_logarithm 31 = .ok (.iaload, 1) := by decide +kernel
theorem dX1_logarithm_32 : decode cX1_logarithm 32 = .ok (.sipush 10007, 3) := by decide +kernel
theorem dX1_logarithm_35 : decode cX1_logarithm 35 = .ok (.iadd, 1) := by decide +kernel
theorem dX1_logarithm_36 : decode cX1_logarithm 36 = .ok (.aload_n 0, 1) := by decide +kernel
theorem dX1_logarithm_37 : decode cX1_logarithm 37 = .ok (.getfield 24, 3) := by decide +kernel
theorem dX1_logarithm_40 : decode cX1_logarithm 40 = .ok (.iload 4, 2) := by decide +kernel
theorem dX1_logarithm_42 : decode cX1_logarithm 42 = .ok (.iaload, 1) := by decide +kernel
theorem dX1_logarithm_43 : decode cX1_logarithm 43 = .ok (.isub, 1) := by decide +kernel
theorem dX1_logarithm_44 : decode cX1_logarithm 44 = .ok (.sipush 10007, 3) := by decide +kernel
theorem dX1_logarithm_47 : decode cX1_logarithm 47 = .ok (.irem, 1) := by decide +kernel
theorem dX1_logarithm_48 : decode cX1_logarithm 48 = .ok (.iastore, 1) := by decide +kernel
theorem dX1_logarithm_49 : decode cX1_logarithm 49 = .ok (.iinc 4 1, 3) := by decide +kernel
theorem dX1_logarithm_52 : decode cX1_logarithm 52 = .ok (.goto (-44), 3) := by decide +kernel
theorem dX1_logarithm_55 : decode cX1_logarithm 55 = .ok (.return_, 1) := by decide +kernel
theorem dX1_repeatFlow_0 : decode cX1_repeatFlow 0 = .ok (.aload_n 0, 1) := by decide +kernel
theorem dX1_repeatFlow_1 : decode cX1_repeatFlow 1 = .ok (.aload_n 1, 1) := by decide +kernel
theorem dX1_repeatFlow_2 : decode cX1_repeatFlow 2 = .ok (.iload_n 3, 1) := by decide +kernel
theorem dX1_repeatFlow_3 : decode cX1_repeatFlow 3 = .ok (.aload_n 0, 1) := by decide +kernel
theorem dX1_repeatFlow_4 : decode cX1_repeatFlow 4 = .ok (.getfield 33, 3) := by decide +kernel
theorem dX1_repeatFlow_7 : decode cX1_repeatFlow 7 = .ok (.invokevirtual 102, 3) := by decide +kernel
theorem dX1_repeatFlow_10 : decode cX1_repeatFlow 10 = .ok (.aload_n 0, 1) := by decide +kernel
theorem dX1_repeatFlow_11 : decode cX1_repeatFlow 11 = .ok (.getfield 33, 3) := by decide +kernel
theorem dX1_repeatFlow_14 : decode cX1_repeatFlow 14 = .ok (.iload_n 2, 1) := by decide +kernel
theorem dX1_repeatFlow_15 : decode cX1_repeatFlow 15 = .ok (.aload_n 0, 1) := by decide +kernel
theorem dX1_repeatFlow_16 : decode cX1_repeatFlow 16 = .ok (.getfield 33, 3) := by decide +kernel
theorem dX1_repeatFlow_19 : decode cX1_repeatFlow 19 = .ok (.invokestatic 83, 3) := by decide +kernel
theorem dX1_repeatFlow_22 : decode cX1_repeatFlow 22 = .ok (.aload_n 0, 1) := by decide +kernel
theorem dX1_repeatFlow_23 : decode cX1_repeatFlow 23 = .ok (.aload_n 0, 1) := by decide +kernel
theorem dX1_repeatFlow_24 : decode cX1_repeatFlow 24 = .ok (.getfield 33, 3) := by decide +kernel
theorem dX1_repeatFlow_27 : decode cX1_repeatFlow 27 = .ok (.iload_n 3, 1) := by decide +kernel
theorem dX1_repeatFlow_28 : decode cX1_repeatFlow 28 = .ok (.aload 4, 2) := by decide +kernel
theorem dX1_repeatFlow_30 : decode cX1_repeatFlow 30 = .ok (.invokevirtual 99, 3) := by decide +kernel
theorem dX1_repeatFlow_33 : decode cX1_repeatFlow 33 = .ok (.return_, 1) := by decide +kernel
theorem dX1_pushField_0 : decode cX1_pushField 0 = .ok (.aload_n 0, 1) := by decide +kernel
theorem dX1_pushField_1 : decode cX1_pushField 1 = .ok (.aload_n 1, 1) := by decide +kernel
theorem dX1_pushField_2 : decode cX1_pushField 2 = .ok (.iload_n 3, 1) := by decide +kernel
theorem dX1_pushField_3 : decode cX1_pushField 3 = .ok (.aload_n 0, 1) := by decide +kernel
theorem dX1_pushField_4 : decode cX1_pushField 4 = .ok (.getfield 30, 3) := by decide +kernel
theorem dX1_pushField_7 : decode cX1_pushField 7 = .ok (.invokevirtual 105, 3) := by decide +kernel
theorem dX1_pushField_10 : decode cX1_pushField 10 = .ok (.aload_n 2, 1) := by decide +kernel
theorem dX1_pushField_11 : decode cX1_pushField 11 = .ok (.aload_n 1, 1) := by decide +kernel
theorem dX1_pushField_12 : decode cX1_pushField 12 = .ok (.iload_n 3, 1) := by decide +kernel
theorem dX1_pushField_13 : decode cX1_pushField 13 = .ok (.aload_n 0, 1) := by decide +kernel
theorem dX1_pushField_14 : decode cX1_pushField 14 = .ok (.getfield 27, 3) := by decide +kernel
theorem dX1_pushField_17 : decode cX1_pushField 17 = .ok (.invokestatic 68, 3) := by decide +kernel
theorem dX1_pushField_20 : decode cX1_pushField 20 = .ok (.aload_n 0, 1) := by decide +kernel
theorem dX1_pushField_21 : decode cX1_pushField 21 = .ok (.aload_n 0, 1) := by decide +kernel
theorem dX1_pushField_22 : decode cX1_pushField 22 = .ok (.getfield 30, 3) := by decide +kernel
theorem dX1_pushField_25 : decode cX1_pushField 25 = .ok (.aload_n 0, 1) := by decide +kernel
theorem dX1_pushField_26 : decode cX1_pushField 26 = .ok (.getfield 27, 3) := by decide +kernel
theorem dX1_pushField_29 : decode cX1_pushField 29 = .ok (.iload_n 3, 1) := by decide +kernel
theorem dX1_pushField_30 : decode cX1_pushField 30 = .ok (.aload 4, 2) := by decide +kernel
theorem dX1_pushField_32 : decode cX1_pushField 32 = .ok (.invokevirtual 96, 3) := by decide +kernel
theorem dX1_pushField_35 : decode cX1_pushField 35 = .ok (.return_, 1) := by decide +kernel
theorem dX1_secondWay_0 : decode cX1_secondWay 0 = .ok (.aload_n 1, 1) := by decide +kernel
theorem dX1_secondWay_1 : decode cX1_secondWay 1 = .ok (.aload_n 2, 1) := by decide +kernel
theorem dX1_secondWay_2 : decode cX1_secondWay 2 = .ok (.aload 5, 2) := by decide +kernel
theorem dX1_secondWay_4 : decode cX1_secondWay 4 = .ok (.invokestatic 108, 3) := by decide +kernel
theorem dX1_secondWay_7 : decode cX1_secondWay 7 = .ok (.iload_n 3, 1) := by decide +kernel
theorem dX1_secondWay_8 : decode cX1_secondWay 8 = .ok (.iconst 3, 1) := by decide +kernel
theorem dX1_secondWay_9 : decode cX1_secondWay 9 = .ok (.if_icmp .ge 4, 3) := by decide +kernel
theorem dX1_secondWay_12 : decode cX1_secondWay 12 = .ok (.return_, 1) := by decide +kernel
theorem dX1_secondWay_13 : decode cX1_secondWay 13 = .ok (.aload_n 0, 1) := by decide +kernel
theorem dX1_secondWay_14 : decode cX1_secondWay 14 = .ok (.aload_n 1, 1) := by decide +kernel
theorem dX1_secondWay_15 : decode cX1_secondWay 15 = .ok (.aload_n 2, 1) := by decide +kernel
theorem dX1_secondWay_16 : decode cX1_secondWay 16 = .ok (.iload 4, 2) := by decide +kernel
theorem dX1_secondWay_18 : decode cX1_secondWay 18 = .ok (.aload_n 0, 1) := by decide +kernel
theorem dX1_secondWay_19 : decode cX1_secondWay 19 = .ok (.getfield 36, 3) := by decide +kernel
theorem dX1_secondWay_22 : decode cX1_secondWay 22 = .ok (.invokevirtual 112, 3) := by decide +kernel
theorem dX1_secondWay_25 : decode cX1_secondWay 25 = .ok (.aload 5, 2) := by decide +kernel
theorem dX1_secondWay_27 : decode cX1_secondWay 27 = .ok (.aload_n 0, 1) := by decide +kernel
theorem dX1_secondWay_28 : decode cX1_secondWay 28 = .ok (.getfield 36, 3) := by decide +kernel
theorem dX1_secondWay_31 : decode cX1_secondWay 31 = .ok (.sipush 5004, 3) := by decide +kernel
theorem dX1_secondWay_34 : decode cX1_secondWay 34 = .ok (.invokestatic 72, 3) := by decide +kernel
theorem dX1_secondWay_37 : decode cX1_secondWay 37 = .ok (.iload_n 3, 1) := by decide +kernel
theorem dX1_secondWay_38 : decode cX1_secondWay 38 = .ok (.iconst 4, 1) := by decide +kernel
theorem dX1_secondWay_39 : decode cX1_secondWay 39 = .ok (.if_icmp .ge 4, 3) := by decide +kernel
theorem dX1_secondWay_42 : decode cX1_secondWay 42 = .ok (.return_, 1) := by decide +kernel
theorem dX1_secondWay_43 : decode cX1_secondWay 43 = .ok (.aload_n 0, 1) := by decide +kernel
theorem dX1_secondWay_44 : decode cX1_secondWay 44 = .ok (.aload_n 1, 1) := by decide +kernel
theorem dX1_secondWay_45 : decode cX1_secondWay 45 = .ok (.aload_n 0, 1) := by decide +kernel
theorem dX1_secondWay_46 : decode cX1_secondWay 46 = .ok (.getfield 36, 3) := by decide +kernel
theorem dX1_secondWay_49 : decode cX1_secondWay 49 = .ok (.iload 4, 2) := by decide +kernel
theorem dX1_secondWay_51 : decode cX1_secondWay 51 = .ok (.aload_n 0, 1) := by decide +kernel
theorem dX1_secondWay_52 : decode cX1_secondWay 52 = .ok (.getfield 39, 3) := by decide +kernel
theorem dX1_secondWay_55 : decode cX1_secondWay 55 = .ok (.invokevirtual 112, 3) := by decide +kernel
theorem dX1_secondWay_58 : decode cX1_secondWay 58 = .ok (.aload_n 0, 1) := by decide +kernel
theorem dX1_secondWay_59 : decode cX1_secondWay 59 = .ok (.aload_n 2, 1) := by decide +kernel
theorem dX1_secondWay_60 : decode cX1_secondWay 60 = .ok (.aload_n 0, 1) := by decide +kernel
theorem dX1_secondWay_61 : decode cX1_secondWay 61 = .ok (.getfield 36, 3) := by decide +kernel
theorem dX1_secondWay_64 : decode cX1_secondWay 64 = .ok (.iload 4, 2) := by decide +kernel
theorem dX1_secondWay_66 : decode cX1_secondWay 66 = .ok (.aload_n 0, 1) := by decide +kernel
theorem dX1_secondWay_67 : decode cX1_secondWay 67 = .ok (.getfield 42, 3) := by decide +kernel
theorem dX1_secondWay_70 : decode cX1_secondWay 70 = .ok (.invokevirtual 112, 3) := by decide +kernel
theorem dX1_secondWay_73 : decode cX1_secondWay 73 = .ok (.aload 5, 2) := by decide +kernel
theorem dX1_secondWay_75 : decode cX1_secondWay 75 = .ok (.aload_n 0, 1) := by decide +kernel
theorem dX1_secondWay_76 : decode cX1_secondWay 76 = .ok (.getfield 39, 3) := by decide +kernel
theorem dX1_secondWay_79 : decode cX1_secondWay 79 = .ok (.sipush 834, 3) := by decide +kernel
theorem dX1_secondWay_82 : decode cX1_secondWay 82 = .ok (.invokestatic 72, 3) := by decide +kernel
theorem dX1_secondWay_85 : decode cX1_secondWay 85 = .ok (.aload 5, 2) := by decide +kernel
theorem dX1_secondWay_87 : decode cX1_secondWay 87 = .ok (.aload_n 0, 1) := by decide +kernel
theorem dX1_secondWay_88 : decode cX1_secondWay 88 = .ok (.getfield 42, 3) := by decide +kernel
theorem dX1_secondWay_91 : decode cX1_secondWay 91 = .ok (.sipush 9173, 3) := by decide +kernel
theorem dX1_secondWay_94 : decode cX1_secondWay 94 = .ok (.invokestatic 72, 3) := by decide +kernel
theorem dX1_secondWay_97 : decode cX1_secondWay 97 = .ok (.iload_n 3, 1) := by decide +kernel
theorem dX1_secondWay_98 : decode cX1_secondWay 98 = .ok (.iconst 5, 1) := by decide +kernel
theorem dX1_secondWay_99 : decode cX1_secondWay 99 = .ok (.if_icmp .ge 4, 3) := by decide +kernel
theorem dX1_secondWay_102 : decode cX1_secondWay 102 = .ok (.return_, 1) := by decide +kernel
theorem dX1_secondWay_103 : decode cX1_secondWay 103 = .ok (.aload_n 0, 1) := by decide +kernel
theorem dX1_secondWay_104 : decode cX1_secondWay 104 = .ok (.aload_n 2, 1) := by decide +kernel
theorem dX1_secondWay_105 : decode cX1_secondWay 105 = .ok (.aload_n 0, 1) := by decide +kernel
theorem dX1_secondWay_106 : decode cX1_secondWay 106 = .ok (.getfield 39, 3) := by decide +kernel
theorem dX1_secondWay_109 : decode cX1_secondWay 109 = .ok (.iload 4, 2) := by decide +kernel
theorem dX1_secondWay_111 : decode cX1_secondWay 111 = .ok (.aload_n 0, 1) := by decide +kernel
theorem dX1_secondWay_112 : decode cX1_secondWay 112 = .ok (.getfield 42, 3) := by decide +kernel
theorem dX1_secondWay_115 : decode cX1_secondWay 115 = .ok (.invokevirtual 112, 3) := by decide +kernel
theorem dX1_secondWay_118 : decode cX1_secondWay 118 = .ok (.aload 5, 2) := by decide +kernel
theorem dX1_secondWay_120 : decode cX1_secondWay 120 = .ok (.aload_n 0, 1) := by decide +kernel
theorem dX1_secondWay_121 : decode cX1_secondWay 121 = .ok (.getfield 42, 3) := by decide +kernel
theorem dX1_secondWay_124 : decode cX1_secondWay 124 = .ok (.sipush 9590, 3) := by decide +kernel
theorem dX1_secondWay_127 : decode cX1_secondWay 127 = .ok (.invokestatic 72, 3) := by decide +kernel
theorem dX1_secondWay_130 : decode cX1_secondWay 130 = .ok (.return_, 1) := by decide +kernel
theorem dX2_init_0 : decode cX2_init 0 = .ok (.aload_n 0, 1) := by decide +kernel
theorem dX2_init_1 : decode cX2_init 1 = .ok (.invokespecial 3, 3) := by decide +kernel
theorem dX2_init_4 : decode cX2_init 4 = .ok (.aload_n 0, 1) := by decide +kernel
theorem dX2_init_5 : decode cX2_init 5 = .ok (.iconst 5, 1) := by decide +kernel
theorem dX2_init_6 : decode cX2_init 6 = .ok (.putfield 9, 3) := by decide +kernel
theorem dX2_init_9 : decode cX2_init 9 = .ok (.aload_n 0, 1) := by decide +kernel
theorem dX2_init_10 : decode cX2_init 10 = .ok (.bipush 6, 2) := by decide +kernel
theorem dX2_init_12 : decode cX2_init 12 = .ok (.bipush 7, 2) := by decide +kernel
theorem dX2_init_14 : decode cX2_init 14 = .ok (.multianewarray 15 2, 4) := by decide +kernel
theorem dX2_init_18 : decode cX2_init 18 = .ok (.putfield 17, 3) := by decide +kernel
theorem dX2_init_21 : decode cX2_init 21 = .ok (.aload_n 0, 1) := by decide +kernel
theorem dX2_init_22 : decode cX2_init 22 = .ok (.bipush 6, 2) := by decide +kernel
theorem dX2_init_24 : decode cX2_init 24 = .ok (.bipush 7, 2) := by decide +kernel
theorem dX2_init_26 : decode cX2_init 26 = .ok (.multianewarray 15 2, 4) := by decide +kernel
theorem dX2_init_30 : decode cX2_init 30 = .ok (.putfield 20, 3) := by decide +kernel
theorem dX2_init_33 : decode cX2_init 33 = .ok (.iconst 0, 1) := by decide +kernel
theorem dX2_init_34 : decode cX2_init 34 = .ok (.istore_n 1, 1) := by decide +kernel
theorem dX2_init_35 : decode cX2_init 35 = .ok (.iload_n 1, 1) := by decide +kernel
theorem dX2_init_36 : decode cX2_init 36 = .ok (.bipush 6, 2) := by decide +kernel
theorem dX2_init_38 : decode cX2_init 38 = .ok (.if_icmp .ge 18, 3) := by decide +kernel
theorem dX2_init_41 : decode cX2_init 41 = .ok (.aload_n 0, 1) := by decide +kernel
theorem dX2_init_42 : decode cX2_init 42 = .ok (.getfield 20, 3) := by decide +kernel
theorem dX2_init_45 : decode cX2_init 45 = .ok (.iload_n 1, 1) := by decide +kernel
theorem dX2_init_46 : decode cX2_init 46 = .ok (.aaload, 1) := by decide +kernel
theorem dX2_init_47 : decode cX2_init 47 = .ok (.iconst 1, 1) := by decide +kernel
theorem dX2_init_48 : decode cX2_init 48 = .ok (.iconst 1, 1) := by decide +kernel
theorem dX2_init_49 : decode cX2_init 49 = .ok (.iastore, 1) := by decide +kernel
theorem dX2_init_50 : decode cX2_init 50 = .ok (.iinc 1 1, 3) := by decide +kernel
theorem dX2_init_53 : decode cX2_init 53 = .ok (.goto (-18), 3) := by decide +kernel
theorem dX2_init_56 : decode cX2_init 56 = .ok (.return_, 1) := by decide +kernel
theorem dX2_copyFrom_0 : decode cX2_copyFrom 0 = .ok (.aload_n 0, 1) := by decide +kernel
theorem dX2_copyFrom_1 : decode cX2_copyFrom 1 = .ok (.aload_n 1, 1) := by decide +kernel
theorem dX2_copyFrom_2 : decode cX2_copyFrom 2 = .ok (.getfield 9, 3) := by decide +kernel
theorem dX2_copyFrom_5 : decode cX2_copyFrom 5 = .ok (.putfield 9, 3) := by decide +kernel
theorem dX2_copyFrom_8 : decode cX2_copyFrom 8 = .ok (.iconst 0, 1) := by decide +kernel
theorem dX2_copyFrom_9 : decode cX2_copyFrom 9 = .ok (.istore_n 2, 1) := by decide +kernel
theorem dX2_copyFrom_10 : decode cX2_copyFrom 10 = .ok (.iload_n 2, 1) := by decide +kernel
theorem dX2_copyFrom_11 : decode cX2_copyFrom 11 = .ok (.bipush 6, 2) := by decide +kernel
theorem dX2_copyFrom_13 : decode cX2_copyFrom 13 = .ok (.if_icmp .ge 47, 3) := by decide +kernel
theorem dX2_copyFrom_16 : decode cX2_copyFrom 16 = .ok (.aload_n 1, 1) := by decide +kernel
theorem dX2_copyFrom_17 : decode cX2_copyFrom 17 = .ok (.getfield 17, 3) := by decide +kernel
theorem dX2_copyFrom_20 : decode cX2_copyFrom 20 = .ok (.iload_n 2, 1) := by decide +kernel
theorem dX2_copyFrom_21 : decode cX2_copyFrom 21 = .ok (.aaload, 1) := by decide +kernel
theorem dX2_copyFrom_22 : decode cX2_copyFrom 22 = .ok (.iconst 0, 1) := by decide +kernel
theorem dX2_copyFrom_23 : decode cX2_copyFrom 23 = .ok (.aload_n 0, 1) := by decide +kernel
theorem dX2_copyFrom_24 : decode cX2_copyFrom 24 = .ok (.getfield 17, 3) := by decide +kernel
theorem dX2_copyFrom_27 : decode cX2_copyFrom 27 = .ok (.iload_n 2, 1) := by decide +kernel
theorem dX2_copyFrom_28 : decode cX2_copyFrom 28 = .ok (.aaload, 1) := by decide +kernel
theorem dX2_copyFrom_29 : decode cX2_copyFrom 29 = .ok (.iconst 0, 1) := by decide +kernel
theorem dX2_copyFrom_30 : decode cX2_copyFrom 30 = .ok (.bipush 7, 2) := by decide +kernel
theorem dX2_copyFrom_32 : decode cX2_copyFrom 32 = .ok (.invokestatic 23, 3) := by decide +kernel
theorem dX2_copyFrom_35 : decode cX2_copyFrom 35 = .ok (.aload_n 1, 1) := by decide +kernel
theorem dX2_copyFrom_36 : decode cX2_copyFrom 36 = .ok (.getfield 20, 3) := by decide +kernel
theorem dX2_copyFrom_39 : decode cX2_copyFrom 39 = .ok (.iload_n 2, 1) := by decide +kernel
theorem dX2_copyFrom_40 : decode cX2_copyFrom 40 = .ok (.aaload, 1) := by decide +kernel
theorem dX2_copyFrom_41 : decode cX2_copyFrom 41 = .ok (.iconst 0, 1) := by decide +kernel
theorem dX2_copyFrom_42 : decode cX2_copyFrom 42 = .ok (.aload_n 0, 1) := by decide +kernel
theorem dX2_copyFrom_43 : decode cX2_copyFrom 43 = .ok (.getfield 20, 3) := by decide +kernel
theorem dX2_copyFrom_46 : decode cX2_copyFrom 46 = .ok (.iload_n 2, 1) := by decide +kernel
theorem dX2_copyFrom_47 : decode cX2_copyFrom 47 = .ok (.aaload, 1) := by decide +kernel
theorem dX2_copyFrom_48 : decode cX2_copyFrom 48 = .ok (.iconst 0, 1) := by decide +kernel
theorem dX2_copyFrom_49 : decode cX2_copyFrom 49 = .ok (.bipush 7, 2) := by decide +kernel
theorem dX2_copyFrom_51 : decode cX2_copyFrom 51 = .ok (.invokestatic 23, 3) := by decide +kernel
theorem dX2_copyFrom_54 : decode cX2_copyFrom 54 = .ok (.iinc 2 1, 3) := by decide +kernel
theorem dX2_copyFrom_57 : decode cX2_copyFrom 57 = .ok (.goto (-47), 3) := by decide +kernel
theorem dX2_copyFrom_60 : decode cX2_copyFrom 60 = .ok (.return_, 1) := by decide +kernel
theorem dX2_cutAt_0 : decode cX2_cutAt 0 = .ok (.aload_n 0, 1) := by decide +kernel
theorem dX2_cutAt_1 : decode cX2_cutAt 1 = .ok (.iload_n 1, 1) := by decide +kernel
theorem dX2_cutAt_2 : decode cX2_cutAt 2 = .ok (.putfield 9, 3) := by decide +kernel
theorem dX2_cutAt_5 : decode cX2_cutAt 5 = .ok (.iconst 0, 1) := by decide +kernel
theorem dX2_cutAt_6 : decode cX2_cutAt 6 = .ok (.istore_n 2, 1) := by decide +kernel
theorem dX2_cutAt_7 : decode cX2_cutAt 7 = .ok (.iload_n 2, 1) := by decide +kernel
theorem dX2_cutAt_8 : decode cX2_cutAt 8 = .ok (.bipush 6, 2) := by decide +kernel
theorem dX2_cutAt_10 : decode cX2_cutAt 10 = .ok (.if_icmp .ge 43, 3) := by decide +kernel
theorem dX2_cutAt_13 : decode cX2_cutAt 13 = .ok (.iload_n 1, 1) := by decide +kernel
theorem dX2_cutAt_14 : decode cX2_cutAt 14 = .ok (.iconst 1, 1) := by decide +kernel
theorem dX2_cutAt_15 : decode cX2_cutAt 15 = .ok (.iadd, 1) := by decide +kernel
theorem dX2_cutAt_16 : decode cX2_cutAt 16 = .ok (.istore_n 3, 1) := by decide +kernel
theorem dX2_cutAt_17 : decode cX2_cutAt 17 = .ok (.iload_n 3, 1) := by decide +kernel
theorem dX2_cutAt_18 : decode cX2_cutAt 18 = .ok (.bipush 6, 2) := by decide +kernel
theorem dX2_cutAt_20 : decode cX2_cutAt 20 = .ok (.if_icmp .gt 27, 3) := by decide +kernel
theorem dX2_cutAt_23 : decode cX2_cutAt 23 = .ok (.aload_n 0, 1) := by decide +kernel
theorem dX2_cutAt_24 : decode cX2_cutAt 24 = .ok (.getfield 17, 3) := by decide +kernel
theorem dX2_cutAt_27 : decode cX2_cutAt 27 = .ok (.iload_n 2, 1) := by decide +kernel
theorem dX2_cutAt_28 : decode cX2_cutAt 28 = .ok (.aaload, 1) := by decide +kernel
theorem dX2_cutAt_29 : decode cX2_cutAt 29 = .ok (.iload_n 3, 1) := by decide +kernel
theorem dX2_cutAt_30 : decode cX2_cutAt 30 = .ok (.iconst 0, 1) := by decide +kernel
theorem dX2_cutAt_31 : decode cX2_cutAt 31 = .ok (.iastore, 1) := by decide +kernel
theorem dX2_cutAt_32 : decode cX2_cutAt 32 = .ok (.aload_n 0, 1) := by decide +kernel
theorem dX2_cutAt_33 : decode cX2_cutAt 33 = .ok (.getfield 20, 3) := by decide +kernel
theorem dX2_cutAt_36 : decode cX2_cutAt 36 = .ok (.iload_n 2, 1) := by decide +kernel
theorem dX2_cutAt_37 : decode cX2_cutAt 37 = .ok (.aaload, 1) := by decide +kernel
theorem dX2_cutAt_38 : decode cX2_cutAt 38 = .ok (.iload_n 3, 1) := by decide +kernel
theorem dX2_cutAt_39 : decode cX2_cutAt 39 = .ok (.iconst 0, 1) := by decide +kernel
theorem dX2_cutAt_40 : decode cX2_cutAt 40 = .ok (.iastore, 1) := by decide +kernel
theorem dX2_cutAt_41 : decode cX2_cutAt 41 = .ok (.iinc 3 1, 3) := by decide +kernel
theorem dX2_cutAt_44 : decode cX2_cutAt 44 = .ok (.goto (-27), 3) := by decide +kernel
theorem dX2_cutAt_47 : decode cX2_cutAt 47 = .ok (.iinc 2 1, 3) := by decide +kernel
theorem dX2_cutAt_50 : decode cX2_cutAt 50 = .ok (.goto (-43), 3) := by decide +kernel
theorem dX2_cutAt_53 : decode cX2_cutAt 53 = .ok (.return_, 1) := by decide +kernel
theorem dX2_fieldsThatAreNotZero_0 : decode cX2_fieldsThatAreNotZero 0 = .ok (.aload_n 0, 1) := by decide +kernel
theorem dX2_fieldsThatAreNotZero_1 : decode cX2_fieldsThatAreNotZero 1 = .ok (.getfield 17, 3) := by decide +kernel
theorem dX2_fieldsThatAreNotZero_4 : decode cX2_fieldsThatAreNotZero 4 = .ok (.invokestatic 29, 3) := by decide +kernel
theorem dX2_fieldsThatAreNotZero_7 : decode cX2_fieldsThatAreNotZero 7 = .ok (.ireturn, 1) := by decide +kernel
theorem dX2_flowsThatAreNotX_0 : decode cX2_flowsThatAreNotX 0 = .ok (.aload_n 0, 1) := by decide +kernel
theorem dX2_flowsThatAreNotX_1 : decode cX2_flowsThatAreNotX 1 = .ok (.getfield 20, 3) := by decide +kernel
theorem dX2_flowsThatAreNotX_4 : decode cX2_flowsThatAreNotX 4 = .ok (.invokestatic 29, 3) := by decide +kernel
theorem dX2_flowsThatAreNotX_7 : decode cX2_flowsThatAreNotX 7 = .ok (.ireturn, 1) := by decide +kernel
theorem dX2_rowsWithPowers_0 : decode cX2_rowsWithPowers 0 = .ok (.iconst 0, 1) := by decide +kernel
theorem dX2_rowsWithPowers_1 : decode cX2_rowsWithPowers 1 = .ok (.istore_n 1, 1) := by decide +kernel
theorem dX2_rowsWithPowers_2 : decode cX2_rowsWithPowers 2 = .ok (.iconst 0, 1) := by decide +kernel
theorem dX2_rowsWithPowers_3 : decode cX2_rowsWithPowers 3 = .ok (.istore_n 2, 1) := by decide +kernel
theorem dX2_rowsWithPowers_4 : decode cX2_rowsWithPowers 4 = .ok (.iload_n 2, 1) := by decide +kernel
theorem dX2_rowsWithPowers_5 : decode cX2_rowsWithPowers 5 = .ok (.bipush 6, 2) := by decide +kernel
theorem dX2_rowsWithPowers_7 : decode cX2_rowsWithPowers 7 = .ok (.if_icmp .ge 22, 3) := by decide +kernel
theorem dX2_rowsWithPowers_10 : decode cX2_rowsWithPowers 10 = .ok (.aload_n 0, 1) := by decide +kernel
theorem dX2_rowsWithPowers_11 : decode cX2_rowsWithPowers 11 = .ok (.iload_n 2, 1) := by decide +kernel
theorem dX2_rowsWithPowers_12 : decode cX2_rowsWithPowers 12 = .ok (.aaload, 1) := by decide +kernel
theorem dX2_rowsWithPowers_13 : decode cX2_rowsWithPowers 13 = .ok (.invokestatic 33, 3) := by decide +kernel
theorem dX2_rowsWithPowers_16 : decode cX2_rowsWithPowers 16 = .ok (.iconst (-1), 1) := by decide +kernel
theorem dX2_rowsWithPowers_17 : decode cX2_rowsWithPowers 17 = .ok (.if_icmp .eq 6, 3) := by decide +kernel
theorem dX2_rowsWithPowers_20 : decode cX2_rowsWithPowers 20 = .ok (.iinc 1 1, 3) := by decide +kernel
theorem dX2_rowsWithPowers_23 : decode cX2_rowsWithPowers 23 = .ok (.iinc 2 1, 3) := by decide +kernel
theorem dX2_rowsWithPowers_26 : decode cX2_rowsWithPowers 26 = .ok (.goto (-22), 3) := by decide +kernel
theorem dX2_rowsWithPowers_29 : decode cX2_rowsWithPowers 29 = .ok (.iload_n 1, 1) := by decide +kernel
theorem dX2_rowsWithPowers_30 : decode cX2_rowsWithPowers 30 = .ok (.ireturn, 1) := by decide +kernel
theorem dX3_init_0 : decode cX3_init 0 = .ok (.aload_n 0, 1) := by decide +kernel
theorem dX3_init_1 : decode cX3_init 1 = .ok (.invokespecial 3, 3) := by decide +kernel
theorem dX3_init_4 : decode cX3_init 4 = .ok (.aload_n 0, 1) := by decide +kernel
theorem dX3_init_5 : decode cX3_init 5 = .ok (.new 9, 3) := by decide +kernel
theorem dX3_init_8 : decode cX3_init 8 = .ok (.dup, 1) := by decide +kernel
theorem dX3_init_9 : decode cX3_init 9 = .ok (.invokespecial 11, 3) := by decide +kernel
theorem dX3_init_12 : decode cX3_init 12 = .ok (.putfield 12, 3) := by decide +kernel
theorem dX3_init_15 : decode cX3_init 15 = .ok (.aload_n 0, 1) := by decide +kernel
theorem dX3_init_16 : decode cX3_init 16 = .ok (.sipush 500, 3) := by decide +kernel
theorem dX3_init_19 : decode cX3_init 19 = .ok (.putfield 18, 3) := by decide +kernel
theorem dX3_init_22 : decode cX3_init 22 = .ok (.return_, 1) := by decide +kernel
theorem dX3_copyFrom_0 : decode cX3_copyFrom 0 = .ok (.aload_n 0, 1) := by decide +kernel
theorem dX3_copyFrom_1 : decode cX3_copyFrom 1 = .ok (.getfield 12, 3) := by decide +kernel
theorem dX3_copyFrom_4 : decode cX3_copyFrom 4 = .ok (.aload_n 1, 1) := by decide +kernel
theorem dX3_copyFrom_5 : decode cX3_copyFrom 5 = .ok (.getfield 12, 3) := by decide +kernel
theorem dX3_copyFrom_8 : decode cX3_copyFrom 8 = .ok (.invokevirtual 22, 3) := by decide +kernel
theorem dX3_copyFrom_11 : decode cX3_copyFrom 11 = .ok (.aload_n 0, 1) := by decide +kernel
theorem dX3_copyFrom_12 : decode cX3_copyFrom 12 = .ok (.aload_n 1, 1) := by decide +kernel
theorem dX3_copyFrom_13 : decode cX3_copyFrom 13 = .ok (.getfield 18, 3) := by decide +kernel
theorem dX3_copyFrom_16 : decode cX3_copyFrom 16 = .ok (.putfield 18, 3) := by decide +kernel
theorem dX3_copyFrom_19 : decode cX3_copyFrom 19 = .ok (.aload_n 0, 1) := by decide +kernel
theorem dX3_copyFrom_20 : decode cX3_copyFrom 20 = .ok (.aload_n 1, 1) := by decide +kernel
theorem dX3_copyFrom_21 : decode cX3_copyFrom 21 = .ok (.getfield 26, 3) := by decide +kernel
theorem dX3_copyFrom_24 : decode cX3_copyFrom 24 = .ok (.putfield 26, 3) := by decide +kernel
theorem dX3_copyFrom_27 : decode cX3_copyFrom 27 = .ok (.aload_n 0, 1) := by decide +kernel
theorem dX3_copyFrom_28 : decode cX3_copyFrom 28 = .ok (.aload_n 1, 1) := by decide +kernel
theorem dX3_copyFrom_29 : decode cX3_copyFrom 29 = .ok (.getfield 29, 3) := by decide +kernel
theorem dX3_copyFrom_32 : decode cX3_copyFrom 32 = .ok (.putfield 29, 3) := by decide +kernel
theorem dX3_copyFrom_35 : decode cX3_copyFrom 35 = .ok (.aload_n 0, 1) := by decide +kernel
theorem dX3_copyFrom_36 : decode cX3_copyFrom 36 = .ok (.aload_n 1, 1) := by decide +kernel
theorem dX3_copyFrom_37 : decode cX3_copyFrom 37 = .ok (.getfield 32, 3) := by decide +kernel
theorem dX3_copyFrom_40 : decode cX3_copyFrom 40 = .ok (.putfield 32, 3) := by decide +kernel
theorem dX3_copyFrom_43 : decode cX3_copyFrom 43 = .ok (.return_, 1) := by decide +kernel
theorem dX4_init_0 : decode cX4_init 0 = .ok (.aload_n 0, 1) := by decide +kernel
theorem dX4_init_1 : decode cX4_init 1 = .ok (.invokespecial 3, 3) := by decide +kernel
theorem dX4_init_4 : decode cX4_init 4 = .ok (.aload_n 0, 1) := by decide +kernel
theorem dX4_init_5 : decode cX4_init 5 = .ok (.bipush 60, 2) := by decide +kernel
theorem dX4_init_7 : decode cX4_init 7 = .ok (.newarray .int, 2) := by decide +kernel
theorem dX4_init_9 : decode cX4_init 9 = .ok (.putfield 9, 3) := by decide +kernel
theorem dX4_init_12 : decode cX4_init 12 = .ok (.return_, 1) := by decide +kernel
theorem dX5_init_0 : decode cX5_init 0 = .ok (.aload_n 0, 1) := by decide +kernel
theorem dX5_init_1 : decode cX5_init 1 = .ok (.invokespecial 3, 3) := by decide +kernel
theorem dX5_init_4 : decode cX5_init 4 = .ok (.aload_n 0, 1) := by decide +kernel
theorem dX5_init_5 : decode cX5_init 5 = .ok (.new 9, 3) := by decide +kernel
theorem dX5_init_8 : decode cX5_init 8 = .ok (.dup, 1) := by decide +kernel
theorem dX5_init_9 : decode cX5_init 9 = .ok (.invokespecial 11, 3) := by decide +kernel
theorem dX5_init_12 : decode cX5_init 12 = .ok (.putfield 12, 3) := by decide +kernel
theorem dX5_init_15 : decode cX5_init 15 = .ok (.aload_n 0, 1) := by decide +kernel
theorem dX5_init_16 : decode cX5_init 16 = .ok (.new 16, 3) := by decide +kernel
theorem dX5_init_19 : decode cX5_init 19 = .ok (.dup, 1) := by decide +kernel
theorem dX5_init_20 : decode cX5_init 20 = .ok (.invokespecial 18, 3) := by decide +kernel
theorem dX5_init_23 : decode cX5_init 23 = .ok (.putfield 19, 3) := by decide +kernel
theorem dX5_init_26 : decode cX5_init 26 = .ok (.aload_n 0, 1) := by decide +kernel
theorem dX5_init_27 : decode cX5_init 27 = .ok (.iconst 2, 1) := by decide +kernel
theorem dX5_init_28 : decode cX5_init 28 = .ok (.anewarray 23, 3) := by decide +kernel
theorem dX5_init_31 : decode cX5_init 31 = .ok (.putfield 25, 3) := by decide +kernel
theorem dX5_init_34 : decode cX5_init 34 = .ok (.iconst 0, 1) := by decide +kernel
theorem dX5_init_35 : decode cX5_init 35 = .ok (.istore_n 1, 1) := by decide +kernel
theorem dX5_init_36 : decode cX5_init 36 = .ok (.iload_n 1, 1) := by decide +kernel
theorem dX5_init_37 : decode cX5_init 37 = .ok (.iconst 2, 1) := by decide +kernel
theorem dX5_init_38 : decode cX5_init 38 = .ok (.if_icmp .ge 22, 3) := by decide +kernel
theorem dX5_init_41 : decode cX5_init 41 = .ok (.aload_n 0, 1) := by decide +kernel
theorem dX5_init_42 : decode cX5_init 42 = .ok (.getfield 25, 3) := by decide +kernel
theorem dX5_init_45 : decode cX5_init 45 = .ok (.iload_n 1, 1) := by decide +kernel
theorem dX5_init_46 : decode cX5_init 46 = .ok (.new 23, 3) := by decide +kernel
theorem dX5_init_49 : decode cX5_init 49 = .ok (.dup, 1) := by decide +kernel
theorem dX5_init_50 : decode cX5_init 50 = .ok (.invokespecial 29, 3) := by decide +kernel
theorem dX5_init_53 : decode cX5_init 53 = .ok (.aastore, 1) := by decide +kernel
theorem dX5_init_54 : decode cX5_init 54 = .ok (.iinc 1 1, 3) := by decide +kernel
theorem dX5_init_57 : decode cX5_init 57 = .ok (.goto (-21), 3) := by decide +kernel
theorem dX5_init_60 : decode cX5_init 60 = .ok (.aload_n 0, 1) := by decide +kernel
theorem dX5_init_61 : decode cX5_init 61 = .ok (.iconst 2, 1) := by decide +kernel
theorem dX5_init_62 : decode cX5_init 62 = .ok (.newarray .boolean, 2) := by decide +kernel
theorem dX5_init_64 : decode cX5_init 64 = .ok (.putfield 30, 3) := by decide +kernel
theorem dX5_init_67 : decode cX5_init 67 = .ok (.aload_n 0, 1) := by decide +kernel
theorem dX5_init_68 : decode cX5_init 68 = .ok (.new 34, 3) := by decide +kernel
theorem dX5_init_71 : decode cX5_init 71 = .ok (.dup, 1) := by decide +kernel
theorem dX5_init_72 : decode cX5_init 72 = .ok (.invokespecial 36, 3) := by decide +kernel
theorem dX5_init_75 : decode cX5_init 75 = .ok (.putfield 37, 3) := by decide +kernel
theorem dX5_init_78 : decode cX5_init 78 = .ok (.aload_n 0, 1) := by decide +kernel
theorem dX5_init_79 : decode cX5_init 79 = .ok (.new 41, 3) := by decide +kernel
theorem dX5_init_82 : decode cX5_init 82 = .ok (.dup, 1) := by decide +kernel
theorem dX5_init_83 : decode cX5_init 83 = .ok (.invokespecial 43, 3) := by decide +kernel
theorem dX5_init_86 : decode cX5_init 86 = .ok (.putfield 44, 3) := by decide +kernel
theorem dX5_init_89 : decode cX5_init 89 = .ok (.aload_n 0, 1) := by decide +kernel
theorem dX5_init_90 : decode cX5_init 90 = .ok (.bipush 7, 2) := by decide +kernel
theorem dX5_init_92 : decode cX5_init 92 = .ok (.newarray .int, 2) := by decide +kernel
theorem dX5_init_94 : decode cX5_init 94 = .ok (.putfield 48, 3) := by decide +kernel
theorem dX5_init_97 : decode cX5_init 97 = .ok (.aload_n 0, 1) := by decide +kernel
theorem dX5_init_98 : decode cX5_init 98 = .ok (.bipush 7, 2) := by decide +kernel
theorem dX5_init_100 : decode cX5_init 100 = .ok (.newarray .int, 2) := by decide +kernel
theorem dX5_init_102 : decode cX5_init 102 = .ok (.putfield 52, 3) := by decide +kernel
theorem dX5_init_105 : decode cX5_init 105 = .ok (.return_, 1) := by decide +kernel
theorem dX5_cut_0 : decode cX5_cut 0 = .ok (.iload_n 1, 1) := by decide +kernel
theorem dX5_cut_1 : decode cX5_cut 1 = .ok (.iconst 2, 1) := by decide +kernel
theorem dX5_cut_2 : decode cX5_cut 2 = .ok (.if_icmp .lt 9, 3) := by decide +kernel
theorem dX5_cut_5 : decode cX5_cut 5 = .ok (.iload_n 1, 1) := by decide +kernel
theorem dX5_cut_6 : decode cX5_cut 6 = .ok (.bipush 6, 2) := by decide +kernel
theorem dX5_cut_8 : decode cX5_cut 8 = .ok (.if_icmp .le 13, 3) := by decide +kernel
theorem dX5_cut_11 : decode cX5_cut 11 = .ok (.new 55, 3) := by decide +kernel
theorem dX5_cut_14 : decode cX5_cut 14 = .ok (.dup, 1) := by decide +kernel
theorem dX5_cut_15 : decode cX5_cut 15 = .ok (.ldc 57, 2) := by decide +kernel
theorem dX5_cut_17 : decode cX5_cut 17 = .ok (.invokespecial 59, 3) := by decide +kernel
theorem dX5_cut_20 : decode cX5_cut 20 = .ok (.athrow, 1) := by decide +kernel
theorem dX5_cut_21 : decode cX5_cut 21 = .ok (.aload_n 0, 1) := by decide +kernel
theorem dX5_cut_22 : decode cX5_cut 22 = .ok (.getfield 19, 3) := by decide +kernel
theorem dX5_cut_25 : decode cX5_cut 25 = .ok (.aload_n 0, 1) := by decide +kernel
theorem dX5_cut_26 : decode cX5_cut 26 = .ok (.getfield 12, 3) := by decide +kernel
theorem dX5_cut_29 : decode cX5_cut 29 = .ok (.invokevirtual 62, 3) := by decide +kernel
theorem dX5_cut_32 : decode cX5_cut 32 = .ok (.aload_n 0, 1) := by decide +kernel
theorem dX5_cut_33 : decode cX5_cut 33 = .ok (.getfield 12, 3) := by decide +kernel
theorem dX5_cut_36 : decode cX5_cut 36 = .ok (.getfield 66, 3) := by decide +kernel
theorem dX5_cut_39 : decode cX5_cut 39 = .ok (.getfield 70, 3) := by decide +kernel
theorem dX5_cut_42 : decode cX5_cut 42 = .ok (.istore_n 2, 1) := by decide +kernel
theorem dX5_cut_43 : decode cX5_cut 43 = .ok (.aload_n 0, 1) := by decide +kernel
theorem dX5_cut_44 : decode cX5_cut 44 = .ok (.getfield 12, 3) := by decide +kernel
theorem dX5_cut_47 : decode cX5_cut 47 = .ok (.getfield 66, 3) := by decide +kernel
theorem dX5_cut_50 : decode cX5_cut 50 = .ok (.iload_n 1, 1) := by decide +kernel
theorem dX5_cut_51 : decode cX5_cut 51 = .ok (.invokevirtual 74, 3) := by decide +kernel
theorem dX5_cut_54 : decode cX5_cut 54 = .ok (.iload_n 2, 1) := by decide +kernel
theorem dX5_cut_55 : decode cX5_cut 55 = .ok (.ireturn, 1) := by decide +kernel
theorem dX5_setField_0 : decode cX5_setField 0 = .ok (.iload_n 1, 1) := by decide +kernel
theorem dX5_setField_1 : decode cX5_setField 1 = .ok (.invokestatic 78, 3) := by decide +kernel
theorem dX5_setField_4 : decode cX5_setField 4 = .ok (.iload_n 2, 1) := by decide +kernel
theorem dX5_setField_5 : decode cX5_setField 5 = .ok (.iconst 2, 1) := by decide +kernel
theorem dX5_setField_6 : decode cX5_setField 6 = .ok (.aload_n 0, 1) := by decide +kernel
theorem dX5_setField_7 : decode cX5_setField 7 = .ok (.getfield 12, 3) := by decide +kernel
theorem dX5_setField_10 : decode cX5_setField 10 = .ok (.getfield 66, 3) := by decide +kernel
theorem dX5_setField_13 : decode cX5_setField 13 = .ok (.getfield 70, 3) := by decide +kernel
theorem dX5_setField_16 : decode cX5_setField 16 = .ok (.invokestatic 81, 3) := by decide +kernel
theorem dX5_setField_19 : decode cX5_setField 19 = .ok (.aload_n 0, 1) := by decide +kernel
theorem dX5_setField_20 : decode cX5_setField 20 = .ok (.getfield 19, 3) := by decide +kernel
theorem dX5_setField_23 : decode cX5_setField 23 = .ok (.aload_n 0, 1) := by decide +kernel
theorem dX5_setField_24 : decode cX5_setField 24 = .ok (.getfield 12, 3) := by decide +kernel
theorem dX5_setField_27 : decode cX5_setField 27 = .ok (.invokevirtual 62, 3) := by decide +kernel
theorem dX5_setField_30 : decode cX5_setField 30 = .ok (.aload_n 0, 1) := by decide +kernel
theorem dX5_setField_31 : decode cX5_setField 31 = .ok (.getfield 12, 3) := by decide +kernel
theorem dX5_setField_34 : decode cX5_setField 34 = .ok (.getfield 66, 3) := by decide +kernel
theorem dX5_setField_37 : decode cX5_setField 37 = .ok (.getfield 85, 3) := by decide +kernel
theorem dX5_setField_40 : decode cX5_setField 40 = .ok (.iload_n 1, 1) := by decide +kernel
theorem dX5_setField_41 : decode cX5_setField 41 = .ok (.aaload, 1) := by decide +kernel
theorem dX5_setField_42 : decode cX5_setField 42 = .ok (.iload_n 2, 1) := by decide +kernel
theorem dX5_setField_43 : decode cX5_setField 43 = .ok (.iload_n 3, 1) := by decide +kernel
theorem dX5_setField_44 : decode cX5_setField 44 = .ok (.invokestatic 89, 3) := by decide +kernel
theorem dX5_setField_47 : decode cX5_setField 47 = .ok (.ireturn, 1) := by decide +kernel
theorem dX5_setFlow_0 : decode cX5_setFlow 0 = .ok (.iload_n 1, 1) := by decide +kernel
theorem dX5_setFlow_1 : decode cX5_setFlow 1 = .ok (.invokestatic 78, 3) := by decide +kernel
theorem dX5_setFlow_4 : decode cX5_setFlow 4 = .ok (.iload_n 2, 1) := by decide +kernel
theorem dX5_setFlow_5 : decode cX5_setFlow 5 = .ok (.iconst 2, 1) := by decide +kernel
theorem dX5_setFlow_6 : decode cX5_setFlow 6 = .ok (.aload_n 0, 1) := by decide +kernel
theorem dX5_setFlow_7 : decode cX5_setFlow 7 = .ok (.getfield 12, 3) := by decide +kernel
theorem dX5_setFlow_10 : decode cX5_setFlow 10 = .ok (.getfield 66, 3) := by decide +kernel
theorem dX5_setFlow_13 : decode cX5_setFlow 13 = .ok (.getfield 70, 3) := by decide +kernel
theorem dX5_setFlow_16 : decode cX5_setFlow 16 = .ok (.invokestatic 81, 3) := by decide +kernel
theorem dX5_setFlow_19 : decode cX5_setFlow 19 = .ok (.aload_n 0, 1) := by decide +kernel
theorem dX5_setFlow_20 : decode cX5_setFlow 20 = .ok (.getfield 19, 3) := by decide +kernel
theorem dX5_setFlow_23 : decode cX5_setFlow 23 = .ok (.aload_n 0, 1) := by decide +kernel
theorem dX5_setFlow_24 : decode cX5_setFlow 24 = .ok (.getfield 12, 3) := by decide +kernel
theorem dX5_setFlow_27 : decode cX5_setFlow 27 = .ok (.invokevirtual 62, 3) := by decide +kernel
theorem dX5_setFlow_30 : decode cX5_setFlow 30 = .ok (.aload_n 0, 1) := by decide +kernel
theorem dX5_setFlow_31 : decode cX5_setFlow 31 = .ok (.getfield 12, 3) := by decide +kernel
theorem dX5_setFlow_34 : decode cX5_setFlow 34 = .ok (.getfield 66, 3) := by decide +kernel
theorem dX5_setFlow_37 : decode cX5_setFlow 37 = .ok (.getfield 93, 3) := by decide +kernel
theorem dX5_setFlow_40 : decode cX5_setFlow 40 = .ok (.iload_n 1, 1) := by decide +kernel
theorem dX5_setFlow_41 : decode cX5_setFlow 41 = .ok (.aaload, 1) := by decide +kernel
theorem dX5_setFlow_42 : decode cX5_setFlow 42 = .ok (.iload_n 2, 1) := by decide +kernel
theorem dX5_setFlow_43 : decode cX5_setFlow 43 = .ok (.iload_n 3, 1) := by decide +kernel
theorem dX5_setFlow_44 : decode cX5_setFlow 44 = .ok (.invokestatic 89, 3) := by decide +kernel
theorem dX5_setFlow_47 : decode cX5_setFlow 47 = .ok (.ireturn, 1) := by decide +kernel
theorem dX5_earn_0 : decode cX5_earn 0 = .ok (.iload_n 1, 1) := by decide +kernel
theorem dX5_earn_1 : decode cX5_earn 1 = .ok (.iconst 1, 1) := by decide +kernel
theorem dX5_earn_2 : decode cX5_earn 2 = .ok (.if_icmp .lt 10, 3) := by decide +kernel
theorem dX5_earn_5 : decode cX5_earn 5 = .ok (.iload_n 1, 1) := by decide +kernel
theorem dX5_earn_6 : decode cX5_earn 6 = .ok (.sipush 1000, 3) := by decide +kernel
theorem dX5_earn_9 : decode cX5_earn 9 = .ok (.if_icmp .le 13, 3) := by decide +kernel
theorem dX5_earn_12 : decode cX5_earn 12 = .ok (.new 55, 3) := by decide +kernel
theorem dX5_earn_15 : decode cX5_earn 15 = .ok (.dup, 1) := by decide +kernel
theorem dX5_earn_16 : decode cX5_earn 16 = .ok (.ldc 96, 2) := by decide +kernel
theorem dX5_earn_18 : decode cX5_earn 18 = .ok (.invokespecial 59, 3) := by decide +kernel
theorem dX5_earn_21 : decode cX5_earn 21 = .ok (.athrow, 1) := by decide +kernel
theorem dX5_earn_22 : decode cX5_earn 22 = .ok (.aload_n 0, 1) := by decide +kernel
theorem dX5_earn_23 : decode cX5_earn 23 = .ok (.getfield 12, 3) := by decide +kernel
theorem dX5_earn_26 : decode cX5_earn 26 = .ok (.getfield 98, 3) := by decide +kernel
theorem dX5_earn_29 : decode cX5_earn 29 = .ok (.ldc 101, 2) := by decide +kernel
theorem dX5_earn_31 : decode cX5_earn 31 = .ok (.iload_n 1, 1) := by decide +kernel
theorem dX5_earn_32 : decode cX5_earn 32 = .ok (.isub, 1) := by decide +kernel
theorem dX5_earn_33 : decode cX5_earn 33 = .ok (.if_icmp .le 13, 3) := by decide +kernel
theorem dX5_earn_36 : decode cX5_earn 36 = .ok (.new 102, 3) := by decide +kernel
theorem dX5_earn_39 : decode cX5_earn 39 = .ok (.dup, 1) := by decide +kernel
theorem dX5_earn_40 : decode cX5_earn 40 = .ok (.ldc 104, 2) := by decide +kernel
theorem dX5_earn_42 : decode cX5_earn 42 = .ok (.invokespecial 106, 3) := by decide +kernel
theorem dX5_earn_45 : decode cX5_earn 45 = .ok (.athrow, 1) := by decide +kernel
theorem dX5_earn_46 : decode cX5_earn 46 = .ok (.aload_n 0, 1) := by decide +kernel
theorem dX5_earn_47 : decode cX5_earn 47 = .ok (.getfield 19, 3) := by decide +kernel
theorem dX5_earn_50 : decode cX5_earn 50 = .ok (.aload_n 0, 1) := by decide +kernel
theorem dX5_earn_51 : decode cX5_earn 51 = .ok (.getfield 12, 3) := by decide +kernel
theorem dX5_earn_54 : decode cX5_earn 54 = .ok (.invokevirtual 62, 3) := by decide +kernel
theorem dX5_earn_57 : decode cX5_earn 57 = .ok (.aload_n 0, 1) := by decide +kernel
theorem dX5_earn_58 : decode cX5_earn 58 = .ok (.getfield 12, 3) := by decide +kernel
theorem dX5_earn_61 : decode cX5_earn 61 = .ok (.dup, 1) := by decide +kernel
theorem dX5_earn_62 : decode cX5_earn 62 = .ok (.getfield 98, 3) := by decide +kernel
theorem dX5_earn_65 : decode cX5_earn 65 = .ok (.iload_n 1, 1) := by decide +kernel
theorem dX5_earn_66 : decode cX5_earn 66 = .ok (.iadd, 1) := by decide +kernel
theorem dX5_earn_67 : decode cX5_earn 67 = .ok (.putfield 98, 3) := by decide +kernel
theorem dX5_earn_70 : decode cX5_earn 70 = .ok (.aload_n 0, 1) := by decide +kernel
theorem dX5_earn_71 : decode cX5_earn 71 = .ok (.getfield 12, 3) := by decide +kernel
theorem dX5_earn_74 : decode cX5_earn 74 = .ok (.getfield 98, 3) := by decide +kernel
theorem dX5_earn_77 : decode cX5_earn 77 = .ok (.ireturn, 1) := by decide +kernel
theorem dX5_bracket_0 : decode cX5_bracket 0 = .ok (.aload_n 0, 1) := by decide +kernel
theorem dX5_bracket_1 : decode cX5_bracket 1 = .ok (.bipush 98, 2) := by decide +kernel
theorem dX5_bracket_3 : decode cX5_bracket 3 = .ok (.iload_n 1, 1) := by decide +kernel
theorem dX5_bracket_4 : decode cX5_bracket 4 = .ok (.iload_n 2, 1) := by decide +kernel
theorem dX5_bracket_5 : decode cX5_bracket 5 = .ok (.iload_n 3, 1) := by decide +kernel
theorem dX5_bracket_6 : decode cX5_bracket 6 = .ok (.invokevirtual 107, 3) := by decide +kernel
theorem dX5_bracket_9 : decode cX5_bracket 9 = .ok (.ireturn, 1) := by decide +kernel
theorem dX5_sum_0 : decode cX5_sum 0 = .ok (.aload_n 0, 1) := by decide +kernel
theorem dX5_sum_1 : decode cX5_sum 1 = .ok (.bipush 115, 2) := by decide +kernel
theorem dX5_sum_3 : decode cX5_sum 3 = .ok (.iload_n 1, 1) := by decide +kernel
theorem dX5_sum_4 : decode cX5_sum 4 = .ok (.iload_n 2, 1) := by decide +kernel
theorem dX5_sum_5 : decode cX5_sum 5 = .ok (.iload_n 3, 1) := by decide +kernel
theorem dX5_sum_6 : decode cX5_sum 6 = .ok (.invokevirtual 107, 3) := by decide +kernel
theorem dX5_sum_9 : decode cX5_sum 9 = .ok (.ireturn, 1) := by decide +kernel
theorem dX5_scale_0 : decode cX5_scale 0 = .ok (.iload_n 1, 1) := by decide +kernel
theorem dX5_scale_1 : decode cX5_scale 1 = .ok (.invokestatic 78, 3) := by decide +kernel
theorem dX5_scale_4 : decode cX5_scale 4 = .ok (.iload_n 3, 1) := by decide +kernel
theorem dX5_scale_5 : decode cX5_scale 5 = .ok (.invokestatic 78, 3) := by decide +kernel
theorem dX5_scale_8 : decode cX5_scale 8 = .ok (.aload_n 0, 1) := by decide +kernel
theorem dX5_scale_9 : decode cX5_scale 9 = .ok (.iconst 1, 1) := by decide +kernel
theorem dX5_scale_10 : decode cX5_scale 10 = .ok (.invokevirtual 111, 3) := by decide +kernel
theorem dX5_scale_13 : decode cX5_scale 13 = .ok (.aload_n 0, 1) := by decide +kernel
theorem dX5_scale_14 : decode cX5_scale 14 = .ok (.getfield 19, 3) := by decide +kernel
theorem dX5_scale_17 : decode cX5_scale 17 = .ok (.aload_n 0, 1) := by decide +kernel
theorem dX5_scale_18 : decode cX5_scale 18 = .ok (.getfield 12, 3) := by decide +kernel
theorem dX5_scale_21 : decode cX5_scale 21 = .ok (.invokevirtual 62, 3) := by decide +kernel
theorem dX5_scale_24 : decode cX5_scale 24 = .ok (.aload_n 0, 1) := by decide +kernel
theorem dX5_scale_25 : decode cX5_scale 25 = .ok (.iconst 1, 1) := by decide +kernel
theorem dX5_scale_26 : decode cX5_scale 26 = .ok (.invokevirtual 114, 3) := by decide +kernel
theorem dX5_scale_29 : decode cX5_scale 29 = .ok (.aload_n 0, 1) := by decide +kernel
theorem dX5_scale_30 : decode cX5_scale 30 = .ok (.getfield 12, 3) := by decide +kernel
theorem dX5_scale_33 : decode cX5_scale 33 = .ok (.getfield 66, 3) := by decide +kernel
theorem dX5_scale_36 : decode cX5_scale 36 = .ok (.getfield 85, 3) := by decide +kernel
theorem dX5_scale_39 : decode cX5_scale 39 = .ok (.iload_n 1, 1) := by decide +kernel
theorem dX5_scale_40 : decode cX5_scale 40 = .ok (.aaload, 1) := by decide +kernel
theorem dX5_scale_41 : decode cX5_scale 41 = .ok (.iload_n 2, 1) := by decide +kernel
theorem dX5_scale_42 : decode cX5_scale 42 = .ok (.sipush 10007, 3) := by decide +kernel
theorem dX5_scale_45 : decode cX5_scale 45 = .ok (.invokestatic 117, 3) := by decide +kernel
theorem dX5_scale_48 : decode cX5_scale 48 = .ok (.aload_n 0, 1) := by decide +kernel
theorem dX5_scale_49 : decode cX5_scale 49 = .ok (.getfield 48, 3) := by decide +kernel
theorem dX5_scale_52 : decode cX5_scale 52 = .ok (.invokestatic 123, 3) := by decide +kernel
theorem dX5_scale_55 : decode cX5_scale 55 = .ok (.aload_n 0, 1) := by decide +kernel
theorem dX5_scale_56 : decode cX5_scale 56 = .ok (.aload_n 0, 1) := by decide +kernel
theorem dX5_scale_57 : decode cX5_scale 57 = .ok (.getfield 12, 3) := by decide +kernel
theorem dX5_scale_60 : decode cX5_scale 60 = .ok (.getfield 66, 3) := by decide +kernel
theorem dX5_scale_63 : decode cX5_scale 63 = .ok (.getfield 85, 3) := by decide +kernel
theorem dX5_scale_66 : decode cX5_scale 66 = .ok (.iload_n 3, 1) := by decide +kernel
theorem dX5_scale_67 : decode cX5_scale 67 = .ok (.aaload, 1) := by decide +kernel
theorem dX5_scale_68 : decode cX5_scale 68 = .ok (.invokevirtual 127, 3) := by decide +kernel
theorem dX5_scale_71 : decode cX5_scale 71 = .ok (.ireturn, 1) := by decide +kernel
theorem dX5_byBrackets_0 : decode cX5_byBrackets 0 = .ok (.aload_n 0, 1) := by decide +kernel
theorem dX5_byBrackets_1 : decode cX5_byBrackets 1 = .ok (.bipush 119, 2) := by decide +kernel
theorem dX5_byBrackets_3 : decode cX5_byBrackets 3 = .ok (.iload_n 1, 1) := by decide +kernel
theorem dX5_byBrackets_4 : decode cX5_byBrackets 4 = .ok (.iload_n 2, 1) := by decide +kernel
theorem dX5_byBrackets_5 : decode cX5_byBrackets 5 = .ok (.iload_n 3, 1) := by decide +kernel
theorem dX5_byBrackets_6 : decode cX5_byBrackets 6 = .ok (.invokevirtual 107, 3) := by decide +kernel
theorem dX5_byBrackets_9 : decode cX5_byBrackets 9 = .ok (.ireturn, 1) := by decide +kernel
theorem dX5_push_0 : decode cX5_push 0 = .ok (.aload_n 0, 1) := by decide +kernel
theorem dX5_push_1 : decode cX5_push 1 = .ok (.bipush 112, 2) := by decide +kernel
theorem dX5_push_3 : decode cX5_push 3 = .ok (.iload_n 1, 1) := by decide +kernel
theorem dX5_push_4 : decode cX5_push 4 = .ok (.iload_n 2, 1) := by decide +kernel
theorem dX5_push_5 : decode cX5_push 5 = .ok (.iload_n 3, 1) := by decide +kernel
theorem dX5_push_6 : decode cX5_push 6 = .ok (.invokevirtual 107, 3) := by decide +kernel
theorem dX5_push_9 : decode cX5_push 9 = .ok (.ireturn, 1) := by decide +kernel
theorem dX5_log_0 : decode cX5_log 0 = .ok (.aload_n 0, 1) := by decide +kernel
theorem dX5_log_1 : decode cX5_log 1 = .ok (.bipush 108, 2) := by decide +kernel
theorem dX5_log_3 : decode cX5_log 3 = .ok (.iload_n 1, 1) := by decide +kernel
theorem dX5_log_4 : decode cX5_log 4 = .ok (.iload_n 1, 1) := by decide +kernel
theorem dX5_log_5 : decode cX5_log 5 = .ok (.iload_n 2, 1) := by decide +kernel
theorem dX5_log_6 : decode cX5_log 6 = .ok (.invokevirtual 107, 3) := by decide +kernel
theorem dX5_log_9 : decode cX5_log 9 = .ok (.ireturn, 1) := by decide +kernel
theorem dX5_exp_0 : decode cX5_exp 0 = .ok (.aload_n 0, 1) := by decide +kernel
theorem dX5_exp_1 : decode cX5_exp 1 = .ok (.bipush 101, 2) := by decide +kernel
theorem dX5_exp_3 : decode cX5_exp 3 = .ok (.iload_n 1, 1) := by decide +kernel
theorem dX5_exp_4 : decode cX5_exp 4 = .ok (.iload_n 1, 1) := by decide +kernel
theorem dX5_exp_5 : decode cX5_exp 5 = .ok (.iload_n 2, 1) := by decide +kernel
theorem dX5_exp_6 : decode cX5_exp 6 = .ok (.invokevirtual 107, 3) := by decide +kernel
theorem dX5_exp_9 : decode cX5_exp 9 = .ok (.ireturn, 1) := by decide +kernel
theorem dX5_compose_0 : decode cX5_compose 0 = .ok (.aload_n 0, 1) := by decide +kernel
theorem dX5_compose_1 : decode cX5_compose 1 = .ok (.bipush 99, 2) := by decide +kernel
theorem dX5_compose_3 : decode cX5_compose 3 = .ok (.iload_n 1, 1) := by decide +kernel
theorem dX5_compose_4 : decode cX5_compose 4 = .ok (.iload_n 2, 1) := by decide +kernel
theorem dX5_compose_5 : decode cX5_compose 5 = .ok (.iload_n 3, 1) := by decide +kernel
theorem dX5_compose_6 : decode cX5_compose 6 = .ok (.invokevirtual 107, 3) := by decide +kernel
theorem dX5_compose_9 : decode cX5_compose 9 = .ok (.ireturn, 1) := by decide +kernel
theorem dX5_invert_0 : decode cX5_invert 0 = .ok (.aload_n 0, 1) := by decide +kernel
theorem dX5_invert_1 : decode cX5_invert 1 = .ok (.bipush 105, 2) := by decide +kernel
theorem dX5_invert_3 : decode cX5_invert 3 = .ok (.iload_n 1, 1) := by decide +kernel
theorem dX5_invert_4 : decode cX5_invert 4 = .ok (.iload_n 1, 1) := by decide +kernel
theorem dX5_invert_5 : decode cX5_invert 5 = .ok (.iload_n 2, 1) := by decide +kernel
theorem dX5_invert_6 : decode cX5_invert 6 = .ok (.invokevirtual 107, 3) := by decide +kernel
theorem dX5_invert_9 : decode cX5_invert 9 = .ok (.ireturn, 1) := by decide +kernel
theorem dX5_power_0 : decode cX5_power 0 = .ok (.iload_n 1, 1) := by decide +kernel
theorem dX5_power_1 : decode cX5_power 1 = .ok (.invokestatic 78, 3) := by decide +kernel
theorem dX5_power_4 : decode cX5_power 4 = .ok (.iload_n 3, 1) := by decide +kernel
theorem dX5_power_5 : decode cX5_power 5 = .ok (.invokestatic 78, 3) := by decide +kernel
theorem dX5_power_8 : decode cX5_power 8 = .ok (.iload_n 2, 1) := by decide +kernel
theorem dX5_power_9 : decode cX5_power 9 = .ok (.sipush (-5000), 3) := by decide +kernel
theorem dX5_power_12 : decode cX5_power 12 = .ok (.if_icmp .lt 10, 3) := by decide +kernel
theorem dX5_power_15 : decode cX5_power 15 = .ok (.iload_n 2, 1) := by decide +kernel
theorem dX5_power_16 : decode cX5_power 16 = .ok (.sipush 5000, 3) := by decide +kernel
theorem dX5_power_19 : decode cX5_power 19 = .ok (.if_icmp .le 13, 3) := by decide +kernel
theorem dX5_power_22 : decode cX5_power 22 = .ok (.new 55, 3) := by decide +kernel
theorem dX5_power_25 : decode cX5_power 25 = .ok (.dup, 1) := by decide +kernel
theorem dX5_power_26 : decode cX5_power 26 = .ok (.ldc 131, 2) := by decide +kernel
theorem dX5_power_28 : decode cX5_power 28 = .ok (.invokespecial 59, 3) := by decide +kernel
theorem dX5_power_31 : decode cX5_power 31 = .ok (.athrow, 1) := by decide +kernel
theorem dX5_power_32 : decode cX5_power 32 = .ok (.aload_n 0, 1) := by decide +kernel
theorem dX5_power_33 : decode cX5_power 33 = .ok (.iload_n 1, 1) := by decide +kernel
theorem dX5_power_34 : decode cX5_power 34 = .ok (.iload_n 2, 1) := by decide +kernel
theorem dX5_power_35 : decode cX5_power 35 = .ok (.sipush 10007, 3) := by decide +kernel
theorem dX5_power_38 : decode cX5_power 38 = .ok (.invokestatic 117, 3) := by decide +kernel
theorem dX5_power_41 : decode cX5_power 41 = .ok (.iload_n 3, 1) := by decide +kernel
theorem dX5_power_42 : decode cX5_power 42 = .ok (.invokevirtual 133, 3) := by decide +kernel
theorem dX5_power_45 : decode cX5_power 45 = .ok (.ireturn, 1) := by decide +kernel
theorem dX5_field_0 : decode cX5_field 0 = .ok (.iload_n 1, 1) := by decide +kernel
theorem dX5_field_1 : decode cX5_field 1 = .ok (.invokestatic 78, 3) := by decide +kernel
theorem dX5_field_4 : decode cX5_field 4 = .ok (.iload_n 2, 1) := by decide +kernel
theorem dX5_field_5 : decode cX5_field 5 = .ok (.iconst 0, 1) := by decide +kernel
theorem dX5_field_6 : decode cX5_field 6 = .ok (.bipush 6, 2) := by decide +kernel
theorem dX5_field_8 : decode cX5_field 8 = .ok (.invokestatic 81, 3) := by decide +kernel
theorem dX5_field_11 : decode cX5_field 11 = .ok (.aload_n 0, 1) := by decide +kernel
theorem dX5_field_12 : decode cX5_field 12 = .ok (.getfield 12, 3) := by decide +kernel
theorem dX5_field_15 : decode cX5_field 15 = .ok (.getfield 66, 3) := by decide +kernel
theorem dX5_field_18 : decode cX5_field 18 = .ok (.getfield 85, 3) := by decide +kernel
theorem dX5_field_21 : decode cX5_field 21 = .ok (.iload_n 1, 1) := by decide +kernel
theorem dX5_field_22 : decode cX5_field 22 = .ok (.aaload, 1) := by decide +kernel
theorem dX5_field_23 : decode cX5_field 23 = .ok (.iload_n 2, 1) := by decide +kernel
theorem dX5_field_24 : decode cX5_field 24 = .ok (.iaload, 1) := by decide +kernel
theorem dX5_field_25 : decode cX5_field 25 = .ok (.ireturn, 1) := by decide +kernel
theorem dX5_flow_0 : decode cX5_flow 0 = .ok (.iload_n 1, 1) := by decide +kernel
theorem dX5_flow_1 : decode cX5_flow 1 = .ok (.invokestatic 78, 3) := by decide +kernel
theorem dX5_flow_4 : decode cX5_flow 4 = .ok (.iload_n 2, 1) := by decide +kernel
theorem dX5_flow_5 : decode cX5_flow 5 = .ok (.iconst 0, 1) := by decide +kernel
theorem dX5_flow_6 : decode cX5_flow 6 = .ok (.bipush 6, 2) := by decide +kernel
theorem dX5_flow_8 : decode cX5_flow 8 = .ok (.invokestatic 81, 3) := by decide +kernel
theorem dX5_flow_11 : decode cX5_flow 11 = .ok (.aload_n 0, 1) := by decide +kernel
theorem dX5_flow_12 : decode cX5_flow 12 = .ok (.getfield 12, 3) := by decide +kernel
theorem dX5_flow_15 : decode cX5_flow 15 = .ok (.getfield 66, 3) := by decide +kernel
theorem dX5_flow_18 : decode cX5_flow 18 = .ok (.getfield 93, 3) := by decide +kernel
theorem dX5_flow_21 : decode cX5_flow 21 = .ok (.iload_n 1, 1) := by decide +kernel
theorem dX5_flow_22 : decode cX5_flow 22 = .ok (.aaload, 1) := by decide +kernel
theorem dX5_flow_23 : decode cX5_flow 23 = .ok (.iload_n 2, 1) := by decide +kernel
theorem dX5_flow_24 : decode cX5_flow 24 = .ok (.iaload, 1) := by decide +kernel
theorem dX5_flow_25 : decode cX5_flow 25 = .ok (.ireturn, 1) := by decide +kernel
theorem dX5_count_0 : decode cX5_count 0 = .ok (.iload_n 1, 1) := by decide +kernel
theorem dX5_count_1 : decode cX5_count 1 = .ok (.tableswitch 154 0 8 #[51, 62, 70, 81, 92, 100, 108, 116, 146], 51) := by decide +kernel
theorem dX5_count_52 : decode cX5_count 52 = .ok (.aload_n 0, 1) := by decide +kernel
theorem dX5_count_53 : decode cX5_count 53 = .ok (.getfield 12, 3) := by decide +kernel
theorem dX5_count_56 : decode cX5_count 56 = .ok (.getfield 66, 3) := by decide +kernel
theorem dX5_count_59 : decode cX5_count 59 = .ok (.getfield 70, 3) := by decide +kernel
theorem dX5_count_62 : decode cX5_count 62 = .ok (.ireturn, 1) := by decide +kernel
theorem dX5_count_63 : decode cX5_count 63 = .ok (.aload_n 0, 1) := by decide +kernel
theorem dX5_count_64 : decode cX5_count 64 = .ok (.getfield 12, 3) := by decide +kernel
theorem dX5_count_67 : decode cX5_count 67 = .ok (.getfield 98, 3) := by decide +kernel
theorem dX5_count_70 : decode cX5_count 70 = .ok (.ireturn, 1) := by decide +kernel
theorem dX5_count_71 : decode cX5_count 71 = .ok (.aload_n 0, 1) := by decide +kernel
theorem dX5_count_72 : decode cX5_count 72 = .ok (.getfield 12, 3) := by decide +kernel
theorem dX5_count_75 : decode cX5_count 75 = .ok (.getfield 66, 3) := by decide +kernel
theorem dX5_count_78 : decode cX5_count 78 = .ok (.invokevirtual 179, 3) := by decide +kernel
theorem dX5_count_81 : decode cX5_count 81 = .ok (.ireturn, 1) := by decide +kernel
theorem dX5_count_82 : decode cX5_count 82 = .ok (.aload_n 0, 1) := by decide +kernel
theorem dX5_count_83 : decode cX5_count 83 = .ok (.getfield 12, 3) := by decide +kernel
theorem dX5_count_86 : decode cX5_count 86 = .ok (.getfield 66, 3) := by decide +kernel
theorem dX5_count_89 : decode cX5_count 89 = .ok (.invokevirtual 234, 3) := by decide +kernel
theorem dX5_count_92 : decode cX5_count 92 = .ok (.ireturn, 1) := by decide +kernel
theorem dX5_count_93 : decode cX5_count 93 = .ok (.aload_n 0, 1) := by decide +kernel
theorem dX5_count_94 : decode cX5_count 94 = .ok (.getfield 12, 3) := by decide +kernel
theorem dX5_count_97 : decode cX5_count 97 = .ok (.getfield 237, 3) := by decide +kernel
theorem dX5_count_100 : decode cX5_count 100 = .ok (.ireturn, 1) := by decide +kernel
theorem dX5_count_101 : decode cX5_count 101 = .ok (.aload_n 0, 1) := by decide +kernel
theorem dX5_count_102 : decode cX5_count 102 = .ok (.getfield 12, 3) := by decide +kernel
theorem dX5_count_105 : decode cX5_count 105 = .ok (.getfield 240, 3) := by decide +kernel
theorem dX5_count_108 : decode cX5_count 108 = .ok (.ireturn, 1) := by decide +kernel
theorem dX5_count_109 : decode cX5_count 109 = .ok (.aload_n 0, 1) := by decide +kernel
theorem dX5_count_110 : decode cX5_count 110 = .ok (.getfield 12, 3) := by decide +kernel
theorem dX5_count_113 : decode cX5_count 113 = .ok (.getfield 243, 3) := by decide +kernel
theorem dX5_count_116 : decode cX5_count 116 = .ok (.ireturn, 1) := by decide +kernel
theorem dX5_count_117 : decode cX5_count 117 = .ok (.aload_n 0, 1) := by decide +kernel
theorem dX5_count_118 : decode cX5_count 118 = .ok (.getfield 30, 3) := by decide +kernel
theorem dX5_count_121 : decode cX5_count 121 = .ok (.iconst 0, 1) := by decide +kernel
theorem dX5_count_122 : decode cX5_count 122 = .ok (.baload, 1) := by decide +kernel
theorem dX5_count_123 : decode cX5_count 123 = .ok (.ifCond .eq 7, 3) := by decide +kernel
theorem dX5_count_126 : decode cX5_count 126 = .ok (.iconst 1, 1) := by decide +kernel
theorem dX5_count_127 : decode cX5_count 127 = .ok (.goto 4, 3) := by decide +kernel
theorem dX5_count_130 : decode cX5_count 130 = .ok (.iconst 0, 1) := by decide +kernel
theorem dX5_count_131 : decode cX5_count 131 = .ok (.aload_n 0, 1) := by decide +kernel
theorem dX5_count_132 : decode cX5_count 132 = .ok (.getfield 30, 3) := by decide +kernel
theorem dX5_count_135 : decode cX5_count 135 = .ok (.iconst 1, 1) := by decide +kernel
theorem dX5_count_136 : decode cX5_count 136 = .ok (.baload, 1) := by decide +kernel
theorem dX5_count_137 : decode cX5_count 137 = .ok (.ifCond .eq 7, 3) := by decide +kernel
theorem dX5_count_140 : decode cX5_count 140 = .ok (.iconst 1, 1) := by decide +kernel
theorem dX5_count_141 : decode cX5_count 141 = .ok (.goto 4, 3) := by decide +kernel
theorem dX5_count_144 : decode cX5_count 144 = .ok (.iconst 0, 1) := by decide +kernel
theorem dX5_count_145 : decode cX5_count 145 = .ok (.iadd, 1) := by decide +kernel
theorem dX5_count_146 : decode cX5_count 146 = .ok (.ireturn, 1) := by decide +kernel
theorem dX5_count_147 : decode cX5_count 147 = .ok (.aload_n 0, 1) := by decide +kernel
theorem dX5_count_148 : decode cX5_count 148 = .ok (.getfield 19, 3) := by decide +kernel
theorem dX5_count_151 : decode cX5_count 151 = .ok (.getfield 184, 3) := by decide +kernel
theorem dX5_count_154 : decode cX5_count 154 = .ok (.ireturn, 1) := by decide +kernel
theorem dX5_count_155 : decode cX5_count 155 = .ok (.new 55, 3) := by decide +kernel
theorem dX5_count_158 : decode cX5_count 158 = .ok (.dup, 1) := by decide +kernel
theorem dX5_count_159 : decode cX5_count 159 = .ok (.ldc 246, 2) := by decide +kernel
theorem dX5_count_161 : decode cX5_count 161 = .ok (.invokespecial 59, 3) := by decide +kernel
theorem dX5_count_164 : decode cX5_count 164 = .ok (.athrow, 1) := by decide +kernel
theorem dX5_needSlot_0 : decode cX5_needSlot 0 = .ok (.iload_n 0, 1) := by decide +kernel
theorem dX5_needSlot_1 : decode cX5_needSlot 1 = .ok (.ifCond .lt 9, 3) := by decide +kernel
theorem dX5_needSlot_4 : decode cX5_needSlot 4 = .ok (.iload_n 0, 1) := by decide +kernel
theorem dX5_needSlot_5 : decode cX5_needSlot 5 = .ok (.bipush 6, 2) := by decide +kernel
theorem dX5_needSlot_7 : decode cX5_needSlot 7 = .ok (.if_icmp .lt 14, 3) := by decide +kernel
theorem dX5_needSlot_10 : decode cX5_needSlot 10 = .ok (.new 278, 3) := by decide +kernel
theorem dX5_needSlot_13 : decode cX5_needSlot 13 = .ok (.dup, 1) := by decide +kernel
theorem dX5_needSlot_14 : decode cX5_needSlot 14 = .ok (.ldc_w 280, 3) := by decide +kernel
theorem dX5_needSlot_17 : decode cX5_needSlot 17 = .ok (.invokespecial 282, 3) := by decide +kernel
theorem dX5_needSlot_20 : decode cX5_needSlot 20 = .ok (.athrow, 1) := by decide +kernel
theorem dX5_needSlot_21 : decode cX5_needSlot 21 = .ok (.return_, 1) := by decide +kernel
theorem dX5_needPower_0 : decode cX5_needPower 0 = .ok (.iload_n 0, 1) := by decide +kernel
theorem dX5_needPower_1 : decode cX5_needPower 1 = .ok (.iload_n 1, 1) := by decide +kernel
theorem dX5_needPower_2 : decode cX5_needPower 2 = .ok (.if_icmp .lt 8, 3) := by decide +kernel
theorem dX5_needPower_5 : decode cX5_needPower 5 = .ok (.iload_n 0, 1) := by decide +kernel
theorem dX5_needPower_6 : decode cX5_needPower 6 = .ok (.iload_n 2, 1) := by decide +kernel
theorem dX5_needPower_7 : decode cX5_needPower 7 = .ok (.if_icmp .le 14, 3) := by decide +kernel
theorem dX5_needPower_10 : decode cX5_needPower 10 = .ok (.new 278, 3) := by decide +kernel
theorem dX5_needPower_13 : decode cX5_needPower 13 = .ok (.dup, 1) := by decide +kernel
theorem dX5_needPower_14 : decode cX5_needPower 14 = .ok (.ldc_w 283, 3) := by decide +kernel
theorem dX5_needPower_17 : decode cX5_needPower 17 = .ok (.invokespecial 282, 3) := by decide +kernel
theorem dX5_needPower_20 : decode cX5_needPower 20 = .ok (.athrow, 1) := by decide +kernel
theorem dX5_needPower_21 : decode cX5_needPower 21 = .ok (.return_, 1) := by decide +kernel
theorem dX5_needMoney_0 : decode cX5_needMoney 0 = .ok (.aload_n 0, 1) := by decide +kernel
theorem dX5_needMoney_1 : decode cX5_needMoney 1 = .ok (.getfield 12, 3) := by decide +kernel
theorem dX5_needMoney_4 : decode cX5_needMoney 4 = .ok (.getfield 98, 3) := by decide +kernel
theorem dX5_needMoney_7 : decode cX5_needMoney 7 = .ok (.aload_n 0, 1) := by decide +kernel
theorem dX5_needMoney_8 : decode cX5_needMoney 8 = .ok (.iload_n 1, 1) := by decide +kernel
theorem dX5_needMoney_9 : decode cX5_needMoney 9 = .ok (.invokevirtual 228, 3) := by decide +kernel
theorem dX5_needMoney_12 : decode cX5_needMoney 12 = .ok (.if_icmp .ge 14, 3) := by decide +kernel
theorem dX5_needMoney_15 : decode cX5_needMoney 15 = .ok (.new 102, 3) := by decide +kernel
theorem dX5_needMoney_18 : decode cX5_needMoney 18 = .ok (.dup, 1) := by decide +kernel
theorem dX5_needMoney_19 : decode cX5_needMoney 19 = .ok (.ldc_w 287, 3) := by decide +kernel
theorem dX5_needMoney_22 : decode cX5_needMoney 22 = .ok (.invokespecial 106, 3) := by decide +kernel
theorem dX5_needMoney_25 : decode cX5_needMoney 25 = .ok (.athrow, 1) := by decide +kernel
theorem dX5_needMoney_26 : decode cX5_needMoney 26 = .ok (.return_, 1) := by decide +kernel
theorem dX5_costOf_0 : decode cX5_costOf 0 = .ok (.iload_n 1, 1) := by decide +kernel
theorem dX5_costOf_1 : decode cX5_costOf 1 = .ok (.aload_n 0, 1) := by decide +kernel
theorem dX5_costOf_2 : decode cX5_costOf 2 = .ok (.getfield 12, 3) := by decide +kernel
theorem dX5_costOf_5 : decode cX5_costOf 5 = .ok (.getfield 66, 3) := by decide +kernel
theorem dX5_costOf_8 : decode cX5_costOf 8 = .ok (.getfield 70, 3) := by decide +kernel
theorem dX5_costOf_11 : decode cX5_costOf 11 = .ok (.imul, 1) := by decide +kernel
theorem dX5_costOf_12 : decode cX5_costOf 12 = .ok (.ireturn, 1) := by decide +kernel
theorem dX5_pay_0 : decode cX5_pay 0 = .ok (.aload_n 0, 1) := by decide +kernel
theorem dX5_pay_1 : decode cX5_pay 1 = .ok (.iload_n 1, 1) := by decide +kernel
theorem dX5_pay_2 : decode cX5_pay 2 = .ok (.invokevirtual 228, 3) := by decide +kernel
theorem dX5_pay_5 : decode cX5_pay 5 = .ok (.istore_n 2, 1) := by decide +kernel
theorem dX5_pay_6 : decode cX5_pay 6 = .ok (.aload_n 0, 1) := by decide +kernel
theorem dX5_pay_7 : decode cX5_pay 7 = .ok (.getfield 12, 3) := by decide +kernel
theorem dX5_pay_10 : decode cX5_pay 10 = .ok (.dup, 1) := by decide +kernel
theorem dX5_pay_11 : decode cX5_pay 11 = .ok (.getfield 98, 3) := by decide +kernel
theorem dX5_pay_14 : decode cX5_pay 14 = .ok (.iload_n 2, 1) := by decide +kernel
theorem dX5_pay_15 : decode cX5_pay 15 = .ok (.isub, 1) := by decide +kernel
theorem dX5_pay_16 : decode cX5_pay 16 = .ok (.putfield 98, 3) := by decide +kernel
theorem dX5_pay_19 : decode cX5_pay 19 = .ok (.aload_n 0, 1) := by decide +kernel
theorem dX5_pay_20 : decode cX5_pay 20 = .ok (.getfield 12, 3) := by decide +kernel
theorem dX5_pay_23 : decode cX5_pay 23 = .ok (.dup, 1) := by decide +kernel
theorem dX5_pay_24 : decode cX5_pay 24 = .ok (.getfield 237, 3) := by decide +kernel
theorem dX5_pay_27 : decode cX5_pay 27 = .ok (.iload_n 2, 1) := by decide +kernel
theorem dX5_pay_28 : decode cX5_pay 28 = .ok (.iadd, 1) := by decide +kernel
theorem dX5_pay_29 : decode cX5_pay 29 = .ok (.putfield 237, 3) := by decide +kernel
theorem dX5_pay_32 : decode cX5_pay 32 = .ok (.aload_n 0, 1) := by decide +kernel
theorem dX5_pay_33 : decode cX5_pay 33 = .ok (.getfield 12, 3) := by decide +kernel
theorem dX5_pay_36 : decode cX5_pay 36 = .ok (.dup, 1) := by decide +kernel
theorem dX5_pay_37 : decode cX5_pay 37 = .ok (.getfield 240, 3) := by decide +kernel
theorem dX5_pay_40 : decode cX5_pay 40 = .ok (.iconst 1, 1) := by decide +kernel
theorem dX5_pay_41 : decode cX5_pay 41 = .ok (.iadd, 1) := by decide +kernel
theorem dX5_pay_42 : decode cX5_pay 42 = .ok (.putfield 240, 3) := by decide +kernel
theorem dX5_pay_45 : decode cX5_pay 45 = .ok (.return_, 1) := by decide +kernel
theorem dX5_replace_0 : decode cX5_replace 0 = .ok (.aload_n 0, 1) := by decide +kernel
theorem dX5_replace_1 : decode cX5_replace 1 = .ok (.iload_n 1, 1) := by decide +kernel
theorem dX5_replace_2 : decode cX5_replace 2 = .ok (.iaload, 1) := by decide +kernel
theorem dX5_replace_3 : decode cX5_replace 3 = .ok (.istore_n 3, 1) := by decide +kernel
theorem dX5_replace_4 : decode cX5_replace 4 = .ok (.aload_n 0, 1) := by decide +kernel
theorem dX5_replace_5 : decode cX5_replace 5 = .ok (.iload_n 1, 1) := by decide +kernel
theorem dX5_replace_6 : decode cX5_replace 6 = .ok (.iload_n 2, 1) := by decide +kernel
theorem dX5_replace_7 : decode cX5_replace 7 = .ok (.sipush 10007, 3) := by decide +kernel
theorem dX5_replace_10 : decode cX5_replace 10 = .ok (.invokestatic 117, 3) := by decide +kernel
theorem dX5_replace_13 : decode cX5_replace 13 = .ok (.iastore, 1) := by decide +kernel
theorem dX5_replace_14 : decode cX5_replace 14 = .ok (.iload_n 3, 1) := by decide +kernel
theorem dX5_replace_15 : decode cX5_replace 15 = .ok (.ireturn, 1) := by decide +kernel
theorem dX5_put_0 : decode cX5_put 0 = .ok (.aload_n 0, 1) := by decide +kernel
theorem dX5_put_1 : decode cX5_put 1 = .ok (.getfield 48, 3) := by decide +kernel
theorem dX5_put_4 : decode cX5_put 4 = .ok (.iconst 0, 1) := by decide +kernel
theorem dX5_put_5 : decode cX5_put 5 = .ok (.aload_n 1, 1) := by decide +kernel
theorem dX5_put_6 : decode cX5_put 6 = .ok (.iconst 0, 1) := by decide +kernel
theorem dX5_put_7 : decode cX5_put 7 = .ok (.bipush 7, 2) := by decide +kernel
theorem dX5_put_9 : decode cX5_put 9 = .ok (.invokestatic 289, 3) := by decide +kernel
theorem dX5_put_12 : decode cX5_put 12 = .ok (.aload_n 1, 1) := by decide +kernel
theorem dX5_put_13 : decode cX5_put 13 = .ok (.invokestatic 202, 3) := by decide +kernel
theorem dX5_put_16 : decode cX5_put 16 = .ok (.ireturn, 1) := by decide +kernel
theorem dX5_repeat_0 : decode cX5_repeat 0 = .ok (.aload_n 0, 1) := by decide +kernel
theorem dX5_repeat_1 : decode cX5_repeat 1 = .ok (.bipush 8, 2) := by decide +kernel
theorem dX5_repeat_3 : decode cX5_repeat 3 = .ok (.invokevirtual 111, 3) := by decide +kernel
theorem dX5_repeat_6 : decode cX5_repeat 6 = .ok (.aload_n 0, 1) := by decide +kernel
theorem dX5_repeat_7 : decode cX5_repeat 7 = .ok (.getfield 19, 3) := by decide +kernel
theorem dX5_repeat_10 : decode cX5_repeat 10 = .ok (.aload_n 0, 1) := by decide +kernel
theorem dX5_repeat_11 : decode cX5_repeat 11 = .ok (.getfield 12, 3) := by decide +kernel
theorem dX5_repeat_14 : decode cX5_repeat 14 = .ok (.invokevirtual 62, 3) := by decide +kernel
theorem dX5_repeat_17 : decode cX5_repeat 17 = .ok (.aload_n 0, 1) := by decide +kernel
theorem dX5_repeat_18 : decode cX5_repeat 18 = .ok (.bipush 8, 2) := by decide +kernel
theorem dX5_repeat_20 : decode cX5_repeat 20 = .ok (.invokevirtual 114, 3) := by decide +kernel
theorem dX5_repeat_23 : decode cX5_repeat 23 = .ok (.aload_n 0, 1) := by decide +kernel
theorem dX5_repeat_24 : decode cX5_repeat 24 = .ok (.getfield 44, 3) := by decide +kernel
theorem dX5_repeat_27 : decode cX5_repeat 27 = .ok (.aload_n 0, 1) := by decide +kernel
theorem dX5_repeat_28 : decode cX5_repeat 28 = .ok (.getfield 12, 3) := by decide +kernel
theorem dX5_repeat_31 : decode cX5_repeat 31 = .ok (.getfield 66, 3) := by decide +kernel
theorem dX5_repeat_34 : decode cX5_repeat 34 = .ok (.getfield 93, 3) := by decide +kernel
theorem dX5_repeat_37 : decode cX5_repeat 37 = .ok (.iload_n 1, 1) := by decide +kernel
theorem dX5_repeat_38 : decode cX5_repeat 38 = .ok (.aaload, 1) := by decide +kernel
theorem dX5_repeat_39 : decode cX5_repeat 39 = .ok (.iload_n 2, 1) := by decide +kernel
theorem dX5_repeat_40 : decode cX5_repeat 40 = .ok (.aload_n 0, 1) := by decide +kernel
theorem dX5_repeat_41 : decode cX5_repeat 41 = .ok (.getfield 12, 3) := by decide +kernel
theorem dX5_repeat_44 : decode cX5_repeat 44 = .ok (.getfield 66, 3) := by decide +kernel
theorem dX5_repeat_47 : decode cX5_repeat 47 = .ok (.getfield 70, 3) := by decide +kernel
theorem dX5_repeat_50 : decode cX5_repeat 50 = .ok (.aload_n 0, 1) := by decide +kernel
theorem dX5_repeat_51 : decode cX5_repeat 51 = .ok (.getfield 48, 3) := by decide +kernel
theorem dX5_repeat_54 : decode cX5_repeat 54 = .ok (.invokevirtual 295, 3) := by decide +kernel
theorem dX5_repeat_57 : decode cX5_repeat 57 = .ok (.aload_n 0, 1) := by decide +kernel
theorem dX5_repeat_58 : decode cX5_repeat 58 = .ok (.aload_n 0, 1) := by decide +kernel
theorem dX5_repeat_59 : decode cX5_repeat 59 = .ok (.getfield 12, 3) := by decide +kernel
theorem dX5_repeat_62 : decode cX5_repeat 62 = .ok (.getfield 66, 3) := by decide +kernel
theorem dX5_repeat_65 : decode cX5_repeat 65 = .ok (.getfield 93, 3) := by decide +kernel
theorem dX5_repeat_68 : decode cX5_repeat 68 = .ok (.iload_n 3, 1) := by decide +kernel
theorem dX5_repeat_69 : decode cX5_repeat 69 = .ok (.aaload, 1) := by decide +kernel
theorem dX5_repeat_70 : decode cX5_repeat 70 = .ok (.invokevirtual 127, 3) := by decide +kernel
theorem dX5_repeat_73 : decode cX5_repeat 73 = .ok (.ireturn, 1) := by decide +kernel
theorem dX5_unitsOf_0 : decode cX5_unitsOf 0 = .ok (.iload_n 0, 1) := by decide +kernel
theorem dX5_unitsOf_1 : decode cX5_unitsOf 1 = .ok (.tableswitch 117 98 119 #[103, 115, 117, 113, 117, 117, 117, 115, 117, 117, 110, 117, 117, 117, 110, 117, 117, 105, 117, 117, 117, 107], 103) := by decide +kernel
theorem dX5_unitsOf_104 : decode cX5_unitsOf 104 = .ok (.iconst 2, 1) := by decide +kernel
theorem dX5_unitsOf_105 : decode cX5_unitsOf 105 = .ok (.ireturn, 1) := by decide +kernel
theorem dX5_unitsOf_106 : decode cX5_unitsOf 106 = .ok (.iconst 1, 1) := by decide +kernel
theorem dX5_unitsOf_107 : decode cX5_unitsOf 107 = .ok (.ireturn, 1) := by decide +kernel
theorem dX5_unitsOf_108 : decode cX5_unitsOf 108 = .ok (.bipush 20, 2) := by decide +kernel
theorem dX5_unitsOf_110 : decode cX5_unitsOf 110 = .ok (.ireturn, 1) := by decide +kernel
theorem dX5_unitsOf_111 : decode cX5_unitsOf 111 = .ok (.bipush 6, 2) := by decide +kernel
theorem dX5_unitsOf_113 : decode cX5_unitsOf 113 = .ok (.ireturn, 1) := by decide +kernel
theorem dX5_unitsOf_114 : decode cX5_unitsOf 114 = .ok (.iconst 5, 1) := by decide +kernel
theorem dX5_unitsOf_115 : decode cX5_unitsOf 115 = .ok (.ireturn, 1) := by decide +kernel
theorem dX5_unitsOf_116 : decode cX5_unitsOf 116 = .ok (.iconst 4, 1) := by decide +kernel
theorem dX5_unitsOf_117 : decode cX5_unitsOf 117 = .ok (.ireturn, 1) := by decide +kernel
theorem dX5_unitsOf_118 : decode cX5_unitsOf 118 = .ok (.iconst 0, 1) := by decide +kernel
theorem dX5_unitsOf_119 : decode cX5_unitsOf 119 = .ok (.ireturn, 1) := by decide +kernel
theorem dX5_orderAlone_0 : decode cX5_orderAlone 0 = .ok (.iload_n 2, 1) := by decide +kernel
theorem dX5_orderAlone_1 : decode cX5_orderAlone 1 = .ok (.invokestatic 78, 3) := by decide +kernel
theorem dX5_orderAlone_4 : decode cX5_orderAlone 4 = .ok (.iload_n 3, 1) := by decide +kernel
theorem dX5_orderAlone_5 : decode cX5_orderAlone 5 = .ok (.invokestatic 78, 3) := by decide +kernel
theorem dX5_orderAlone_8 : decode cX5_orderAlone 8 = .ok (.iload 4, 2) := by decide +kernel
theorem dX5_orderAlone_10 : decode cX5_orderAlone 10 = .ok (.invokestatic 78, 3) := by decide +kernel
theorem dX5_orderAlone_13 : decode cX5_orderAlone 13 = .ok (.aload_n 0, 1) := by decide +kernel
theorem dX5_orderAlone_14 : decode cX5_orderAlone 14 = .ok (.iload_n 1, 1) := by decide +kernel
theorem dX5_orderAlone_15 : decode cX5_orderAlone 15 = .ok (.invokestatic 225, 3) := by decide +kernel
theorem dX5_orderAlone_18 : decode cX5_orderAlone 18 = .ok (.invokevirtual 111, 3) := by decide +kernel
theorem dX5_orderAlone_21 : decode cX5_orderAlone 21 = .ok (.aload_n 0, 1) := by decide +kernel
theorem dX5_orderAlone_22 : decode cX5_orderAlone 22 = .ok (.getfield 19, 3) := by decide +kernel
theorem dX5_orderAlone_25 : decode cX5_orderAlone 25 = .ok (.aload_n 0, 1) := by decide +kernel
theorem dX5_orderAlone_26 : decode cX5_orderAlone 26 = .ok (.getfield 12, 3) := by decide +kernel
theorem dX5_orderAlone_29 : decode cX5_orderAlone 29 = .ok (.invokevirtual 62, 3) := by decide +kernel
theorem dX5_orderAlone_32 : decode cX5_orderAlone 32 = .ok (.aload_n 0, 1) := by decide +kernel
theorem dX5_orderAlone_33 : decode cX5_orderAlone 33 = .ok (.iload_n 1, 1) := by decide +kernel
theorem dX5_orderAlone_34 : decode cX5_orderAlone 34 = .ok (.iload_n 2, 1) := by decide +kernel
theorem dX5_orderAlone_35 : decode cX5_orderAlone 35 = .ok (.iload_n 3, 1) := by decide +kernel
theorem dX5_orderAlone_36 : decode cX5_orderAlone 36 = .ok (.iload 4, 2) := by decide +kernel
theorem dX5_orderAlone_38 : decode cX5_orderAlone 38 = .ok (.invokevirtual 299, 3) := by decide +kernel
theorem dX5_orderAlone_41 : decode cX5_orderAlone 41 = .ok (.ireturn, 1) := by decide +kernel
theorem dX5_carryOut_0 : decode cX5_carryOut 0 = .ok (.aload_n 0, 1) := by decide +kernel
theorem dX5_carryOut_1 : decode cX5_carryOut 1 = .ok (.iload_n 1, 1) := by decide +kernel
theorem dX5_carryOut_2 : decode cX5_carryOut 2 = .ok (.invokestatic 225, 3) := by decide +kernel
theorem dX5_carryOut_5 : decode cX5_carryOut 5 = .ok (.invokevirtual 114, 3) := by decide +kernel
theorem dX5_carryOut_8 : decode cX5_carryOut 8 = .ok (.iload_n 1, 1) := by decide +kernel
theorem dX5_carryOut_9 : decode cX5_carryOut 9 = .ok (.bipush 98, 2) := by decide +kernel
theorem dX5_carryOut_11 : decode cX5_carryOut 11 = .ok (.if_icmp .ne 16, 3) := by decide +kernel
theorem dX5_carryOut_14 : decode cX5_carryOut 14 = .ok (.aload_n 0, 1) := by decide +kernel
theorem dX5_carryOut_15 : decode cX5_carryOut 15 = .ok (.getfield 12, 3) := by decide +kernel
theorem dX5_carryOut_18 : decode cX5_carryOut 18 = .ok (.dup, 1) := by decide +kernel
theorem dX5_carryOut_19 : decode cX5_carryOut 19 = .ok (.getfield 243, 3) := by decide +kernel
theorem dX5_carryOut_22 : decode cX5_carryOut 22 = .ok (.iconst 1, 1) := by decide +kernel
theorem dX5_carryOut_23 : decode cX5_carryOut 23 = .ok (.iadd, 1) := by decide +kernel
theorem dX5_carryOut_24 : decode cX5_carryOut 24 = .ok (.putfield 243, 3) := by decide +kernel
theorem dX5_carryOut_27 : decode cX5_carryOut 27 = .ok (.aload_n 0, 1) := by decide +kernel
theorem dX5_carryOut_28 : decode cX5_carryOut 28 = .ok (.getfield 12, 3) := by decide +kernel
theorem dX5_carryOut_31 : decode cX5_carryOut 31 = .ok (.getfield 66, 3) := by decide +kernel
theorem dX5_carryOut_34 : decode cX5_carryOut 34 = .ok (.getfield 85, 3) := by decide +kernel
theorem dX5_carryOut_37 : decode cX5_carryOut 37 = .ok (.astore 5, 2) := by decide +kernel
theorem dX5_carryOut_39 : decode cX5_carryOut 39 = .ok (.aload_n 0, 1) := by decide +kernel
theorem dX5_carryOut_40 : decode cX5_carryOut 40 = .ok (.getfield 12, 3) := by decide +kernel
theorem dX5_carryOut_43 : decode cX5_carryOut 43 = .ok (.getfield 66, 3) := by decide +kernel
theorem dX5_carryOut_46 : decode cX5_carryOut 46 = .ok (.getfield 93, 3) := by decide +kernel
theorem dX5_carryOut_49 : decode cX5_carryOut 49 = .ok (.astore 6, 2) := by decide +kernel
theorem dX5_carryOut_51 : decode cX5_carryOut 51 = .ok (.aload_n 0, 1) := by decide +kernel
theorem dX5_carryOut_52 : decode cX5_carryOut 52 = .ok (.getfield 12, 3) := by decide +kernel
theorem dX5_carryOut_55 : decode cX5_carryOut 55 = .ok (.getfield 66, 3) := by decide +kernel
theorem dX5_carryOut_58 : decode cX5_carryOut 58 = .ok (.getfield 70, 3) := by decide +kernel
theorem dX5_carryOut_61 : decode cX5_carryOut 61 = .ok (.istore 7, 2) := by decide +kernel
theorem dX5_carryOut_63 : decode cX5_carryOut 63 = .ok (.iload_n 1, 1) := by decide +kernel
theorem dX5_carryOut_64 : decode cX5_carryOut 64 = .ok (.tableswitch 335 98 119 #[104, 277, 335, 250, 335, 335, 335, 308, 335, 335, 223, 335, 335, 335, 192, 335, 335, 135, 335, 335, 335, 160], 104) := by decide +kernel
theorem dX5_carryOut_168 : decode cX5_carryOut 168 = .ok (.aload_n 0, 1) := by decide +kernel
theorem dX5_carryOut_169 : decode cX5_carryOut 169 = .ok (.getfield 44, 3) := by decide +kernel
theorem dX5_carryOut_172 : decode cX5_carryOut 172 = .ok (.aload 5, 2) := by decide +kernel
theorem dX5_carryOut_174 : decode cX5_carryOut 174 = .ok (.iload_n 2, 1) := by decide +kernel
theorem dX5_carryOut_175 : decode cX5_carryOut 175 = .ok (.aaload, 1) := by decide +kernel
theorem dX5_carryOut_176 : decode cX5_carryOut 176 = .ok (.aload 5, 2) := by decide +kernel
theorem dX5_carryOut_178 : decode cX5_carryOut 178 = .ok (.iload_n 3, 1) := by decide +kernel
theorem dX5_carryOut_179 : decode cX5_carryOut 179 = .ok (.aaload, 1) := by decide +kernel
theorem dX5_carryOut_180 : decode cX5_carryOut 180 = .ok (.iload 7, 2) := by decide +kernel
theorem dX5_carryOut_182 : decode cX5_carryOut 182 = .ok (.aload_n 0, 1) := by decide +kernel
theorem dX5_carryOut_183 : decode cX5_carryOut 183 = .ok (.getfield 48, 3) := by decide +kernel
theorem dX5_carryOut_186 : decode cX5_carryOut 186 = .ok (.invokevirtual 198, 3) := by decide +kernel
theorem dX5_carryOut_189 : decode cX5_carryOut 189 = .ok (.aload_n 0, 1) := by decide +kernel
theorem dX5_carryOut_190 : decode cX5_carryOut 190 = .ok (.aload 5, 2) := by decide +kernel
theorem dX5_carryOut_192 : decode cX5_carryOut 192 = .ok (.iload 4, 2) := by decide +kernel
theorem dX5_carryOut_194 : decode cX5_carryOut 194 = .ok (.aaload, 1) := by decide +kernel
theorem dX5_carryOut_195 : decode cX5_carryOut 195 = .ok (.invokevirtual 127, 3) := by decide +kernel
theorem dX5_carryOut_198 : decode cX5_carryOut 198 = .ok (.ireturn, 1) := by decide +kernel
theorem dX5_carryOut_199 : decode cX5_carryOut 199 = .ok (.aload 5, 2) := by decide +kernel
theorem dX5_carryOut_201 : decode cX5_carryOut 201 = .ok (.iload_n 2, 1) := by decide +kernel
theorem dX5_carryOut_202 : decode cX5_carryOut 202 = .ok (.aaload, 1) := by decide +kernel
theorem dX5_carryOut_203 : decode cX5_carryOut 203 = .ok (.aload 5, 2) := by decide +kernel
theorem dX5_carryOut_205 : decode cX5_carryOut 205 = .ok (.iload_n 3, 1) := by decide +kernel
theorem dX5_carryOut_206 : decode cX5_carryOut 206 = .ok (.aaload, 1) := by decide +kernel
theorem dX5_carryOut_207 : decode cX5_carryOut 207 = .ok (.aload_n 0, 1) := by decide +kernel
theorem dX5_carryOut_208 : decode cX5_carryOut 208 = .ok (.getfield 48, 3) := by decide +kernel
theorem dX5_carryOut_211 : decode cX5_carryOut 211 = .ok (.invokestatic 308, 3) := by decide +kernel
theorem dX5_carryOut_214 : decode cX5_carryOut 214 = .ok (.aload_n 0, 1) := by decide +kernel
theorem dX5_carryOut_215 : decode cX5_carryOut 215 = .ok (.aload 5, 2) := by decide +kernel
theorem dX5_carryOut_217 : decode cX5_carryOut 217 = .ok (.iload 4, 2) := by decide +kernel
theorem dX5_carryOut_219 : decode cX5_carryOut 219 = .ok (.aaload, 1) := by decide +kernel
theorem dX5_carryOut_220 : decode cX5_carryOut 220 = .ok (.invokevirtual 127, 3) := by decide +kernel
theorem dX5_carryOut_223 : decode cX5_carryOut 223 = .ok (.ireturn, 1) := by decide +kernel
theorem dX5_carryOut_224 : decode cX5_carryOut 224 = .ok (.aload_n 0, 1) := by decide +kernel
theorem dX5_carryOut_225 : decode cX5_carryOut 225 = .ok (.getfield 44, 3) := by decide +kernel
theorem dX5_carryOut_228 : decode cX5_carryOut 228 = .ok (.aload 5, 2) := by decide +kernel
theorem dX5_carryOut_230 : decode cX5_carryOut 230 = .ok (.iload_n 2, 1) := by decide +kernel
theorem dX5_carryOut_231 : decode cX5_carryOut 231 = .ok (.aaload, 1) := by decide +kernel
theorem dX5_carryOut_232 : decode cX5_carryOut 232 = .ok (.aload 5, 2) := by decide +kernel
theorem dX5_carryOut_234 : decode cX5_carryOut 234 = .ok (.iload_n 3, 1) := by decide +kernel
theorem dX5_carryOut_235 : decode cX5_carryOut 235 = .ok (.aaload, 1) := by decide +kernel
theorem dX5_carryOut_236 : decode cX5_carryOut 236 = .ok (.iconst 5, 1) := by decide +kernel
theorem dX5_carryOut_237 : decode cX5_carryOut 237 = .ok (.iload 7, 2) := by decide +kernel
theorem dX5_carryOut_239 : decode cX5_carryOut 239 = .ok (.aload_n 0, 1) := by decide +kernel
theorem dX5_carryOut_240 : decode cX5_carryOut 240 = .ok (.getfield 48, 3) := by decide +kernel
theorem dX5_carryOut_243 : decode cX5_carryOut 243 = .ok (.invokevirtual 312, 3) := by decide +kernel
theorem dX5_carryOut_246 : decode cX5_carryOut 246 = .ok (.aload_n 0, 1) := by decide +kernel
theorem dX5_carryOut_247 : decode cX5_carryOut 247 = .ok (.aload 5, 2) := by decide +kernel
theorem dX5_carryOut_249 : decode cX5_carryOut 249 = .ok (.iload 4, 2) := by decide +kernel
theorem dX5_carryOut_251 : decode cX5_carryOut 251 = .ok (.aaload, 1) := by decide +kernel
theorem dX5_carryOut_252 : decode cX5_carryOut 252 = .ok (.invokevirtual 127, 3) := by decide +kernel
theorem dX5_carryOut_255 : decode cX5_carryOut 255 = .ok (.ireturn, 1) := by decide +kernel
theorem dX5_carryOut_256 : decode cX5_carryOut 256 = .ok (.aload_n 0, 1) := by decide +kernel
theorem dX5_carryOut_257 : decode cX5_carryOut 257 = .ok (.getfield 44, 3) := by decide +kernel
theorem dX5_carryOut_260 : decode cX5_carryOut 260 = .ok (.aload 6, 2) := by decide +kernel
theorem dX5_carryOut_262 : decode cX5_carryOut 262 = .ok (.iload_n 2, 1) := by decide +kernel
theorem dX5_carryOut_263 : decode cX5_carryOut 263 = .ok (.aaload, 1) := by decide +kernel
theorem dX5_carryOut_264 : decode cX5_carryOut 264 = .ok (.aload 5, 2) := by decide +kernel
theorem dX5_carryOut_266 : decode cX5_carryOut 266 = .ok (.iload_n 3, 1) := by decide +kernel
theorem dX5_carryOut_267 : decode cX5_carryOut 267 = .ok (.aaload, 1) := by decide +kernel
theorem dX5_carryOut_268 : decode cX5_carryOut 268 = .ok (.iload 7, 2) := by decide +kernel
theorem dX5_carryOut_270 : decode cX5_carryOut 270 = .ok (.aload_n 0, 1) := by decide +kernel
theorem dX5_carryOut_271 : decode cX5_carryOut 271 = .ok (.getfield 48, 3) := by decide +kernel
theorem dX5_carryOut_274 : decode cX5_carryOut 274 = .ok (.invokevirtual 316, 3) := by decide +kernel
theorem dX5_carryOut_277 : decode cX5_carryOut 277 = .ok (.aload_n 0, 1) := by decide +kernel
theorem dX5_carryOut_278 : decode cX5_carryOut 278 = .ok (.aload 5, 2) := by decide +kernel
theorem dX5_carryOut_280 : decode cX5_carryOut 280 = .ok (.iload 4, 2) := by decide +kernel
theorem dX5_carryOut_282 : decode cX5_carryOut 282 = .ok (.aaload, 1) := by decide +kernel
theorem dX5_carryOut_283 : decode cX5_carryOut 283 = .ok (.invokevirtual 127, 3) := by decide +kernel
theorem dX5_carryOut_286 : decode cX5_carryOut 286 = .ok (.ireturn, 1) := by decide +kernel
theorem dX5_carryOut_287 : decode cX5_carryOut 287 = .ok (.aload_n 0, 1) := by decide +kernel
theorem dX5_carryOut_288 : decode cX5_carryOut 288 = .ok (.getfield 44, 3) := by decide +kernel
theorem dX5_carryOut_291 : decode cX5_carryOut 291 = .ok (.aload 6, 2) := by decide +kernel
theorem dX5_carryOut_293 : decode cX5_carryOut 293 = .ok (.iload_n 2, 1) := by decide +kernel
theorem dX5_carryOut_294 : decode cX5_carryOut 294 = .ok (.aaload, 1) := by decide +kernel
theorem dX5_carryOut_295 : decode cX5_carryOut 295 = .ok (.iload 7, 2) := by decide +kernel
theorem dX5_carryOut_297 : decode cX5_carryOut 297 = .ok (.aload_n 0, 1) := by decide +kernel
theorem dX5_carryOut_298 : decode cX5_carryOut 298 = .ok (.getfield 48, 3) := by decide +kernel
theorem dX5_carryOut_301 : decode cX5_carryOut 301 = .ok (.invokevirtual 319, 3) := by decide +kernel
theorem dX5_carryOut_304 : decode cX5_carryOut 304 = .ok (.aload_n 0, 1) := by decide +kernel
theorem dX5_carryOut_305 : decode cX5_carryOut 305 = .ok (.aload 5, 2) := by decide +kernel
theorem dX5_carryOut_307 : decode cX5_carryOut 307 = .ok (.iload 4, 2) := by decide +kernel
theorem dX5_carryOut_309 : decode cX5_carryOut 309 = .ok (.aaload, 1) := by decide +kernel
theorem dX5_carryOut_310 : decode cX5_carryOut 310 = .ok (.invokevirtual 127, 3) := by decide +kernel
theorem dX5_carryOut_313 : decode cX5_carryOut 313 = .ok (.ireturn, 1) := by decide +kernel
theorem dX5_carryOut_314 : decode cX5_carryOut 314 = .ok (.aload_n 0, 1) := by decide +kernel
theorem dX5_carryOut_315 : decode cX5_carryOut 315 = .ok (.getfield 44, 3) := by decide +kernel
theorem dX5_carryOut_318 : decode cX5_carryOut 318 = .ok (.aload 5, 2) := by decide +kernel
theorem dX5_carryOut_320 : decode cX5_carryOut 320 = .ok (.iload_n 2, 1) := by decide +kernel
theorem dX5_carryOut_321 : decode cX5_carryOut 321 = .ok (.aaload, 1) := by decide +kernel
theorem dX5_carryOut_322 : decode cX5_carryOut 322 = .ok (.iload 7, 2) := by decide +kernel
theorem dX5_carryOut_324 : decode cX5_carryOut 324 = .ok (.aload_n 0, 1) := by decide +kernel
theorem dX5_carryOut_325 : decode cX5_carryOut 325 = .ok (.getfield 48, 3) := by decide +kernel
theorem dX5_carryOut_328 : decode cX5_carryOut 328 = .ok (.invokevirtual 322, 3) := by decide +kernel
theorem dX5_carryOut_331 : decode cX5_carryOut 331 = .ok (.aload_n 0, 1) := by decide +kernel
theorem dX5_carryOut_332 : decode cX5_carryOut 332 = .ok (.aload 6, 2) := by decide +kernel
theorem dX5_carryOut_334 : decode cX5_carryOut 334 = .ok (.iload 4, 2) := by decide +kernel
theorem dX5_carryOut_336 : decode cX5_carryOut 336 = .ok (.aaload, 1) := by decide +kernel
theorem dX5_carryOut_337 : decode cX5_carryOut 337 = .ok (.invokevirtual 127, 3) := by decide +kernel
theorem dX5_carryOut_340 : decode cX5_carryOut 340 = .ok (.ireturn, 1) := by decide +kernel
theorem dX5_carryOut_341 : decode cX5_carryOut 341 = .ok (.aload_n 0, 1) := by decide +kernel
theorem dX5_carryOut_342 : decode cX5_carryOut 342 = .ok (.getfield 44, 3) := by decide +kernel
theorem dX5_carryOut_345 : decode cX5_carryOut 345 = .ok (.aload 6, 2) := by decide +kernel
theorem dX5_carryOut_347 : decode cX5_carryOut 347 = .ok (.iload_n 2, 1) := by decide +kernel
theorem dX5_carryOut_348 : decode cX5_carryOut 348 = .ok (.aaload, 1) := by decide +kernel
theorem dX5_carryOut_349 : decode cX5_carryOut 349 = .ok (.aload 6, 2) := by decide +kernel
theorem dX5_carryOut_351 : decode cX5_carryOut 351 = .ok (.iload_n 3, 1) := by decide +kernel
theorem dX5_carryOut_352 : decode cX5_carryOut 352 = .ok (.aaload, 1) := by decide +kernel
theorem dX5_carryOut_353 : decode cX5_carryOut 353 = .ok (.iload 7, 2) := by decide +kernel
theorem dX5_carryOut_355 : decode cX5_carryOut 355 = .ok (.aload_n 0, 1) := by decide +kernel
theorem dX5_carryOut_356 : decode cX5_carryOut 356 = .ok (.getfield 48, 3) := by decide +kernel
theorem dX5_carryOut_359 : decode cX5_carryOut 359 = .ok (.invokevirtual 205, 3) := by decide +kernel
theorem dX5_carryOut_362 : decode cX5_carryOut 362 = .ok (.aload_n 0, 1) := by decide +kernel
theorem dX5_carryOut_363 : decode cX5_carryOut 363 = .ok (.aload 6, 2) := by decide +kernel
theorem dX5_carryOut_365 : decode cX5_carryOut 365 = .ok (.iload 4, 2) := by decide +kernel
theorem dX5_carryOut_367 : decode cX5_carryOut 367 = .ok (.aaload, 1) := by decide +kernel
theorem dX5_carryOut_368 : decode cX5_carryOut 368 = .ok (.invokevirtual 127, 3) := by decide +kernel
theorem dX5_carryOut_371 : decode cX5_carryOut 371 = .ok (.ireturn, 1) := by decide +kernel
theorem dX5_carryOut_372 : decode cX5_carryOut 372 = .ok (.aload_n 0, 1) := by decide +kernel
theorem dX5_carryOut_373 : decode cX5_carryOut 373 = .ok (.getfield 44, 3) := by decide +kernel
theorem dX5_carryOut_376 : decode cX5_carryOut 376 = .ok (.aload 6, 2) := by decide +kernel
theorem dX5_carryOut_378 : decode cX5_carryOut 378 = .ok (.iload_n 2, 1) := by decide +kernel
theorem dX5_carryOut_379 : decode cX5_carryOut 379 = .ok (.aaload, 1) := by decide +kernel
theorem dX5_carryOut_380 : decode cX5_carryOut 380 = .ok (.iload 7, 2) := by decide +kernel
theorem dX5_carryOut_382 : decode cX5_carryOut 382 = .ok (.aload_n 0, 1) := by decide +kernel
theorem dX5_carryOut_383 : decode cX5_carryOut 383 = .ok (.getfield 48, 3) := by decide +kernel
theorem dX5_carryOut_386 : decode cX5_carryOut 386 = .ok (.invokevirtual 325, 3) := by decide +kernel
theorem dX5_carryOut_389 : decode cX5_carryOut 389 = .ok (.aload_n 0, 1) := by decide +kernel
theorem dX5_carryOut_390 : decode cX5_carryOut 390 = .ok (.aload 6, 2) := by decide +kernel
theorem dX5_carryOut_392 : decode cX5_carryOut 392 = .ok (.iload 4, 2) := by decide +kernel
theorem dX5_carryOut_394 : decode cX5_carryOut 394 = .ok (.aaload, 1) := by decide +kernel
theorem dX5_carryOut_395 : decode cX5_carryOut 395 = .ok (.invokevirtual 127, 3) := by decide +kernel
theorem dX5_carryOut_398 : decode cX5_carryOut 398 = .ok (.ireturn, 1) := by decide +kernel
theorem dX5_carryOut_399 : decode cX5_carryOut 399 = .ok (.iconst (-1), 1) := by decide +kernel
theorem dX5_carryOut_400 : decode cX5_carryOut 400 = .ok (.ireturn, 1) := by decide +kernel
theorem dJ9_floorMod_7cf53_0 : decode cJ9_floorMod_7cf53 0 = .ok (.iload_n 0, 1) := by decide +kernel
theorem dJ9_floorMod_7cf53_1 : decode cJ9_floorMod_7cf53 1 = .ok (.iload_n 1, 1) := by decide +kernel
theorem dJ9_floorMod_7cf53_2 : decode cJ9_floorMod_7cf53 2 = .ok (.irem, 1) := by decide +kernel
theorem dJ9_floorMod_7cf53_3 : decode cJ9_floorMod_7cf53 3 = .ok (.istore_n 2, 1) := by decide +kernel
theorem dJ9_floorMod_7cf53_4 : decode cJ9_floorMod_7cf53 4 = .ok (.iload_n 0, 1) := by decide +kernel
theorem dJ9_floorMod_7cf53_5 : decode cJ9_floorMod_7cf53 5 = .ok (.iload_n 1, 1) := by decide +kernel
theorem dJ9_floorMod_7cf53_6 : decode cJ9_floorMod_7cf53 6 = .ok (.ixor, 1) := by decide +kernel
theorem dJ9_floorMod_7cf53_7 : decode cJ9_floorMod_7cf53 7 = .ok (.ifCond .ge 11, 3) := by decide +kernel
theorem dJ9_floorMod_7cf53_10 : decode cJ9_floorMod_7cf53 10 = .ok (.iload_n 2, 1) := by decide +kernel
theorem dJ9_floorMod_7cf53_11 : decode cJ9_floorMod_7cf53 11 = .ok (.ifCond .eq 7, 3) := by decide +kernel
theorem dJ9_floorMod_7cf53_14 : decode cJ9_floorMod_7cf53 14 = .ok (.iload_n 2, 1) := by decide +kernel
theorem dJ9_floorMod_7cf53_15 : decode cJ9_floorMod_7cf53 15 = .ok (.iload_n 1, 1) := by decide +kernel
theorem dJ9_floorMod_7cf53_16 : decode cJ9_floorMod_7cf53 16 = .ok (.iadd, 1) := by decide +kernel
theorem dJ9_floorMod_7cf53_17 : decode cJ9_floorMod_7cf53 17 = .ok (.ireturn, 1) := by decide +kernel
theorem dJ9_floorMod_7cf53_18 : decode cJ9_floorMod_7cf53 18 = .ok (.iload_n 2, 1) := by decide +kernel
theorem dJ9_floorMod_7cf53_19 : decode cJ9_floorMod_7cf53 19 = .ok (.ireturn, 1) := by decide +kernel
theorem dJ7_fill_53178_0 : decode cJ7_fill_53178 0 = .ok (.iconst 0, 1) := by decide +kernel
theorem dJ7_fill_53178_1 : decode cJ7_fill_53178 1 = .ok (.istore_n 2, 1) := by decide +kernel
theorem dJ7_fill_53178_2 : decode cJ7_fill_53178 2 = .ok (.aload_n 0, 1) := by decide +kernel
theorem dJ7_fill_53178_3 : decode cJ7_fill_53178 3 = .ok (.arraylength, 1) := by decide +kernel
theorem dJ7_fill_53178_4 : decode cJ7_fill_53178 4 = .ok (.istore_n 3, 1) := by decide +kernel
theorem dJ7_fill_53178_5 : decode cJ7_fill_53178 5 = .ok (.iload_n 2, 1) := by decide +kernel
theorem dJ7_fill_53178_6 : decode cJ7_fill_53178 6 = .ok (.iload_n 3, 1) := by decide +kernel
theorem dJ7_fill_53178_7 : decode cJ7_fill_53178 7 = .ok (.if_icmp .ge 13, 3) := by decide +kernel
theorem dJ7_fill_53178_10 : decode cJ7_fill_53178 10 = .ok (.aload_n 0, 1) := by decide +kernel
theorem dJ7_fill_53178_11 : decode cJ7_fill_53178 11 = .ok (.iload_n 2, 1) := by decide +kernel
theorem dJ7_fill_53178_12 : decode cJ7_fill_53178 12 = .ok (.iload_n 1, 1) := by decide +kernel
theorem dJ7_fill_53178_13 : decode cJ7_fill_53178 13 = .ok (.iastore, 1) := by decide +kernel
theorem dJ7_fill_53178_14 : decode cJ7_fill_53178 14 = .ok (.iinc 2 1, 3) := by decide +kernel
theorem dJ7_fill_53178_17 : decode cJ7_fill_53178 17 = .ok (.goto (-12), 3) := by decide +kernel
theorem dJ7_fill_53178_20 : decode cJ7_fill_53178 20 = .ok (.return_, 1) := by decide +kernel
theorem dL_cell_0 : decode cL_cell 0 = .ok (.iload_n 1, 1) := by decide +kernel
theorem dL_cell_1 : decode cL_cell 1 = .ok (.aload_n 0, 1) := by decide +kernel
theorem dL_cell_2 : decode cL_cell 2 = .ok (.arraylength, 1) := by decide +kernel
theorem dL_cell_3 : decode cL_cell 3 = .ok (.if_icmp .ge 9, 3) := by decide +kernel
theorem dL_cell_6 : decode cL_cell 6 = .ok (.aload_n 0, 1) := by decide +kernel
theorem dL_cell_7 : decode cL_cell 7 = .ok (.iload_n 1, 1) := by decide +kernel
theorem dL_cell_8 : decode cL_cell 8 = .ok (.iaload, 1) := by decide +kernel
theorem dL_cell_9 : decode cL_cell 9 = .ok (.goto 11, 3) := by decide +kernel
theorem dL_cell_12 : decode cL_cell 12 = .ok (.ldc 7, 2) := by decide +kernel
theorem dL_cell_14 : decode cL_cell 14 = .ok (.iload_n 1, 1) := by decide +kernel
theorem dL_cell_15 : decode cL_cell 15 = .ok (.sipush 239, 3) := by decide +kernel
theorem dL_cell_18 : decode cL_cell 18 = .ok (.iadd, 1) := by decide +kernel
theorem dL_cell_19 : decode cL_cell 19 = .ok (.imul, 1) := by decide +kernel
theorem dL_cell_20 : decode cL_cell 20 = .ok (.ireturn, 1) := by decide +kernel
theorem dL_at_0 : decode cL_at 0 = .ok (.iload_n 0, 1) := by decide +kernel
theorem dL_at_1 : decode cL_at 1 = .ok (.iconst 1, 1) := by decide +kernel
theorem dL_at_2 : decode cL_at 2 = .ok (.iushr, 1) := by decide +kernel
theorem dL_at_3 : decode cL_at 3 = .ok (.iload_n 1, 1) := by decide +kernel
theorem dL_at_4 : decode cL_at 4 = .ok (.irem, 1) := by decide +kernel
theorem dL_at_5 : decode cL_at 5 = .ok (.ireturn, 1) := by decide +kernel
theorem dL_mod_0 : decode cL_mod 0 = .ok (.iload_n 0, 1) := by decide +kernel
theorem dL_mod_1 : decode cL_mod 1 = .ok (.sipush 10007, 3) := by decide +kernel
theorem dL_mod_4 : decode cL_mod 4 = .ok (.irem, 1) := by decide +kernel
theorem dL_mod_5 : decode cL_mod 5 = .ok (.sipush 10007, 3) := by decide +kernel
theorem dL_mod_8 : decode cL_mod 8 = .ok (.iadd, 1) := by decide +kernel
theorem dL_mod_9 : decode cL_mod 9 = .ok (.sipush 10007, 3) := by decide +kernel
theorem dL_mod_12 : decode cL_mod 12 = .ok (.irem, 1) := by decide +kernel
theorem dL_mod_13 : decode cL_mod 13 = .ok (.ireturn, 1) := by decide +kernel
theorem dL_over_0 : decode cL_over 0 = .ok (.iload_n 0, 1) := by decide +kernel
theorem dL_over_1 : decode cL_over 1 = .ok (.invokestatic 8, 3) := by decide +kernel
theorem dL_over_4 : decode cL_over 4 = .ok (.istore_n 2, 1) := by decide +kernel
theorem dL_over_5 : decode cL_over 5 = .ok (.iload_n 2, 1) := by decide +kernel
theorem dL_over_6 : decode cL_over 6 = .ok (.iload_n 1, 1) := by decide +kernel
theorem dL_over_7 : decode cL_over 7 = .ok (.irem, 1) := by decide +kernel
theorem dL_over_8 : decode cL_over 8 = .ok (.ifCond .eq 12, 3) := by decide +kernel
theorem dL_over_11 : decode cL_over 11 = .ok (.iinc 2 10007, 6) := by decide +kernel
theorem dL_over_17 : decode cL_over 17 = .ok (.goto (-12), 3) := by decide +kernel
theorem dL_over_20 : decode cL_over 20 = .ok (.iload_n 2, 1) := by decide +kernel
theorem dL_over_21 : decode cL_over 21 = .ok (.iload_n 1, 1) := by decide +kernel
theorem dL_over_22 : decode cL_over 22 = .ok (.idiv, 1) := by decide +kernel
theorem dL_over_23 : decode cL_over 23 = .ok (.ireturn, 1) := by decide +kernel
theorem dL_get_0 : decode cL_get 0 = .ok (.bipush 7, 2) := by decide +kernel
theorem dL_get_2 : decode cL_get 2 = .ok (.newarray .int, 2) := by decide +kernel
theorem dL_get_4 : decode cL_get 4 = .ok (.astore_n 2, 1) := by decide +kernel
theorem dL_get_5 : decode cL_get 5 = .ok (.iconst 0, 1) := by decide +kernel
theorem dL_get_6 : decode cL_get 6 = .ok (.istore_n 3, 1) := by decide +kernel
theorem dL_get_7 : decode cL_get 7 = .ok (.iload_n 3, 1) := by decide +kernel
theorem dL_get_8 : decode cL_get 8 = .ok (.bipush 7, 2) := by decide +kernel
theorem dL_get_10 : decode cL_get 10 = .ok (.if_icmp .ge 20, 3) := by decide +kernel
theorem dL_get_13 : decode cL_get 13 = .ok (.aload_n 2, 1) := by decide +kernel
theorem dL_get_14 : decode cL_get 14 = .ok (.iload_n 3, 1) := by decide +kernel
theorem dL_get_15 : decode cL_get 15 = .ok (.aload_n 0, 1) := by decide +kernel
theorem dL_get_16 : decode cL_get 16 = .ok (.bipush 7, 2) := by decide +kernel
theorem dL_get_18 : decode cL_get 18 = .ok (.iload_n 1, 1) := by decide +kernel
theorem dL_get_19 : decode cL_get 19 = .ok (.imul, 1) := by decide +kernel
theorem dL_get_20 : decode cL_get 20 = .ok (.iload_n 3, 1) := by decide +kernel
theorem dL_get_21 : decode cL_get 21 = .ok (.iadd, 1) := by decide +kernel
theorem dL_get_22 : decode cL_get 22 = .ok (.iaload, 1) := by decide +kernel
theorem dL_get_23 : decode cL_get 23 = .ok (.iastore, 1) := by decide +kernel
theorem dL_get_24 : decode cL_get 24 = .ok (.iinc 3 1, 3) := by decide +kernel
theorem dL_get_27 : decode cL_get 27 = .ok (.goto (-20), 3) := by decide +kernel
theorem dL_get_30 : decode cL_get 30 = .ok (.aload_n 2, 1) := by decide +kernel
theorem dL_get_31 : decode cL_get 31 = .ok (.areturn, 1) := by decide +kernel
theorem dL_times_0 : decode cL_times 0 = .ok (.bipush 7, 2) := by decide +kernel
theorem dL_times_2 : decode cL_times 2 = .ok (.newarray .int, 2) := by decide +kernel
theorem dL_times_4 : decode cL_times 4 = .ok (.astore_n 3, 1) := by decide +kernel
theorem dL_times_5 : decode cL_times 5 = .ok (.iconst 0, 1) := by decide +kernel
theorem dL_times_6 : decode cL_times 6 = .ok (.istore 4, 2) := by decide +kernel
theorem dL_times_8 : decode cL_times 8 = .ok (.iload 4, 2) := by decide +kernel
theorem dL_times_10 : decode cL_times 10 = .ok (.iload_n 0, 1) := by decide +kernel
theorem dL_times_11 : decode cL_times 11 = .ok (.if_icmp .gt 49, 3) := by decide +kernel
theorem dL_times_14 : decode cL_times 14 = .ok (.iconst 0, 1) := by decide +kernel
theorem dL_times_15 : decode cL_times 15 = .ok (.istore 5, 2) := by decide +kernel
theorem dL_times_17 : decode cL_times 17 = .ok (.iload 5, 2) := by decide +kernel
theorem dL_times_19 : decode cL_times 19 = .ok (.iload 4, 2) := by decide +kernel
theorem dL_times_21 : decode cL_times 21 = .ok (.if_icmp .gt 33, 3) := by decide +kernel
theorem dL_times_24 : decode cL_times 24 = .ok (.aload_n 3, 1) := by decide +kernel
theorem dL_times_25 : decode cL_times 25 = .ok (.iload 4, 2) := by decide +kernel
theorem dL_times_27 : decode cL_times 27 = .ok (.aload_n 3, 1) := by decide +kernel
theorem dL_times_28 : decode cL_times 28 = .ok (.iload 4, 2) := by decide +kernel
theorem dL_times_30 : decode cL_times 30 = .ok (.iaload, 1) := by decide +kernel
theorem dL_times_31 : decode cL_times 31 = .ok (.aload_n 1, 1) := by decide +kernel
theorem dL_times_32 : decode cL_times 32 = .ok (.iload 5, 2) := by decide +kernel
theorem dL_times_34 : decode cL_times 34 = .ok (.iaload, 1) := by decide +kernel
theorem dL_times_35 : decode cL_times 35 = .ok (.aload_n 2, 1) := by decide +kernel
theorem dL_times_36 : decode cL_times 36 = .ok (.iload 4, 2) := by decide +kernel
theorem dL_times_38 : decode cL_times 38 = .ok (.iload 5, 2) := by decide +kernel
theorem dL_times_40 : decode cL_times 40 = .ok (.isub, 1) := by decide +kernel
theorem dL_times_41 : decode cL_times 41 = .ok (.iaload, 1) := by decide +kernel
theorem dL_times_42 : decode cL_times 42 = .ok (.imul, 1) := by decide +kernel
theorem dL_times_43 : decode cL_times 43 = .ok (.iadd, 1) := by decide +kernel
theorem dL_times_44 : decode cL_times 44 = .ok (.invokestatic 8, 3) := by decide +kernel
theorem dL_times_47 : decode cL_times 47 = .ok (.iastore, 1) := by decide +kernel
theorem dL_times_48 : decode cL_times 48 = .ok (.iinc 5 1, 3) := by decide +kernel
theorem dL_times_51 : decode cL_times 51 = .ok (.goto (-34), 3) := by decide +kernel
theorem dL_times_54 : decode cL_times 54 = .ok (.iinc 4 1, 3) := by decide +kernel
theorem dL_times_57 : decode cL_times 57 = .ok (.goto (-49), 3) := by decide +kernel
theorem dL_times_60 : decode cL_times 60 = .ok (.aload_n 3, 1) := by decide +kernel
theorem dL_times_61 : decode cL_times 61 = .ok (.areturn, 1) := by decide +kernel
theorem dL_slope_0 : decode cL_slope 0 = .ok (.bipush 7, 2) := by decide +kernel
theorem dL_slope_2 : decode cL_slope 2 = .ok (.newarray .int, 2) := by decide +kernel
theorem dL_slope_4 : decode cL_slope 4 = .ok (.astore_n 1, 1) := by decide +kernel
theorem dL_slope_5 : decode cL_slope 5 = .ok (.iconst 1, 1) := by decide +kernel
theorem dL_slope_6 : decode cL_slope 6 = .ok (.istore_n 2, 1) := by decide +kernel
theorem dL_slope_7 : decode cL_slope 7 = .ok (.iload_n 2, 1) := by decide +kernel
theorem dL_slope_8 : decode cL_slope 8 = .ok (.bipush 7, 2) := by decide +kernel
theorem dL_slope_10 : decode cL_slope 10 = .ok (.if_icmp .ge 22, 3) := by decide +kernel
theorem dL_slope_13 : decode cL_slope 13 = .ok (.aload_n 1, 1) := by decide +kernel
theorem dL_slope_14 : decode cL_slope 14 = .ok (.iload_n 2, 1) := by decide +kernel
theorem dL_slope_15 : decode cL_slope 15 = .ok (.iconst 1, 1) := by decide +kernel
theorem dL_slope_16 : decode cL_slope 16 = .ok (.isub, 1) := by decide +kernel
theorem dL_slope_17 : decode cL_slope 17 = .ok (.aload_n 0, 1) := by decide +kernel
theorem dL_slope_18 : decode cL_slope 18 = .ok (.iload_n 2, 1) := by decide +kernel
theorem dL_slope_19 : decode cL_slope 19 = .ok (.iaload, 1) := by decide +kernel
theorem dL_slope_20 : decode cL_slope 20 = .ok (.iload_n 2, 1) := by decide +kernel
theorem dL_slope_21 : decode cL_slope 21 = .ok (.imul, 1) := by decide +kernel
theorem dL_slope_22 : decode cL_slope 22 = .ok (.invokestatic 8, 3) := by decide +kernel
theorem dL_slope_25 : decode cL_slope 25 = .ok (.iastore, 1) := by decide +kernel
theorem dL_slope_26 : decode cL_slope 26 = .ok (.iinc 2 1, 3) := by decide +kernel
theorem dL_slope_29 : decode cL_slope 29 = .ok (.goto (-22), 3) := by decide +kernel
theorem dL_slope_32 : decode cL_slope 32 = .ok (.aload_n 1, 1) := by decide +kernel
theorem dL_slope_33 : decode cL_slope 33 = .ok (.areturn, 1) := by decide +kernel
theorem dL_plus_0 : decode cL_plus 0 = .ok (.bipush 7, 2) := by decide +kernel
theorem dL_plus_2 : decode cL_plus 2 = .ok (.newarray .int, 2) := by decide +kernel
theorem dL_plus_4 : decode cL_plus 4 = .ok (.astore_n 3, 1) := by decide +kernel
theorem dL_plus_5 : decode cL_plus 5 = .ok (.iconst 0, 1) := by decide +kernel
theorem dL_plus_6 : decode cL_plus 6 = .ok (.istore 4, 2) := by decide +kernel
theorem dL_plus_8 : decode cL_plus 8 = .ok (.iload 4, 2) := by decide +kernel
theorem dL_plus_10 : decode cL_plus 10 = .ok (.bipush 7, 2) := by decide +kernel
theorem dL_plus_12 : decode cL_plus 12 = .ok (.if_icmp .ge 30, 3) := by decide +kernel
theorem dL_plus_15 : decode cL_plus 15 = .ok (.aload_n 3, 1) := by decide +kernel
theorem dL_plus_16 : decode cL_plus 16 = .ok (.iload 4, 2) := by decide +kernel
theorem dL_plus_18 : decode cL_plus 18 = .ok (.aload_n 0, 1) := by decide +kernel
theorem dL_plus_19 : decode cL_plus 19 = .ok (.iload 4, 2) := by decide +kernel
theorem dL_plus_21 : decode cL_plus 21 = .ok (.iaload, 1) := by decide +kernel
theorem dL_plus_22 : decode cL_plus 22 = .ok (.aload_n 1, 1) := by decide +kernel
theorem dL_plus_23 : decode cL_plus 23 = .ok (.iload 4, 2) := by decide +kernel
theorem dL_plus_25 : decode cL_plus 25 = .ok (.iaload, 1) := by decide +kernel
theorem dL_plus_26 : decode cL_plus 26 = .ok (.iload_n 2, 1) := by decide +kernel
theorem dL_plus_27 : decode cL_plus 27 = .ok (.invokestatic 8, 3) := by decide +kernel
theorem dL_plus_30 : decode cL_plus 30 = .ok (.imul, 1) := by decide +kernel
theorem dL_plus_31 : decode cL_plus 31 = .ok (.iadd, 1) := by decide +kernel
theorem dL_plus_32 : decode cL_plus 32 = .ok (.invokestatic 8, 3) := by decide +kernel
theorem dL_plus_35 : decode cL_plus 35 = .ok (.iastore, 1) := by decide +kernel
theorem dL_plus_36 : decode cL_plus 36 = .ok (.iinc 4 1, 3) := by decide +kernel
theorem dL_plus_39 : decode cL_plus 39 = .ok (.goto (-31), 3) := by decide +kernel
theorem dL_plus_42 : decode cL_plus 42 = .ok (.aload_n 3, 1) := by decide +kernel
theorem dL_plus_43 : decode cL_plus 43 = .ok (.areturn, 1) := by decide +kernel
theorem dL_bracket_0 : decode cL_bracket 0 = .ok (.iload_n 0, 1) := by decide +kernel
theorem dL_bracket_1 : decode cL_bracket 1 = .ok (.aload_n 1, 1) := by decide +kernel
theorem dL_bracket_2 : decode cL_bracket 2 = .ok (.aload_n 2, 1) := by decide +kernel
theorem dL_bracket_3 : decode cL_bracket 3 = .ok (.invokestatic 14, 3) := by decide +kernel
theorem dL_bracket_6 : decode cL_bracket 6 = .ok (.invokestatic 18, 3) := by decide +kernel
theorem dL_bracket_9 : decode cL_bracket 9 = .ok (.iload_n 0, 1) := by decide +kernel
theorem dL_bracket_10 : decode cL_bracket 10 = .ok (.aload_n 2, 1) := by decide +kernel
theorem dL_bracket_11 : decode cL_bracket 11 = .ok (.aload_n 1, 1) := by decide +kernel
theorem dL_bracket_12 : decode cL_bracket 12 = .ok (.invokestatic 14, 3) := by decide +kernel
theorem dL_bracket_15 : decode cL_bracket 15 = .ok (.invokestatic 18, 3) := by decide +kernel
theorem dL_bracket_18 : decode cL_bracket 18 = .ok (.iconst (-1), 1) := by decide +kernel
theorem dL_bracket_19 : decode cL_bracket 19 = .ok (.invokestatic 22, 3) := by decide +kernel
theorem dL_bracket_22 : decode cL_bracket 22 = .ok (.areturn, 1) := by decide +kernel
theorem dL_within_0 : decode cL_within 0 = .ok (.bipush 7, 2) := by decide +kernel
theorem dL_within_2 : decode cL_within 2 = .ok (.newarray .int, 2) := by decide +kernel
theorem dL_within_4 : decode cL_within 4 = .ok (.astore_n 3, 1) := by decide +kernel
theorem dL_within_5 : decode cL_within 5 = .ok (.iload_n 0, 1) := by decide +kernel
theorem dL_within_6 : decode cL_within 6 = .ok (.istore 4, 2) := by decide +kernel
theorem dL_within_8 : decode cL_within 8 = .ok (.iload 4, 2) := by decide +kernel
theorem dL_within_10 : decode cL_within 10 = .ok (.ifCond .lt 30, 3) := by decide +kernel
theorem dL_within_13 : decode cL_within 13 = .ok (.iload_n 0, 1) := by decide +kernel
theorem dL_within_14 : decode cL_within 14 = .ok (.aload_n 3, 1) := by decide +kernel
theorem dL_within_15 : decode cL_within 15 = .ok (.aload_n 1, 1) := by decide +kernel
theorem dL_within_16 : decode cL_within 16 = .ok (.invokestatic 18, 3) := by decide +kernel
theorem dL_within_19 : decode cL_within 19 = .ok (.astore_n 3, 1) := by decide +kernel
theorem dL_within_20 : decode cL_within 20 = .ok (.aload_n 3, 1) := by decide +kernel
theorem dL_within_21 : decode cL_within 21 = .ok (.iconst 0, 1) := by decide +kernel
theorem dL_within_22 : decode cL_within 22 = .ok (.aload_n 3, 1) := by decide +kernel
theorem dL_within_23 : decode cL_within 23 = .ok (.iconst 0, 1) := by decide +kernel
theorem dL_within_24 : decode cL_within 24 = .ok (.iaload, 1) := by decide +kernel
theorem dL_within_25 : decode cL_within 25 = .ok (.aload_n 2, 1) := by decide +kernel
theorem dL_within_26 : decode cL_within 26 = .ok (.iload 4, 2) := by decide +kernel
theorem dL_within_28 : decode cL_within 28 = .ok (.iaload, 1) := by decide +kernel
theorem dL_within_29 : decode cL_within 29 = .ok (.iadd, 1) := by decide +kernel
theorem dL_within_30 : decode cL_within 30 = .ok (.invokestatic 8, 3) := by decide +kernel
theorem dL_within_33 : decode cL_within 33 = .ok (.iastore, 1) := by decide +kernel
theorem dL_within_34 : decode cL_within 34 = .ok (.iinc 4 (-1), 3) := by decide +kernel
theorem dL_within_37 : decode cL_within 37 = .ok (.goto (-29), 3) := by decide +kernel
theorem dL_within_40 : decode cL_within 40 = .ok (.aload_n 3, 1) := by decide +kernel
theorem dL_within_41 : decode cL_within 41 = .ok (.areturn, 1) := by decide +kernel
theorem dL_exp_0 : decode cL_exp 0 = .ok (.bipush 7, 2) := by decide +kernel
theorem dL_exp_2 : decode cL_exp 2 = .ok (.newarray .int, 2) := by decide +kernel
theorem dL_exp_4 : decode cL_exp 4 = .ok (.astore_n 2, 1) := by decide +kernel
theorem dL_exp_5 : decode cL_exp 5 = .ok (.aload_n 2, 1) := by decide +kernel
theorem dL_exp_6 : decode cL_exp 6 = .ok (.iconst 1, 1) := by decide +kernel
theorem dL_exp_7 : decode cL_exp 7 = .ok (.iconst 1, 1) := by decide +kernel
theorem dL_exp_8 : decode cL_exp 8 = .ok (.iastore, 1) := by decide +kernel
theorem dL_exp_9 : decode cL_exp 9 = .ok (.aload_n 2, 1) := by decide +kernel
theorem dL_exp_10 : decode cL_exp 10 = .ok (.aload_n 2, 1) := by decide +kernel
theorem dL_exp_11 : decode cL_exp 11 = .ok (.iconst 0, 1) := by decide +kernel
theorem dL_exp_12 : decode cL_exp 12 = .ok (.invokestatic 22, 3) := by decide +kernel
theorem dL_exp_15 : decode cL_exp 15 = .ok (.astore_n 3, 1) := by decide +kernel
theorem dL_exp_16 : decode cL_exp 16 = .ok (.iconst 1, 1) := by decide +kernel
theorem dL_exp_17 : decode cL_exp 17 = .ok (.istore 4, 2) := by decide +kernel
theorem dL_exp_19 : decode cL_exp 19 = .ok (.iload 4, 2) := by decide +kernel
theorem dL_exp_21 : decode cL_exp 21 = .ok (.bipush 7, 2) := by decide +kernel
theorem dL_exp_23 : decode cL_exp 23 = .ok (.if_icmp .ge 55, 3) := by decide +kernel
theorem dL_exp_26 : decode cL_exp 26 = .ok (.iload_n 0, 1) := by decide +kernel
theorem dL_exp_27 : decode cL_exp 27 = .ok (.aload_n 1, 1) := by decide +kernel
theorem dL_exp_28 : decode cL_exp 28 = .ok (.aload_n 2, 1) := by decide +kernel
theorem dL_exp_29 : decode cL_exp 29 = .ok (.invokestatic 14, 3) := by decide +kernel
theorem dL_exp_32 : decode cL_exp 32 = .ok (.invokestatic 18, 3) := by decide +kernel
theorem dL_exp_35 : decode cL_exp 35 = .ok (.astore_n 2, 1) := by decide +kernel
theorem dL_exp_36 : decode cL_exp 36 = .ok (.iconst 0, 1) := by decide +kernel
theorem dL_exp_37 : decode cL_exp 37 = .ok (.istore 5, 2) := by decide +kernel
theorem dL_exp_39 : decode cL_exp 39 = .ok (.iload 5, 2) := by decide +kernel
theorem dL_exp_41 : decode cL_exp 41 = .ok (.bipush 7, 2) := by decide +kernel
theorem dL_exp_43 : decode cL_exp 43 = .ok (.if_icmp .ge 22, 3) := by decide +kernel
theorem dL_exp_46 : decode cL_exp 46 = .ok (.aload_n 2, 1) := by decide +kernel
theorem dL_exp_47 : decode cL_exp 47 = .ok (.iload 5, 2) := by decide +kernel
theorem dL_exp_49 : decode cL_exp 49 = .ok (.aload_n 2, 1) := by decide +kernel
theorem dL_exp_50 : decode cL_exp 50 = .ok (.iload 5, 2) := by decide +kernel
theorem dL_exp_52 : decode cL_exp 52 = .ok (.iaload, 1) := by decide +kernel
theorem dL_exp_53 : decode cL_exp 53 = .ok (.iload 4, 2) := by decide +kernel
theorem dL_exp_55 : decode cL_exp 55 = .ok (.invokestatic 26, 3) := by decide +kernel
theorem dL_exp_58 : decode cL_exp 58 = .ok (.iastore, 1) := by decide +kernel
theorem dL_exp_59 : decode cL_exp 59 = .ok (.iinc 5 1, 3) := by decide +kernel
theorem dL_exp_62 : decode cL_exp 62 = .ok (.goto (-23), 3) := by decide +kernel
theorem dL_exp_65 : decode cL_exp 65 = .ok (.aload_n 3, 1) := by decide +kernel
theorem dL_exp_66 : decode cL_exp 66 = .ok (.aload_n 2, 1) := by decide +kernel
theorem dL_exp_67 : decode cL_exp 67 = .ok (.iconst 1, 1) := by decide +kernel
theorem dL_exp_68 : decode cL_exp 68 = .ok (.invokestatic 22, 3) := by decide +kernel
theorem dL_exp_71 : decode cL_exp 71 = .ok (.astore_n 3, 1) := by decide +kernel
end
section
theorem dL_exp_72 : decode cL_exp 72 = .ok (.iinc 4 1, 3) := by decide +kernel
theorem dL_exp_75 : decode cL_exp 75 = .ok (.goto (-56), 3) := by decide +kernel
theorem dL_exp_78 : decode cL_exp 78 = .ok (.aload_n 3, 1) := by decide +kernel
theorem dL_exp_79 : decode cL_exp 79 = .ok (.areturn, 1) := by decide +kernel
theorem dL_log_0 : decode cL_log 0 = .ok (.bipush 7, 2) := by decide +kernel
theorem dL_log_2 : decode cL_log 2 = .ok (.newarray .int, 2) := by decide +kernel
theorem dL_log_4 : decode cL_log 4 = .ok (.astore_n 2, 1) := by decide +kernel
theorem dL_log_5 : decode cL_log 5 = .ok (.iconst 2, 1) := by decide +kernel
theorem dL_log_6 : decode cL_log 6 = .ok (.istore_n 3, 1) := by decide +kernel
theorem dL_log_7 : decode cL_log 7 = .ok (.iload_n 3, 1) := by decide +kernel
theorem dL_log_8 : decode cL_log 8 = .ok (.iload_n 0, 1) := by decide +kernel
theorem dL_log_9 : decode cL_log 9 = .ok (.if_icmp .gt 30, 3) := by decide +kernel
theorem dL_log_12 : decode cL_log 12 = .ok (.aload_n 2, 1) := by decide +kernel
theorem dL_log_13 : decode cL_log 13 = .ok (.iload_n 3, 1) := by decide +kernel
theorem dL_log_14 : decode cL_log 14 = .ok (.aload_n 2, 1) := by decide +kernel
theorem dL_log_15 : decode cL_log 15 = .ok (.iload_n 3, 1) := by decide +kernel
theorem dL_log_16 : decode cL_log 16 = .ok (.iaload, 1) := by decide +kernel
theorem dL_log_17 : decode cL_log 17 = .ok (.aload_n 1, 1) := by decide +kernel
theorem dL_log_18 : decode cL_log 18 = .ok (.iload_n 3, 1) := by decide +kernel
theorem dL_log_19 : decode cL_log 19 = .ok (.iaload, 1) := by decide +kernel
theorem dL_log_20 : decode cL_log 20 = .ok (.iadd, 1) := by decide +kernel
theorem dL_log_21 : decode cL_log 21 = .ok (.iload_n 0, 1) := by decide +kernel
theorem dL_log_22 : decode cL_log 22 = .ok (.aload_n 2, 1) := by decide +kernel
theorem dL_log_23 : decode cL_log 23 = .ok (.invokestatic 30, 3) := by decide +kernel
theorem dL_log_26 : decode cL_log 26 = .ok (.iload_n 3, 1) := by decide +kernel
theorem dL_log_27 : decode cL_log 27 = .ok (.iaload, 1) := by decide +kernel
theorem dL_log_28 : decode cL_log 28 = .ok (.isub, 1) := by decide +kernel
theorem dL_log_29 : decode cL_log 29 = .ok (.invokestatic 8, 3) := by decide +kernel
theorem dL_log_32 : decode cL_log 32 = .ok (.iastore, 1) := by decide +kernel
theorem dL_log_33 : decode cL_log 33 = .ok (.iinc 3 1, 3) := by decide +kernel
theorem dL_log_36 : decode cL_log 36 = .ok (.goto (-29), 3) := by decide +kernel
theorem dL_log_39 : decode cL_log 39 = .ok (.aload_n 2, 1) := by decide +kernel
theorem dL_log_40 : decode cL_log 40 = .ok (.areturn, 1) := by decide +kernel
theorem dL_inverse_0 : decode cL_inverse 0 = .ok (.bipush 7, 2) := by decide +kernel
theorem dL_inverse_2 : decode cL_inverse 2 = .ok (.newarray .int, 2) := by decide +kernel
theorem dL_inverse_4 : decode cL_inverse 4 = .ok (.astore_n 2, 1) := by decide +kernel
theorem dL_inverse_5 : decode cL_inverse 5 = .ok (.aload_n 2, 1) := by decide +kernel
theorem dL_inverse_6 : decode cL_inverse 6 = .ok (.iconst 1, 1) := by decide +kernel
theorem dL_inverse_7 : decode cL_inverse 7 = .ok (.iconst 1, 1) := by decide +kernel
theorem dL_inverse_8 : decode cL_inverse 8 = .ok (.iastore, 1) := by decide +kernel
theorem dL_inverse_9 : decode cL_inverse 9 = .ok (.iconst 2, 1) := by decide +kernel
theorem dL_inverse_10 : decode cL_inverse 10 = .ok (.istore_n 3, 1) := by decide +kernel
theorem dL_inverse_11 : decode cL_inverse 11 = .ok (.iload_n 3, 1) := by decide +kernel
theorem dL_inverse_12 : decode cL_inverse 12 = .ok (.iload_n 0, 1) := by decide +kernel
theorem dL_inverse_13 : decode cL_inverse 13 = .ok (.if_icmp .gt 27, 3) := by decide +kernel
theorem dL_inverse_16 : decode cL_inverse 16 = .ok (.aload_n 2, 1) := by decide +kernel
theorem dL_inverse_17 : decode cL_inverse 17 = .ok (.iload_n 3, 1) := by decide +kernel
theorem dL_inverse_18 : decode cL_inverse 18 = .ok (.aload_n 2, 1) := by decide +kernel
theorem dL_inverse_19 : decode cL_inverse 19 = .ok (.iload_n 3, 1) := by decide +kernel
theorem dL_inverse_20 : decode cL_inverse 20 = .ok (.iaload, 1) := by decide +kernel
theorem dL_inverse_21 : decode cL_inverse 21 = .ok (.iload_n 0, 1) := by decide +kernel
theorem dL_inverse_22 : decode cL_inverse 22 = .ok (.aload_n 1, 1) := by decide +kernel
theorem dL_inverse_23 : decode cL_inverse 23 = .ok (.aload_n 2, 1) := by decide +kernel
theorem dL_inverse_24 : decode cL_inverse 24 = .ok (.invokestatic 34, 3) := by decide +kernel
theorem dL_inverse_27 : decode cL_inverse 27 = .ok (.iload_n 3, 1) := by decide +kernel
theorem dL_inverse_28 : decode cL_inverse 28 = .ok (.iaload, 1) := by decide +kernel
theorem dL_inverse_29 : decode cL_inverse 29 = .ok (.isub, 1) := by decide +kernel
theorem dL_inverse_30 : decode cL_inverse 30 = .ok (.invokestatic 8, 3) := by decide +kernel
theorem dL_inverse_33 : decode cL_inverse 33 = .ok (.iastore, 1) := by decide +kernel
theorem dL_inverse_34 : decode cL_inverse 34 = .ok (.iinc 3 1, 3) := by decide +kernel
theorem dL_inverse_37 : decode cL_inverse 37 = .ok (.goto (-26), 3) := by decide +kernel
theorem dL_inverse_40 : decode cL_inverse 40 = .ok (.aload_n 2, 1) := by decide +kernel
theorem dL_inverse_41 : decode cL_inverse 41 = .ok (.areturn, 1) := by decide +kernel
theorem dL_power_0 : decode cL_power 0 = .ok (.bipush 7, 2) := by decide +kernel
theorem dL_power_2 : decode cL_power 2 = .ok (.newarray .int, 2) := by decide +kernel
theorem dL_power_4 : decode cL_power 4 = .ok (.astore_n 3, 1) := by decide +kernel
theorem dL_power_5 : decode cL_power 5 = .ok (.aload_n 3, 1) := by decide +kernel
theorem dL_power_6 : decode cL_power 6 = .ok (.iconst 1, 1) := by decide +kernel
theorem dL_power_7 : decode cL_power 7 = .ok (.iconst 1, 1) := by decide +kernel
theorem dL_power_8 : decode cL_power 8 = .ok (.iastore, 1) := by decide +kernel
theorem dL_power_9 : decode cL_power 9 = .ok (.iload_n 2, 1) := by decide +kernel
theorem dL_power_10 : decode cL_power 10 = .ok (.ifCond .ge 11, 3) := by decide +kernel
theorem dL_power_13 : decode cL_power 13 = .ok (.iload_n 0, 1) := by decide +kernel
theorem dL_power_14 : decode cL_power 14 = .ok (.aload_n 1, 1) := by decide +kernel
theorem dL_power_15 : decode cL_power 15 = .ok (.invokestatic 37, 3) := by decide +kernel
theorem dL_power_18 : decode cL_power 18 = .ok (.goto 4, 3) := by decide +kernel
theorem dL_power_21 : decode cL_power 21 = .ok (.aload_n 1, 1) := by decide +kernel
theorem dL_power_22 : decode cL_power 22 = .ok (.astore 4, 2) := by decide +kernel
theorem dL_power_24 : decode cL_power 24 = .ok (.iload_n 2, 1) := by decide +kernel
theorem dL_power_25 : decode cL_power 25 = .ok (.ifCond .ge 8, 3) := by decide +kernel
theorem dL_power_28 : decode cL_power 28 = .ok (.iload_n 2, 1) := by decide +kernel
theorem dL_power_29 : decode cL_power 29 = .ok (.ineg, 1) := by decide +kernel
theorem dL_power_30 : decode cL_power 30 = .ok (.goto 4, 3) := by decide +kernel
theorem dL_power_33 : decode cL_power 33 = .ok (.iload_n 2, 1) := by decide +kernel
theorem dL_power_34 : decode cL_power 34 = .ok (.istore 5, 2) := by decide +kernel
theorem dL_power_36 : decode cL_power 36 = .ok (.iload 5, 2) := by decide +kernel
theorem dL_power_38 : decode cL_power 38 = .ok (.ifCond .le 17, 3) := by decide +kernel
theorem dL_power_41 : decode cL_power 41 = .ok (.iload_n 0, 1) := by decide +kernel
theorem dL_power_42 : decode cL_power 42 = .ok (.aload_n 3, 1) := by decide +kernel
theorem dL_power_43 : decode cL_power 43 = .ok (.aload 4, 2) := by decide +kernel
theorem dL_power_45 : decode cL_power 45 = .ok (.invokestatic 34, 3) := by decide +kernel
theorem dL_power_48 : decode cL_power 48 = .ok (.astore_n 3, 1) := by decide +kernel
theorem dL_power_49 : decode cL_power 49 = .ok (.iinc 5 (-1), 3) := by decide +kernel
theorem dL_power_52 : decode cL_power 52 = .ok (.goto (-16), 3) := by decide +kernel
theorem dL_power_55 : decode cL_power 55 = .ok (.aload_n 3, 1) := by decide +kernel
theorem dL_power_56 : decode cL_power 56 = .ok (.areturn, 1) := by decide +kernel
theorem dL_way_0 : decode cL_way 0 = .ok (.iload_n 0, 1) := by decide +kernel
theorem dL_way_1 : decode cL_way 1 = .ok (.aload_n 1, 1) := by decide +kernel
theorem dL_way_2 : decode cL_way 2 = .ok (.aload_n 2, 1) := by decide +kernel
theorem dL_way_3 : decode cL_way 3 = .ok (.invokestatic 40, 3) := by decide +kernel
theorem dL_way_6 : decode cL_way 6 = .ok (.astore_n 3, 1) := by decide +kernel
theorem dL_way_7 : decode cL_way 7 = .ok (.iload_n 0, 1) := by decide +kernel
theorem dL_way_8 : decode cL_way 8 = .ok (.aload_n 1, 1) := by decide +kernel
theorem dL_way_9 : decode cL_way 9 = .ok (.aload_n 3, 1) := by decide +kernel
theorem dL_way_10 : decode cL_way 10 = .ok (.invokestatic 40, 3) := by decide +kernel
theorem dL_way_13 : decode cL_way 13 = .ok (.astore 4, 2) := by decide +kernel
theorem dL_way_15 : decode cL_way 15 = .ok (.iload_n 0, 1) := by decide +kernel
theorem dL_way_16 : decode cL_way 16 = .ok (.aload_n 2, 1) := by decide +kernel
theorem dL_way_17 : decode cL_way 17 = .ok (.aload_n 3, 1) := by decide +kernel
theorem dL_way_18 : decode cL_way 18 = .ok (.invokestatic 40, 3) := by decide +kernel
theorem dL_way_21 : decode cL_way 21 = .ok (.astore 5, 2) := by decide +kernel
theorem dL_way_23 : decode cL_way 23 = .ok (.iload_n 0, 1) := by decide +kernel
theorem dL_way_24 : decode cL_way 24 = .ok (.aload_n 2, 1) := by decide +kernel
theorem dL_way_25 : decode cL_way 25 = .ok (.aload 4, 2) := by decide +kernel
theorem dL_way_27 : decode cL_way 27 = .ok (.invokestatic 40, 3) := by decide +kernel
theorem dL_way_30 : decode cL_way 30 = .ok (.astore 6, 2) := by decide +kernel
theorem dL_way_32 : decode cL_way 32 = .ok (.aload_n 1, 1) := by decide +kernel
theorem dL_way_33 : decode cL_way 33 = .ok (.aload_n 2, 1) := by decide +kernel
theorem dL_way_34 : decode cL_way 34 = .ok (.iconst 1, 1) := by decide +kernel
theorem dL_way_35 : decode cL_way 35 = .ok (.invokestatic 22, 3) := by decide +kernel
theorem dL_way_38 : decode cL_way 38 = .ok (.astore 7, 2) := by decide +kernel
theorem dL_way_40 : decode cL_way 40 = .ok (.iconst 0, 1) := by decide +kernel
theorem dL_way_41 : decode cL_way 41 = .ok (.istore 8, 2) := by decide +kernel
theorem dL_way_43 : decode cL_way 43 = .ok (.iload 8, 2) := by decide +kernel
theorem dL_way_45 : decode cL_way 45 = .ok (.bipush 7, 2) := by decide +kernel
theorem dL_way_47 : decode cL_way 47 = .ok (.if_icmp .ge 64, 3) := by decide +kernel
theorem dL_way_50 : decode cL_way 50 = .ok (.aload 7, 2) := by decide +kernel
theorem dL_way_52 : decode cL_way 52 = .ok (.iload 8, 2) := by decide +kernel
theorem dL_way_54 : decode cL_way 54 = .ok (.aload 7, 2) := by decide +kernel
theorem dL_way_56 : decode cL_way 56 = .ok (.iload 8, 2) := by decide +kernel
theorem dL_way_58 : decode cL_way 58 = .ok (.iaload, 1) := by decide +kernel
theorem dL_way_59 : decode cL_way 59 = .ok (.aload_n 3, 1) := by decide +kernel
theorem dL_way_60 : decode cL_way 60 = .ok (.iload 8, 2) := by decide +kernel
theorem dL_way_62 : decode cL_way 62 = .ok (.iaload, 1) := by decide +kernel
theorem dL_way_63 : decode cL_way 63 = .ok (.iconst 2, 1) := by decide +kernel
theorem dL_way_64 : decode cL_way 64 = .ok (.invokestatic 26, 3) := by decide +kernel
theorem dL_way_67 : decode cL_way 67 = .ok (.iadd, 1) := by decide +kernel
theorem dL_way_68 : decode cL_way 68 = .ok (.aload 4, 2) := by decide +kernel
theorem dL_way_70 : decode cL_way 70 = .ok (.iload 8, 2) := by decide +kernel
theorem dL_way_72 : decode cL_way 72 = .ok (.iaload, 1) := by decide +kernel
theorem dL_way_73 : decode cL_way 73 = .ok (.bipush 12, 2) := by decide +kernel
theorem dL_way_75 : decode cL_way 75 = .ok (.invokestatic 26, 3) := by decide +kernel
theorem dL_way_78 : decode cL_way 78 = .ok (.iadd, 1) := by decide +kernel
theorem dL_way_79 : decode cL_way 79 = .ok (.aload 5, 2) := by decide +kernel
theorem dL_way_81 : decode cL_way 81 = .ok (.iload 8, 2) := by decide +kernel
theorem dL_way_83 : decode cL_way 83 = .ok (.iaload, 1) := by decide +kernel
theorem dL_way_84 : decode cL_way 84 = .ok (.bipush 12, 2) := by decide +kernel
theorem dL_way_86 : decode cL_way 86 = .ok (.invokestatic 26, 3) := by decide +kernel
theorem dL_way_89 : decode cL_way 89 = .ok (.isub, 1) := by decide +kernel
theorem dL_way_90 : decode cL_way 90 = .ok (.aload 6, 2) := by decide +kernel
theorem dL_way_92 : decode cL_way 92 = .ok (.iload 8, 2) := by decide +kernel
theorem dL_way_94 : decode cL_way 94 = .ok (.iaload, 1) := by decide +kernel
theorem dL_way_95 : decode cL_way 95 = .ok (.bipush 24, 2) := by decide +kernel
theorem dL_way_97 : decode cL_way 97 = .ok (.invokestatic 26, 3) := by decide +kernel
theorem dL_way_100 : decode cL_way 100 = .ok (.isub, 1) := by decide +kernel
theorem dL_way_101 : decode cL_way 101 = .ok (.invokestatic 8, 3) := by decide +kernel
theorem dL_way_104 : decode cL_way 104 = .ok (.iastore, 1) := by decide +kernel
theorem dL_way_105 : decode cL_way 105 = .ok (.iinc 8 1, 3) := by decide +kernel
theorem dL_way_108 : decode cL_way 108 = .ok (.goto (-65), 3) := by decide +kernel
theorem dL_way_111 : decode cL_way 111 = .ok (.aload 7, 2) := by decide +kernel
theorem dL_way_113 : decode cL_way 113 = .ok (.areturn, 1) := by decide +kernel
theorem dL_put_0 : decode cL_put 0 = .ok (.iconst (-1), 1) := by decide +kernel
theorem dL_put_1 : decode cL_put 1 = .ok (.istore 5, 2) := by decide +kernel
theorem dL_put_3 : decode cL_put 3 = .ok (.bipush 6, 2) := by decide +kernel
theorem dL_put_5 : decode cL_put 5 = .ok (.istore 6, 2) := by decide +kernel
theorem dL_put_7 : decode cL_put 7 = .ok (.iload 6, 2) := by decide +kernel
theorem dL_put_9 : decode cL_put 9 = .ok (.ifCond .lt 39, 3) := by decide +kernel
theorem dL_put_12 : decode cL_put 12 = .ok (.aload_n 1, 1) := by decide +kernel
theorem dL_put_13 : decode cL_put 13 = .ok (.bipush 7, 2) := by decide +kernel
theorem dL_put_15 : decode cL_put 15 = .ok (.iload_n 2, 1) := by decide +kernel
theorem dL_put_16 : decode cL_put 16 = .ok (.imul, 1) := by decide +kernel
theorem dL_put_17 : decode cL_put 17 = .ok (.iload 6, 2) := by decide +kernel
theorem dL_put_19 : decode cL_put 19 = .ok (.iadd, 1) := by decide +kernel
theorem dL_put_20 : decode cL_put 20 = .ok (.aload_n 3, 1) := by decide +kernel
theorem dL_put_21 : decode cL_put 21 = .ok (.iload 6, 2) := by decide +kernel
theorem dL_put_23 : decode cL_put 23 = .ok (.iaload, 1) := by decide +kernel
theorem dL_put_24 : decode cL_put 24 = .ok (.iastore, 1) := by decide +kernel
theorem dL_put_25 : decode cL_put 25 = .ok (.iload 6, 2) := by decide +kernel
theorem dL_put_27 : decode cL_put 27 = .ok (.iconst 1, 1) := by decide +kernel
theorem dL_put_28 : decode cL_put 28 = .ok (.if_icmp .le 14, 3) := by decide +kernel
theorem dL_put_31 : decode cL_put 31 = .ok (.aload_n 3, 1) := by decide +kernel
theorem dL_put_32 : decode cL_put 32 = .ok (.iload 6, 2) := by decide +kernel
theorem dL_put_34 : decode cL_put 34 = .ok (.iaload, 1) := by decide +kernel
theorem dL_put_35 : decode cL_put 35 = .ok (.ifCond .eq 7, 3) := by decide +kernel
theorem dL_put_38 : decode cL_put 38 = .ok (.iload 6, 2) := by decide +kernel
theorem dL_put_40 : decode cL_put 40 = .ok (.istore 5, 2) := by decide +kernel
theorem dL_put_42 : decode cL_put 42 = .ok (.iinc 6 (-1), 3) := by decide +kernel
theorem dL_put_45 : decode cL_put 45 = .ok (.goto (-38), 3) := by decide +kernel
theorem dL_put_48 : decode cL_put 48 = .ok (.aload_n 0, 1) := by decide +kernel
theorem dL_put_49 : decode cL_put 49 = .ok (.iconst 1, 1) := by decide +kernel
theorem dL_put_50 : decode cL_put 50 = .ok (.dup2, 1) := by decide +kernel
theorem dL_put_51 : decode cL_put 51 = .ok (.iaload, 1) := by decide +kernel
theorem dL_put_52 : decode cL_put 52 = .ok (.aload_n 0, 1) := by decide +kernel
theorem dL_put_53 : decode cL_put 53 = .ok (.iconst 0, 1) := by decide +kernel
theorem dL_put_54 : decode cL_put 54 = .ok (.iaload, 1) := by decide +kernel
theorem dL_put_55 : decode cL_put 55 = .ok (.iload 4, 2) := by decide +kernel
theorem dL_put_57 : decode cL_put 57 = .ok (.imul, 1) := by decide +kernel
theorem dL_put_58 : decode cL_put 58 = .ok (.isub, 1) := by decide +kernel
theorem dL_put_59 : decode cL_put 59 = .ok (.iastore, 1) := by decide +kernel
theorem dL_put_60 : decode cL_put 60 = .ok (.aload_n 0, 1) := by decide +kernel
theorem dL_put_61 : decode cL_put 61 = .ok (.iconst 2, 1) := by decide +kernel
theorem dL_put_62 : decode cL_put 62 = .ok (.dup2, 1) := by decide +kernel
theorem dL_put_63 : decode cL_put 63 = .ok (.iaload, 1) := by decide +kernel
theorem dL_put_64 : decode cL_put 64 = .ok (.aload_n 0, 1) := by decide +kernel
theorem dL_put_65 : decode cL_put 65 = .ok (.iconst 0, 1) := by decide +kernel
theorem dL_put_66 : decode cL_put 66 = .ok (.iaload, 1) := by decide +kernel
theorem dL_put_67 : decode cL_put 67 = .ok (.iload 4, 2) := by decide +kernel
theorem dL_put_69 : decode cL_put 69 = .ok (.imul, 1) := by decide +kernel
theorem dL_put_70 : decode cL_put 70 = .ok (.iadd, 1) := by decide +kernel
theorem dL_put_71 : decode cL_put 71 = .ok (.iastore, 1) := by decide +kernel
theorem dL_put_72 : decode cL_put 72 = .ok (.aload_n 0, 1) := by decide +kernel
theorem dL_put_73 : decode cL_put 73 = .ok (.iconst 3, 1) := by decide +kernel
theorem dL_put_74 : decode cL_put 74 = .ok (.dup2, 1) := by decide +kernel
theorem dL_put_75 : decode cL_put 75 = .ok (.iaload, 1) := by decide +kernel
theorem dL_put_76 : decode cL_put 76 = .ok (.iconst 1, 1) := by decide +kernel
theorem dL_put_77 : decode cL_put 77 = .ok (.iadd, 1) := by decide +kernel
theorem dL_put_78 : decode cL_put 78 = .ok (.iastore, 1) := by decide +kernel
theorem dL_put_79 : decode cL_put 79 = .ok (.aload_n 0, 1) := by decide +kernel
theorem dL_put_80 : decode cL_put 80 = .ok (.iconst 5, 1) := by decide +kernel
theorem dL_put_81 : decode cL_put 81 = .ok (.iaload, 1) := by decide +kernel
theorem dL_put_82 : decode cL_put 82 = .ok (.bipush 6, 2) := by decide +kernel
theorem dL_put_84 : decode cL_put 84 = .ok (.if_icmp .ge 10, 3) := by decide +kernel
theorem dL_put_87 : decode cL_put 87 = .ok (.aload_n 0, 1) := by decide +kernel
theorem dL_put_88 : decode cL_put 88 = .ok (.iconst 5, 1) := by decide +kernel
theorem dL_put_89 : decode cL_put 89 = .ok (.dup2, 1) := by decide +kernel
theorem dL_put_90 : decode cL_put 90 = .ok (.iaload, 1) := by decide +kernel
theorem dL_put_91 : decode cL_put 91 = .ok (.iconst 1, 1) := by decide +kernel
theorem dL_put_92 : decode cL_put 92 = .ok (.iadd, 1) := by decide +kernel
theorem dL_put_93 : decode cL_put 93 = .ok (.iastore, 1) := by decide +kernel
theorem dL_put_94 : decode cL_put 94 = .ok (.iload 5, 2) := by decide +kernel
theorem dL_put_96 : decode cL_put 96 = .ok (.ireturn, 1) := by decide +kernel
theorem dL_done_0 : decode cL_done 0 = .ok (.aload 6, 2) := by decide +kernel
theorem dL_done_2 : decode cL_done 2 = .ok (.iconst 0, 1) := by decide +kernel
theorem dL_done_3 : decode cL_done 3 = .ok (.iaload, 1) := by decide +kernel
theorem dL_done_4 : decode cL_done 4 = .ok (.istore 9, 2) := by decide +kernel
theorem dL_done_6 : decode cL_done 6 = .ok (.iload_n 1, 1) := by decide +kernel
theorem dL_done_7 : decode cL_done 7 = .ok (.ifCond .ne 7, 3) := by decide +kernel
theorem dL_done_10 : decode cL_done 10 = .ok (.iconst 2, 1) := by decide +kernel
theorem dL_done_11 : decode cL_done 11 = .ok (.goto 65, 3) := by decide +kernel
theorem dL_done_14 : decode cL_done 14 = .ok (.iload_n 1, 1) := by decide +kernel
theorem dL_done_15 : decode cL_done 15 = .ok (.iconst 3, 1) := by decide +kernel
theorem dL_done_16 : decode cL_done 16 = .ok (.if_icmp .ge 7, 3) := by decide +kernel
theorem dL_done_19 : decode cL_done 19 = .ok (.iconst 1, 1) := by decide +kernel
theorem dL_done_20 : decode cL_done 20 = .ok (.goto 56, 3) := by decide +kernel
theorem dL_done_23 : decode cL_done 23 = .ok (.iload_n 1, 1) := by decide +kernel
theorem dL_done_24 : decode cL_done 24 = .ok (.iconst 3, 1) := by decide +kernel
theorem dL_done_25 : decode cL_done 25 = .ok (.if_icmp .ne 7, 3) := by decide +kernel
theorem dL_done_28 : decode cL_done 28 = .ok (.iconst 5, 1) := by decide +kernel
theorem dL_done_29 : decode cL_done 29 = .ok (.goto 47, 3) := by decide +kernel
theorem dL_done_32 : decode cL_done 32 = .ok (.iload_n 1, 1) := by decide +kernel
theorem dL_done_33 : decode cL_done 33 = .ok (.iconst 4, 1) := by decide +kernel
theorem dL_done_34 : decode cL_done 34 = .ok (.if_icmp .ne 8, 3) := by decide +kernel
theorem dL_done_37 : decode cL_done 37 = .ok (.bipush 6, 2) := by decide +kernel
theorem dL_done_39 : decode cL_done 39 = .ok (.goto 37, 3) := by decide +kernel
theorem dL_done_42 : decode cL_done 42 = .ok (.iload_n 1, 1) := by decide +kernel
theorem dL_done_43 : decode cL_done 43 = .ok (.bipush 7, 2) := by decide +kernel
theorem dL_done_45 : decode cL_done 45 = .ok (.if_icmp .ge 7, 3) := by decide +kernel
theorem dL_done_48 : decode cL_done 48 = .ok (.iconst 4, 1) := by decide +kernel
theorem dL_done_49 : decode cL_done 49 = .ok (.goto 27, 3) := by decide +kernel
theorem dL_done_52 : decode cL_done 52 = .ok (.iload_n 1, 1) := by decide +kernel
theorem dL_done_53 : decode cL_done 53 = .ok (.bipush 7, 2) := by decide +kernel
theorem dL_done_55 : decode cL_done 55 = .ok (.if_icmp .ne 8, 3) := by decide +kernel
theorem dL_done_58 : decode cL_done 58 = .ok (.bipush 8, 2) := by decide +kernel
theorem dL_done_60 : decode cL_done 60 = .ok (.goto 16, 3) := by decide +kernel
theorem dL_done_63 : decode cL_done 63 = .ok (.iload_n 1, 1) := by decide +kernel
theorem dL_done_64 : decode cL_done 64 = .ok (.bipush 8, 2) := by decide +kernel
theorem dL_done_66 : decode cL_done 66 = .ok (.if_icmp .ne 8, 3) := by decide +kernel
theorem dL_done_69 : decode cL_done 69 = .ok (.bipush 6, 2) := by decide +kernel
theorem dL_done_71 : decode cL_done 71 = .ok (.goto 5, 3) := by decide +kernel
theorem dL_done_74 : decode cL_done 74 = .ok (.bipush 20, 2) := by decide +kernel
theorem dL_done_76 : decode cL_done 76 = .ok (.istore 10, 2) := by decide +kernel
theorem dL_done_78 : decode cL_done 78 = .ok (.aload 6, 2) := by decide +kernel
theorem dL_done_80 : decode cL_done 80 = .ok (.iconst 1, 1) := by decide +kernel
theorem dL_done_81 : decode cL_done 81 = .ok (.iaload, 1) := by decide +kernel
theorem dL_done_82 : decode cL_done 82 = .ok (.iload 9, 2) := by decide +kernel
theorem dL_done_84 : decode cL_done 84 = .ok (.iload 10, 2) := by decide +kernel
theorem dL_done_86 : decode cL_done 86 = .ok (.imul, 1) := by decide +kernel
theorem dL_done_87 : decode cL_done 87 = .ok (.if_icmp .ge 5, 3) := by decide +kernel
theorem dL_done_90 : decode cL_done 90 = .ok (.iconst 1, 1) := by decide +kernel
theorem dL_done_91 : decode cL_done 91 = .ok (.ireturn, 1) := by decide +kernel
theorem dL_done_92 : decode cL_done 92 = .ok (.iload_n 1, 1) := by decide +kernel
theorem dL_done_93 : decode cL_done 93 = .ok (.tableswitch 469 0 8 #[51, 104, 148, 192, 230, 268, 313, 351, 405], 51) := by decide +kernel
theorem dL_done_144 : decode cL_done 144 = .ok (.aload 6, 2) := by decide +kernel
theorem dL_done_146 : decode cL_done 146 = .ok (.iconst 4, 1) := by decide +kernel
theorem dL_done_147 : decode cL_done 147 = .ok (.dup2, 1) := by decide +kernel
theorem dL_done_148 : decode cL_done 148 = .ok (.iaload, 1) := by decide +kernel
theorem dL_done_149 : decode cL_done 149 = .ok (.iconst 1, 1) := by decide +kernel
theorem dL_done_150 : decode cL_done 150 = .ok (.iadd, 1) := by decide +kernel
theorem dL_done_151 : decode cL_done 151 = .ok (.iastore, 1) := by decide +kernel
theorem dL_done_152 : decode cL_done 152 = .ok (.aload_n 0, 1) := by decide +kernel
theorem dL_done_153 : decode cL_done 153 = .ok (.iload_n 2, 1) := by decide +kernel
theorem dL_done_154 : decode cL_done 154 = .ok (.iload_n 3, 1) := by decide +kernel
theorem dL_done_155 : decode cL_done 155 = .ok (.iload 4, 2) := by decide +kernel
theorem dL_done_157 : decode cL_done 157 = .ok (.invokevirtual 43, 3) := by decide +kernel
theorem dL_done_160 : decode cL_done 160 = .ok (.aload 6, 2) := by decide +kernel
theorem dL_done_162 : decode cL_done 162 = .ok (.aload 7, 2) := by decide +kernel
theorem dL_done_164 : decode cL_done 164 = .ok (.iload 4, 2) := by decide +kernel
theorem dL_done_166 : decode cL_done 166 = .ok (.iload 9, 2) := by decide +kernel
theorem dL_done_168 : decode cL_done 168 = .ok (.aload 7, 2) := by decide +kernel
theorem dL_done_170 : decode cL_done 170 = .ok (.iload_n 2, 1) := by decide +kernel
theorem dL_done_171 : decode cL_done 171 = .ok (.invokestatic 48, 3) := by decide +kernel
theorem dL_done_174 : decode cL_done 174 = .ok (.aload 7, 2) := by decide +kernel
theorem dL_done_176 : decode cL_done 176 = .ok (.iload_n 3, 1) := by decide +kernel
theorem dL_done_177 : decode cL_done 177 = .ok (.invokestatic 48, 3) := by decide +kernel
theorem dL_done_180 : decode cL_done 180 = .ok (.invokestatic 40, 3) := by decide +kernel
theorem dL_done_183 : decode cL_done 183 = .ok (.iload 10, 2) := by decide +kernel
theorem dL_done_185 : decode cL_done 185 = .ok (.invokestatic 52, 3) := by decide +kernel
theorem dL_done_188 : decode cL_done 188 = .ok (.if_icmp .ne 7, 3) := by decide +kernel
theorem dL_done_191 : decode cL_done 191 = .ok (.iconst 1, 1) := by decide +kernel
theorem dL_done_192 : decode cL_done 192 = .ok (.goto 4, 3) := by decide +kernel
theorem dL_done_195 : decode cL_done 195 = .ok (.iconst 0, 1) := by decide +kernel
theorem dL_done_196 : decode cL_done 196 = .ok (.ireturn, 1) := by decide +kernel
theorem dL_done_197 : decode cL_done 197 = .ok (.aload_n 0, 1) := by decide +kernel
theorem dL_done_198 : decode cL_done 198 = .ok (.iload_n 2, 1) := by decide +kernel
theorem dL_done_199 : decode cL_done 199 = .ok (.iload_n 3, 1) := by decide +kernel
theorem dL_done_200 : decode cL_done 200 = .ok (.iload 4, 2) := by decide +kernel
theorem dL_done_202 : decode cL_done 202 = .ok (.invokevirtual 56, 3) := by decide +kernel
theorem dL_done_205 : decode cL_done 205 = .ok (.aload 6, 2) := by decide +kernel
theorem dL_done_207 : decode cL_done 207 = .ok (.aload 7, 2) := by decide +kernel
theorem dL_done_209 : decode cL_done 209 = .ok (.iload 4, 2) := by decide +kernel
theorem dL_done_211 : decode cL_done 211 = .ok (.aload 7, 2) := by decide +kernel
theorem dL_done_213 : decode cL_done 213 = .ok (.iload_n 2, 1) := by decide +kernel
theorem dL_done_214 : decode cL_done 214 = .ok (.invokestatic 48, 3) := by decide +kernel
theorem dL_done_217 : decode cL_done 217 = .ok (.aload 7, 2) := by decide +kernel
theorem dL_done_219 : decode cL_done 219 = .ok (.iload_n 3, 1) := by decide +kernel
theorem dL_done_220 : decode cL_done 220 = .ok (.invokestatic 48, 3) := by decide +kernel
theorem dL_done_223 : decode cL_done 223 = .ok (.iconst 1, 1) := by decide +kernel
theorem dL_done_224 : decode cL_done 224 = .ok (.invokestatic 22, 3) := by decide +kernel
theorem dL_done_227 : decode cL_done 227 = .ok (.iload 10, 2) := by decide +kernel
theorem dL_done_229 : decode cL_done 229 = .ok (.invokestatic 52, 3) := by decide +kernel
theorem dL_done_232 : decode cL_done 232 = .ok (.if_icmp .ne 7, 3) := by decide +kernel
theorem dL_done_235 : decode cL_done 235 = .ok (.iconst 1, 1) := by decide +kernel
theorem dL_done_236 : decode cL_done 236 = .ok (.goto 4, 3) := by decide +kernel
theorem dL_done_239 : decode cL_done 239 = .ok (.iconst 0, 1) := by decide +kernel
theorem dL_done_240 : decode cL_done 240 = .ok (.ireturn, 1) := by decide +kernel
theorem dL_done_241 : decode cL_done 241 = .ok (.aload_n 0, 1) := by decide +kernel
theorem dL_done_242 : decode cL_done 242 = .ok (.iload_n 2, 1) := by decide +kernel
theorem dL_done_243 : decode cL_done 243 = .ok (.iload 5, 2) := by decide +kernel
theorem dL_done_245 : decode cL_done 245 = .ok (.iload 4, 2) := by decide +kernel
theorem dL_done_247 : decode cL_done 247 = .ok (.invokevirtual 59, 3) := by decide +kernel
theorem dL_done_250 : decode cL_done 250 = .ok (.aload 6, 2) := by decide +kernel
theorem dL_done_252 : decode cL_done 252 = .ok (.aload 7, 2) := by decide +kernel
theorem dL_done_254 : decode cL_done 254 = .ok (.iload 4, 2) := by decide +kernel
theorem dL_done_256 : decode cL_done 256 = .ok (.bipush 7, 2) := by decide +kernel
theorem dL_done_258 : decode cL_done 258 = .ok (.newarray .int, 2) := by decide +kernel
theorem dL_done_260 : decode cL_done 260 = .ok (.aload 7, 2) := by decide +kernel
theorem dL_done_262 : decode cL_done 262 = .ok (.iload_n 2, 1) := by decide +kernel
theorem dL_done_263 : decode cL_done 263 = .ok (.invokestatic 48, 3) := by decide +kernel
theorem dL_done_266 : decode cL_done 266 = .ok (.iload 5, 2) := by decide +kernel
theorem dL_done_268 : decode cL_done 268 = .ok (.invokestatic 22, 3) := by decide +kernel
theorem dL_done_271 : decode cL_done 271 = .ok (.iload 10, 2) := by decide +kernel
theorem dL_done_273 : decode cL_done 273 = .ok (.invokestatic 52, 3) := by decide +kernel
theorem dL_done_276 : decode cL_done 276 = .ok (.if_icmp .ne 7, 3) := by decide +kernel
theorem dL_done_279 : decode cL_done 279 = .ok (.iconst 1, 1) := by decide +kernel
theorem dL_done_280 : decode cL_done 280 = .ok (.goto 4, 3) := by decide +kernel
theorem dL_done_283 : decode cL_done 283 = .ok (.iconst 0, 1) := by decide +kernel
theorem dL_done_284 : decode cL_done 284 = .ok (.ireturn, 1) := by decide +kernel
theorem dL_done_285 : decode cL_done 285 = .ok (.aload_n 0, 1) := by decide +kernel
theorem dL_done_286 : decode cL_done 286 = .ok (.iload_n 2, 1) := by decide +kernel
theorem dL_done_287 : decode cL_done 287 = .ok (.iload 4, 2) := by decide +kernel
theorem dL_done_289 : decode cL_done 289 = .ok (.invokevirtual 62, 3) := by decide +kernel
theorem dL_done_292 : decode cL_done 292 = .ok (.aload 6, 2) := by decide +kernel
theorem dL_done_294 : decode cL_done 294 = .ok (.aload 8, 2) := by decide +kernel
theorem dL_done_296 : decode cL_done 296 = .ok (.iload 4, 2) := by decide +kernel
theorem dL_done_298 : decode cL_done 298 = .ok (.iload 9, 2) := by decide +kernel
theorem dL_done_300 : decode cL_done 300 = .ok (.aload 7, 2) := by decide +kernel
theorem dL_done_302 : decode cL_done 302 = .ok (.iload_n 2, 1) := by decide +kernel
theorem dL_done_303 : decode cL_done 303 = .ok (.invokestatic 48, 3) := by decide +kernel
theorem dL_done_306 : decode cL_done 306 = .ok (.invokestatic 30, 3) := by decide +kernel
theorem dL_done_309 : decode cL_done 309 = .ok (.iload 10, 2) := by decide +kernel
theorem dL_done_311 : decode cL_done 311 = .ok (.invokestatic 52, 3) := by decide +kernel
theorem dL_done_314 : decode cL_done 314 = .ok (.if_icmp .ne 7, 3) := by decide +kernel
theorem dL_done_317 : decode cL_done 317 = .ok (.iconst 1, 1) := by decide +kernel
theorem dL_done_318 : decode cL_done 318 = .ok (.goto 4, 3) := by decide +kernel
theorem dL_done_321 : decode cL_done 321 = .ok (.iconst 0, 1) := by decide +kernel
theorem dL_done_322 : decode cL_done 322 = .ok (.ireturn, 1) := by decide +kernel
theorem dL_done_323 : decode cL_done 323 = .ok (.aload_n 0, 1) := by decide +kernel
theorem dL_done_324 : decode cL_done 324 = .ok (.iload_n 2, 1) := by decide +kernel
theorem dL_done_325 : decode cL_done 325 = .ok (.iload 4, 2) := by decide +kernel
theorem dL_done_327 : decode cL_done 327 = .ok (.invokevirtual 64, 3) := by decide +kernel
theorem dL_done_330 : decode cL_done 330 = .ok (.aload 6, 2) := by decide +kernel
theorem dL_done_332 : decode cL_done 332 = .ok (.aload 7, 2) := by decide +kernel
theorem dL_done_334 : decode cL_done 334 = .ok (.iload 4, 2) := by decide +kernel
theorem dL_done_336 : decode cL_done 336 = .ok (.iload 9, 2) := by decide +kernel
theorem dL_done_338 : decode cL_done 338 = .ok (.aload 8, 2) := by decide +kernel
theorem dL_done_340 : decode cL_done 340 = .ok (.iload_n 2, 1) := by decide +kernel
theorem dL_done_341 : decode cL_done 341 = .ok (.invokestatic 48, 3) := by decide +kernel
theorem dL_done_344 : decode cL_done 344 = .ok (.invokestatic 67, 3) := by decide +kernel
theorem dL_done_347 : decode cL_done 347 = .ok (.iload 10, 2) := by decide +kernel
theorem dL_done_349 : decode cL_done 349 = .ok (.invokestatic 52, 3) := by decide +kernel
theorem dL_done_352 : decode cL_done 352 = .ok (.if_icmp .ne 7, 3) := by decide +kernel
theorem dL_done_355 : decode cL_done 355 = .ok (.iconst 1, 1) := by decide +kernel
theorem dL_done_356 : decode cL_done 356 = .ok (.goto 4, 3) := by decide +kernel
theorem dL_done_359 : decode cL_done 359 = .ok (.iconst 0, 1) := by decide +kernel
theorem dL_done_360 : decode cL_done 360 = .ok (.ireturn, 1) := by decide +kernel
theorem dL_done_361 : decode cL_done 361 = .ok (.aload_n 0, 1) := by decide +kernel
theorem dL_done_362 : decode cL_done 362 = .ok (.iload_n 2, 1) := by decide +kernel
theorem dL_done_363 : decode cL_done 363 = .ok (.iload_n 3, 1) := by decide +kernel
theorem dL_done_364 : decode cL_done 364 = .ok (.iload 4, 2) := by decide +kernel
theorem dL_done_366 : decode cL_done 366 = .ok (.invokevirtual 69, 3) := by decide +kernel
theorem dL_done_369 : decode cL_done 369 = .ok (.aload 6, 2) := by decide +kernel
theorem dL_done_371 : decode cL_done 371 = .ok (.aload 8, 2) := by decide +kernel
theorem dL_done_373 : decode cL_done 373 = .ok (.iload 4, 2) := by decide +kernel
theorem dL_done_375 : decode cL_done 375 = .ok (.iload 9, 2) := by decide +kernel
theorem dL_done_377 : decode cL_done 377 = .ok (.aload 8, 2) := by decide +kernel
theorem dL_done_379 : decode cL_done 379 = .ok (.iload_n 2, 1) := by decide +kernel
theorem dL_done_380 : decode cL_done 380 = .ok (.invokestatic 48, 3) := by decide +kernel
theorem dL_done_383 : decode cL_done 383 = .ok (.aload 8, 2) := by decide +kernel
theorem dL_done_385 : decode cL_done 385 = .ok (.iload_n 3, 1) := by decide +kernel
theorem dL_done_386 : decode cL_done 386 = .ok (.invokestatic 48, 3) := by decide +kernel
theorem dL_done_389 : decode cL_done 389 = .ok (.invokestatic 34, 3) := by decide +kernel
theorem dL_done_392 : decode cL_done 392 = .ok (.iload 10, 2) := by decide +kernel
theorem dL_done_394 : decode cL_done 394 = .ok (.invokestatic 52, 3) := by decide +kernel
theorem dL_done_397 : decode cL_done 397 = .ok (.if_icmp .ne 7, 3) := by decide +kernel
theorem dL_done_400 : decode cL_done 400 = .ok (.iconst 1, 1) := by decide +kernel
theorem dL_done_401 : decode cL_done 401 = .ok (.goto 4, 3) := by decide +kernel
theorem dL_done_404 : decode cL_done 404 = .ok (.iconst 0, 1) := by decide +kernel
theorem dL_done_405 : decode cL_done 405 = .ok (.ireturn, 1) := by decide +kernel
theorem dL_done_406 : decode cL_done 406 = .ok (.aload_n 0, 1) := by decide +kernel
theorem dL_done_407 : decode cL_done 407 = .ok (.iload_n 2, 1) := by decide +kernel
theorem dL_done_408 : decode cL_done 408 = .ok (.iload 4, 2) := by decide +kernel
theorem dL_done_410 : decode cL_done 410 = .ok (.invokevirtual 72, 3) := by decide +kernel
theorem dL_done_413 : decode cL_done 413 = .ok (.aload 6, 2) := by decide +kernel
theorem dL_done_415 : decode cL_done 415 = .ok (.aload 8, 2) := by decide +kernel
theorem dL_done_417 : decode cL_done 417 = .ok (.iload 4, 2) := by decide +kernel
theorem dL_done_419 : decode cL_done 419 = .ok (.iload 9, 2) := by decide +kernel
theorem dL_done_421 : decode cL_done 421 = .ok (.aload 8, 2) := by decide +kernel
theorem dL_done_423 : decode cL_done 423 = .ok (.iload_n 2, 1) := by decide +kernel
theorem dL_done_424 : decode cL_done 424 = .ok (.invokestatic 48, 3) := by decide +kernel
theorem dL_done_427 : decode cL_done 427 = .ok (.invokestatic 37, 3) := by decide +kernel
theorem dL_done_430 : decode cL_done 430 = .ok (.iload 10, 2) := by decide +kernel
theorem dL_done_432 : decode cL_done 432 = .ok (.invokestatic 52, 3) := by decide +kernel
theorem dL_done_435 : decode cL_done 435 = .ok (.if_icmp .ne 7, 3) := by decide +kernel
theorem dL_done_438 : decode cL_done 438 = .ok (.iconst 1, 1) := by decide +kernel
theorem dL_done_439 : decode cL_done 439 = .ok (.goto 4, 3) := by decide +kernel
theorem dL_done_442 : decode cL_done 442 = .ok (.iconst 0, 1) := by decide +kernel
theorem dL_done_443 : decode cL_done 443 = .ok (.ireturn, 1) := by decide +kernel
theorem dL_done_444 : decode cL_done 444 = .ok (.iload 5, 2) := by decide +kernel
theorem dL_done_446 : decode cL_done 446 = .ok (.bipush 19, 2) := by decide +kernel
theorem dL_done_448 : decode cL_done 448 = .ok (.invokestatic 75, 3) := by decide +kernel
theorem dL_done_451 : decode cL_done 451 = .ok (.bipush 9, 2) := by decide +kernel
theorem dL_done_453 : decode cL_done 453 = .ok (.isub, 1) := by decide +kernel
theorem dL_done_454 : decode cL_done 454 = .ok (.istore 11, 2) := by decide +kernel
theorem dL_done_456 : decode cL_done 456 = .ok (.aload_n 0, 1) := by decide +kernel
theorem dL_done_457 : decode cL_done 457 = .ok (.iload_n 2, 1) := by decide +kernel
theorem dL_done_458 : decode cL_done 458 = .ok (.iload 11, 2) := by decide +kernel
theorem dL_done_460 : decode cL_done 460 = .ok (.iload 4, 2) := by decide +kernel
theorem dL_done_462 : decode cL_done 462 = .ok (.invokevirtual 78, 3) := by decide +kernel
theorem dL_done_465 : decode cL_done 465 = .ok (.aload 6, 2) := by decide +kernel
theorem dL_done_467 : decode cL_done 467 = .ok (.aload 8, 2) := by decide +kernel
theorem dL_done_469 : decode cL_done 469 = .ok (.iload 4, 2) := by decide +kernel
theorem dL_done_471 : decode cL_done 471 = .ok (.iload 9, 2) := by decide +kernel
theorem dL_done_473 : decode cL_done 473 = .ok (.aload 8, 2) := by decide +kernel
theorem dL_done_475 : decode cL_done 475 = .ok (.iload_n 2, 1) := by decide +kernel
theorem dL_done_476 : decode cL_done 476 = .ok (.invokestatic 48, 3) := by decide +kernel
theorem dL_done_479 : decode cL_done 479 = .ok (.iload 11, 2) := by decide +kernel
theorem dL_done_481 : decode cL_done 481 = .ok (.invokestatic 81, 3) := by decide +kernel
theorem dL_done_484 : decode cL_done 484 = .ok (.iload 10, 2) := by decide +kernel
theorem dL_done_486 : decode cL_done 486 = .ok (.invokestatic 52, 3) := by decide +kernel
theorem dL_done_489 : decode cL_done 489 = .ok (.if_icmp .ne 7, 3) := by decide +kernel
theorem dL_done_492 : decode cL_done 492 = .ok (.iconst 1, 1) := by decide +kernel
theorem dL_done_493 : decode cL_done 493 = .ok (.goto 4, 3) := by decide +kernel
theorem dL_done_496 : decode cL_done 496 = .ok (.iconst 0, 1) := by decide +kernel
theorem dL_done_497 : decode cL_done 497 = .ok (.ireturn, 1) := by decide +kernel
theorem dL_done_498 : decode cL_done 498 = .ok (.aload 8, 2) := by decide +kernel
theorem dL_done_500 : decode cL_done 500 = .ok (.iload_n 2, 1) := by decide +kernel
theorem dL_done_501 : decode cL_done 501 = .ok (.invokestatic 48, 3) := by decide +kernel
theorem dL_done_504 : decode cL_done 504 = .ok (.astore 12, 2) := by decide +kernel
theorem dL_done_506 : decode cL_done 506 = .ok (.aload_n 0, 1) := by decide +kernel
theorem dL_done_507 : decode cL_done 507 = .ok (.iload_n 2, 1) := by decide +kernel
theorem dL_done_508 : decode cL_done 508 = .ok (.iload_n 3, 1) := by decide +kernel
theorem dL_done_509 : decode cL_done 509 = .ok (.iload 4, 2) := by decide +kernel
theorem dL_done_511 : decode cL_done 511 = .ok (.invokevirtual 84, 3) := by decide +kernel
theorem dL_done_514 : decode cL_done 514 = .ok (.aload 6, 2) := by decide +kernel
theorem dL_done_516 : decode cL_done 516 = .ok (.aload 7, 2) := by decide +kernel
theorem dL_done_518 : decode cL_done 518 = .ok (.iload 4, 2) := by decide +kernel
theorem dL_done_520 : decode cL_done 520 = .ok (.iload 9, 2) := by decide +kernel
theorem dL_done_522 : decode cL_done 522 = .ok (.iload 9, 2) := by decide +kernel
theorem dL_done_524 : decode cL_done 524 = .ok (.aload 12, 2) := by decide +kernel
theorem dL_done_526 : decode cL_done 526 = .ok (.invokestatic 37, 3) := by decide +kernel
theorem dL_done_529 : decode cL_done 529 = .ok (.iload 9, 2) := by decide +kernel
theorem dL_done_531 : decode cL_done 531 = .ok (.aload 12, 2) := by decide +kernel
theorem dL_done_533 : decode cL_done 533 = .ok (.invokestatic 14, 3) := by decide +kernel
theorem dL_done_536 : decode cL_done 536 = .ok (.aload 7, 2) := by decide +kernel
theorem dL_done_538 : decode cL_done 538 = .ok (.iload_n 3, 1) := by decide +kernel
theorem dL_done_539 : decode cL_done 539 = .ok (.invokestatic 48, 3) := by decide +kernel
theorem dL_done_542 : decode cL_done 542 = .ok (.invokestatic 18, 3) := by decide +kernel
theorem dL_done_545 : decode cL_done 545 = .ok (.invokestatic 34, 3) := by decide +kernel
theorem dL_done_548 : decode cL_done 548 = .ok (.iload 10, 2) := by decide +kernel
theorem dL_done_550 : decode cL_done 550 = .ok (.invokestatic 52, 3) := by decide +kernel
theorem dL_done_553 : decode cL_done 553 = .ok (.if_icmp .ne 7, 3) := by decide +kernel
theorem dL_done_556 : decode cL_done 556 = .ok (.iconst 1, 1) := by decide +kernel
theorem dL_done_557 : decode cL_done 557 = .ok (.goto 4, 3) := by decide +kernel
theorem dL_done_560 : decode cL_done 560 = .ok (.iconst 0, 1) := by decide +kernel
theorem dL_done_561 : decode cL_done 561 = .ok (.ireturn, 1) := by decide +kernel
theorem dL_done_562 : decode cL_done 562 = .ok (.aload_n 0, 1) := by decide +kernel
theorem dL_done_563 : decode cL_done 563 = .ok (.iload_n 2, 1) := by decide +kernel
theorem dL_done_564 : decode cL_done 564 = .ok (.iload_n 3, 1) := by decide +kernel
theorem dL_done_565 : decode cL_done 565 = .ok (.iload 4, 2) := by decide +kernel
theorem dL_done_567 : decode cL_done 567 = .ok (.invokevirtual 87, 3) := by decide +kernel
theorem dL_done_570 : decode cL_done 570 = .ok (.aload 6, 2) := by decide +kernel
theorem dL_done_572 : decode cL_done 572 = .ok (.aload 7, 2) := by decide +kernel
theorem dL_done_574 : decode cL_done 574 = .ok (.iload 4, 2) := by decide +kernel
theorem dL_done_576 : decode cL_done 576 = .ok (.iload 9, 2) := by decide +kernel
theorem dL_done_578 : decode cL_done 578 = .ok (.aload 7, 2) := by decide +kernel
theorem dL_done_580 : decode cL_done 580 = .ok (.iload_n 2, 1) := by decide +kernel
theorem dL_done_581 : decode cL_done 581 = .ok (.invokestatic 48, 3) := by decide +kernel
theorem dL_done_584 : decode cL_done 584 = .ok (.aload 7, 2) := by decide +kernel
theorem dL_done_586 : decode cL_done 586 = .ok (.iload_n 3, 1) := by decide +kernel
theorem dL_done_587 : decode cL_done 587 = .ok (.invokestatic 48, 3) := by decide +kernel
theorem dL_done_590 : decode cL_done 590 = .ok (.invokestatic 90, 3) := by decide +kernel
theorem dL_done_593 : decode cL_done 593 = .ok (.iload 10, 2) := by decide +kernel
theorem dL_done_595 : decode cL_done 595 = .ok (.invokestatic 52, 3) := by decide +kernel
theorem dL_done_598 : decode cL_done 598 = .ok (.if_icmp .ne 7, 3) := by decide +kernel
theorem dL_done_601 : decode cL_done 601 = .ok (.iconst 1, 1) := by decide +kernel
theorem dL_done_602 : decode cL_done 602 = .ok (.goto 4, 3) := by decide +kernel
theorem dL_done_605 : decode cL_done 605 = .ok (.iconst 0, 1) := by decide +kernel
theorem dL_done_606 : decode cL_done 606 = .ok (.ireturn, 1) := by decide +kernel
theorem dL_act_0 : decode cL_act 0 = .ok (.iload_n 1, 1) := by decide +kernel
theorem dL_act_1 : decode cL_act 1 = .ok (.bipush 20, 2) := by decide +kernel
theorem dL_act_3 : decode cL_act 3 = .ok (.ishr, 1) := by decide +kernel
theorem dL_act_4 : decode cL_act 4 = .ok (.bipush 20, 2) := by decide +kernel
theorem dL_act_6 : decode cL_act 6 = .ok (.invokestatic 75, 3) := by decide +kernel
theorem dL_act_9 : decode cL_act 9 = .ok (.istore 6, 2) := by decide +kernel
theorem dL_act_11 : decode cL_act 11 = .ok (.iload_n 2, 1) := by decide +kernel
theorem dL_act_12 : decode cL_act 12 = .ok (.bipush 6, 2) := by decide +kernel
theorem dL_act_14 : decode cL_act 14 = .ok (.invokestatic 75, 3) := by decide +kernel
theorem dL_act_17 : decode cL_act 17 = .ok (.istore 7, 2) := by decide +kernel
theorem dL_act_19 : decode cL_act 19 = .ok (.iload 6, 2) := by decide +kernel
theorem dL_act_21 : decode cL_act 21 = .ok (.iconst 5, 1) := by decide +kernel
theorem dL_act_22 : decode cL_act 22 = .ok (.if_icmp .ge 114, 3) := by decide +kernel
theorem dL_act_25 : decode cL_act 25 = .ok (.iconst 2, 1) := by decide +kernel
theorem dL_act_26 : decode cL_act 26 = .ok (.iload_n 2, 1) := by decide +kernel
theorem dL_act_27 : decode cL_act 27 = .ok (.iconst 3, 1) := by decide +kernel
theorem dL_act_28 : decode cL_act 28 = .ok (.ishr, 1) := by decide +kernel
theorem dL_act_29 : decode cL_act 29 = .ok (.aload_n 3, 1) := by decide +kernel
theorem dL_act_30 : decode cL_act 30 = .ok (.iconst 0, 1) := by decide +kernel
theorem dL_act_31 : decode cL_act 31 = .ok (.iaload, 1) := by decide +kernel
theorem dL_act_32 : decode cL_act 32 = .ok (.iconst 1, 1) := by decide +kernel
theorem dL_act_33 : decode cL_act 33 = .ok (.isub, 1) := by decide +kernel
theorem dL_act_34 : decode cL_act 34 = .ok (.invokestatic 75, 3) := by decide +kernel
theorem dL_act_37 : decode cL_act 37 = .ok (.iadd, 1) := by decide +kernel
theorem dL_act_38 : decode cL_act 38 = .ok (.istore 8, 2) := by decide +kernel
theorem dL_act_40 : decode cL_act 40 = .ok (.iload 6, 2) := by decide +kernel
theorem dL_act_42 : decode cL_act 42 = .ok (.iconst 3, 1) := by decide +kernel
theorem dL_act_43 : decode cL_act 43 = .ok (.if_icmp .ge 8, 3) := by decide +kernel
theorem dL_act_46 : decode cL_act 46 = .ok (.aload 4, 2) := by decide +kernel
theorem dL_act_48 : decode cL_act 48 = .ok (.goto 5, 3) := by decide +kernel
theorem dL_act_51 : decode cL_act 51 = .ok (.aload 5, 2) := by decide +kernel
theorem dL_act_53 : decode cL_act 53 = .ok (.astore 9, 2) := by decide +kernel
theorem dL_act_55 : decode cL_act 55 = .ok (.aload 9, 2) := by decide +kernel
theorem dL_act_57 : decode cL_act 57 = .ok (.bipush 7, 2) := by decide +kernel
theorem dL_act_59 : decode cL_act 59 = .ok (.iload 7, 2) := by decide +kernel
theorem dL_act_61 : decode cL_act 61 = .ok (.imul, 1) := by decide +kernel
theorem dL_act_62 : decode cL_act 62 = .ok (.iload 8, 2) := by decide +kernel
theorem dL_act_64 : decode cL_act 64 = .ok (.iadd, 1) := by decide +kernel
theorem dL_act_65 : decode cL_act 65 = .ok (.iaload, 1) := by decide +kernel
theorem dL_act_66 : decode cL_act 66 = .ok (.istore 10, 2) := by decide +kernel
theorem dL_act_68 : decode cL_act 68 = .ok (.aload 9, 2) := by decide +kernel
theorem dL_act_70 : decode cL_act 70 = .ok (.bipush 7, 2) := by decide +kernel
theorem dL_act_72 : decode cL_act 72 = .ok (.iload 7, 2) := by decide +kernel
theorem dL_act_74 : decode cL_act 74 = .ok (.imul, 1) := by decide +kernel
theorem dL_act_75 : decode cL_act 75 = .ok (.iload 8, 2) := by decide +kernel
theorem dL_act_77 : decode cL_act 77 = .ok (.iadd, 1) := by decide +kernel
theorem dL_act_78 : decode cL_act 78 = .ok (.iload_n 2, 1) := by decide +kernel
theorem dL_act_79 : decode cL_act 79 = .ok (.invokestatic 8, 3) := by decide +kernel
theorem dL_act_82 : decode cL_act 82 = .ok (.iastore, 1) := by decide +kernel
theorem dL_act_83 : decode cL_act 83 = .ok (.aload_n 3, 1) := by decide +kernel
theorem dL_act_84 : decode cL_act 84 = .ok (.iconst 5, 1) := by decide +kernel
theorem dL_act_85 : decode cL_act 85 = .ok (.iaload, 1) := by decide +kernel
theorem dL_act_86 : decode cL_act 86 = .ok (.bipush 6, 2) := by decide +kernel
theorem dL_act_88 : decode cL_act 88 = .ok (.if_icmp .ge 10, 3) := by decide +kernel
theorem dL_act_91 : decode cL_act 91 = .ok (.aload_n 3, 1) := by decide +kernel
theorem dL_act_92 : decode cL_act 92 = .ok (.iconst 5, 1) := by decide +kernel
theorem dL_act_93 : decode cL_act 93 = .ok (.dup2, 1) := by decide +kernel
theorem dL_act_94 : decode cL_act 94 = .ok (.iaload, 1) := by decide +kernel
theorem dL_act_95 : decode cL_act 95 = .ok (.iconst 1, 1) := by decide +kernel
theorem dL_act_96 : decode cL_act 96 = .ok (.iadd, 1) := by decide +kernel
theorem dL_act_97 : decode cL_act 97 = .ok (.iastore, 1) := by decide +kernel
theorem dL_act_98 : decode cL_act 98 = .ok (.iload 6, 2) := by decide +kernel
theorem dL_act_100 : decode cL_act 100 = .ok (.iconst 3, 1) := by decide +kernel
theorem dL_act_101 : decode cL_act 101 = .ok (.if_icmp .ge 15, 3) := by decide +kernel
theorem dL_act_104 : decode cL_act 104 = .ok (.aload_n 0, 1) := by decide +kernel
theorem dL_act_105 : decode cL_act 105 = .ok (.iload 7, 2) := by decide +kernel
theorem dL_act_107 : decode cL_act 107 = .ok (.iload 8, 2) := by decide +kernel
theorem dL_act_109 : decode cL_act 109 = .ok (.iload_n 2, 1) := by decide +kernel
theorem dL_act_110 : decode cL_act 110 = .ok (.invokevirtual 93, 3) := by decide +kernel
theorem dL_act_113 : decode cL_act 113 = .ok (.goto 12, 3) := by decide +kernel
theorem dL_act_116 : decode cL_act 116 = .ok (.aload_n 0, 1) := by decide +kernel
theorem dL_act_117 : decode cL_act 117 = .ok (.iload 7, 2) := by decide +kernel
theorem dL_act_119 : decode cL_act 119 = .ok (.iload 8, 2) := by decide +kernel
theorem dL_act_121 : decode cL_act 121 = .ok (.iload_n 2, 1) := by decide +kernel
theorem dL_act_122 : decode cL_act 122 = .ok (.invokevirtual 96, 3) := by decide +kernel
theorem dL_act_125 : decode cL_act 125 = .ok (.iload 10, 2) := by decide +kernel
theorem dL_act_127 : decode cL_act 127 = .ok (.if_icmp .ne 7, 3) := by decide +kernel
theorem dL_act_130 : decode cL_act 130 = .ok (.iconst 1, 1) := by decide +kernel
theorem dL_act_131 : decode cL_act 131 = .ok (.goto 4, 3) := by decide +kernel
theorem dL_act_134 : decode cL_act 134 = .ok (.iconst 0, 1) := by decide +kernel
theorem dL_act_135 : decode cL_act 135 = .ok (.ireturn, 1) := by decide +kernel
theorem dL_act_136 : decode cL_act 136 = .ok (.iload 6, 2) := by decide +kernel
theorem dL_act_138 : decode cL_act 138 = .ok (.iconst 5, 1) := by decide +kernel
theorem dL_act_139 : decode cL_act 139 = .ok (.if_icmp .ne 90, 3) := by decide +kernel
theorem dL_act_142 : decode cL_act 142 = .ok (.aload_n 3, 1) := by decide +kernel
theorem dL_act_143 : decode cL_act 143 = .ok (.iconst 0, 1) := by decide +kernel
theorem dL_act_144 : decode cL_act 144 = .ok (.iaload, 1) := by decide +kernel
theorem dL_act_145 : decode cL_act 145 = .ok (.istore 8, 2) := by decide +kernel
theorem dL_act_147 : decode cL_act 147 = .ok (.aload_n 3, 1) := by decide +kernel
theorem dL_act_148 : decode cL_act 148 = .ok (.iconst 0, 1) := by decide +kernel
theorem dL_act_149 : decode cL_act 149 = .ok (.iconst 2, 1) := by decide +kernel
theorem dL_act_150 : decode cL_act 150 = .ok (.iload_n 2, 1) := by decide +kernel
theorem dL_act_151 : decode cL_act 151 = .ok (.iconst 5, 1) := by decide +kernel
theorem dL_act_152 : decode cL_act 152 = .ok (.invokestatic 75, 3) := by decide +kernel
theorem dL_act_155 : decode cL_act 155 = .ok (.iadd, 1) := by decide +kernel
theorem dL_act_156 : decode cL_act 156 = .ok (.iastore, 1) := by decide +kernel
theorem dL_act_157 : decode cL_act 157 = .ok (.iconst 0, 1) := by decide +kernel
theorem dL_act_158 : decode cL_act 158 = .ok (.istore 9, 2) := by decide +kernel
theorem dL_act_160 : decode cL_act 160 = .ok (.iload 9, 2) := by decide +kernel
theorem dL_act_162 : decode cL_act 162 = .ok (.bipush 42, 2) := by decide +kernel
theorem dL_act_164 : decode cL_act 164 = .ok (.if_icmp .ge 32, 3) := by decide +kernel
theorem dL_act_167 : decode cL_act 167 = .ok (.iload 9, 2) := by decide +kernel
theorem dL_act_169 : decode cL_act 169 = .ok (.bipush 7, 2) := by decide +kernel
theorem dL_act_171 : decode cL_act 171 = .ok (.irem, 1) := by decide +kernel
theorem dL_act_172 : decode cL_act 172 = .ok (.aload_n 3, 1) := by decide +kernel
theorem dL_act_173 : decode cL_act 173 = .ok (.iconst 0, 1) := by decide +kernel
theorem dL_act_174 : decode cL_act 174 = .ok (.iaload, 1) := by decide +kernel
theorem dL_act_175 : decode cL_act 175 = .ok (.if_icmp .le 15, 3) := by decide +kernel
theorem dL_act_178 : decode cL_act 178 = .ok (.aload 4, 2) := by decide +kernel
theorem dL_act_180 : decode cL_act 180 = .ok (.iload 9, 2) := by decide +kernel
theorem dL_act_182 : decode cL_act 182 = .ok (.iconst 0, 1) := by decide +kernel
theorem dL_act_183 : decode cL_act 183 = .ok (.iastore, 1) := by decide +kernel
theorem dL_act_184 : decode cL_act 184 = .ok (.aload 5, 2) := by decide +kernel
theorem dL_act_186 : decode cL_act 186 = .ok (.iload 9, 2) := by decide +kernel
theorem dL_act_188 : decode cL_act 188 = .ok (.iconst 0, 1) := by decide +kernel
theorem dL_act_189 : decode cL_act 189 = .ok (.iastore, 1) := by decide +kernel
theorem dL_act_190 : decode cL_act 190 = .ok (.iinc 9 1, 3) := by decide +kernel
theorem dL_act_193 : decode cL_act 193 = .ok (.goto (-33), 3) := by decide +kernel
theorem dL_act_196 : decode cL_act 196 = .ok (.aload_n 3, 1) := by decide +kernel
theorem dL_act_197 : decode cL_act 197 = .ok (.iconst 5, 1) := by decide +kernel
theorem dL_act_198 : decode cL_act 198 = .ok (.iaload, 1) := by decide +kernel
theorem dL_act_199 : decode cL_act 199 = .ok (.bipush 6, 2) := by decide +kernel
theorem dL_act_201 : decode cL_act 201 = .ok (.if_icmp .ge 10, 3) := by decide +kernel
theorem dL_act_204 : decode cL_act 204 = .ok (.aload_n 3, 1) := by decide +kernel
theorem dL_act_205 : decode cL_act 205 = .ok (.iconst 5, 1) := by decide +kernel
theorem dL_act_206 : decode cL_act 206 = .ok (.dup2, 1) := by decide +kernel
theorem dL_act_207 : decode cL_act 207 = .ok (.iaload, 1) := by decide +kernel
theorem dL_act_208 : decode cL_act 208 = .ok (.iconst 1, 1) := by decide +kernel
theorem dL_act_209 : decode cL_act 209 = .ok (.iadd, 1) := by decide +kernel
theorem dL_act_210 : decode cL_act 210 = .ok (.iastore, 1) := by decide +kernel
theorem dL_act_211 : decode cL_act 211 = .ok (.aload_n 0, 1) := by decide +kernel
theorem dL_act_212 : decode cL_act 212 = .ok (.aload_n 3, 1) := by decide +kernel
theorem dL_act_213 : decode cL_act 213 = .ok (.iconst 0, 1) := by decide +kernel
theorem dL_act_214 : decode cL_act 214 = .ok (.iaload, 1) := by decide +kernel
theorem dL_act_215 : decode cL_act 215 = .ok (.invokevirtual 99, 3) := by decide +kernel
theorem dL_act_218 : decode cL_act 218 = .ok (.iload 8, 2) := by decide +kernel
theorem dL_act_220 : decode cL_act 220 = .ok (.if_icmp .ne 7, 3) := by decide +kernel
theorem dL_act_223 : decode cL_act 223 = .ok (.iconst 1, 1) := by decide +kernel
theorem dL_act_224 : decode cL_act 224 = .ok (.goto 4, 3) := by decide +kernel
theorem dL_act_227 : decode cL_act 227 = .ok (.iconst 0, 1) := by decide +kernel
theorem dL_act_228 : decode cL_act 228 = .ok (.ireturn, 1) := by decide +kernel
theorem dL_act_229 : decode cL_act 229 = .ok (.iload 6, 2) := by decide +kernel
theorem dL_act_231 : decode cL_act 231 = .ok (.bipush 6, 2) := by decide +kernel
theorem dL_act_233 : decode cL_act 233 = .ok (.if_icmp .ne 55, 3) := by decide +kernel
theorem dL_act_236 : decode cL_act 236 = .ok (.iconst 1, 1) := by decide +kernel
theorem dL_act_237 : decode cL_act 237 = .ok (.iload_n 2, 1) := by decide +kernel
theorem dL_act_238 : decode cL_act 238 = .ok (.sipush 300, 3) := by decide +kernel
theorem dL_act_241 : decode cL_act 241 = .ok (.invokestatic 75, 3) := by decide +kernel
theorem dL_act_244 : decode cL_act 244 = .ok (.iadd, 1) := by decide +kernel
theorem dL_act_245 : decode cL_act 245 = .ok (.istore 8, 2) := by decide +kernel
theorem dL_act_247 : decode cL_act 247 = .ok (.aload_n 3, 1) := by decide +kernel
theorem dL_act_248 : decode cL_act 248 = .ok (.iconst 1, 1) := by decide +kernel
theorem dL_act_249 : decode cL_act 249 = .ok (.dup2, 1) := by decide +kernel
theorem dL_act_250 : decode cL_act 250 = .ok (.iaload, 1) := by decide +kernel
theorem dL_act_251 : decode cL_act 251 = .ok (.iload 8, 2) := by decide +kernel
theorem dL_act_253 : decode cL_act 253 = .ok (.iadd, 1) := by decide +kernel
theorem dL_act_254 : decode cL_act 254 = .ok (.iastore, 1) := by decide +kernel
theorem dL_act_255 : decode cL_act 255 = .ok (.aload_n 3, 1) := by decide +kernel
theorem dL_act_256 : decode cL_act 256 = .ok (.iconst 5, 1) := by decide +kernel
theorem dL_act_257 : decode cL_act 257 = .ok (.iaload, 1) := by decide +kernel
theorem dL_act_258 : decode cL_act 258 = .ok (.bipush 6, 2) := by decide +kernel
theorem dL_act_260 : decode cL_act 260 = .ok (.if_icmp .ge 10, 3) := by decide +kernel
theorem dL_act_263 : decode cL_act 263 = .ok (.aload_n 3, 1) := by decide +kernel
theorem dL_act_264 : decode cL_act 264 = .ok (.iconst 5, 1) := by decide +kernel
theorem dL_act_265 : decode cL_act 265 = .ok (.dup2, 1) := by decide +kernel
theorem dL_act_266 : decode cL_act 266 = .ok (.iaload, 1) := by decide +kernel
theorem dL_act_267 : decode cL_act 267 = .ok (.iconst 1, 1) := by decide +kernel
theorem dL_act_268 : decode cL_act 268 = .ok (.iadd, 1) := by decide +kernel
theorem dL_act_269 : decode cL_act 269 = .ok (.iastore, 1) := by decide +kernel
theorem dL_act_270 : decode cL_act 270 = .ok (.aload_n 0, 1) := by decide +kernel
theorem dL_act_271 : decode cL_act 271 = .ok (.iload 8, 2) := by decide +kernel
theorem dL_act_273 : decode cL_act 273 = .ok (.invokevirtual 102, 3) := by decide +kernel
theorem dL_act_276 : decode cL_act 276 = .ok (.aload_n 3, 1) := by decide +kernel
theorem dL_act_277 : decode cL_act 277 = .ok (.iconst 1, 1) := by decide +kernel
theorem dL_act_278 : decode cL_act 278 = .ok (.iaload, 1) := by decide +kernel
theorem dL_act_279 : decode cL_act 279 = .ok (.if_icmp .ne 7, 3) := by decide +kernel
theorem dL_act_282 : decode cL_act 282 = .ok (.iconst 1, 1) := by decide +kernel
theorem dL_act_283 : decode cL_act 283 = .ok (.goto 4, 3) := by decide +kernel
theorem dL_act_286 : decode cL_act 286 = .ok (.iconst 0, 1) := by decide +kernel
theorem dL_act_287 : decode cL_act 287 = .ok (.ireturn, 1) := by decide +kernel
theorem dL_act_288 : decode cL_act 288 = .ok (.aload_n 0, 1) := by decide +kernel
theorem dL_act_289 : decode cL_act 289 = .ok (.iload_n 1, 1) := by decide +kernel
theorem dL_act_290 : decode cL_act 290 = .ok (.bipush 10, 2) := by decide +kernel
theorem dL_act_292 : decode cL_act 292 = .ok (.invokestatic 75, 3) := by decide +kernel
theorem dL_act_295 : decode cL_act 295 = .ok (.iload 7, 2) := by decide +kernel
theorem dL_act_297 : decode cL_act 297 = .ok (.iload_n 2, 1) := by decide +kernel
theorem dL_act_298 : decode cL_act 298 = .ok (.iconst 3, 1) := by decide +kernel
theorem dL_act_299 : decode cL_act 299 = .ok (.ishr, 1) := by decide +kernel
theorem dL_act_300 : decode cL_act 300 = .ok (.bipush 6, 2) := by decide +kernel
theorem dL_act_302 : decode cL_act 302 = .ok (.invokestatic 75, 3) := by decide +kernel
theorem dL_act_305 : decode cL_act 305 = .ok (.iload_n 2, 1) := by decide +kernel
theorem dL_act_306 : decode cL_act 306 = .ok (.bipush 6, 2) := by decide +kernel
theorem dL_act_308 : decode cL_act 308 = .ok (.ishr, 1) := by decide +kernel
theorem dL_act_309 : decode cL_act 309 = .ok (.bipush 6, 2) := by decide +kernel
theorem dL_act_311 : decode cL_act 311 = .ok (.invokestatic 75, 3) := by decide +kernel
theorem dL_act_314 : decode cL_act 314 = .ok (.iload_n 2, 1) := by decide +kernel
theorem dL_act_315 : decode cL_act 315 = .ok (.bipush 9, 2) := by decide +kernel
theorem dL_act_317 : decode cL_act 317 = .ok (.ishr, 1) := by decide +kernel
theorem dL_act_318 : decode cL_act 318 = .ok (.aload_n 3, 1) := by decide +kernel
theorem dL_act_319 : decode cL_act 319 = .ok (.aload 4, 2) := by decide +kernel
theorem dL_act_321 : decode cL_act 321 = .ok (.aload 5, 2) := by decide +kernel
theorem dL_act_323 : decode cL_act 323 = .ok (.invokestatic 105, 3) := by decide +kernel
theorem dL_act_326 : decode cL_act 326 = .ok (.ireturn, 1) := by decide +kernel
theorem dL_agree_0 : decode cL_agree 0 = .ok (.iconst 0, 1) := by decide +kernel
theorem dL_agree_1 : decode cL_agree 1 = .ok (.istore 4, 2) := by decide +kernel
theorem dL_agree_3 : decode cL_agree 3 = .ok (.iload 4, 2) := by decide +kernel
theorem dL_agree_5 : decode cL_agree 5 = .ok (.bipush 6, 2) := by decide +kernel
theorem dL_agree_7 : decode cL_agree 7 = .ok (.if_icmp .ge 69, 3) := by decide +kernel
theorem dL_agree_10 : decode cL_agree 10 = .ok (.iconst 0, 1) := by decide +kernel
theorem dL_agree_11 : decode cL_agree 11 = .ok (.istore 5, 2) := by decide +kernel
theorem dL_agree_13 : decode cL_agree 13 = .ok (.iload 5, 2) := by decide +kernel
theorem dL_agree_15 : decode cL_agree 15 = .ok (.bipush 7, 2) := by decide +kernel
theorem dL_agree_17 : decode cL_agree 17 = .ok (.if_icmp .ge 53, 3) := by decide +kernel
theorem dL_agree_20 : decode cL_agree 20 = .ok (.aload_n 0, 1) := by decide +kernel
theorem dL_agree_21 : decode cL_agree 21 = .ok (.iload 4, 2) := by decide +kernel
theorem dL_agree_23 : decode cL_agree 23 = .ok (.iload 5, 2) := by decide +kernel
theorem dL_agree_25 : decode cL_agree 25 = .ok (.invokevirtual 109, 3) := by decide +kernel
theorem dL_agree_28 : decode cL_agree 28 = .ok (.aload_n 2, 1) := by decide +kernel
theorem dL_agree_29 : decode cL_agree 29 = .ok (.bipush 7, 2) := by decide +kernel
theorem dL_agree_31 : decode cL_agree 31 = .ok (.iload 4, 2) := by decide +kernel
theorem dL_agree_33 : decode cL_agree 33 = .ok (.imul, 1) := by decide +kernel
theorem dL_agree_34 : decode cL_agree 34 = .ok (.iload 5, 2) := by decide +kernel
theorem dL_agree_36 : decode cL_agree 36 = .ok (.iadd, 1) := by decide +kernel
theorem dL_agree_37 : decode cL_agree 37 = .ok (.iaload, 1) := by decide +kernel
theorem dL_agree_38 : decode cL_agree 38 = .ok (.if_icmp .ne 24, 3) := by decide +kernel
theorem dL_agree_41 : decode cL_agree 41 = .ok (.aload_n 0, 1) := by decide +kernel
theorem dL_agree_42 : decode cL_agree 42 = .ok (.iload 4, 2) := by decide +kernel
theorem dL_agree_44 : decode cL_agree 44 = .ok (.iload 5, 2) := by decide +kernel
theorem dL_agree_46 : decode cL_agree 46 = .ok (.invokevirtual 112, 3) := by decide +kernel
theorem dL_agree_49 : decode cL_agree 49 = .ok (.aload_n 3, 1) := by decide +kernel
theorem dL_agree_50 : decode cL_agree 50 = .ok (.bipush 7, 2) := by decide +kernel
theorem dL_agree_52 : decode cL_agree 52 = .ok (.iload 4, 2) := by decide +kernel
theorem dL_agree_54 : decode cL_agree 54 = .ok (.imul, 1) := by decide +kernel
theorem dL_agree_55 : decode cL_agree 55 = .ok (.iload 5, 2) := by decide +kernel
theorem dL_agree_57 : decode cL_agree 57 = .ok (.iadd, 1) := by decide +kernel
theorem dL_agree_58 : decode cL_agree 58 = .ok (.iaload, 1) := by decide +kernel
theorem dL_agree_59 : decode cL_agree 59 = .ok (.if_icmp .eq 5, 3) := by decide +kernel
theorem dL_agree_62 : decode cL_agree 62 = .ok (.iconst 0, 1) := by decide +kernel
theorem dL_agree_63 : decode cL_agree 63 = .ok (.ireturn, 1) := by decide +kernel
theorem dL_agree_64 : decode cL_agree 64 = .ok (.iinc 5 1, 3) := by decide +kernel
theorem dL_agree_67 : decode cL_agree 67 = .ok (.goto (-54), 3) := by decide +kernel
theorem dL_agree_70 : decode cL_agree 70 = .ok (.iinc 4 1, 3) := by decide +kernel
theorem dL_agree_73 : decode cL_agree 73 = .ok (.goto (-70), 3) := by decide +kernel
theorem dL_agree_76 : decode cL_agree 76 = .ok (.aload_n 0, 1) := by decide +kernel
theorem dL_agree_77 : decode cL_agree 77 = .ok (.iconst 0, 1) := by decide +kernel
theorem dL_agree_78 : decode cL_agree 78 = .ok (.invokevirtual 115, 3) := by decide +kernel
theorem dL_agree_81 : decode cL_agree 81 = .ok (.aload_n 1, 1) := by decide +kernel
theorem dL_agree_82 : decode cL_agree 82 = .ok (.iconst 0, 1) := by decide +kernel
theorem dL_agree_83 : decode cL_agree 83 = .ok (.iaload, 1) := by decide +kernel
theorem dL_agree_84 : decode cL_agree 84 = .ok (.if_icmp .ne 64, 3) := by decide +kernel
theorem dL_agree_87 : decode cL_agree 87 = .ok (.aload_n 0, 1) := by decide +kernel
theorem dL_agree_88 : decode cL_agree 88 = .ok (.iconst 1, 1) := by decide +kernel
theorem dL_agree_89 : decode cL_agree 89 = .ok (.invokevirtual 115, 3) := by decide +kernel
theorem dL_agree_92 : decode cL_agree 92 = .ok (.aload_n 1, 1) := by decide +kernel
theorem dL_agree_93 : decode cL_agree 93 = .ok (.iconst 1, 1) := by decide +kernel
theorem dL_agree_94 : decode cL_agree 94 = .ok (.iaload, 1) := by decide +kernel
theorem dL_agree_95 : decode cL_agree 95 = .ok (.if_icmp .ne 53, 3) := by decide +kernel
theorem dL_agree_98 : decode cL_agree 98 = .ok (.aload_n 0, 1) := by decide +kernel
theorem dL_agree_99 : decode cL_agree 99 = .ok (.iconst 4, 1) := by decide +kernel
theorem dL_agree_100 : decode cL_agree 100 = .ok (.invokevirtual 115, 3) := by decide +kernel
theorem dL_agree_103 : decode cL_agree 103 = .ok (.aload_n 1, 1) := by decide +kernel
theorem dL_agree_104 : decode cL_agree 104 = .ok (.iconst 2, 1) := by decide +kernel
theorem dL_agree_105 : decode cL_agree 105 = .ok (.iaload, 1) := by decide +kernel
theorem dL_agree_106 : decode cL_agree 106 = .ok (.if_icmp .ne 42, 3) := by decide +kernel
theorem dL_agree_109 : decode cL_agree 109 = .ok (.aload_n 0, 1) := by decide +kernel
theorem dL_agree_110 : decode cL_agree 110 = .ok (.iconst 5, 1) := by decide +kernel
theorem dL_agree_111 : decode cL_agree 111 = .ok (.invokevirtual 115, 3) := by decide +kernel
theorem dL_agree_114 : decode cL_agree 114 = .ok (.aload_n 1, 1) := by decide +kernel
theorem dL_agree_115 : decode cL_agree 115 = .ok (.iconst 3, 1) := by decide +kernel
theorem dL_agree_116 : decode cL_agree 116 = .ok (.iaload, 1) := by decide +kernel
theorem dL_agree_117 : decode cL_agree 117 = .ok (.if_icmp .ne 31, 3) := by decide +kernel
theorem dL_agree_120 : decode cL_agree 120 = .ok (.aload_n 0, 1) := by decide +kernel
theorem dL_agree_121 : decode cL_agree 121 = .ok (.bipush 6, 2) := by decide +kernel
theorem dL_agree_123 : decode cL_agree 123 = .ok (.invokevirtual 115, 3) := by decide +kernel
theorem dL_agree_126 : decode cL_agree 126 = .ok (.aload_n 1, 1) := by decide +kernel
theorem dL_agree_127 : decode cL_agree 127 = .ok (.iconst 4, 1) := by decide +kernel
theorem dL_agree_128 : decode cL_agree 128 = .ok (.iaload, 1) := by decide +kernel
theorem dL_agree_129 : decode cL_agree 129 = .ok (.if_icmp .ne 19, 3) := by decide +kernel
theorem dL_agree_132 : decode cL_agree 132 = .ok (.aload_n 0, 1) := by decide +kernel
theorem dL_agree_133 : decode cL_agree 133 = .ok (.bipush 8, 2) := by decide +kernel
theorem dL_agree_135 : decode cL_agree 135 = .ok (.invokevirtual 115, 3) := by decide +kernel
theorem dL_agree_138 : decode cL_agree 138 = .ok (.aload_n 1, 1) := by decide +kernel
theorem dL_agree_139 : decode cL_agree 139 = .ok (.iconst 5, 1) := by decide +kernel
theorem dL_agree_140 : decode cL_agree 140 = .ok (.iaload, 1) := by decide +kernel
theorem dL_agree_141 : decode cL_agree 141 = .ok (.if_icmp .ne 7, 3) := by decide +kernel
theorem dL_agree_144 : decode cL_agree 144 = .ok (.iconst 1, 1) := by decide +kernel
theorem dL_agree_145 : decode cL_agree 145 = .ok (.goto 4, 3) := by decide +kernel
theorem dL_agree_148 : decode cL_agree 148 = .ok (.iconst 0, 1) := by decide +kernel
theorem dL_agree_149 : decode cL_agree 149 = .ok (.ireturn, 1) := by decide +kernel
theorem dL_law_0 : decode cL_law 0 = .ok (.new 44, 3) := by decide +kernel
theorem dL_law_3 : decode cL_law 3 = .ok (.dup, 1) := by decide +kernel
theorem dL_law_4 : decode cL_law 4 = .ok (.invokespecial 118, 3) := by decide +kernel
theorem dL_law_7 : decode cL_law 7 = .ok (.astore_n 1, 1) := by decide +kernel
theorem dL_law_8 : decode cL_law 8 = .ok (.bipush 6, 2) := by decide +kernel
theorem dL_law_10 : decode cL_law 10 = .ok (.newarray .int, 2) := by decide +kernel
theorem dL_law_12 : decode cL_law 12 = .ok (.astore_n 2, 1) := by decide +kernel
theorem dL_law_13 : decode cL_law 13 = .ok (.bipush 42, 2) := by decide +kernel
theorem dL_law_15 : decode cL_law 15 = .ok (.newarray .int, 2) := by decide +kernel
theorem dL_law_17 : decode cL_law 17 = .ok (.astore_n 3, 1) := by decide +kernel
theorem dL_law_18 : decode cL_law 18 = .ok (.bipush 42, 2) := by decide +kernel
theorem dL_law_20 : decode cL_law 20 = .ok (.newarray .int, 2) := by decide +kernel
theorem dL_law_22 : decode cL_law 22 = .ok (.astore 4, 2) := by decide +kernel
theorem dL_law_24 : decode cL_law 24 = .ok (.aload_n 2, 1) := by decide +kernel
theorem dL_law_25 : decode cL_law 25 = .ok (.iconst 0, 1) := by decide +kernel
theorem dL_law_26 : decode cL_law 26 = .ok (.iconst 5, 1) := by decide +kernel
theorem dL_law_27 : decode cL_law 27 = .ok (.iastore, 1) := by decide +kernel
theorem dL_law_28 : decode cL_law 28 = .ok (.aload_n 2, 1) := by decide +kernel
theorem dL_law_29 : decode cL_law 29 = .ok (.iconst 1, 1) := by decide +kernel
theorem dL_law_30 : decode cL_law 30 = .ok (.sipush 500, 3) := by decide +kernel
theorem dL_law_33 : decode cL_law 33 = .ok (.iastore, 1) := by decide +kernel
theorem dL_law_34 : decode cL_law 34 = .ok (.iconst 0, 1) := by decide +kernel
theorem dL_law_35 : decode cL_law 35 = .ok (.istore 5, 2) := by decide +kernel
theorem dL_law_37 : decode cL_law 37 = .ok (.iload 5, 2) := by decide +kernel
theorem dL_law_39 : decode cL_law 39 = .ok (.bipush 6, 2) := by decide +kernel
theorem dL_law_41 : decode cL_law 41 = .ok (.if_icmp .ge 20, 3) := by decide +kernel
theorem dL_law_44 : decode cL_law 44 = .ok (.aload 4, 2) := by decide +kernel
theorem dL_law_46 : decode cL_law 46 = .ok (.bipush 7, 2) := by decide +kernel
theorem dL_law_48 : decode cL_law 48 = .ok (.iload 5, 2) := by decide +kernel
theorem dL_law_50 : decode cL_law 50 = .ok (.imul, 1) := by decide +kernel
theorem dL_law_51 : decode cL_law 51 = .ok (.iconst 1, 1) := by decide +kernel
theorem dL_law_52 : decode cL_law 52 = .ok (.iadd, 1) := by decide +kernel
theorem dL_law_53 : decode cL_law 53 = .ok (.iconst 1, 1) := by decide +kernel
theorem dL_law_54 : decode cL_law 54 = .ok (.iastore, 1) := by decide +kernel
theorem dL_law_55 : decode cL_law 55 = .ok (.iinc 5 1, 3) := by decide +kernel
theorem dL_law_58 : decode cL_law 58 = .ok (.goto (-21), 3) := by decide +kernel
theorem dL_law_61 : decode cL_law 61 = .ok (.iconst 0, 1) := by decide +kernel
theorem dL_law_62 : decode cL_law 62 = .ok (.istore 5, 2) := by decide +kernel
theorem dL_law_64 : decode cL_law 64 = .ok (.iload 5, 2) := by decide +kernel
theorem dL_law_66 : decode cL_law 66 = .ok (.bipush 50, 2) := by decide +kernel
theorem dL_law_68 : decode cL_law 68 = .ok (.if_icmp .ge 51, 3) := by decide +kernel
theorem dL_law_71 : decode cL_law 71 = .ok (.aload_n 1, 1) := by decide +kernel
theorem dL_law_72 : decode cL_law 72 = .ok (.aload_n 0, 1) := by decide +kernel
theorem dL_law_73 : decode cL_law 73 = .ok (.iconst 2, 1) := by decide +kernel
theorem dL_law_74 : decode cL_law 74 = .ok (.iload 5, 2) := by decide +kernel
theorem dL_law_76 : decode cL_law 76 = .ok (.imul, 1) := by decide +kernel
theorem dL_law_77 : decode cL_law 77 = .ok (.invokestatic 119, 3) := by decide +kernel
theorem dL_law_80 : decode cL_law 80 = .ok (.aload_n 0, 1) := by decide +kernel
theorem dL_law_81 : decode cL_law 81 = .ok (.iconst 2, 1) := by decide +kernel
theorem dL_law_82 : decode cL_law 82 = .ok (.iload 5, 2) := by decide +kernel
theorem dL_law_84 : decode cL_law 84 = .ok (.imul, 1) := by decide +kernel
theorem dL_law_85 : decode cL_law 85 = .ok (.iconst 1, 1) := by decide +kernel
theorem dL_law_86 : decode cL_law 86 = .ok (.iadd, 1) := by decide +kernel
theorem dL_law_87 : decode cL_law 87 = .ok (.invokestatic 119, 3) := by decide +kernel
theorem dL_law_90 : decode cL_law 90 = .ok (.aload_n 2, 1) := by decide +kernel
theorem dL_law_91 : decode cL_law 91 = .ok (.aload_n 3, 1) := by decide +kernel
theorem dL_law_92 : decode cL_law 92 = .ok (.aload 4, 2) := by decide +kernel
theorem dL_law_94 : decode cL_law 94 = .ok (.invokestatic 123, 3) := by decide +kernel
theorem dL_law_97 : decode cL_law 97 = .ok (.ifCond .eq 14, 3) := by decide +kernel
theorem dL_law_100 : decode cL_law 100 = .ok (.aload_n 1, 1) := by decide +kernel
theorem dL_law_101 : decode cL_law 101 = .ok (.aload_n 2, 1) := by decide +kernel
theorem dL_law_102 : decode cL_law 102 = .ok (.aload_n 3, 1) := by decide +kernel
theorem dL_law_103 : decode cL_law 103 = .ok (.aload 4, 2) := by decide +kernel
theorem dL_law_105 : decode cL_law 105 = .ok (.invokestatic 127, 3) := by decide +kernel
theorem dL_law_108 : decode cL_law 108 = .ok (.ifCond .ne 5, 3) := by decide +kernel
theorem dL_law_111 : decode cL_law 111 = .ok (.iconst 0, 1) := by decide +kernel
theorem dL_law_112 : decode cL_law 112 = .ok (.ireturn, 1) := by decide +kernel
theorem dL_law_113 : decode cL_law 113 = .ok (.iinc 5 1, 3) := by decide +kernel
theorem dL_law_116 : decode cL_law 116 = .ok (.goto (-52), 3) := by decide +kernel
theorem dL_law_119 : decode cL_law 119 = .ok (.iconst 1, 1) := by decide +kernel
theorem dL_law_120 : decode cL_law 120 = .ok (.ireturn, 1) := by decide +kernel
end
section
/-! words of the tables that stay good over calls; the world as one function of addresses -/
def TB : List Cond := lw_tbl.filter goodWord
theorem tb_l {w : Cond} (h : w ∈ lw_tbl) (g : goodWord w = true) : w ∈ TB := List.mem_filter.mpr ⟨h, g⟩
theorem tb_t {w : Cond} (i : Nat) (h : tables_1[i]? = some w) (g : goodWord w = true) : w ∈ TB := tb_l (List.mem_append_right _ (List.mem_of_getElem? h)) g
theorem tb_s {w : Cond} (i : Nat) (h : (k2_sels lw_privs)[i]? = some w) (g : goodWord w = true) : w ∈ TB := tb_l (List.mem_append_left _ (List.mem_of_getElem? h)) g
theorem tb_good {w : Cond} (h : w ∈ TB) : goodWord w = true := (List.mem_filter.mp h).2
theorem tb_in {w : Cond} (h : w ∈ TB) : w ∈ lw_tbl := (List.mem_filter.mp h).1
theorem tb_gi {ws : List Cond} (h : ∀ w ∈ ws, w ∈ TB) : GoodIn TB ws := fun w hw => ⟨h w hw, good_of_word (tb_good (h w hw))⟩
def g_strs : List (String × Nat × String) := []
def g_ncs : List (String × String) := []
abbrev Gl : Type := va_G × (Nat → ClassId)
def g_tys (G : Gl) : List (ClassId × FieldType) := [(G.2 0, .int), (G.2 1, .boolean), (G.2 2, .object "LineFields$Shape"), (G.2 3, .object "LineFields$State"), (G.2 4, .array .int)]
def g_inv : Nat → Value := fun j => .int (([0, 1, 5004, 3336, 2502, 4003] : List Int32).getD j 0)
/-- what stays as it is over every call -/
def g_Am (G : Gl) (A : Nat → Prop) (U : State) (H : Heap) : Prop := va_K G.1 vwCl (g_tys G) U ∧ (∃ t, va_Z RX1 "INVERSES" "[I" (.ref t) A U H ∧ va_T .int t 6 g_inv A U H) ∧ vx_Zq Bundle.tN "UNASSIGNED_STACK" Bundle.steD A U H ∧ vx_Zq Bundle.tN "SUPPRESSED_SENTINEL" Bundle.listD A U H ∧ (∀ q ∈ g_strs, ∃ sa, vk_R q.1 q.2.1 q.2.2 sa U) ∧ (∀ q ∈ g_ncs, va_Nc q.1 q.2 U)
theorem g_Am.call {G : Gl} {A B : Nat → Prop} {s U : State} {H : Heap} {locs : List Loc} (h : g_Am G A s s.heap) (hS : va_S A s.heap H locs) (hAB : ∀ q, B q → A q) (hU : U.heap = H) (hW : s.WarmedH U.vm) : g_Am G B U U.heap := by
  obtain ⟨hK, ⟨t, hZ, hT⟩, h1, h2, h3, h4⟩ := h
  have k : ∀ a : Nat, a < s.heap.size → ¬ A a → U.heap[a]? = s.heap[a]? := fun a ha hn => by rw [hU]; exact hS.2.1 a ha hn
  refine ⟨va_K.moved hW.alike hK, ⟨t, ((hZ.kept k).narrow hAB).moved hW.alike, ((hT.kept k).narrow hAB).moved hW.alike⟩, ((h1.kept k).narrow hAB).moved hW.alike, ((h2.kept k).narrow hAB).moved hW.alike, fun q hq => ?_, fun q hq => (h4 q hq).moved hW.alike⟩
  obtain ⟨sa, hs⟩ := h3 q hq
  exact ⟨sa, hs.warm hW⟩
theorem g_Am.blind {G : Gl} {A : Nat → Prop} {U : State} (a : Array Value) (g : JFrame) (mk : MethodId) (h : g_Am G A U U.heap) : g_Am G A (U.calling g mk a) (U.calling g mk a).heap := by
  obtain ⟨hK, ⟨t, hZ, hT⟩, h1, h2, h3, h4⟩ := h
  have e : U.vm.Alike (U.calling g mk a).vm := Vm.Alike.refl U.vm
  refine ⟨va_K.moved e hK, ⟨t, va_Z.moved e hZ, va_T.moved e hT⟩, vx_Zq.moved e h1, vx_Zq.moved e h2, fun q hq => ?_, fun q hq => va_Nc.moved e (h4 q hq)⟩
  obtain ⟨sa, hs⟩ := h3 q hq
  exact ⟨sa, hs.same rfl⟩
/-- the addresses that may be written: those of the world, and new ones -/
def wA (L : List Nat) (sz : Nat) : Nat → Prop := fun q => q ∈ L ∨ sz ≤ q
theorem wA.mono {L : List Nat} {a b : Nat} (h : a ≤ b) (q : Nat) (hq : wA L b q) : wA L a q := hq.elim Or.inl (fun z => Or.inr (Nat.le_trans h z))
def wD (G : Gl) (L : List Nat) (F : Nat → va_E) (s : State) (H : Heap) (locs : List Loc) : Prop := va_P G.1 vwCl (va_pl L F) H ∧ va_D (wA L s.heap.size) (va_pl L F) ∧ va_S (wA L s.heap.size) s.heap H locs
/-- a contract's start -/
def cP (G : Gl) (L : List Nat) (F : Nat → va_E) (sz : Nat) (vals : List Value) : Array Value → State → Prop := va_Pc vals (fun U => U.heap.size = sz ∧ va_P G.1 vwCl (va_pl L F) U.heap ∧ va_D (fun _ => True) (va_pl L F) ∧ g_Am G (wA L sz) U U.heap)
theorem cP.blind {G : Gl} {L : List Nat} {F : Nat → va_E} {sz : Nat} {vals : List Value} : FrameBlind (cP G L F sz vals) := fun a U g mk q => by
  obtain ⟨q0, q1, q2, q3, q4⟩ := q
  exact ⟨q0, q1, q2, q3, q4.blind a g mk⟩
def cB (G : Gl) (L : List Nat) : (Nat → va_E) → State → Prop := fun F t => va_P G.1 vwCl (va_pl L F) t.heap
/-- what a walk knows of its method all along -/
def Cx (p : Program) (s : State) (m : MethodId) (args : Array Value) (c : Code) (cc : ByteArray) (nL : Nat) (own : String) (G : Gl) (L : List Nat) : Prop := p.tables.exec = Jvm.exec ∧ c.code = cc ∧ c.maxLocals = nL ∧ s.vm.findClass own = some m.cls ∧ (∀ w ∈ TB, w.before args s = true) ∧ g_Am G (wA L s.heap.size) s s.heap
def CG (l : Launch) (y : MethodName) (cc : ByteArray) (nL : Nat) (rt : Option FieldType) (rm : Room) (G : Gl) (L : List Nat) (F : Nat → va_E) (vals : List Value) (Qf : (Nat → Prop) → Array Value → State → Outcome → State → Prop) : Prop := ∀ sz, Met l y (.code y cc nL rt :: TB) rm (cP G L F sz vals) (Qf (wA L sz)) rm.cells rm.slots (wA L sz)
abbrev CI (l : Launch) (y : MethodName) (cc : ByteArray) (nL : Nat) (rt : Option FieldType) (rm : Room) (G : Gl) (L : List Nat) (F : Nat → va_E) (vals : List Value) (post : Int32 → (Nat → va_E) → Prop) : Prop := CG l y cc nL rt rm G L F vals (fun A => va_Qi post (cB G L) A)
abbrev CL (l : Launch) (y : MethodName) (cc : ByteArray) (nL : Nat) (rt : Option FieldType) (rm : Room) (G : Gl) (L : List Nat) (F : Nat → va_E) (vals : List Value) (post : Int64 → (Nat → va_E) → Prop) : Prop := CG l y cc nL rt rm G L F vals (fun A => va_Ql post (cB G L) A)
abbrev CD (l : Launch) (y : MethodName) (cc : ByteArray) (nL : Nat) (rt : Option FieldType) (rm : Room) (G : Gl) (L : List Nat) (F : Nat → va_E) (vals : List Value) (post : UInt64 → (Nat → va_E) → Prop) : Prop := CG l y cc nL rt rm G L F vals (fun A => va_Qd post (cB G L) A)
abbrev CV (l : Launch) (y : MethodName) (cc : ByteArray) (nL : Nat) (rt : Option FieldType) (rm : Room) (G : Gl) (L : List Nat) (F : Nat → va_E) (vals : List Value) (post : (Nat → va_E) → Prop) : Prop := CG l y cc nL rt rm G L F vals (fun A => va_Qv post (cB G L) A)
theorem wD.start {G : Gl} {L : List Nat} {F : Nat → va_E} {s : State} (h1 : va_P G.1 vwCl (va_pl L F) s.heap) (h2 : va_D (fun _ => True) (va_pl L F)) : wD G L F s s.heap [] := by
  refine ⟨h1, h2.weaken (fun k q hq _ => Or.inl ?_), va_S.rf⟩
  have hm := List.mem_of_getElem? hq
  obtain ⟨a, ha, rfl⟩ := List.mem_map.mp hm
  exact ha
theorem CG_of {l : Launch} {y : MethodName} {cc : ByteArray} {nL : Nat} {rt : Option FieldType} {rm : Room} {G : Gl} {L : List Nat} {F : Nat → va_E} {vals : List Value} {Qf : (Nat → Prop) → Array Value → State → Outcome → State → Prop} {lv : List (Nat × Value)}
    (hy : plainName y.cls = true) (hn : (lg_sl vals).length ≤ nL) (hv : lv_args 0 vals = lv)
    (body : ∀ (p : Program) (e : Env) (s : State) (m : MethodId) (args : Array Value) (below : List Frame) (meth : Method) (c : Code) (Q : State → Prop), Cx p s m args c cc nL y.cls G L → meth.sig.returnType = rt → meth.locks = false → meth.name = y.name → Q = MQ below (Qf (wA L s.heap.size)) args s rm.cells rm.slots (wA L s.heap.size) → wD G L F s s.heap [] → ∀ ls : Array Slot, lv_has ls nL lv →
      W p l e rm s m args below meth c s.heap [] 0 0 Q (F0 m 0 ls [])) : CG l y cc nL rt rm G L F vals Qf := by
  intro sz
  refine Met.ofW (cc := cc) (maxL := nL) (ret := rt) hy rfl ?_
  intro p e s m args below meth c s₁ B hml hq
  obtain ⟨rfl, hsz, hP, hD0, hAm⟩ := hq
  subst hsz
  have hts := atoms_spec (ws := Cond.code y cc nL rt :: TB) B.pre
  have hl := lv_entry vals (n := nL) hn
  rw [lg_entry_eq]
  rw [hv] at hl
  exact body p e s m _ below meth c _ ⟨B.exec, B.bytes, hml, findClass_of_methodNamed B.named, fun w h => hts w (List.mem_cons_of_mem _ h), hAm⟩ B.returns B.notSynchronized (name_of_methodNamed B.named B.method).1 rfl (wD.start hP hD0) _ hl
end
section
theorem va_pl_D {A : Nat → Prop} {L : List Nat} {F F' : Nat → va_E} (h : va_D A (va_pl L F)) : va_D A (va_pl L F') := by
  have g : ∀ (i : Nat) (q : Nat × va_E), (va_pl L F')[i]? = some q → (va_pl L F)[i]? = some (q.1, F q.1) := by
    intro i q hq
    rw [va_pl, List.getElem?_map] at hq ⊢
    obtain ⟨x, hx, rfl⟩ := Option.map_eq_some_iff.mp hq
    rw [hx]
    rfl
  exact ⟨fun i j p q hp hq e => h.1 i j _ _ (g i p hp) (g j q hq) e, fun k q hq => by
    have h9 := h.2 k (q.1, F q.1) (g k q hq)
    exact h9⟩
section ROWS
variable {p : Program} {l : Launch} {e : Env} {R : Room} {s : State} {m : MethodId} {args : Array Value} {below : List Frame} {meth : Method} {c : Code} {H : Heap} {locs : List Loc} {cells slots : Nat} {Q : State → Prop}
variable {cc : ByteArray} {nL : Nat} {own : String} {pc : Nat} {ls : Array Slot} {rest : List Value} {G : Gl} {L : List Nat} {F : Nat → va_E} {a : Nat}
theorem Cx.x (C0 : Cx p s m args c cc nL own G L) : p.tables.exec = Jvm.exec := C0.1
theorem Cx.b (C0 : Cx p s m args c cc nL own G L) : c.code = cc := C0.2.1
theorem Cx.ml (C0 : Cx p s m args c cc nL own G L) : c.maxLocals = nL := C0.2.2.1
theorem Cx.ow (C0 : Cx p s m args c cc nL own G L) : s.vm.findClass own = some m.cls := C0.2.2.2.1
theorem Cx.ts (C0 : Cx p s m args c cc nL own G L) : ∀ w ∈ TB, w.before args s = true := C0.2.2.2.2.1
theorem Cx.am (C0 : Cx p s m args c cc nL own G L) : g_Am G (wA L s.heap.size) s s.heap := C0.2.2.2.2.2
theorem Cx.K (C0 : Cx p s m args c cc nL own G L) : va_K G.1 vwCl (g_tys G) s := C0.am.1
theorem wD.up {H1 : Heap} {locs1 : List Loc} {k : Nat} {e' : va_E} (hw : wD G L F s H locs) (ha : a ∈ L) (hk : ([] ++ va_pl L F)[k]? = some (a, F a)) (hP : va_P G.1 vwCl ((va_pl L F).set k (a, e')) H1) (hS : va_S (wA L s.heap.size) s.heap H1 locs1) : wD G L (va_up F a e') s H1 locs1 := by
  have h : (va_pl L F).set k (a, e') = va_pl L (va_up F a e') := va_pl_set (X := []) hw.2.1 ha hk
  rw [h] at hP
  exact ⟨hP, va_pl_D hw.2.1, hS⟩
/-- the walk goes on over a heap that differs at one address -/
theorem wD.go {H1 : Heap} {locs1 : List Loc} {k : Nat} {e' : va_E} {P : Heap → List Loc → Prop} (hw : wD G L F s H locs) (ha : a ∈ L) (hk : ([] ++ va_pl L F)[k]? = some (a, F a)) (hP : va_P G.1 vwCl ((va_pl L F).set k (a, e')) H1) (hS : va_S (wA L s.heap.size) s.heap H1 locs1)
    (kk : ∀ (F' : Nat → va_E) (H1 : Heap) (locs1 : List Loc), wD G L F' s H1 locs1 → F' a = e' → (∀ q, q ≠ a → F' q = F q) → P H1 locs1) : P H1 locs1 :=
  kk _ H1 locs1 (hw.up ha hk hP hS) (va_up_self _ _ _) (fun _ hq => va_up_ne _ _ hq)
theorem q_iald (C0 : Cx p s m args c cc nL own G L) (hw : wD G L F s H locs) (ha : a ∈ L) {N : Nat} {f : Nat → Int32} (he : F a = .inl (G.2 0, N, .inl f)) (i : Nat) (hi : i < N) (hN : N < 2 ^ 31) {v : Int32} (hv : f i = v) (hdg : decode cc pc = .ok (.iaload, 1))
    (kk : W p l e R s m args below meth c H locs cells slots Q (F0 m (pc + 1) ls (.int v :: rest))) : W p l e R s m args below meth c H locs cells slots Q (F0 m pc ls (.int (nI i) :: .ref a :: rest)) := by
  obtain ⟨k, hk⟩ := va_pl_get (X := []) (f := F) ha
  rw [he] at hk
  refine va_iald C0.x C0.b C0.K hw.1 k 0 hk rfl (vp_in_nI hi hN) hdg ?_
  rw [nI_clamp (Nat.lt_trans hi hN), hv]
  exact kk
theorem q_zald (C0 : Cx p s m args c cc nL own G L) (hw : wD G L F s H locs) (ha : a ∈ L) {N : Nat} {f : Nat → Int32} (he : F a = .inl (G.2 1, N, .inl f)) (i : Nat) (hi : i < N) (hN : N < 2 ^ 31) {v : Int32} (hv : f i = v) (hdg : decode cc pc = .ok (.baload, 1))
    (kk : W p l e R s m args below meth c H locs cells slots Q (F0 m (pc + 1) ls (.int v :: rest))) : W p l e R s m args below meth c H locs cells slots Q (F0 m pc ls (.int (nI i) :: .ref a :: rest)) := by
  obtain ⟨k, hk⟩ := va_pl_get (X := []) (f := F) ha
  rw [he] at hk
  refine va_zald C0.x C0.b C0.K hw.1 k 1 hk rfl (vp_in_nI hi hN) hdg ?_
  rw [nI_clamp (Nat.lt_trans hi hN), hv]
  exact kk
theorem q_iast (C0 : Cx p s m args c cc nL own G L) (hw : wD G L F s H locs) (ha : a ∈ L) {N : Nat} {f : Nat → Int32} (he : F a = .inl (G.2 0, N, .inl f)) (i : Nat) (hi : i < N) (hN : N < 2 ^ 31) {x : Int32} (hdg : decode cc pc = .ok (.iastore, 1))
    (kk : ∀ (F' : Nat → va_E) (H1 : Heap) (locs1 : List Loc), wD G L F' s H1 locs1 → F' a = .inl (G.2 0, N, .inl (upd f i x)) → (∀ q, q ≠ a → F' q = F q) → W p l e R s m args below meth c H1 locs1 cells slots Q (F0 m (pc + 1) ls rest)) : W p l e R s m args below meth c H locs cells slots Q (F0 m pc ls (.int x :: .int (nI i) :: .ref a :: rest)) := by
  obtain ⟨k, hk⟩ := va_pl_get (X := []) (f := F) ha
  have hk2 := hk
  rw [he] at hk2
  refine va_iast C0.x C0.b C0.K hw.1 hw.2.1 hw.2.2 k 0 hk2 rfl (vp_in_nI hi hN) hdg fun H1 locs1 hP hD hS => ?_
  rw [nI_clamp (Nat.lt_trans hi hN)] at hP
  exact hw.go (P := fun H1 locs1 => W p l e R s m args below meth c H1 locs1 cells slots Q (F0 m (pc + 1) ls rest)) ha hk hP hS kk
theorem q_zast (C0 : Cx p s m args c cc nL own G L) (hw : wD G L F s H locs) (ha : a ∈ L) {N : Nat} {f : Nat → Int32} (he : F a = .inl (G.2 1, N, .inl f)) (i : Nat) (hi : i < N) (hN : N < 2 ^ 31) {x : Int32} (hdg : decode cc pc = .ok (.bastore, 1))
    (kk : ∀ (F' : Nat → va_E) (H1 : Heap) (locs1 : List Loc), wD G L F' s H1 locs1 → F' a = .inl (G.2 1, N, .inl (upd f i (vp_nar .boolean x))) → (∀ q, q ≠ a → F' q = F q) → W p l e R s m args below meth c H1 locs1 cells slots Q (F0 m (pc + 1) ls rest)) : W p l e R s m args below meth c H locs cells slots Q (F0 m pc ls (.int x :: .int (nI i) :: .ref a :: rest)) := by
  obtain ⟨k, hk⟩ := va_pl_get (X := []) (f := F) ha
  have hk2 := hk
  rw [he] at hk2
  refine va_zast C0.x C0.b C0.K hw.1 hw.2.1 hw.2.2 k 1 hk2 rfl (vp_in_nI hi hN) hdg fun H1 locs1 hP hD hS => ?_
  rw [nI_clamp (Nat.lt_trans hi hN)] at hP
  exact hw.go (P := fun H1 locs1 => W p l e R s m args below meth c H1 locs1 cells slots Q (F0 m (pc + 1) ls rest)) ha hk hP hS kk
theorem q_alen (C0 : Cx p s m args c cc nL own G L) (hw : wD G L F s H locs) (ha : a ∈ L) {N : Nat} {f : Nat → Int32} (he : F a = .inl (G.2 0, N, .inl f)) (hdg : decode cc pc = .ok (.arraylength, 1))
    (kk : W p l e R s m args below meth c H locs cells slots Q (F0 m (pc + 1) ls (.int (nI N) :: rest))) : W p l e R s m args below meth c H locs cells slots Q (F0 m pc ls (.ref a :: rest)) := by
  obtain ⟨k, hk⟩ := va_pl_get (X := []) (f := F) ha
  rw [he] at hk
  exact va_alen C0.x C0.b C0.K hw.1 k 0 hk (ty := .int) rfl rfl hdg kk
/-- an array of references: Shape[] (t0 = 2), State[] (t0 = 3) -/
theorem q_aald (C0 : Cx p s m args c cc nL own G L) (hw : wD G L F s H locs) (ha : a ∈ L) (t0 : Nat) {C : String} (ht : (g_tys G)[t0]? = some (G.2 t0, .object C)) {N : Nat} {f : Nat → Option Nat} (he : F a = .inl (G.2 t0, N, .inr (.inr (.inr (.inr f))))) (i : Nat) (hi : i < N) (hN : N < 2 ^ 31) {b : Nat} (hv : f i = some b) (hdg : decode cc pc = .ok (.aaload, 1))
    (kk : W p l e R s m args below meth c H locs cells slots Q (F0 m (pc + 1) ls (.ref b :: rest))) : W p l e R s m args below meth c H locs cells slots Q (F0 m pc ls (.int (nI i) :: .ref a :: rest)) := by
  obtain ⟨k, hk⟩ := va_pl_get (X := []) (f := F) ha
  rw [he] at hk
  refine va_aldq C0.x C0.b C0.K hw.1 k t0 hk ht (vp_in_nI hi hN) hdg ?_
  rw [nI_clamp (Nat.lt_trans hi hN), hv]
  exact kk
/-- int[][] -/
theorem q_aaldi (C0 : Cx p s m args c cc nL own G L) (hw : wD G L F s H locs) (ha : a ∈ L) {N : Nat} {f : Nat → Option Nat} (he : F a = .inl (G.2 4, N, .inr (.inr (.inr (.inr f))))) (i : Nat) (hi : i < N) (hN : N < 2 ^ 31) {b : Nat} (hv : f i = some b) (hdg : decode cc pc = .ok (.aaload, 1))
    (kk : W p l e R s m args below meth c H locs cells slots Q (F0 m (pc + 1) ls (.ref b :: rest))) : W p l e R s m args below meth c H locs cells slots Q (F0 m pc ls (.int (nI i) :: .ref a :: rest)) := by
  obtain ⟨k, hk⟩ := va_pl_get (X := []) (f := F) ha
  rw [he] at hk
  have hin := vp_in_nI hi hN
  have hlt : (nI i).toNatClampNeg < N := by rw [nI_clamp (Nat.lt_trans hi hN)]; exact hi
  refine W.aald (v := va_rf (f (nI i).toNatClampNeg)) (ty := .array .int) C0.x C0.b (hw.1 k _ hk) ((C0.K.2 4 _ rfl).1 N (fun j => va_rf (f j))) rfl (fun q => by cases q) (by show ¬ (_ < 0 ∨ (arrV _ _ _).slots.size ≤ _); rw [arrV_size]; exact hin) (by show (arrV _ _ _).slots[_]? = _; rw [arrV_read _ _ hlt]) rfl rfl hdg ?_
  rw [nI_clamp (Nat.lt_trans hi hN), hv]
  exact kk
def fWd (own : String) (idx : Nat) (C : String) (T : u_T) (N ci k : Nat) : Prop := (∀ w ∈ u_ws C T N, w ∈ TB) ∧ vwCl[ci]? = some (C, T, N) ∧ k < N ∧ Cond.fieldLink own idx (T k).1 (T k).2.1 (T k).2.2.1 ∈ TB
def pWd (T : u_T) (N k : Nat) (ty : FieldType) : Prop := (∃ tyf : Nat → FieldType, ∀ k, k < N → parseFieldDescriptor (T k).2.2.1 = some (tyf k)) ∧ (∀ a, a < N → ∀ b, b < N → a ≠ b → (T a).2.1 ≠ (T b).2.1) ∧ parseFieldDescriptor (T k).2.2.1 = some ty
theorem q_get (C0 : Cx p s m args c cc nL own G L) (hw : wD G L F s H locs) (ha : a ∈ L) {idx N ci k : Nat} {C : String} {T : u_T} {fs : List Value} (he : F a = .inr (ci, fs)) (fw : fWd own idx C T N ci k) {v : Value} (hv : fs[k]? = some v) (hdg : decode cc pc = .ok (.getfield idx, 3))
    (kk : W p l e R s m args below meth c H locs cells slots Q (F0 m (pc + 3) ls (v :: rest))) : W p l e R s m args below meth c H locs cells slots Q (F0 m pc ls (.ref a :: rest)) := by
  obtain ⟨k9, hk⟩ := va_pl_get (X := []) (f := F) ha
  rw [he] at hk
  exact va_get C0.x C0.b C0.ts fw.1 C0.ow C0.K hw.1 k9 hk fw.2.1 k fw.2.2.1 (C0.ts _ fw.2.2.2) (fun _ h => h) hv hdg kk
theorem q_put (C0 : Cx p s m args c cc nL own G L) (hw : wD G L F s H locs) (ha : a ∈ L) {idx N ci k : Nat} {C : String} {T : u_T} {fs : List Value} (he : F a = .inr (ci, fs)) (fw : fWd own idx C T N ci k) {ty : FieldType} (pw : pWd T N k ty) {v : Value} (hfin : (T k).2.2.2 = false) (hn : narrow ty v = v) (hfit : fits ty v = true) (hl : k < fs.length) (hdg : decode cc pc = .ok (.putfield idx, 3))
    (kk : ∀ (F' : Nat → va_E) (H1 : Heap) (locs1 : List Loc), wD G L F' s H1 locs1 → F' a = .inr (ci, fs.set k v) → (∀ q, q ≠ a → F' q = F q) → W p l e R s m args below meth c H1 locs1 cells slots Q (F0 m (pc + 3) ls rest)) : W p l e R s m args below meth c H locs cells slots Q (F0 m pc ls (v :: .ref a :: rest)) := by
  obtain ⟨k9, hk⟩ := va_pl_get (X := []) (f := F) ha
  have hk2 := hk
  rw [he] at hk2
  obtain ⟨⟨tyf, htyf⟩, hnm, hty⟩ := pw
  exact va_put C0.x C0.b C0.ts fw.1 tyf htyf hnm C0.ow C0.K hw.1 hw.2.1 hw.2.2 k9 hk2 fw.2.1 k fw.2.2.1 (C0.ts _ fw.2.2.2) (fun _ h => h) hfin hty hn hfit hl hdg fun H1 locs1 hP hD hS =>
    hw.go (P := fun H1 locs1 => W p l e R s m args below meth c H1 locs1 cells slots Q (F0 m (pc + 3) ls rest)) ha hk hP hS kk
/-- the table INVERSES -/
theorem q_inv (C0 : Cx p s m args c cc nL own G L) (hw : wD G L F s H locs) {idx : Nat} (hl : Cond.fieldLink own idx RX1 "INVERSES" "[I" ∈ TB) (hdg : decode cc pc = .ok (.getstatic idx, 3))
    (kk : ∀ t : Nat, va_T .int t 6 g_inv (wA L s.heap.size) s s.heap → W p l e R s m args below meth c H locs cells slots Q (F0 m (pc + 3) ls (.ref t :: rest))) : W p l e R s m args below meth c H locs cells slots Q (F0 m pc ls rest) := by
  obtain ⟨t, hZ, hT⟩ := C0.am.2.1
  exact va_gets C0.x C0.b hZ hw.2.2 C0.ow (C0.ts _ hl) (fun _ h => h) hdg (kk t hT)
theorem q_invld (C0 : Cx p s m args c cc nL own G L) (hw : wD G L F s H locs) {t : Nat} (hT : va_T .int t 6 g_inv (wA L s.heap.size) s s.heap) (i : Nat) (hi : i < 6) {v : Value} (hv : g_inv i = v) (hdg : decode cc pc = .ok (.iaload, 1))
    (kk : W p l e R s m args below meth c H locs cells slots Q (F0 m (pc + 1) ls (v :: rest))) : W p l e R s m args below meth c H locs cells slots Q (F0 m pc ls (.int (nI i) :: .ref t :: rest)) :=
  va_ti C0.x C0.b hT hw.2.2 (vp_in_nI hi (by decide)) (by rw [nI_clamp (Nat.lt_trans hi (by decide))]; exact hv) hdg kk
-- returns
theorem r_i (C0 : Cx p s m args c cc nL own G L) {F' : Nat → va_E} {mc ms : Nat} {ty : FieldType} (hr : meth.sig.returnType = some ty) (hlk : meth.locks = false) (hw : wD G L F' s H locs) {v : Int32} (hn : narrow ty (.int v) = .int v) {post : Int32 → (Nat → va_E) → Prop} (hp : post v F') (hc : cells ≤ mc) (hs : slots ≤ ms) (hdg : decode cc pc = .ok (.ireturn, 1)) (hQ : Q = MQ below (va_Qi post (cB G L) (wA L s.heap.size)) args s mc ms (wA L s.heap.size)) : W p l e R s m args below meth c H locs cells slots Q (F0 m pc ls [.int v]) :=
  hQ ▸ W.widen hc hs (W.zret C0.x C0.b hr hn (fun t ht _ => ⟨⟨v, F', rfl, hp, by show va_P _ _ _ t.heap; rw [ht]; exact hw.1⟩, hw.2.2.F ht⟩) hw.2.2.2.2 hdg hlk)
theorem r_l (C0 : Cx p s m args c cc nL own G L) {F' : Nat → va_E} {mc ms : Nat} (hr : meth.sig.returnType = some .long) (hlk : meth.locks = false) (hw : wD G L F' s H locs) {v : Int64} {post : Int64 → (Nat → va_E) → Prop} (hp : post v F') (hc : cells ≤ mc) (hs : slots ≤ ms) (hdg : decode cc pc = .ok (.lreturn, 1)) (hQ : Q = MQ below (va_Ql post (cB G L) (wA L s.heap.size)) args s mc ms (wA L s.heap.size)) : W p l e R s m args below meth c H locs cells slots Q (F0 m pc ls [.long v]) :=
  hQ ▸ W.widen hc hs (W.lret C0.x C0.b hr (fun t ht _ => ⟨⟨v, F', rfl, hp, by show va_P _ _ _ t.heap; rw [ht]; exact hw.1⟩, hw.2.2.F ht⟩) hw.2.2.2.2 hdg hlk)
theorem r_d (C0 : Cx p s m args c cc nL own G L) {F' : Nat → va_E} {mc ms : Nat} (hr : meth.sig.returnType = some .double) (hlk : meth.locks = false) (hw : wD G L F' s H locs) {v : UInt64} {post : UInt64 → (Nat → va_E) → Prop} (hp : post v F') (hc : cells ≤ mc) (hs : slots ≤ ms) (hdg : decode cc pc = .ok (.dreturn, 1)) (hQ : Q = MQ below (va_Qd post (cB G L) (wA L s.heap.size)) args s mc ms (wA L s.heap.size)) : W p l e R s m args below meth c H locs cells slots Q (F0 m pc ls [.double v]) :=
  hQ ▸ W.widen hc hs (W.dret C0.x C0.b hr (fun t ht _ => ⟨⟨v, F', rfl, hp, by show va_P _ _ _ t.heap; rw [ht]; exact hw.1⟩, hw.2.2.F ht⟩) hw.2.2.2.2 hdg hlk)
theorem r_v (C0 : Cx p s m args c cc nL own G L) {F' : Nat → va_E} {mc ms : Nat} (hr : meth.sig.returnType = none) (hlk : meth.locks = false) (hw : wD G L F' s H locs) {post : (Nat → va_E) → Prop} (hp : post F') (hc : cells ≤ mc) (hs : slots ≤ ms) (hdg : decode cc pc = .ok (.return_, 1)) (hQ : Q = MQ below (va_Qv post (cB G L) (wA L s.heap.size)) args s mc ms (wA L s.heap.size)) : W p l e R s m args below meth c H locs cells slots Q (F0 m pc ls []) :=
  hQ ▸ W.widen hc hs (W.vret C0.x C0.b hr (fun t ht _ => ⟨⟨F', rfl, hp, by show va_P _ _ _ t.heap; rw [ht]; exact hw.1⟩, hw.2.2.F ht⟩) hw.2.2.2.2 hdg hlk)
-- calls
def dWd (y : MethodName) (n : Nat) : Prop := y.cls ≠ "java/lang/invoke/MethodHandle" ∧ y.cls ≠ "java/lang/invoke/VarHandle" ∧ (parseMethodDescriptor y.desc).map (fun d => d.parameters.length) = some n
def vWd (own : String) (idx : Nat) (y : MethodName) (bytes : ByteArray) (mL : Nat) (rt : Option FieldType) (n : Nat) : Prop := Cond.methodLink own idx y ∈ TB ∧ Cond.instanceMethod y ∈ TB ∧ Cond.selects y.cls y y ∈ TB ∧ Cond.initialized y.cls ∈ TB ∧ Cond.code y bytes mL rt ∈ TB ∧ dWd y n
def sWd (own : String) (idx : Nat) (y : MethodName) (bytes : ByteArray) (mL : Nat) (rt : Option FieldType) (n : Nat) : Prop := Cond.methodLink own idx y ∈ TB ∧ Cond.static y ∈ TB ∧ Cond.initialized y.cls ∈ TB ∧ Cond.code y bytes mL rt ∈ TB ∧ dWd y n
theorem tb_code {y : MethodName} {bytes : ByteArray} {mL : Nat} {rt : Option FieldType} (h : Cond.code y bytes mL rt ∈ TB) : ∀ w ∈ Cond.code y bytes mL rt :: TB, w ∈ TB := fun w hw => (List.mem_cons.mp hw).elim (fun z => z ▸ h) id
theorem cwV_TB {y : MethodName} {bytes : ByteArray} {mL idx n : Nat} {rt : Option FieldType} {rm : Room} (C0 : Cx p s m args c cc nL own G L) (vw : vWd own idx y bytes mL rt n) (hroom : rm.frames + 1 ≤ R.frames ∧ 8 + (mL + 11) + rm.locals ≤ R.locals) : CallW R s args own y.cls idx y bytes mL rt (Cond.code y bytes mL rt :: TB) rm rm.cells rm.slots n := by
  obtain ⟨h1, h2, h3, h4, h5, h6⟩ := vw
  refine cwV n C0.ts (tb_gi fun w hw => ?_) rfl rfl rfl ⟨rfl, h6⟩ hroom
  rcases List.mem_append.mp hw with h | h
  · rcases List.mem_cons.mp h with rfl | h
    · exact h1
    rcases List.mem_cons.mp h with rfl | h
    · exact h2
    rcases List.mem_cons.mp h with rfl | h
    · exact h3
    rcases List.mem_cons.mp h with rfl | h
    · exact h4
    · exact absurd h List.not_mem_nil
  · exact tb_code h5 w h
theorem cwS_TB {y : MethodName} {bytes : ByteArray} {mL idx n : Nat} {rt : Option FieldType} {rm : Room} (C0 : Cx p s m args c cc nL own G L) (vw : sWd own idx y bytes mL rt n) (hroom : rm.frames + 1 ≤ R.frames ∧ 8 + (mL + 11) + rm.locals ≤ R.locals) : CallB R s args own idx y bytes mL rt (Cond.code y bytes mL rt :: TB) rm rm.cells rm.slots n ∧ (Cond.static y).before args s = true := by
  obtain ⟨h1, h2, h3, h4, h5⟩ := vw
  exact ⟨callB_of n C0.ts (tb_gi (tb_code h4)) rfl rfl rfl (C0.ts _ h3) (C0.ts _ h1) h5 hroom, C0.ts _ h2⟩
theorem cP.hold (C0 : Cx p s m args c cc nL own G L) (hw : wD G L F s H locs) (vals : List Value) : ∀ U : State, U.heap = H → s.WarmedH U.vm → cP G L F H.size vals vals.toArray U := fun U hU hW => ⟨rfl, by rw [hU], by rw [hU]; exact hw.1, hw.2.1.weaken (fun _ _ _ _ => trivial), C0.am.call hw.2.2 (wA.mono hw.2.2.1) hU hW⟩
section CALL
variable {y : MethodName} {bytes : ByteArray} {mL idx n : Nat} {rt : Option FieldType} {rm : Room} {As st0 : List Value} {b ci : Nat} {fs : List Value} {q : vw_C} {Qf : (Nat → Prop) → Array Value → State → Outcome → State → Prop}
theorem q_runV (hM : CG l y bytes mL rt rm G L F (.ref b :: As) Qf) (C0 : Cx p s m args c cc nL own G L) (hw : wD G L F s H locs) (vw : vWd own idx y bytes mL rt n) (hb : b ∈ L) (he : F b = .inr (ci, fs)) (hcl : vwCl[ci]? = some q) (hq : q.1 = y.cls) (hlen : As.length = n) (hsize : ls.size = nL) (hst : st0 = As.reverse ++ .ref b :: rest) (hcat : (rest.map fun v => v.category).sum ≤ 8) (hdg : decode cc pc = .ok (.invokevirtual idx, 3)) (hroom : rm.frames + 1 ≤ R.frames ∧ 8 + (mL + 11) + rm.locals ≤ R.locals) (hcs : cells + rm.cells ≤ R.cells ∧ slots + rm.slots ≤ R.slots) :
    va_Run p l e R s m args below meth c H locs cells slots rm.cells rm.slots (F0 m pc ls st0) rest (Qf (wA L H.size) (Value.ref b :: As).toArray) (wA L H.size) := by
  obtain ⟨k, hk⟩ := va_pl_get (X := []) (f := F) hb
  rw [he] at hk
  have hrecv := va_recv (q0 := k) C0.K hw.1 hcl hk
  rw [hq] at hrecv
  exact va_runV (As := As) (rest := rest) ⟨C0.x, C0.b, C0.ml, C0.ow, C0.ts⟩ (hM H.size) (cwV_TB C0 vw hroom) ⟨cP.blind, hrecv, cP.hold C0 hw _⟩ rfl hlen hsize hst (lv_room hcat) hdg hcs
theorem q_runS (hM : CG l y bytes mL rt rm G L F As Qf) (C0 : Cx p s m args c cc nL own G L) (hw : wD G L F s H locs) (vw : sWd own idx y bytes mL rt n) (hlen : As.length = n) (hsize : ls.size = nL) (hst : st0 = As.reverse ++ rest) (hcat : (rest.map fun v => v.category).sum ≤ 8) (hdg : decode cc pc = .ok (.invokestatic idx, 3)) (hroom : rm.frames + 1 ≤ R.frames ∧ 8 + (mL + 11) + rm.locals ≤ R.locals) (hcs : cells + rm.cells ≤ R.cells ∧ slots + rm.slots ≤ R.slots) :
    va_Run p l e R s m args below meth c H locs cells slots rm.cells rm.slots (F0 m pc ls st0) rest (Qf (wA L H.size) As.toArray) (wA L H.size) :=
  va_runS (As := As) (rest := rest) ⟨C0.x, C0.b, C0.ml, C0.ow, C0.ts⟩ (hM H.size) (cwS_TB C0 vw hroom) ⟨cP.blind, cP.hold C0 hw _⟩ rfl hlen hsize hst (lv_room hcat) hdg hcs
end CALL
section BACK
variable {mc ms : Nat} {a9 : Array Value} {st0 : List Value}
theorem wD.back (hw : wD G L F s H locs) {F' : Nat → va_E} {t : State} {H1 : Heap} {locs1 : List Loc} (ht : t.heap = H1) (hB : cB G L F' t) (hS : va_S (wA L s.heap.size) s.heap H1 locs1) : wD G L F' s H1 locs1 := ⟨by rw [← ht]; exact hB, va_pl_D hw.2.1, hS⟩
theorem q_calli (hw : wD G L F s H locs) {post : Int32 → (Nat → va_E) → Prop} (hr : va_Run p l e R s m args below meth c H locs cells slots mc ms (F0 m pc ls st0) rest (va_Qi post (cB G L) (wA L H.size) a9) (wA L H.size)) (hmc : mc = 0) (hms : ms = 0)
    (kk : ∀ (r : Int32) (F' : Nat → va_E) (H1 : Heap) (locs1 : List Loc), wD G L F' s H1 locs1 → post r F' → W p l e R s m args below meth c H1 locs1 cells slots Q (F0 m (pc + 3) ls (.int r :: rest))) : W p l e R s m args below meth c H locs cells slots Q (F0 m pc ls st0) := by
  subst hmc
  subst hms
  exact va_calli hr hw.2.2 (fun q _ h => wA.mono hw.2.2.1 q h) (wA.mono hw.2.2.1) (fun r u t H1 locs1 ht _ hp hB _ _ hS => kk r u H1 locs1 (hw.back ht hB hS) hp)
theorem q_calll (hw : wD G L F s H locs) {post : Int64 → (Nat → va_E) → Prop} (hr : va_Run p l e R s m args below meth c H locs cells slots mc ms (F0 m pc ls st0) rest (va_Ql post (cB G L) (wA L H.size) a9) (wA L H.size)) (hmc : mc = 0) (hms : ms = 0)
    (kk : ∀ (r : Int64) (F' : Nat → va_E) (H1 : Heap) (locs1 : List Loc), wD G L F' s H1 locs1 → post r F' → W p l e R s m args below meth c H1 locs1 cells slots Q (F0 m (pc + 3) ls (.long r :: rest))) : W p l e R s m args below meth c H locs cells slots Q (F0 m pc ls st0) := by
  subst hmc
  subst hms
  exact va_calll hr hw.2.2 (fun q _ h => wA.mono hw.2.2.1 q h) (wA.mono hw.2.2.1) (fun r u t H1 locs1 ht _ hp hB _ _ hS => kk r u H1 locs1 (hw.back ht hB hS) hp)
theorem q_calld (hw : wD G L F s H locs) {post : UInt64 → (Nat → va_E) → Prop} (hr : va_Run p l e R s m args below meth c H locs cells slots mc ms (F0 m pc ls st0) rest (va_Qd post (cB G L) (wA L H.size) a9) (wA L H.size)) (hmc : mc = 0) (hms : ms = 0)
    (kk : ∀ (r : UInt64) (F' : Nat → va_E) (H1 : Heap) (locs1 : List Loc), wD G L F' s H1 locs1 → post r F' → W p l e R s m args below meth c H1 locs1 cells slots Q (F0 m (pc + 3) ls (.double r :: rest))) : W p l e R s m args below meth c H locs cells slots Q (F0 m pc ls st0) := by
  subst hmc
  subst hms
  exact va_calld hr hw.2.2 (fun q _ h => wA.mono hw.2.2.1 q h) (wA.mono hw.2.2.1) (fun r u t H1 locs1 ht _ hp hB _ _ hS => kk r u H1 locs1 (hw.back ht hB hS) hp)
theorem q_callv (hw : wD G L F s H locs) {post : (Nat → va_E) → Prop} (hr : va_Run p l e R s m args below meth c H locs cells slots mc ms (F0 m pc ls st0) rest (va_Qv post (cB G L) (wA L H.size) a9) (wA L H.size)) (hmc : mc = 0) (hms : ms = 0)
    (kk : ∀ (F' : Nat → va_E) (H1 : Heap) (locs1 : List Loc), wD G L F' s H1 locs1 → post F' → W p l e R s m args below meth c H1 locs1 cells slots Q (F0 m (pc + 3) ls rest)) : W p l e R s m args below meth c H locs cells slots Q (F0 m pc ls st0) := by
  subst hmc
  subst hms
  exact va_callv hr hw.2.2 (fun q _ h => wA.mono hw.2.2.1 q h) (wA.mono hw.2.2.1) (fun u t H1 locs1 ht _ hp hB _ _ hS => kk u H1 locs1 (hw.back ht hB hS) hp)
end BACK
end ROWS
end
section
def iWd (own : String) (idx : Nat) (y : MethodName) (bytes : ByteArray) (mL : Nat) (n : Nat) : Prop := Cond.methodLink own idx y ∈ TB ∧ Cond.instanceMethod y ∈ TB ∧ Cond.initialized y.cls ∈ TB ∧ Cond.code y bytes mL none ∈ TB ∧ y.name = "<init>" ∧ dWd y n
theorem uw_X0 : ∀ w ∈ u_ws RX0 TX0 2, w ∈ TB := fun w hw => tb_l ((by decide +kernel : ∀ w ∈ u_ws RX0 TX0 2, w ∈ lw_tbl) w hw) ((by decide +kernel : ∀ w ∈ u_ws RX0 TX0 2, goodWord w = true) w hw)
theorem uw_X1 : ∀ w ∈ u_ws RX1 TX1 14, w ∈ TB := fun w hw => tb_l ((by decide +kernel : ∀ w ∈ u_ws RX1 TX1 14, w ∈ lw_tbl) w hw) ((by decide +kernel : ∀ w ∈ u_ws RX1 TX1 14, goodWord w = true) w hw)
theorem uw_X2 : ∀ w ∈ u_ws RX2 TX2 3, w ∈ TB := fun w hw => tb_l ((by decide +kernel : ∀ w ∈ u_ws RX2 TX2 3, w ∈ lw_tbl) w hw) ((by decide +kernel : ∀ w ∈ u_ws RX2 TX2 3, goodWord w = true) w hw)
theorem uw_X3 : ∀ w ∈ u_ws RX3 TX3 5, w ∈ TB := fun w hw => tb_l ((by decide +kernel : ∀ w ∈ u_ws RX3 TX3 5, w ∈ lw_tbl) w hw) ((by decide +kernel : ∀ w ∈ u_ws RX3 TX3 5, goodWord w = true) w hw)
theorem uw_X4 : ∀ w ∈ u_ws RX4 TX4 2, w ∈ TB := fun w hw => tb_l ((by decide +kernel : ∀ w ∈ u_ws RX4 TX4 2, w ∈ lw_tbl) w hw) ((by decide +kernel : ∀ w ∈ u_ws RX4 TX4 2, goodWord w = true) w hw)
theorem uw_X5 : ∀ w ∈ u_ws RX5 TX5 8, w ∈ TB := fun w hw => tb_l ((by decide +kernel : ∀ w ∈ u_ws RX5 TX5 8, w ∈ lw_tbl) w hw) ((by decide +kernel : ∀ w ∈ u_ws RX5 TX5 8, goodWord w = true) w hw)
theorem fw_X2_9 : fWd RX2 9 RX2 TX2 3 2 0 := ⟨uw_X2, rfl, by decide, tb_t 38 (by decide +kernel) rfl⟩
theorem fw_X5_70 : fWd RX5 70 RX2 TX2 3 2 0 := ⟨uw_X2, rfl, by decide, tb_t 39 (by decide +kernel) rfl⟩
theorem fw_X2_17 : fWd RX2 17 RX2 TX2 3 2 1 := ⟨uw_X2, rfl, by decide, tb_t 40 (by decide +kernel) rfl⟩
theorem fw_X5_85 : fWd RX5 85 RX2 TX2 3 2 1 := ⟨uw_X2, rfl, by decide, tb_t 41 (by decide +kernel) rfl⟩
theorem fw_X2_20 : fWd RX2 20 RX2 TX2 3 2 2 := ⟨uw_X2, rfl, by decide, tb_t 42 (by decide +kernel) rfl⟩
theorem fw_X5_93 : fWd RX5 93 RX2 TX2 3 2 2 := ⟨uw_X2, rfl, by decide, tb_t 43 (by decide +kernel) rfl⟩
theorem fw_X3_12 : fWd RX3 12 RX3 TX3 5 3 0 := ⟨uw_X3, rfl, by decide, tb_t 52 (by decide +kernel) rfl⟩
theorem fw_X5_66 : fWd RX5 66 RX3 TX3 5 3 0 := ⟨uw_X3, rfl, by decide, tb_t 53 (by decide +kernel) rfl⟩
theorem fw_X3_18 : fWd RX3 18 RX3 TX3 5 3 1 := ⟨uw_X3, rfl, by decide, tb_t 54 (by decide +kernel) rfl⟩
theorem fw_X5_98 : fWd RX5 98 RX3 TX3 5 3 1 := ⟨uw_X3, rfl, by decide, tb_t 55 (by decide +kernel) rfl⟩
theorem fw_X3_26 : fWd RX3 26 RX3 TX3 5 3 2 := ⟨uw_X3, rfl, by decide, tb_t 56 (by decide +kernel) rfl⟩
theorem fw_X5_237 : fWd RX5 237 RX3 TX3 5 3 2 := ⟨uw_X3, rfl, by decide, tb_t 57 (by decide +kernel) rfl⟩
theorem fw_X3_29 : fWd RX3 29 RX3 TX3 5 3 3 := ⟨uw_X3, rfl, by decide, tb_t 58 (by decide +kernel) rfl⟩
theorem fw_X5_240 : fWd RX5 240 RX3 TX3 5 3 3 := ⟨uw_X3, rfl, by decide, tb_t 59 (by decide +kernel) rfl⟩
theorem fw_X3_32 : fWd RX3 32 RX3 TX3 5 3 4 := ⟨uw_X3, rfl, by decide, tb_t 60 (by decide +kernel) rfl⟩
theorem fw_X5_243 : fWd RX5 243 RX3 TX3 5 3 4 := ⟨uw_X3, rfl, by decide, tb_t 61 (by decide +kernel) rfl⟩
theorem fw_X0_11 : fWd RX0 11 RX0 TX0 2 0 0 := ⟨uw_X0, rfl, by decide, tb_t 82 (by decide +kernel) rfl⟩
theorem fw_X0_18 : fWd RX0 18 RX0 TX0 2 0 1 := ⟨uw_X0, rfl, by decide, tb_t 83 (by decide +kernel) rfl⟩
theorem fw_X5_184 : fWd RX5 184 RX0 TX0 2 0 1 := ⟨uw_X0, rfl, by decide, tb_t 84 (by decide +kernel) rfl⟩
theorem fw_X4_9 : fWd RX4 9 RX4 TX4 2 4 0 := ⟨uw_X4, rfl, by decide, tb_t 99 (by decide +kernel) rfl⟩
theorem fw_X1_9 : fWd RX1 9 RX1 TX1 14 1 0 := ⟨uw_X1, rfl, by decide, tb_t 112 (by decide +kernel) rfl⟩
theorem fw_X1_15 : fWd RX1 15 RX1 TX1 14 1 1 := ⟨uw_X1, rfl, by decide, tb_t 113 (by decide +kernel) rfl⟩
theorem fw_X1_18 : fWd RX1 18 RX1 TX1 14 1 2 := ⟨uw_X1, rfl, by decide, tb_t 114 (by decide +kernel) rfl⟩
theorem fw_X1_21 : fWd RX1 21 RX1 TX1 14 1 3 := ⟨uw_X1, rfl, by decide, tb_t 115 (by decide +kernel) rfl⟩
theorem fw_X1_24 : fWd RX1 24 RX1 TX1 14 1 4 := ⟨uw_X1, rfl, by decide, tb_t 116 (by decide +kernel) rfl⟩
theorem fw_X1_27 : fWd RX1 27 RX1 TX1 14 1 5 := ⟨uw_X1, rfl, by decide, tb_t 117 (by decide +kernel) rfl⟩
theorem fw_X1_30 : fWd RX1 30 RX1 TX1 14 1 6 := ⟨uw_X1, rfl, by decide, tb_t 118 (by decide +kernel) rfl⟩
theorem fw_X1_33 : fWd RX1 33 RX1 TX1 14 1 7 := ⟨uw_X1, rfl, by decide, tb_t 119 (by decide +kernel) rfl⟩
theorem fw_X1_36 : fWd RX1 36 RX1 TX1 14 1 8 := ⟨uw_X1, rfl, by decide, tb_t 120 (by decide +kernel) rfl⟩
theorem fw_X1_39 : fWd RX1 39 RX1 TX1 14 1 9 := ⟨uw_X1, rfl, by decide, tb_t 121 (by decide +kernel) rfl⟩
theorem fw_X1_42 : fWd RX1 42 RX1 TX1 14 1 10 := ⟨uw_X1, rfl, by decide, tb_t 122 (by decide +kernel) rfl⟩
theorem fw_X1_45 : fWd RX1 45 RX1 TX1 14 1 11 := ⟨uw_X1, rfl, by decide, tb_t 123 (by decide +kernel) rfl⟩
theorem fw_X1_48 : fWd RX1 48 RX1 TX1 14 1 12 := ⟨uw_X1, rfl, by decide, tb_t 124 (by decide +kernel) rfl⟩
theorem fw_X1_51 : fWd RX1 51 RX1 TX1 14 1 13 := ⟨uw_X1, rfl, by decide, tb_t 125 (by decide +kernel) rfl⟩
theorem fw_X5_12 : fWd RX5 12 RX5 TX5 8 5 0 := ⟨uw_X5, rfl, by decide, tb_t 155 (by decide +kernel) rfl⟩
theorem fw_X5_19 : fWd RX5 19 RX5 TX5 8 5 1 := ⟨uw_X5, rfl, by decide, tb_t 156 (by decide +kernel) rfl⟩
theorem fw_X5_25 : fWd RX5 25 RX5 TX5 8 5 2 := ⟨uw_X5, rfl, by decide, tb_t 157 (by decide +kernel) rfl⟩
theorem fw_X5_30 : fWd RX5 30 RX5 TX5 8 5 3 := ⟨uw_X5, rfl, by decide, tb_t 158 (by decide +kernel) rfl⟩
theorem fw_X5_37 : fWd RX5 37 RX5 TX5 8 5 4 := ⟨uw_X5, rfl, by decide, tb_t 159 (by decide +kernel) rfl⟩
theorem fw_X5_44 : fWd RX5 44 RX5 TX5 8 5 5 := ⟨uw_X5, rfl, by decide, tb_t 160 (by decide +kernel) rfl⟩
theorem fw_X5_48 : fWd RX5 48 RX5 TX5 8 5 6 := ⟨uw_X5, rfl, by decide, tb_t 161 (by decide +kernel) rfl⟩
theorem fw_X5_52 : fWd RX5 52 RX5 TX5 8 5 7 := ⟨uw_X5, rfl, by decide, tb_t 162 (by decide +kernel) rfl⟩
theorem fwi : Cond.fieldLink RX1 80 RX1 "INVERSES" "[I" ∈ TB := tb_t 436 (by decide +kernel) rfl
theorem pw_X0_1 : pWd TX0 2 1 .int := ⟨⟨tyX0, tyX0_ok⟩, nmX0, by decide +kernel⟩
theorem pw_X2_0 : pWd TX2 3 0 .int := ⟨⟨tyX2, tyX2_ok⟩, nmX2, by decide +kernel⟩
theorem pw_X3_1 : pWd TX3 5 1 .int := ⟨⟨tyX3, tyX3_ok⟩, nmX3, by decide +kernel⟩
theorem pw_X3_2 : pWd TX3 5 2 .int := ⟨⟨tyX3, tyX3_ok⟩, nmX3, by decide +kernel⟩
theorem pw_X3_3 : pWd TX3 5 3 .int := ⟨⟨tyX3, tyX3_ok⟩, nmX3, by decide +kernel⟩
theorem pw_X3_4 : pWd TX3 5 4 .int := ⟨⟨tyX3, tyX3_ok⟩, nmX3, by decide +kernel⟩
theorem pw_X4_1 : pWd TX4 2 1 .int := ⟨⟨tyX4, tyX4_ok⟩, nmX4, by decide +kernel⟩
theorem iw_L_118 : iWd RL 118 yX5_init cX5_init 2 0 := ⟨tb_t 18 (by decide +kernel) rfl, tb_t 19 (by decide +kernel) rfl, tb_t 1 (by decide +kernel) rfl, tb_t 20 (by decide +kernel) rfl, rfl, ⟨by decide +kernel, by decide +kernel, by decide +kernel⟩⟩
theorem iw_X5_11 : iWd RX5 11 yX3_init cX3_init 1 0 := ⟨tb_t 26 (by decide +kernel) rfl, tb_t 27 (by decide +kernel) rfl, tb_t 2 (by decide +kernel) rfl, tb_t 28 (by decide +kernel) rfl, rfl, ⟨by decide +kernel, by decide +kernel, by decide +kernel⟩⟩
theorem iw_X3_11 : iWd RX3 11 yX2_init cX2_init 2 0 := ⟨tb_t 32 (by decide +kernel) rfl, tb_t 33 (by decide +kernel) rfl, tb_t 3 (by decide +kernel) rfl, tb_t 34 (by decide +kernel) rfl, rfl, ⟨by decide +kernel, by decide +kernel, by decide +kernel⟩⟩
theorem iw_X5_18 : iWd RX5 18 yX0_init cX0_init 2 0 := ⟨tb_t 75 (by decide +kernel) rfl, tb_t 76 (by decide +kernel) rfl, tb_t 4 (by decide +kernel) rfl, tb_t 77 (by decide +kernel) rfl, rfl, ⟨by decide +kernel, by decide +kernel, by decide +kernel⟩⟩
theorem iw_X0_17 : iWd RX0 17 yX3_init cX3_init 1 0 := ⟨tb_t 81 (by decide +kernel) rfl, tb_t 27 (by decide +kernel) rfl, tb_t 2 (by decide +kernel) rfl, tb_t 28 (by decide +kernel) rfl, rfl, ⟨by decide +kernel, by decide +kernel, by decide +kernel⟩⟩
theorem iw_X5_29 : iWd RX5 29 yX2_init cX2_init 2 0 := ⟨tb_t 92 (by decide +kernel) rfl, tb_t 33 (by decide +kernel) rfl, tb_t 3 (by decide +kernel) rfl, tb_t 34 (by decide +kernel) rfl, rfl, ⟨by decide +kernel, by decide +kernel, by decide +kernel⟩⟩
theorem iw_X5_36 : iWd RX5 36 yX4_init cX4_init 1 0 := ⟨tb_t 95 (by decide +kernel) rfl, tb_t 96 (by decide +kernel) rfl, tb_t 5 (by decide +kernel) rfl, tb_t 97 (by decide +kernel) rfl, rfl, ⟨by decide +kernel, by decide +kernel, by decide +kernel⟩⟩
theorem iw_X5_43 : iWd RX5 43 yX1_init cX1_init 1 0 := ⟨tb_t 108 (by decide +kernel) rfl, tb_t 109 (by decide +kernel) rfl, tb_t 6 (by decide +kernel) rfl, tb_t 110 (by decide +kernel) rfl, rfl, ⟨by decide +kernel, by decide +kernel, by decide +kernel⟩⟩
theorem sw_L_119 : sWd RL 119 yL_cell cL_cell 2 (some .int) 2 := ⟨tb_t 180 (by decide +kernel) rfl, tb_t 181 (by decide +kernel) rfl, tb_t 0 (by decide +kernel) rfl, tb_t 182 (by decide +kernel) rfl, ⟨by decide +kernel, by decide +kernel, by decide +kernel⟩⟩
theorem sw_L_123 : sWd RL 123 yL_act cL_act 11 (some .boolean) 6 := ⟨tb_t 184 (by decide +kernel) rfl, tb_t 185 (by decide +kernel) rfl, tb_t 0 (by decide +kernel) rfl, tb_t 186 (by decide +kernel) rfl, ⟨by decide +kernel, by decide +kernel, by decide +kernel⟩⟩
theorem sw_L_75 : sWd RL 75 yL_at cL_at 2 (some .int) 2 := ⟨tb_t 187 (by decide +kernel) rfl, tb_t 188 (by decide +kernel) rfl, tb_t 0 (by decide +kernel) rfl, tb_t 189 (by decide +kernel) rfl, ⟨by decide +kernel, by decide +kernel, by decide +kernel⟩⟩
theorem sw_L_8 : sWd RL 8 yL_mod cL_mod 1 (some .int) 1 := ⟨tb_t 190 (by decide +kernel) rfl, tb_t 191 (by decide +kernel) rfl, tb_t 0 (by decide +kernel) rfl, tb_t 192 (by decide +kernel) rfl, ⟨by decide +kernel, by decide +kernel, by decide +kernel⟩⟩
theorem vw_L_93 : vWd RL 93 yX5_setField cX5_setField 4 (some .int) 3 := ⟨tb_t 193 (by decide +kernel) rfl, tb_t 194 (by decide +kernel) rfl, tb_t 195 (by decide +kernel) rfl, tb_t 1 (by decide +kernel) rfl, tb_t 196 (by decide +kernel) rfl, ⟨by decide +kernel, by decide +kernel, by decide +kernel⟩⟩
theorem sw_X5_78 : sWd RX5 78 yX5_needSlot cX5_needSlot 1 none 1 := ⟨tb_t 197 (by decide +kernel) rfl, tb_t 198 (by decide +kernel) rfl, tb_t 1 (by decide +kernel) rfl, tb_t 199 (by decide +kernel) rfl, ⟨by decide +kernel, by decide +kernel, by decide +kernel⟩⟩
theorem sw_X5_81 : sWd RX5 81 yX5_needPower cX5_needPower 3 none 3 := ⟨tb_t 268 (by decide +kernel) rfl, tb_t 269 (by decide +kernel) rfl, tb_t 1 (by decide +kernel) rfl, tb_t 270 (by decide +kernel) rfl, ⟨by decide +kernel, by decide +kernel, by decide +kernel⟩⟩
theorem vw_X5_62 : vWd RX5 62 yX0_save cX0_save 2 none 1 := ⟨tb_t 272 (by decide +kernel) rfl, tb_t 273 (by decide +kernel) rfl, tb_t 274 (by decide +kernel) rfl, tb_t 4 (by decide +kernel) rfl, tb_t 275 (by decide +kernel) rfl, ⟨by decide +kernel, by decide +kernel, by decide +kernel⟩⟩
theorem vw_X0_22 : vWd RX0 22 yX0_dropOldest cX0_dropOldest 3 none 0 := ⟨tb_t 276 (by decide +kernel) rfl, tb_t 278 (by decide +kernel) rfl, tb_s 1 (by decide +kernel) rfl, tb_t 4 (by decide +kernel) rfl, tb_t 279 (by decide +kernel) rfl, ⟨by decide +kernel, by decide +kernel, by decide +kernel⟩⟩
theorem vw_X0_25 : vWd RX0 25 yX3_copyFrom cX3_copyFrom 2 none 1 := ⟨tb_t 280 (by decide +kernel) rfl, tb_t 281 (by decide +kernel) rfl, tb_t 282 (by decide +kernel) rfl, tb_t 2 (by decide +kernel) rfl, tb_t 283 (by decide +kernel) rfl, ⟨by decide +kernel, by decide +kernel, by decide +kernel⟩⟩
theorem vw_X3_22 : vWd RX3 22 yX2_copyFrom cX2_copyFrom 3 none 1 := ⟨tb_t 284 (by decide +kernel) rfl, tb_t 285 (by decide +kernel) rfl, tb_t 286 (by decide +kernel) rfl, tb_t 3 (by decide +kernel) rfl, tb_t 287 (by decide +kernel) rfl, ⟨by decide +kernel, by decide +kernel, by decide +kernel⟩⟩
theorem sw_X5_89 : sWd RX5 89 yX5_replace cX5_replace 4 (some .int) 3 := ⟨tb_t 291 (by decide +kernel) rfl, tb_t 292 (by decide +kernel) rfl, tb_t 1 (by decide +kernel) rfl, tb_t 293 (by decide +kernel) rfl, ⟨by decide +kernel, by decide +kernel, by decide +kernel⟩⟩
theorem sw_X5_117 : sWd RX5 117 yJ9_floorMod_7cf53 cJ9_floorMod_7cf53 3 (some .int) 2 := ⟨tb_t 294 (by decide +kernel) rfl, tb_t 295 (by decide +kernel) rfl, tb_t 12 (by decide +kernel) rfl, tb_t 296 (by decide +kernel) rfl, ⟨by decide +kernel, by decide +kernel, by decide +kernel⟩⟩
theorem vw_L_96 : vWd RL 96 yX5_setFlow cX5_setFlow 4 (some .int) 3 := ⟨tb_t 297 (by decide +kernel) rfl, tb_t 298 (by decide +kernel) rfl, tb_t 299 (by decide +kernel) rfl, tb_t 1 (by decide +kernel) rfl, tb_t 300 (by decide +kernel) rfl, ⟨by decide +kernel, by decide +kernel, by decide +kernel⟩⟩
theorem vw_L_99 : vWd RL 99 yX5_cut cX5_cut 3 (some .int) 1 := ⟨tb_t 301 (by decide +kernel) rfl, tb_t 302 (by decide +kernel) rfl, tb_t 303 (by decide +kernel) rfl, tb_t 1 (by decide +kernel) rfl, tb_t 304 (by decide +kernel) rfl, ⟨by decide +kernel, by decide +kernel, by decide +kernel⟩⟩
theorem vw_X5_74 : vWd RX5 74 yX2_cutAt cX2_cutAt 4 none 1 := ⟨tb_t 321 (by decide +kernel) rfl, tb_t 322 (by decide +kernel) rfl, tb_t 323 (by decide +kernel) rfl, tb_t 3 (by decide +kernel) rfl, tb_t 324 (by decide +kernel) rfl, ⟨by decide +kernel, by decide +kernel, by decide +kernel⟩⟩
theorem vw_L_102 : vWd RL 102 yX5_earn cX5_earn 2 (some .int) 1 := ⟨tb_t 325 (by decide +kernel) rfl, tb_t 326 (by decide +kernel) rfl, tb_t 327 (by decide +kernel) rfl, tb_t 1 (by decide +kernel) rfl, tb_t 328 (by decide +kernel) rfl, ⟨by decide +kernel, by decide +kernel, by decide +kernel⟩⟩
theorem sw_L_105 : sWd RL 105 yL_done cL_done 13 (some .boolean) 9 := ⟨tb_t 347 (by decide +kernel) rfl, tb_t 348 (by decide +kernel) rfl, tb_t 0 (by decide +kernel) rfl, tb_t 349 (by decide +kernel) rfl, ⟨by decide +kernel, by decide +kernel, by decide +kernel⟩⟩
theorem vw_L_43 : vWd RL 43 yX5_bracket cX5_bracket 4 (some .int) 3 := ⟨tb_t 350 (by decide +kernel) rfl, tb_t 351 (by decide +kernel) rfl, tb_t 352 (by decide +kernel) rfl, tb_t 1 (by decide +kernel) rfl, tb_t 353 (by decide +kernel) rfl, ⟨by decide +kernel, by decide +kernel, by decide +kernel⟩⟩
theorem vw_X5_107 : vWd RX5 107 yX5_orderAlone cX5_orderAlone 5 (some .int) 4 := ⟨tb_t 354 (by decide +kernel) rfl, tb_t 356 (by decide +kernel) rfl, tb_s 2 (by decide +kernel) rfl, tb_t 1 (by decide +kernel) rfl, tb_t 357 (by decide +kernel) rfl, ⟨by decide +kernel, by decide +kernel, by decide +kernel⟩⟩
theorem sw_X5_225 : sWd RX5 225 yX5_unitsOf cX5_unitsOf 1 (some .int) 1 := ⟨tb_t 358 (by decide +kernel) rfl, tb_t 359 (by decide +kernel) rfl, tb_t 1 (by decide +kernel) rfl, tb_t 360 (by decide +kernel) rfl, ⟨by decide +kernel, by decide +kernel, by decide +kernel⟩⟩
theorem vw_X5_111 : vWd RX5 111 yX5_needMoney cX5_needMoney 2 none 1 := ⟨tb_t 361 (by decide +kernel) rfl, tb_t 363 (by decide +kernel) rfl, tb_s 3 (by decide +kernel) rfl, tb_t 1 (by decide +kernel) rfl, tb_t 364 (by decide +kernel) rfl, ⟨by decide +kernel, by decide +kernel, by decide +kernel⟩⟩
theorem vw_X5_228 : vWd RX5 228 yX5_costOf cX5_costOf 2 (some .int) 1 := ⟨tb_t 365 (by decide +kernel) rfl, tb_t 367 (by decide +kernel) rfl, tb_s 4 (by decide +kernel) rfl, tb_t 1 (by decide +kernel) rfl, tb_t 368 (by decide +kernel) rfl, ⟨by decide +kernel, by decide +kernel, by decide +kernel⟩⟩
theorem vw_X5_299 : vWd RX5 299 yX5_carryOut cX5_carryOut 8 (some .int) 4 := ⟨tb_t 370 (by decide +kernel) rfl, tb_t 372 (by decide +kernel) rfl, tb_s 5 (by decide +kernel) rfl, tb_t 1 (by decide +kernel) rfl, tb_t 373 (by decide +kernel) rfl, ⟨by decide +kernel, by decide +kernel, by decide +kernel⟩⟩
theorem vw_X5_114 : vWd RX5 114 yX5_pay cX5_pay 3 none 1 := ⟨tb_t 374 (by decide +kernel) rfl, tb_t 376 (by decide +kernel) rfl, tb_s 6 (by decide +kernel) rfl, tb_t 1 (by decide +kernel) rfl, tb_t 377 (by decide +kernel) rfl, ⟨by decide +kernel, by decide +kernel, by decide +kernel⟩⟩
theorem vw_X5_198 : vWd RX5 198 yX1_takeBracket cX1_takeBracket 5 none 4 := ⟨tb_t 378 (by decide +kernel) rfl, tb_t 379 (by decide +kernel) rfl, tb_t 380 (by decide +kernel) rfl, tb_t 6 (by decide +kernel) rfl, tb_t 381 (by decide +kernel) rfl, ⟨by decide +kernel, by decide +kernel, by decide +kernel⟩⟩
theorem sw_X1_68 : sWd RX1 68 yX1_act cX1_act 9 none 4 := ⟨tb_t 382 (by decide +kernel) rfl, tb_t 383 (by decide +kernel) rfl, tb_t 6 (by decide +kernel) rfl, tb_t 384 (by decide +kernel) rfl, ⟨by decide +kernel, by decide +kernel, by decide +kernel⟩⟩
theorem sw_X1_62 : sWd RX1 62 yJ7_fill_53178 cJ7_fill_53178 4 none 2 := ⟨tb_t 385 (by decide +kernel) rfl, tb_t 386 (by decide +kernel) rfl, tb_t 15 (by decide +kernel) rfl, tb_t 387 (by decide +kernel) rfl, ⟨by decide +kernel, by decide +kernel, by decide +kernel⟩⟩
theorem sw_X1_72 : sWd RX1 72 yX1_addMultiple cX1_addMultiple 4 none 3 := ⟨tb_t 389 (by decide +kernel) rfl, tb_t 390 (by decide +kernel) rfl, tb_t 6 (by decide +kernel) rfl, tb_t 391 (by decide +kernel) rfl, ⟨by decide +kernel, by decide +kernel, by decide +kernel⟩⟩
theorem vw_X5_127 : vWd RX5 127 yX5_put cX5_put 2 (some .int) 1 := ⟨tb_t 392 (by decide +kernel) rfl, tb_t 394 (by decide +kernel) rfl, tb_s 7 (by decide +kernel) rfl, tb_t 1 (by decide +kernel) rfl, tb_t 395 (by decide +kernel) rfl, ⟨by decide +kernel, by decide +kernel, by decide +kernel⟩⟩
theorem sw_X5_202 : sWd RX5 202 yX1_lowestPower cX1_lowestPower 2 (some .int) 1 := ⟨tb_t 397 (by decide +kernel) rfl, tb_t 398 (by decide +kernel) rfl, tb_t 6 (by decide +kernel) rfl, tb_t 399 (by decide +kernel) rfl, ⟨by decide +kernel, by decide +kernel, by decide +kernel⟩⟩
theorem sw_X5_308 : sWd RX5 308 yX1_addRows cX1_addRows 4 none 3 := ⟨tb_t 400 (by decide +kernel) rfl, tb_t 401 (by decide +kernel) rfl, tb_t 6 (by decide +kernel) rfl, tb_t 402 (by decide +kernel) rfl, ⟨by decide +kernel, by decide +kernel, by decide +kernel⟩⟩
theorem vw_X5_312 : vWd RX5 312 yX1_secondWay cX1_secondWay 6 none 5 := ⟨tb_t 403 (by decide +kernel) rfl, tb_t 404 (by decide +kernel) rfl, tb_t 405 (by decide +kernel) rfl, tb_t 6 (by decide +kernel) rfl, tb_t 406 (by decide +kernel) rfl, ⟨by decide +kernel, by decide +kernel, by decide +kernel⟩⟩
theorem sw_X1_108 : sWd RX1 108 yX1_addRows cX1_addRows 4 none 3 := ⟨tb_t 407 (by decide +kernel) rfl, tb_t 401 (by decide +kernel) rfl, tb_t 6 (by decide +kernel) rfl, tb_t 402 (by decide +kernel) rfl, ⟨by decide +kernel, by decide +kernel, by decide +kernel⟩⟩
theorem vw_X1_112 : vWd RX1 112 yX1_takeBracket cX1_takeBracket 5 none 4 := ⟨tb_t 408 (by decide +kernel) rfl, tb_t 379 (by decide +kernel) rfl, tb_t 380 (by decide +kernel) rfl, tb_t 6 (by decide +kernel) rfl, tb_t 381 (by decide +kernel) rfl, ⟨by decide +kernel, by decide +kernel, by decide +kernel⟩⟩
theorem vw_X5_316 : vWd RX5 316 yX1_pushField cX1_pushField 5 none 4 := ⟨tb_t 409 (by decide +kernel) rfl, tb_t 410 (by decide +kernel) rfl, tb_t 411 (by decide +kernel) rfl, tb_t 6 (by decide +kernel) rfl, tb_t 412 (by decide +kernel) rfl, ⟨by decide +kernel, by decide +kernel, by decide +kernel⟩⟩
theorem vw_X1_105 : vWd RX1 105 yX1_inverse cX1_inverse 5 none 3 := ⟨tb_t 413 (by decide +kernel) rfl, tb_t 414 (by decide +kernel) rfl, tb_t 415 (by decide +kernel) rfl, tb_t 6 (by decide +kernel) rfl, tb_t 416 (by decide +kernel) rfl, ⟨by decide +kernel, by decide +kernel, by decide +kernel⟩⟩
theorem sw_X1_76 : sWd RX1 76 yX1_makeX cX1_makeX 1 none 1 := ⟨tb_t 417 (by decide +kernel) rfl, tb_t 418 (by decide +kernel) rfl, tb_t 6 (by decide +kernel) rfl, tb_t 419 (by decide +kernel) rfl, ⟨by decide +kernel, by decide +kernel, by decide +kernel⟩⟩
theorem vw_X1_96 : vWd RX1 96 yX1_substitute cX1_substitute 6 none 4 := ⟨tb_t 420 (by decide +kernel) rfl, tb_t 421 (by decide +kernel) rfl, tb_t 422 (by decide +kernel) rfl, tb_t 6 (by decide +kernel) rfl, tb_t 423 (by decide +kernel) rfl, ⟨by decide +kernel, by decide +kernel, by decide +kernel⟩⟩
theorem sw_X1_87 : sWd RX1 87 yX1_multiply cX1_multiply 8 none 4 := ⟨tb_t 424 (by decide +kernel) rfl, tb_t 425 (by decide +kernel) rfl, tb_t 6 (by decide +kernel) rfl, tb_t 426 (by decide +kernel) rfl, ⟨by decide +kernel, by decide +kernel, by decide +kernel⟩⟩
theorem vw_X5_319 : vWd RX5 319 yX1_logarithm cX1_logarithm 5 none 3 := ⟨tb_t 428 (by decide +kernel) rfl, tb_t 429 (by decide +kernel) rfl, tb_t 430 (by decide +kernel) rfl, tb_t 6 (by decide +kernel) rfl, tb_t 431 (by decide +kernel) rfl, ⟨by decide +kernel, by decide +kernel, by decide +kernel⟩⟩
theorem vw_X1_99 : vWd RX1 99 yX1_exponential cX1_exponential 5 none 3 := ⟨tb_t 432 (by decide +kernel) rfl, tb_t 433 (by decide +kernel) rfl, tb_t 434 (by decide +kernel) rfl, tb_t 6 (by decide +kernel) rfl, tb_t 435 (by decide +kernel) rfl, ⟨by decide +kernel, by decide +kernel, by decide +kernel⟩⟩
theorem sw_X1_83 : sWd RX1 83 yX1_scaleRow cX1_scaleRow 4 none 3 := ⟨tb_t 438 (by decide +kernel) rfl, tb_t 439 (by decide +kernel) rfl, tb_t 6 (by decide +kernel) rfl, tb_t 440 (by decide +kernel) rfl, ⟨by decide +kernel, by decide +kernel, by decide +kernel⟩⟩
theorem vw_X5_322 : vWd RX5 322 yX1_exponential cX1_exponential 5 none 3 := ⟨tb_t 441 (by decide +kernel) rfl, tb_t 433 (by decide +kernel) rfl, tb_t 434 (by decide +kernel) rfl, tb_t 6 (by decide +kernel) rfl, tb_t 435 (by decide +kernel) rfl, ⟨by decide +kernel, by decide +kernel, by decide +kernel⟩⟩
theorem vw_X5_205 : vWd RX5 205 yX1_substitute cX1_substitute 6 none 4 := ⟨tb_t 442 (by decide +kernel) rfl, tb_t 421 (by decide +kernel) rfl, tb_t 422 (by decide +kernel) rfl, tb_t 6 (by decide +kernel) rfl, tb_t 423 (by decide +kernel) rfl, ⟨by decide +kernel, by decide +kernel, by decide +kernel⟩⟩
theorem vw_X5_325 : vWd RX5 325 yX1_inverse cX1_inverse 5 none 3 := ⟨tb_t 443 (by decide +kernel) rfl, tb_t 414 (by decide +kernel) rfl, tb_t 415 (by decide +kernel) rfl, tb_t 6 (by decide +kernel) rfl, tb_t 416 (by decide +kernel) rfl, ⟨by decide +kernel, by decide +kernel, by decide +kernel⟩⟩
theorem sw_L_52 : sWd RL 52 yL_put cL_put 7 (some .int) 5 := ⟨tb_t 459 (by decide +kernel) rfl, tb_t 460 (by decide +kernel) rfl, tb_t 0 (by decide +kernel) rfl, tb_t 461 (by decide +kernel) rfl, ⟨by decide +kernel, by decide +kernel, by decide +kernel⟩⟩
theorem vw_L_56 : vWd RL 56 yX5_sum cX5_sum 4 (some .int) 3 := ⟨tb_t 462 (by decide +kernel) rfl, tb_t 463 (by decide +kernel) rfl, tb_t 464 (by decide +kernel) rfl, tb_t 1 (by decide +kernel) rfl, tb_t 465 (by decide +kernel) rfl, ⟨by decide +kernel, by decide +kernel, by decide +kernel⟩⟩
theorem vw_L_59 : vWd RL 59 yX5_scale cX5_scale 4 (some .int) 3 := ⟨tb_t 466 (by decide +kernel) rfl, tb_t 467 (by decide +kernel) rfl, tb_t 468 (by decide +kernel) rfl, tb_t 1 (by decide +kernel) rfl, tb_t 469 (by decide +kernel) rfl, ⟨by decide +kernel, by decide +kernel, by decide +kernel⟩⟩
theorem sw_X5_123 : sWd RX5 123 yX1_scaleRow cX1_scaleRow 4 none 3 := ⟨tb_t 470 (by decide +kernel) rfl, tb_t 439 (by decide +kernel) rfl, tb_t 6 (by decide +kernel) rfl, tb_t 440 (by decide +kernel) rfl, ⟨by decide +kernel, by decide +kernel, by decide +kernel⟩⟩
theorem vw_L_62 : vWd RL 62 yX5_exp cX5_exp 3 (some .int) 2 := ⟨tb_t 471 (by decide +kernel) rfl, tb_t 472 (by decide +kernel) rfl, tb_t 473 (by decide +kernel) rfl, tb_t 1 (by decide +kernel) rfl, tb_t 474 (by decide +kernel) rfl, ⟨by decide +kernel, by decide +kernel, by decide +kernel⟩⟩
theorem sw_L_26 : sWd RL 26 yL_over cL_over 3 (some .int) 2 := ⟨tb_t 478 (by decide +kernel) rfl, tb_t 479 (by decide +kernel) rfl, tb_t 0 (by decide +kernel) rfl, tb_t 480 (by decide +kernel) rfl, ⟨by decide +kernel, by decide +kernel, by decide +kernel⟩⟩
theorem vw_L_64 : vWd RL 64 yX5_log cX5_log 3 (some .int) 2 := ⟨tb_t 481 (by decide +kernel) rfl, tb_t 482 (by decide +kernel) rfl, tb_t 483 (by decide +kernel) rfl, tb_t 1 (by decide +kernel) rfl, tb_t 484 (by decide +kernel) rfl, ⟨by decide +kernel, by decide +kernel, by decide +kernel⟩⟩
theorem vw_L_69 : vWd RL 69 yX5_compose cX5_compose 4 (some .int) 3 := ⟨tb_t 488 (by decide +kernel) rfl, tb_t 489 (by decide +kernel) rfl, tb_t 490 (by decide +kernel) rfl, tb_t 1 (by decide +kernel) rfl, tb_t 491 (by decide +kernel) rfl, ⟨by decide +kernel, by decide +kernel, by decide +kernel⟩⟩
theorem vw_L_72 : vWd RL 72 yX5_invert cX5_invert 3 (some .int) 2 := ⟨tb_t 495 (by decide +kernel) rfl, tb_t 496 (by decide +kernel) rfl, tb_t 497 (by decide +kernel) rfl, tb_t 1 (by decide +kernel) rfl, tb_t 498 (by decide +kernel) rfl, ⟨by decide +kernel, by decide +kernel, by decide +kernel⟩⟩
theorem vw_L_78 : vWd RL 78 yX5_power cX5_power 4 (some .int) 3 := ⟨tb_t 502 (by decide +kernel) rfl, tb_t 503 (by decide +kernel) rfl, tb_t 504 (by decide +kernel) rfl, tb_t 1 (by decide +kernel) rfl, tb_t 505 (by decide +kernel) rfl, ⟨by decide +kernel, by decide +kernel, by decide +kernel⟩⟩
theorem vw_X5_133 : vWd RX5 133 yX5_repeat cX5_repeat 4 (some .int) 3 := ⟨tb_t 507 (by decide +kernel) rfl, tb_t 509 (by decide +kernel) rfl, tb_s 8 (by decide +kernel) rfl, tb_t 1 (by decide +kernel) rfl, tb_t 510 (by decide +kernel) rfl, ⟨by decide +kernel, by decide +kernel, by decide +kernel⟩⟩
theorem vw_X5_295 : vWd RX5 295 yX1_repeatFlow cX1_repeatFlow 5 none 4 := ⟨tb_t 511 (by decide +kernel) rfl, tb_t 512 (by decide +kernel) rfl, tb_t 513 (by decide +kernel) rfl, tb_t 6 (by decide +kernel) rfl, tb_t 514 (by decide +kernel) rfl, ⟨by decide +kernel, by decide +kernel, by decide +kernel⟩⟩
theorem vw_X1_102 : vWd RX1 102 yX1_logarithm cX1_logarithm 5 none 3 := ⟨tb_t 515 (by decide +kernel) rfl, tb_t 429 (by decide +kernel) rfl, tb_t 430 (by decide +kernel) rfl, tb_t 6 (by decide +kernel) rfl, tb_t 431 (by decide +kernel) rfl, ⟨by decide +kernel, by decide +kernel, by decide +kernel⟩⟩
theorem vw_L_84 : vWd RL 84 yX5_push cX5_push 4 (some .int) 3 := ⟨tb_t 519 (by decide +kernel) rfl, tb_t 520 (by decide +kernel) rfl, tb_t 521 (by decide +kernel) rfl, tb_t 1 (by decide +kernel) rfl, tb_t 522 (by decide +kernel) rfl, ⟨by decide +kernel, by decide +kernel, by decide +kernel⟩⟩
theorem vw_L_87 : vWd RL 87 yX5_byBrackets cX5_byBrackets 4 (some .int) 3 := ⟨tb_t 523 (by decide +kernel) rfl, tb_t 524 (by decide +kernel) rfl, tb_t 525 (by decide +kernel) rfl, tb_t 1 (by decide +kernel) rfl, tb_t 526 (by decide +kernel) rfl, ⟨by decide +kernel, by decide +kernel, by decide +kernel⟩⟩
theorem sw_L_127 : sWd RL 127 yL_agree cL_agree 6 (some .boolean) 4 := ⟨tb_t 530 (by decide +kernel) rfl, tb_t 531 (by decide +kernel) rfl, tb_t 0 (by decide +kernel) rfl, tb_t 532 (by decide +kernel) rfl, ⟨by decide +kernel, by decide +kernel, by decide +kernel⟩⟩
theorem vw_L_109 : vWd RL 109 yX5_field cX5_field 3 (some .int) 2 := ⟨tb_t 533 (by decide +kernel) rfl, tb_t 534 (by decide +kernel) rfl, tb_t 535 (by decide +kernel) rfl, tb_t 1 (by decide +kernel) rfl, tb_t 536 (by decide +kernel) rfl, ⟨by decide +kernel, by decide +kernel, by decide +kernel⟩⟩
theorem vw_L_112 : vWd RL 112 yX5_flow cX5_flow 3 (some .int) 2 := ⟨tb_t 537 (by decide +kernel) rfl, tb_t 538 (by decide +kernel) rfl, tb_t 539 (by decide +kernel) rfl, tb_t 1 (by decide +kernel) rfl, tb_t 540 (by decide +kernel) rfl, ⟨by decide +kernel, by decide +kernel, by decide +kernel⟩⟩
theorem vw_L_115 : vWd RL 115 yX5_count cX5_count 2 (some .int) 1 := ⟨tb_t 541 (by decide +kernel) rfl, tb_t 542 (by decide +kernel) rfl, tb_t 543 (by decide +kernel) rfl, tb_t 1 (by decide +kernel) rfl, tb_t 544 (by decide +kernel) rfl, ⟨by decide +kernel, by decide +kernel, by decide +kernel⟩⟩
theorem vw_X5_179 : vWd RX5 179 yX2_fieldsThatAreNotZero cX2_fieldsThatAreNotZero 1 (some .int) 0 := ⟨tb_t 545 (by decide +kernel) rfl, tb_t 546 (by decide +kernel) rfl, tb_t 547 (by decide +kernel) rfl, tb_t 3 (by decide +kernel) rfl, tb_t 548 (by decide +kernel) rfl, ⟨by decide +kernel, by decide +kernel, by decide +kernel⟩⟩
theorem sw_X2_29 : sWd RX2 29 yX2_rowsWithPowers cX2_rowsWithPowers 3 (some .int) 1 := ⟨tb_t 549 (by decide +kernel) rfl, tb_t 550 (by decide +kernel) rfl, tb_t 3 (by decide +kernel) rfl, tb_t 551 (by decide +kernel) rfl, ⟨by decide +kernel, by decide +kernel, by decide +kernel⟩⟩
theorem sw_X2_33 : sWd RX2 33 yX1_lowestPower cX1_lowestPower 2 (some .int) 1 := ⟨tb_t 552 (by decide +kernel) rfl, tb_t 398 (by decide +kernel) rfl, tb_t 6 (by decide +kernel) rfl, tb_t 399 (by decide +kernel) rfl, ⟨by decide +kernel, by decide +kernel, by decide +kernel⟩⟩
theorem vw_X5_234 : vWd RX5 234 yX2_flowsThatAreNotX cX2_flowsThatAreNotX 1 (some .int) 0 := ⟨tb_t 553 (by decide +kernel) rfl, tb_t 554 (by decide +kernel) rfl, tb_t 555 (by decide +kernel) rfl, tb_t 3 (by decide +kernel) rfl, tb_t 556 (by decide +kernel) rfl, ⟨by decide +kernel, by decide +kernel, by decide +kernel⟩⟩
end
section
/-! instructions over natural numbers that stand as ints and longs -/
section NROWS
variable {p : Program} {l : Launch} {e : Env} {R : Room} {s : State} {m : MethodId} {args : Array Value} {below : List Frame} {meth : Method} {c : Code} {H : Heap} {locs : List Loc} {cells slots : Nat} {Q : State → Prop}
variable {cc : ByteArray} {pc : Nat} {ls : Array Slot} {rest : List Value}
theorem n_iadd (hx : p.tables.exec = Jvm.exec) (hb : c.code = cc) {a b : Nat} (hdg : decode cc pc = .ok (.iadd, 1)) (k : W p l e R s m args below meth c H locs cells slots Q (F0 m (pc + 1) ls (.int (nI (a + b)) :: rest))) : W p l e R s m args below meth c H locs cells slots Q (F0 m pc ls (.int (nI b) :: .int (nI a) :: rest)) := lv_iadd hx hb hdg (by rw [nI_add]; exact k)
theorem n_isub (hx : p.tables.exec = Jvm.exec) (hb : c.code = cc) {a b : Nat} (h : b ≤ a) (hdg : decode cc pc = .ok (.isub, 1)) (k : W p l e R s m args below meth c H locs cells slots Q (F0 m (pc + 1) ls (.int (nI (a - b)) :: rest))) : W p l e R s m args below meth c H locs cells slots Q (F0 m pc ls (.int (nI b) :: .int (nI a) :: rest)) := lv_isub hx hb hdg (by rw [pk_sub h]; exact k)
theorem n_imul (hx : p.tables.exec = Jvm.exec) (hb : c.code = cc) {a b : Nat} (hdg : decode cc pc = .ok (.imul, 1)) (k : W p l e R s m args below meth c H locs cells slots Q (F0 m (pc + 1) ls (.int (nI (a * b)) :: rest))) : W p l e R s m args below meth c H locs cells slots Q (F0 m pc ls (.int (nI b) :: .int (nI a) :: rest)) := lv_imul hx hb hdg (by rw [pk_mul]; exact k)
theorem n_irem (hx : p.tables.exec = Jvm.exec) (hb : c.code = cc) {a d : Nat} (ha : a < 2 ^ 31) (h0 : 0 < d) (hd : d < 2 ^ 31) (hdg : decode cc pc = .ok (.irem, 1)) (k : W p l e R s m args below meth c H locs cells slots Q (F0 m (pc + 1) ls (.int (nI (a % d)) :: rest))) : W p l e R s m args below meth c H locs cells slots Q (F0 m pc ls (.int (nI d) :: .int (nI a) :: rest)) := lv_irem hx hb hdg (nI_ne0 h0 hd) (by rw [pk_rem ha h0 hd]; exact k)
theorem n_idiv (hx : p.tables.exec = Jvm.exec) (hb : c.code = cc) {a d : Nat} (ha : a < 2 ^ 31) (h0 : 0 < d) (hd : d < 2 ^ 31) (hdg : decode cc pc = .ok (.idiv, 1)) (k : W p l e R s m args below meth c H locs cells slots Q (F0 m (pc + 1) ls (.int (nI (a / d)) :: rest))) : W p l e R s m args below meth c H locs cells slots Q (F0 m pc ls (.int (nI d) :: .int (nI a) :: rest)) := lv_idiv hx hb hdg (nI_ne0 h0 hd) (by rw [pk_div ha h0 hd]; exact k)
theorem n_ladd (hx : p.tables.exec = Jvm.exec) (hb : c.code = cc) {a b : Nat} (hdg : decode cc pc = .ok (.ladd, 1)) (k : W p l e R s m args below meth c H locs cells slots Q (F0 m (pc + 1) ls (.long (lN (a + b)) :: rest))) : W p l e R s m args below meth c H locs cells slots Q (F0 m pc ls (.long (lN b) :: .long (lN a) :: rest)) := lv_ladd hx hb hdg (by rw [lN_add]; exact k)
theorem n_lmul (hx : p.tables.exec = Jvm.exec) (hb : c.code = cc) {a b : Nat} (hdg : decode cc pc = .ok (.lmul, 1)) (k : W p l e R s m args below meth c H locs cells slots Q (F0 m (pc + 1) ls (.long (lN (a * b)) :: rest))) : W p l e R s m args below meth c H locs cells slots Q (F0 m pc ls (.long (lN b) :: .long (lN a) :: rest)) := lv_lmul hx hb hdg (by rw [lN_mul]; exact k)
theorem n_lrem (hx : p.tables.exec = Jvm.exec) (hb : c.code = cc) {a d : Nat} (ha : a < 2 ^ 63) (h0 : 0 < d) (hd : d < 2 ^ 31) (hdg : decode cc pc = .ok (.lrem, 1)) (k : W p l e R s m args below meth c H locs cells slots Q (F0 m (pc + 1) ls (.long (lN (a % d)) :: rest))) : W p l e R s m args below meth c H locs cells slots Q (F0 m pc ls (.long (lN d) :: .long (lN a) :: rest)) := lv_lrem hx hb hdg (fun h => by
  have h2 := (pk_lEQ (a := d) (b := 0) (by omega) (by decide)).mp h
  omega) (by rw [pk_lRem ha h0 (by omega)]; exact k)
theorem n_i2l (hx : p.tables.exec = Jvm.exec) (hb : c.code = cc) {a : Nat} (ha : a < 2 ^ 31) (hdg : decode cc pc = .ok (.i2l, 1)) (k : W p l e R s m args below meth c H locs cells slots Q (F0 m (pc + 1) ls (.long (lN a) :: rest))) : W p l e R s m args below meth c H locs cells slots Q (F0 m pc ls (.int (nI a) :: rest)) := lv_i2l hx hb hdg (nI_l ha) k
theorem n_l2i (hx : p.tables.exec = Jvm.exec) (hb : c.code = cc) {a : Nat} (hdg : decode cc pc = .ok (.l2i, 1)) (k : W p l e R s m args below meth c H locs cells slots Q (F0 m (pc + 1) ls (.int (nI a) :: rest))) : W p l e R s m args below meth c H locs cells slots Q (F0 m pc ls (.long (lN a) :: rest)) := lv_l2i hx hb hdg (lN_i a) k
section CMP
variable {a b tgt : Nat} {off : Int}
theorem n_icmp_eq (hx : p.tables.exec = Jvm.exec) (hb : c.code = cc) (hdg : decode cc pc = .ok (.if_icmp .eq off, 3)) (ht : (pc : Int) + off = (tgt : Int)) (h1 : a < 2 ^ 31) (h2 : b < 2 ^ 31) (kt : a = b → W p l e R s m args below meth c H locs cells slots Q (F0 m tgt ls rest)) (kf : ¬ a = b → W p l e R s m args below meth c H locs cells slots Q (F0 m (pc + 3) ls rest)) : W p l e R s m args below meth c H locs cells slots Q (F0 m pc ls (.int (nI b) :: .int (nI a) :: rest)) := lv_icmp_eq hx hb hdg ht (fun h => kt ((nI_eq h1 h2).mp h)) (fun h => kf (fun z => h ((nI_eq h1 h2).mpr z)))
theorem n_icmp_ne (hx : p.tables.exec = Jvm.exec) (hb : c.code = cc) (hdg : decode cc pc = .ok (.if_icmp .ne off, 3)) (ht : (pc : Int) + off = (tgt : Int)) (h1 : a < 2 ^ 31) (h2 : b < 2 ^ 31) (kt : ¬ a = b → W p l e R s m args below meth c H locs cells slots Q (F0 m tgt ls rest)) (kf : a = b → W p l e R s m args below meth c H locs cells slots Q (F0 m (pc + 3) ls rest)) : W p l e R s m args below meth c H locs cells slots Q (F0 m pc ls (.int (nI b) :: .int (nI a) :: rest)) := lv_icmp_ne hx hb hdg ht (fun h => kt (fun z => h ((nI_eq h1 h2).mpr z))) (fun h => kf ((nI_eq h1 h2).mp h))
theorem n_icmp_lt (hx : p.tables.exec = Jvm.exec) (hb : c.code = cc) (hdg : decode cc pc = .ok (.if_icmp .lt off, 3)) (ht : (pc : Int) + off = (tgt : Int)) (h1 : a < 2 ^ 31) (h2 : b < 2 ^ 31) (kt : a < b → W p l e R s m args below meth c H locs cells slots Q (F0 m tgt ls rest)) (kf : ¬ a < b → W p l e R s m args below meth c H locs cells slots Q (F0 m (pc + 3) ls rest)) : W p l e R s m args below meth c H locs cells slots Q (F0 m pc ls (.int (nI b) :: .int (nI a) :: rest)) := lv_icmp_lt hx hb hdg ht (fun h => kt ((nI_ltI h1 h2).mp h)) (fun h => kf (fun z => h ((nI_ltI h1 h2).mpr z)))
theorem n_icmp_gt (hx : p.tables.exec = Jvm.exec) (hb : c.code = cc) (hdg : decode cc pc = .ok (.if_icmp .gt off, 3)) (ht : (pc : Int) + off = (tgt : Int)) (h1 : a < 2 ^ 31) (h2 : b < 2 ^ 31) (kt : b < a → W p l e R s m args below meth c H locs cells slots Q (F0 m tgt ls rest)) (kf : ¬ b < a → W p l e R s m args below meth c H locs cells slots Q (F0 m (pc + 3) ls rest)) : W p l e R s m args below meth c H locs cells slots Q (F0 m pc ls (.int (nI b) :: .int (nI a) :: rest)) := lv_icmp_gt hx hb hdg ht (fun h => kt ((nI_ltI h2 h1).mp h)) (fun h => kf (fun z => h ((nI_ltI h2 h1).mpr z)))
theorem n_icmp_ge (hx : p.tables.exec = Jvm.exec) (hb : c.code = cc) (hdg : decode cc pc = .ok (.if_icmp .ge off, 3)) (ht : (pc : Int) + off = (tgt : Int)) (h1 : a < 2 ^ 31) (h2 : b < 2 ^ 31) (kt : b ≤ a → W p l e R s m args below meth c H locs cells slots Q (F0 m tgt ls rest)) (kf : ¬ b ≤ a → W p l e R s m args below meth c H locs cells slots Q (F0 m (pc + 3) ls rest)) : W p l e R s m args below meth c H locs cells slots Q (F0 m pc ls (.int (nI b) :: .int (nI a) :: rest)) := lv_icmp_ge hx hb hdg ht (fun h => kt ((nI_leI h2 h1).mp h)) (fun h => kf (fun z => h ((nI_leI h2 h1).mpr z)))
theorem n_icmp_le (hx : p.tables.exec = Jvm.exec) (hb : c.code = cc) (hdg : decode cc pc = .ok (.if_icmp .le off, 3)) (ht : (pc : Int) + off = (tgt : Int)) (h1 : a < 2 ^ 31) (h2 : b < 2 ^ 31) (kt : a ≤ b → W p l e R s m args below meth c H locs cells slots Q (F0 m tgt ls rest)) (kf : ¬ a ≤ b → W p l e R s m args below meth c H locs cells slots Q (F0 m (pc + 3) ls rest)) : W p l e R s m args below meth c H locs cells slots Q (F0 m pc ls (.int (nI b) :: .int (nI a) :: rest)) := lv_icmp_le hx hb hdg ht (fun h => kt ((nI_leI h1 h2).mp h)) (fun h => kf (fun z => h ((nI_leI h1 h2).mpr z)))
theorem n_if_eq (hx : p.tables.exec = Jvm.exec) (hb : c.code = cc) (hdg : decode cc pc = .ok (.ifCond .eq off, 3)) (ht : (pc : Int) + off = (tgt : Int)) (h1 : a < 2 ^ 31) (kt : a = 0 → W p l e R s m args below meth c H locs cells slots Q (F0 m tgt ls rest)) (kf : ¬ a = 0 → W p l e R s m args below meth c H locs cells slots Q (F0 m (pc + 3) ls rest)) : W p l e R s m args below meth c H locs cells slots Q (F0 m pc ls (.int (nI a) :: rest)) := lv_if_eq hx hb hdg ht (fun h => kt ((nI_eq h1 (by decide)).mp h)) (fun h => kf (fun z => h (by rw [z]; exact nI_0)))
theorem n_if_ne (hx : p.tables.exec = Jvm.exec) (hb : c.code = cc) (hdg : decode cc pc = .ok (.ifCond .ne off, 3)) (ht : (pc : Int) + off = (tgt : Int)) (h1 : a < 2 ^ 31) (kt : ¬ a = 0 → W p l e R s m args below meth c H locs cells slots Q (F0 m tgt ls rest)) (kf : a = 0 → W p l e R s m args below meth c H locs cells slots Q (F0 m (pc + 3) ls rest)) : W p l e R s m args below meth c H locs cells slots Q (F0 m pc ls (.int (nI a) :: rest)) := lv_if_ne hx hb hdg ht (fun h => kt (fun z => h (by rw [z]; exact nI_0))) (fun h => kf ((nI_eq h1 (by decide)).mp h))
theorem n_if_gt (hx : p.tables.exec = Jvm.exec) (hb : c.code = cc) (hdg : decode cc pc = .ok (.ifCond .gt off, 3)) (ht : (pc : Int) + off = (tgt : Int)) (h1 : a < 2 ^ 31) (kt : 0 < a → W p l e R s m args below meth c H locs cells slots Q (F0 m tgt ls rest)) (kf : ¬ 0 < a → W p l e R s m args below meth c H locs cells slots Q (F0 m (pc + 3) ls rest)) : W p l e R s m args below meth c H locs cells slots Q (F0 m pc ls (.int (nI a) :: rest)) := lv_if_gt hx hb hdg ht (fun h => kt ((nI_ltI (by decide) h1).mp h)) (fun h => kf (fun z => h ((nI_ltI (by decide) h1).mpr z)))
theorem n_if_le (hx : p.tables.exec = Jvm.exec) (hb : c.code = cc) (hdg : decode cc pc = .ok (.ifCond .le off, 3)) (ht : (pc : Int) + off = (tgt : Int)) (h1 : a < 2 ^ 31) (kt : a = 0 → W p l e R s m args below meth c H locs cells slots Q (F0 m tgt ls rest)) (kf : ¬ a = 0 → W p l e R s m args below meth c H locs cells slots Q (F0 m (pc + 3) ls rest)) : W p l e R s m args below meth c H locs cells slots Q (F0 m pc ls (.int (nI a) :: rest)) := lv_if_le hx hb hdg ht (fun h => kt (Nat.le_zero.mp ((nI_leI h1 (by decide)).mp h))) (fun h => kf (fun z => h ((nI_leI h1 (by decide)).mpr (Nat.le_of_eq z))))
theorem n_if_ge (hx : p.tables.exec = Jvm.exec) (hb : c.code = cc) (hdg : decode cc pc = .ok (.ifCond .ge off, 3)) (ht : (pc : Int) + off = (tgt : Int)) (h1 : a < 2 ^ 31) (kt : W p l e R s m args below meth c H locs cells slots Q (F0 m tgt ls rest)) : W p l e R s m args below meth c H locs cells slots Q (F0 m pc ls (.int (nI a) :: rest)) := lv_if_ge hx hb hdg ht (fun _ => kt) (fun h => absurd (nI_pos' h1) h)
theorem n_if_lt (hx : p.tables.exec = Jvm.exec) (hb : c.code = cc) (hdg : decode cc pc = .ok (.ifCond .lt off, 3)) (ht : (pc : Int) + off = (tgt : Int)) (h1 : a < 2 ^ 31) (kf : W p l e R s m args below meth c H locs cells slots Q (F0 m (pc + 3) ls rest)) : W p l e R s m args below meth c H locs cells slots Q (F0 m pc ls (.int (nI a) :: rest)) := lv_if_lt hx hb hdg ht (fun h => absurd h (nI_pos h1)) (fun _ => kf)
end CMP
/-- a value on the stack by another name -/
theorem n_rei {x y : Int32} (h : x = y) {g : Int32 → JFrame} (k : W p l e R s m args below meth c H locs cells slots Q (g y)) : W p l e R s m args below meth c H locs cells slots Q (g x) := h ▸ k
theorem n_top {x y : Value} (h : x = y) (k : W p l e R s m args below meth c H locs cells slots Q (F0 m pc ls (y :: rest))) : W p l e R s m args below meth c H locs cells slots Q (F0 m pc ls (x :: rest)) := h ▸ k
end NROWS
theorem ne_oa {F : Nat → va_E} {a b : Nat} {x : Nat × List Value} {y : ClassId × vp_A} (h1 : F a = .inr x) (h2 : F b = .inl y) : a ≠ b := by
  rintro rfl
  rw [h1] at h2
  cases h2
theorem ne_ao {F : Nat → va_E} {a b : Nat} {x : Nat × List Value} {y : ClassId × vp_A} (h2 : F a = .inl y) (h1 : F b = .inr x) : a ≠ b := (ne_oa h1 h2).symm
theorem ne_oo {F : Nat → va_E} {a b i j : Nat} {x y : List Value} (h : i ≠ j) (h1 : F a = .inr (i, x)) (h2 : F b = .inr (j, y)) : a ≠ b := by
  rintro rfl
  rw [h1] at h2
  cases h2
  exact h rfl
theorem ne_aa {F : Nat → va_E} {a b n k : Nat} {c d : ClassId} {x y : (Nat → Int32) ⊕ (Nat → Int64) ⊕ (Nat → UInt32) ⊕ (Nat → UInt64) ⊕ (Nat → Option Nat)} (h : n ≠ k) (h1 : F a = .inl (c, n, x)) (h2 : F b = .inl (d, k, y)) : a ≠ b := by
  rintro rfl
  rw [h1] at h2
  cases h2
  exact h rfl
end
section
/-! numbers modulo 10007, and rows of them -/
abbrev ZP : Type := Fin 10007
def zc (n : Nat) : ZP := Fin.ofNat 10007 n
theorem zc_val (n : Nat) : (zc n).val = n % 10007 := rfl
theorem zc_add (a b : Nat) : zc (a + b) = zc a + zc b := Fin.ext (by simp [zc, Fin.val_add])
theorem zc_mul (a b : Nat) : zc (a * b) = zc a * zc b := Fin.ext (by simp [zc, Fin.val_mul])
theorem zc_z (z : ZP) : zc z.val = z := Fin.ext (Nat.mod_eq_of_lt z.isLt)
theorem zc_0 : zc 0 = 0 := rfl
theorem zc_1 : zc 1 = 1 := rfl
theorem zc_P (n : Nat) : zc (n % 10007) = zc n := Fin.ext (by simp [zc])
theorem zc_sub {a : Nat} {z : ZP} : zc (a + 10007 - z.val) = zc a - z := by
  have h : zc (a + 10007 - z.val) + z = zc a := by
    have h1 : zc (a + 10007 - z.val) + zc z.val = zc (a + 10007) := by
      rw [← zc_add]
      congr 1
      have := z.isLt
      omega
    rw [zc_z] at h1
    rw [h1, zc_add, show zc 10007 = 0 from rfl]
    exact Fin.add_zero _
  rw [← h]
  grind
def cv (u : Nat → ZP) : Nat → Int32 := fun k => nI (u k).val
abbrev rw7 (G : Gl) (u : Nat → ZP) : va_E := .inl (G.2 0, 7, .inl (cv u))
theorem cv_upd (u : Nat → ZP) (i : Nat) (z : ZP) : upd (cv u) i (nI z.val) = cv (va_up u i z) := by
  funext j
  by_cases h : j = i
  · subst h
    simp [upd, cv, va_up]
  · simp [upd, cv, va_up, h]
/-- rows that agree at the first n places are one row of n places -/
theorem cv_congr {u v : Nat → ZP} {n : Nat} (h : ∀ k, k < n → u k = v k) (k : Nat) (hk : k < n) : cv u k = cv v k := by unfold cv; rw [h k hk]
section ZROWS
variable {p : Program} {l : Launch} {e : Env} {R : Room} {s : State} {m : MethodId} {args : Array Value} {below : List Frame} {meth : Method} {c : Code} {H : Heap} {locs : List Loc} {cells slots : Nat} {Q : State → Prop}
variable {cc : ByteArray} {nL : Nat} {own : String} {pc : Nat} {ls : Array Slot} {rest : List Value} {G : Gl} {L : List Nat} {F : Nat → va_E} {a : Nat}
theorem q_rld (C0 : Cx p s m args c cc nL own G L) (hw : wD G L F s H locs) (ha : a ∈ L) {u : Nat → ZP} (he : F a = rw7 G u) (i : Nat) (hi : i < 7) (hdg : decode cc pc = .ok (.iaload, 1))
    (kk : (u i).val < 10007 → W p l e R s m args below meth c H locs cells slots Q (F0 m (pc + 1) ls (.int (nI (u i).val) :: rest))) : W p l e R s m args below meth c H locs cells slots Q (F0 m pc ls (.int (nI i) :: .ref a :: rest)) := q_iald C0 hw ha he i hi (by decide) rfl hdg (kk (u i).isLt)
theorem q_rst (C0 : Cx p s m args c cc nL own G L) (hw : wD G L F s H locs) (ha : a ∈ L) {u : Nat → ZP} (he : F a = rw7 G u) (i : Nat) (hi : i < 7) {z : ZP} (hdg : decode cc pc = .ok (.iastore, 1))
    (kk : ∀ (F' : Nat → va_E) (H1 : Heap) (locs1 : List Loc), wD G L F' s H1 locs1 → F' a = rw7 G (va_up u i z) → (∀ q, q ≠ a → F' q = F q) → W p l e R s m args below meth c H1 locs1 cells slots Q (F0 m (pc + 1) ls rest)) : W p l e R s m args below meth c H locs cells slots Q (F0 m pc ls (.int (nI z.val) :: .int (nI i) :: .ref a :: rest)) := q_iast C0 hw ha he i hi (by decide) hdg (fun F' H1 locs1 hw1 h1 h2 => kk F' H1 locs1 hw1 (by rw [h1, cv_upd]) h2)
theorem n_iremP (hx : p.tables.exec = Jvm.exec) (hb : c.code = cc) {a : Nat} (ha : a < 2 ^ 31) (hdg : decode cc pc = .ok (.irem, 1)) (k : W p l e R s m args below meth c H locs cells slots Q (F0 m (pc + 1) ls (.int (nI (zc a).val) :: rest))) : W p l e R s m args below meth c H locs cells slots Q (F0 m pc ls (.int (nI 10007) :: .int (nI a) :: rest)) := n_irem hx hb ha (by decide) (by decide) hdg k
theorem n_lremP (hx : p.tables.exec = Jvm.exec) (hb : c.code = cc) {a : Nat} (ha : a < 2 ^ 63) (hdg : decode cc pc = .ok (.lrem, 1)) (k : W p l e R s m args below meth c H locs cells slots Q (F0 m (pc + 1) ls (.long (lN (zc a).val) :: rest))) : W p l e R s m args below meth c H locs cells slots Q (F0 m pc ls (.long (lN 10007) :: .long (lN a) :: rest)) := n_lrem hx hb ha (by decide) (by decide) hdg k
/-- a row by another that agrees at its places -/
theorem wD.canon {N : Nat} {d : ClassId} {f g : Nat → Int32} (hw : wD G L F s H locs) (ha : F a = .inl (d, N, .inl f)) (h : ∀ k, k < N → f k = g k) : wD G L (va_up F a (.inl (d, N, .inl g))) s H locs := by
  refine ⟨fun k q hk => ?_, va_pl_D hw.2.1, hw.2.2⟩
  have hm := List.mem_of_getElem? hk
  obtain ⟨b, hb, rfl⟩ := List.mem_map.mp hm
  obtain ⟨k9, hk9⟩ := va_pl_get (X := []) (f := F) hb
  have h9 := hw.1 k9 _ hk9
  by_cases hba : b = a
  · subst hba
    rw [va_up_self]
    rw [ha] at h9
    show H[b]? = some (vp_cell d (N, .inl g))
    have h8 : H[b]? = some (vp_cell d (N, .inl f)) := h9
    rw [h8, vp_cell_i, vp_cell_i]
    unfold arrV
    have h7 : (fun j : Fin N => Value.int (f j.val)) = (fun j : Fin N => Value.int (g j.val)) := funext fun j => by rw [h j.val j.isLt]
    rw [h7]
  · rw [va_up_ne _ _ hba]
    exact h9
end ZROWS
theorem wD.rowE {s : State} {H : Heap} {locs : List Loc} {G : Gl} {L : List Nat} {F : Nat → va_E} {a : Nat} {u v : Nat → ZP} (hw : wD G L F s H locs) (ha : F a = rw7 G u) (h : ∀ k, k < 7 → u k = v k) : ∃ F', wD G L F' s H locs ∧ F' a = rw7 G v ∧ ∀ q, q ≠ a → F' q = F q :=
  ⟨_, hw.canon ha (cv_congr h), va_up_self _ _ _, fun _ hq => va_up_ne _ _ hq⟩
end
section
theorem aw_in : Cond.initialized "java/lang/System" ∈ TB := tb_t 11 (by decide +kernel) rfl
theorem kw_L_7 : Cond.constant RL 7 (nI 625341607) ∈ TB := tb_t 183 (by decide +kernel) rfl
theorem aw_X2_23 : Cond.methodLink RX2 23 arraycopyName ∈ TB := tb_t 288 (by decide +kernel) rfl
theorem aw_st : Cond.static arraycopyName ∈ TB := tb_t 289 (by decide +kernel) rfl
theorem aw_nat : Cond.native arraycopyName ∈ TB := tb_t 290 (by decide +kernel) rfl
theorem kw_X5_101 : Cond.constant RX5 101 (nI 100000) ∈ TB := tb_t 330 (by decide +kernel) rfl
theorem kw_X1_54 : Cond.constantLong RX1 54 (lN 10007) ∈ TB := tb_t 388 (by decide +kernel) rfl
theorem aw_X5_289 : Cond.methodLink RX5 289 arraycopyName ∈ TB := tb_t 396 (by decide +kernel) rfl
theorem aw_X1_90 : Cond.methodLink RX1 90 arraycopyName ∈ TB := tb_t 427 (by decide +kernel) rfl
section CROWS
variable {p : Program} {l : Launch} {e : Env} {R : Room} {s : State} {m : MethodId} {args : Array Value} {below : List Frame} {meth : Method} {c : Code} {H : Heap} {locs : List Loc} {cells slots : Nat} {Q : State → Prop}
variable {cc : ByteArray} {nL : Nat} {own : String} {pc : Nat} {ls : Array Slot} {rest : List Value} {G : Gl} {L : List Nat} {F : Nat → va_E} {a : Nat}
/-- the first n places of one row into another -/
theorem q_copy (C0 : Cx p s m args c cc nL own G L) (hw : wD G L F s H locs) (hsz : ls.size = nL) {idx b n : Nat} (hl : Cond.methodLink own idx arraycopyName ∈ TB) (hb : b ∈ L) (ha : a ∈ L) {u v : Nat → ZP} (eb : F b = rw7 G u) (ea : F a = rw7 G v) (hn : n ≤ 7) (hfr : 1 ≤ R.frames) (hlo : (rest.map fun v => v.category).sum + (nativeFrameWords "java/lang/System" "arraycopy" 5 + 11) ≤ R.locals) (hdg : decode cc pc = .ok (.invokestatic idx, 3))
    (kk : ∀ (F' : Nat → va_E) (H1 : Heap) (locs1 : List Loc), wD G L F' s H1 locs1 → F' a = rw7 G (fun k => if k < n then u k else v k) → (∀ q, q ≠ a → F' q = F q) → W p l e R s m args below meth c H1 locs1 cells slots Q (F0 m (pc + 3) ls rest)) : W p l e R s m args below meth c H locs cells slots Q (F0 m pc ls (.int (nI n) :: .int (nI 0) :: .ref a :: .int (nI 0) :: .ref b :: rest)) := by
  obtain ⟨k0, hk0⟩ := va_pl_get (X := []) (f := F) hb
  obtain ⟨k1, hk1⟩ := va_pl_get (X := []) (f := F) ha
  have hk2 := hk1
  rw [eb] at hk0
  rw [ea] at hk2
  have e0 : (nI 0).toNatClampNeg = 0 := rfl
  have en : (nI n).toNatClampNeg = n := nI_clamp (by omega)
  refine va_copyi C0.x C0.b (C0.ml.trans hsz.symm) C0.ow (C0.ts _ hl) (C0.ts _ aw_nat) (C0.ts _ aw_st) (C0.ts _ aw_in) C0.K hw.1 hw.2.1 hw.2.2 k0 k1 0 0 hk0 hk2 rfl rfl rfl (by decide) (by decide) (nI_pos (by omega)) (by rw [e0, en]; omega) (by rw [e0, en]; omega) (fun i hi => rfl) hfr hlo hdg fun H1 locs1 hP hD hS => ?_
  have hc : va_cpy (cv u) (cv v) (nI 0).toNatClampNeg (nI 0).toNatClampNeg (nI n).toNatClampNeg = cv (fun k => if k < n then u k else v k) := by
    funext k
    rw [e0, en]
    by_cases h : k < n
    · simp [va_cpy, cv, h]
    · simp [va_cpy, cv, h]
  rw [hc] at hP
  exact hw.go (P := fun H1 locs1 => W p l e R s m args below meth c H1 locs1 cells slots Q (F0 m (pc + 3) ls rest)) ha hk1 hP hS kk
theorem q_invlen (C0 : Cx p s m args c cc nL own G L) (hw : wD G L F s H locs) {t : Nat} (hT : va_T .int t 6 g_inv (wA L s.heap.size) s s.heap) (hdg : decode cc pc = .ok (.arraylength, 1))
    (kk : W p l e R s m args below meth c H locs cells slots Q (F0 m (pc + 1) ls (.int (nI 6) :: rest))) : W p l e R s m args below meth c H locs cells slots Q (F0 m pc ls (.ref t :: rest)) := va_tlen C0.x C0.b hT hw.2.2 rfl hdg kk
end CROWS
end
section
/-! what the reckoning of rows comes to, as functions -/
def m_upto (f w : Nat → ZP) (i : Nat) : Nat → ZP := fun j => if j < i then f j else w j
theorem m_upto_s (f w : Nat → ZP) (i : Nat) {z : ZP} (h : z = f i) : va_up (m_upto f w i) i z = m_upto f w (i + 1) := by
  subst h
  funext j
  by_cases h : j = i
  · subst h
    simp [va_up, m_upto]
  · have h2 : (j < i + 1) = (j < i) := by simp only [eq_iff_iff]; omega
    simp [va_up, m_upto, h, h2]
theorem m_upto_0 (f w : Nat → ZP) : m_upto f w 0 = w := by funext j; simp [m_upto]
theorem m_upto_7 (f w : Nat → ZP) (k : Nat) (h : k < 7) : m_upto f w 7 k = f k := by simp [m_upto, h]
theorem m_upto_at (f w : Nat → ZP) (i : Nat) : m_upto f w i i = w i := by simp [m_upto]
def m_low (b : Nat → Bool) : Int32 := if b 2 then nI 2 else if b 3 then nI 3 else if b 4 then nI 4 else if b 5 then nI 5 else if b 6 then nI 6 else -1
theorem m_low_at {b : Nat → Bool} {i : Nat} (h2 : 2 ≤ i) (h6 : i < 7) (h : ∀ j, 2 ≤ j → j < i → b j = false) (hi : b i = true) : m_low b = nI i := by
  rcases (show i = 2 ∨ i = 3 ∨ i = 4 ∨ i = 5 ∨ i = 6 by omega) with rfl | rfl | rfl | rfl | rfl
  · simp [m_low, hi]
  · simp [m_low, hi, h 2 (by omega) (by omega)]
  · simp [m_low, hi, h 2 (by omega) (by omega), h 3 (by omega) (by omega)]
  · simp [m_low, hi, h 2 (by omega) (by omega), h 3 (by omega) (by omega), h 4 (by omega) (by omega)]
  · simp [m_low, hi, h 2 (by omega) (by omega), h 3 (by omega) (by omega), h 4 (by omega) (by omega), h 5 (by omega) (by omega)]
theorem m_low_no {b : Nat → Bool} (h : ∀ j, 2 ≤ j → j < 7 → b j = false) : m_low b = -1 := by
  simp [m_low, h 2 (by omega) (by omega), h 3 (by omega) (by omega), h 4 (by omega) (by omega), h 5 (by omega) (by omega), h 6 (by omega) (by omega)]
def m_x : Nat → ZP := fun k => if k = 1 then 1 else 0
theorem m_x_eq : va_up (fun _ => (0 : ZP)) 1 1 = m_x := by
  funext j
  by_cases h : j = 1 <;> simp [va_up, m_x, h]
def m_add (u v : Nat → ZP) : Nat → ZP := fun k => u k + v k
def m_scale (u : Nat → ZP) (b : ZP) : Nat → ZP := fun k => u k * b
def m_am (t u : Nat → ZP) (b : ZP) : Nat → ZP := fun k => t k + u k * b
def m_sumc (u v : Nat → ZP) (p : Nat) : Nat → ZP
  | 0 => 0
  | k + 1 => m_sumc u v p k + u (k + 2) * v (p - (k + 2) + 1) * zc (p - (k + 2) + 1)
def m_actc (u v : Nat → ZP) (p : Nat) : ZP := m_sumc u v p (p - 1)
def m_actp (u v : Nat → ZP) (i : Nat) : Nat → ZP := fun j => if 2 ≤ j ∧ j < i then m_actc u v j else 0
def m_act (u v : Nat → ZP) (cu : Nat) : Nat → ZP := fun p => if 2 ≤ p ∧ p ≤ cu then m_actc u v p else 0
theorem m_actp_0 (u v : Nat → ZP) : (fun _ => 0) = m_actp u v 2 := by
  funext j
  have h : ¬ (2 ≤ j ∧ j < 2) := by omega
  simp [m_actp, h]
theorem m_actp_s (u v : Nat → ZP) {i : Nat} (hi : 2 ≤ i) {z : ZP} (h : z = m_actc u v i) : va_up (m_actp u v i) i z = m_actp u v (i + 1) := by
  subst h
  funext j
  by_cases h : j = i
  · subst h
    simp [va_up, m_actp, hi]
  · have h2 : (2 ≤ j ∧ j < i + 1) = (2 ≤ j ∧ j < i) := by simp only [eq_iff_iff]; omega
    simp only [va_up, m_actp, h, h2, if_false]
theorem m_actp_e (u v : Nat → ZP) (cu : Nat) : m_actp u v (cu + 1) = m_act u v cu := by
  funext j
  have h2 : (2 ≤ j ∧ j < cu + 1) = (2 ≤ j ∧ j ≤ cu) := by simp only [eq_iff_iff]; omega
  simp only [m_actp, m_act, h2]
theorem mul3_le {a b d : Nat} (ha : a < 10007) (hb : b < 10007) (hd : d ≤ 6) : a * b * d ≤ 600720216 := Nat.le_trans (Nat.mul_le_mul (Nat.mul_le_mul (Nat.le_of_lt_succ ha) (Nat.le_of_lt_succ hb)) hd) (by decide)
theorem mul2_le {a b : Nat} (ha : a < 10007) (hb : b < 10007) : a * b ≤ 100120036 := Nat.le_trans (Nat.mul_le_mul (Nat.le_of_lt_succ ha) (Nat.le_of_lt_succ hb)) (by decide)
theorem m_sumc_s (u v : Nat → ZP) (p : Nat) {j t : Nat} (hj : 2 ≤ j) (h : zc t = m_sumc u v p (j - 2)) : zc (t + (u j).val * (v (p - j + 1)).val * (p - j + 1)) = m_sumc u v p (j + 1 - 2) := by
  obtain ⟨k, rfl⟩ : ∃ k, j = k + 2 := ⟨j - 2, by omega⟩
  have e1 : k + 2 - 2 = k := by omega
  have e2 : k + 2 + 1 - 2 = k + 1 := by omega
  rw [e1] at h
  rw [e2, zc_add, zc_mul, zc_mul, zc_z, zc_z, h]
  rfl
def m_mulS (u v : Nat → ZP) (p : Nat) : Nat → ZP
  | 0 => 0
  | k + 1 => m_mulS u v p k + u k * v (p - k)
def m_mulc (u v : Nat → ZP) (p : Nat) : ZP := m_mulS u v p (p + 1)
theorem m_mulS_s (u v : Nat → ZP) (p : Nat) {j t : Nat} (h : zc t = m_mulS u v p j) : zc (t + (u j).val * (v (p - j)).val) = m_mulS u v p (j + 1) := by
  rw [zc_add, zc_mul, zc_z, zc_z, h]
  rfl
def m_iv (n : Nat) : ZP := zc (([0, 1, 5004, 3336, 2502, 4003] : List Nat).getD n 0)
def m_exT (f : Nat → ZP) (cu : Nat) : Nat → Nat → ZP
  | 0 => m_x
  | n + 1 => m_scale (m_act f (m_exT f cu n) cu) (m_iv (n + 1))
def m_exO (f : Nat → ZP) (cu : Nat) : Nat → Nat → ZP
  | 0 => m_x
  | n + 1 => m_am (m_exO f cu n) (m_exT f cu (n + 1)) 1
def m_exp (f : Nat → ZP) (cu : Nat) : Nat → ZP := m_exO f cu (cu - 1)
def m_hn (inner outer : Nat → ZP) (cu : Nat) : Nat → Nat → ZP
  | 0 => fun _ => 0
  | k + 1 => fun j => if j ≤ cu then m_mulc (m_hn inner outer cu k) inner j + (if j = 0 then outer (cu - k) else 0) else 0
def m_sub (inner outer : Nat → ZP) (cu : Nat) : Nat → ZP := m_hn inner outer cu (cu + 1)
theorem m_hn_hi (inner outer : Nat → ZP) (cu k : Nat) {j : Nat} (h : cu < j) : m_hn inner outer cu k j = 0 := by
  cases k with
  | zero => rfl
  | succ k => simp only [m_hn]; rw [if_neg (by omega)]
theorem m_hn_s (inner outer : Nat → ZP) (cu k : Nat) (w : Nat → ZP) {z : ZP} (hz : z = m_mulc (m_hn inner outer cu k) inner 0 + outer (cu - k)) : (fun q => if q < cu + 1 then va_up (m_upto (m_mulc (m_hn inner outer cu k) inner) w (cu + 1)) 0 z q else m_hn inner outer cu k q) = m_hn inner outer cu (k + 1) := by
  subst hz
  funext q
  by_cases h : q < cu + 1
  · have h2 : q ≤ cu := by omega
    simp only [m_hn, h, h2, if_true]
    by_cases h0 : q = 0
    · subst h0
      simp [va_up]
    · simp [va_up, h0, m_upto, h]
  · have h2 : ¬ q ≤ cu := by omega
    simp only [m_hn, h, h2, if_false]
    exact m_hn_hi inner outer cu k (by omega)
def m_inn (flow : Nat → ZP) : Nat → Nat → ZP
  | 0 => m_x
  | k + 1 => va_up (m_inn flow k) (k + 2) (- m_sub flow (m_inn flow k) (k + 2) (k + 2))
def m_inv (flow : Nat → ZP) (cu : Nat) : Nat → ZP := m_inn flow (cu - 1)
theorem zc_neg (z : ZP) : zc (10007 - z.val) = - z := by
  have h := zc_sub (a := 0) (z := z)
  rw [Nat.zero_add, zc_0] at h
  rw [h]
  grind
def m_lon (flow : Nat → ZP) : Nat → Nat → ZP
  | 0 => fun _ => 0
  | k + 1 => va_up (m_lon flow k) (k + 2) (flow (k + 2) - m_exp (m_lon flow k) (k + 2) (k + 2))
def m_log (flow : Nat → ZP) (cu : Nat) : Nat → ZP := m_lon flow (cu - 1)
def m_rep (flow : Nat → ZP) (times : ZP) (cu : Nat) : Nat → ZP := m_exp (m_scale (m_log flow cu) times) cu
def m_push (flow f : Nat → ZP) (cu : Nat) : Nat → ZP := m_sub (m_inv flow cu) (m_act f flow cu) cu
def m_br (f g : Nat → ZP) (cu : Nat) : Nat → ZP := m_am (m_act f g cu) (m_act g f cu) (zc 10006)
def m_way2 (a b : Nat → ZP) : Nat → ZP := m_add a b
def m_way3 (a b : Nat → ZP) (cu : Nat) : Nat → ZP := m_am (m_way2 a b) (m_br a b cu) (zc 5004)
def m_way4 (a b : Nat → ZP) (cu : Nat) : Nat → ZP := m_am (m_am (m_way3 a b cu) (m_br a (m_br a b cu) cu) (zc 834)) (m_br b (m_br a b cu) cu) (zc 9173)
def m_way5 (a b : Nat → ZP) (cu : Nat) : Nat → ZP := m_am (m_way4 a b cu) (m_br b (m_br a (m_br a b cu) cu) cu) (zc 9590)
def m_way (a b : Nat → ZP) (way cu : Nat) : Nat → ZP := if way < 3 then m_way2 a b else if way < 4 then m_way3 a b cu else if way < 5 then m_way4 a b cu else m_way5 a b cu
def m_cf (a b : Nat → ZP) (cu : Nat) : Nat → ZP := m_log (m_sub (m_exp a cu) (m_exp b cu) cu) cu
def m_hv (u : Nat → ZP) (x : ZP) : Nat → ZP
  | 0 => 0
  | k + 1 => m_hv u x k * x + u (6 - k)
def m_val (u : Nat → ZP) (x : ZP) : ZP := m_hv u x 7
def m_ivI (z : ZP) : Nat → ZP × ZP
  | 0 => (1, z)
  | k + 1 => (if 10005 / 2 ^ k % 2 = 1 then (m_ivI z k).1 * (m_ivI z k).2 else (m_ivI z k).1, (m_ivI z k).2 * (m_ivI z k).2)
def m_finv (z : ZP) : ZP := (m_ivI z 14).1
abbrev rkO (ra : Nat → Nat) : va_E := .inr (1, [.ref (ra 0), .ref (ra 1), .ref (ra 2), .ref (ra 3), .ref (ra 4), .ref (ra 5), .ref (ra 6), .ref (ra 7), .ref (ra 8), .ref (ra 9), .ref (ra 10), .ref (ra 11), .ref (ra 12), .ref (ra 13)])
end
section
abbrev rm_J7_fill_53178 : Room := { frames := 0, cells := 0, slots := 0, locals := 0 }
set_option maxHeartbeats 4000000 in
set_option maxRecDepth 100000 in
theorem c_J7_fill_53178 (l : Launch) (G : Gl) (L : List Nat) (F : Nat → va_E) (a : Nat) (u : Nat → ZP) (z : ZP) (ma : a ∈ L) (fa : F a = rw7 G u) : CV l yJ7_fill_53178 cJ7_fill_53178 4 none rm_J7_fill_53178 G L F [.ref a, .int (nI (z.val))] (fun F1 => F1 a = rw7 G ((fun _ => z)) ∧ ∀ q, q ≠ a → F1 q = F q) := by
  refine CG_of (by decide) (Nat.le_of_ble_eq_true rfl) rfl ?_
  intro p e s m args below meth c Q C0 hr hlk hnm hQ hw ls hl
  have hx := C0.x
  have hb := C0.b
  have hz := z.isLt
  refine lv_iconst (v := nI 0) hx hb dJ7_fill_53178_0 (by decide) ?_
  refine lv_istore_n (lv' := [(2, .int (nI (0))), (0, .ref a), (1, .int (nI (z.val)))]) hx hb dJ7_fill_53178_1 rfl hl (by decide) rfl (fun ls hl => ?_)
  refine lv_aload_n hx hb dJ7_fill_53178_2 rfl (lv_at hl 1 rfl) ?_
  refine q_alen C0 hw ma fa dJ7_fill_53178_3 ?_
  refine lv_istore_n (lv' := [(3, .int (nI (7))), (2, .int (nI (0))), (0, .ref a), (1, .int (nI (z.val)))]) hx hb dJ7_fill_53178_4 rfl hl (by decide) rfl (fun ls hl => ?_)
  have lp5 : ∀ (n : Nat) (i : Nat), 0 ≤ i → i ≤ 7 → 7 + 1 - i < n → ∀ (F_1 : Nat → va_E) (H : Heap) (locs : List Loc), wD G L F_1 s H locs → F_1 a = rw7 G (m_upto ((fun _ => z)) u i) → (∀ q, q ≠ a → F_1 q = F q) → ∀ ls : Array Slot, lv_has ls 4 [(0, .ref a), (1, .int (nI (z.val))), (2, .int (nI (i))), (3, .int (nI (7)))] → W p l e rm_J7_fill_53178 s m args below meth c H locs 0 0 Q (F0 m 5 ls []) := by
    intro n
    induction n with
    | zero => intro i hlo hhi hm; exact absurd hm (Nat.not_lt_zero _)
    | succ n ih_5 =>
      intro i hlo hhi hm F_1 H locs hw f_2 fr_3 ls hl
      refine lv_iload_n hx hb dJ7_fill_53178_5 rfl (lv_at hl 2 rfl) ?_
      refine lv_iload_n hx hb dJ7_fill_53178_6 rfl (lv_at hl 3 rfl) ?_
      refine n_icmp_ge (tgt := 20) hx hb dJ7_fill_53178_7 (by decide) (by omega) (by decide) (fun c_7 => ?_) (fun c_7 => ?_)
      · skip
        obtain rfl : i = 7 := by omega
        obtain ⟨F_4, hw, f_5, o_6⟩ := hw.rowE f_2 (v := (fun _ => z)) (m_upto_7 ((fun _ => z)) u)
        exact r_v C0 hr hlk hw ⟨f_5, (fun q k0 => ((o_6 q k0).trans (fr_3 q k0)))⟩ (Nat.le_refl _) (Nat.le_refl _) dJ7_fill_53178_20 hQ
      · skip
        refine lv_aload_n hx hb dJ7_fill_53178_10 rfl (lv_at hl 0 rfl) ?_
        refine lv_iload_n hx hb dJ7_fill_53178_11 rfl (lv_at hl 2 rfl) ?_
        refine lv_iload_n hx hb dJ7_fill_53178_12 rfl (lv_at hl 1 rfl) ?_
        refine q_rst C0 hw ma f_2 (i) (by omega) (z := z) dJ7_fill_53178_13 (fun F_7 H locs hw f_8 o_9 => ?_)
        refine lv_iinc (v := nI (i + 1)) (lv' := [(2, .int (nI (i + 1))), (0, .ref a), (1, .int (nI (z.val))), (3, .int (nI (7)))]) hx hb dJ7_fill_53178_14 hl (k := 2) rfl (nI_add _ _) (by decide) rfl (fun ls hl => ?_)
        refine lv_goto (tgt := 5) hx hb dJ7_fill_53178_17 (by decide) ?_
        exact ih_5 (i + 1) ((by omega)) ((by omega)) (by omega) F_7 _ _ hw (f_8.trans (congrArg (rw7 G) (m_upto_s ((fun _ => z)) u i (rfl)))) (fun q k0 => ((o_9 q k0).trans (fr_3 q k0))) ls (lv_sub hl [1, 2, 0, 3] rfl)
  exact lp5 _ (0) ((by omega)) ((by omega)) (Nat.lt_succ_self _) F _ _ hw (fa.trans (congrArg (rw7 G) (m_upto_0 ((fun _ => z)) u).symm)) (fun q k0 => rfl) ls (lv_sub hl [2, 3, 1, 0] rfl)
abbrev rm_X1_addRows : Room := { frames := 0, cells := 0, slots := 0, locals := 0 }
set_option maxHeartbeats 4000000 in
set_option maxRecDepth 100000 in
theorem c_X1_addRows (l : Launch) (G : Gl) (L : List Nat) (F : Nat → va_E) (a b o : Nat) (u v w : Nat → ZP) (ma : a ∈ L) (fa : F a = rw7 G u) (mb : b ∈ L) (fb : F b = rw7 G v) (mo : o ∈ L) (fo : F o = rw7 G w) (nao : a ≠ o) (nbo : b ≠ o) : CV l yX1_addRows cX1_addRows 4 none rm_X1_addRows G L F [.ref a, .ref b, .ref o] (fun F1 => F1 o = rw7 G (m_add u v) ∧ ∀ q, q ≠ o → F1 q = F q) := by
  refine CG_of (by decide) (Nat.le_of_ble_eq_true rfl) rfl ?_
  intro p e s m args below meth c Q C0 hr hlk hnm hQ hw ls hl
  have hx := C0.x
  have hb := C0.b
  refine lv_iconst (v := nI 0) hx hb dX1_addRows_0 (by decide) ?_
  refine lv_istore_n (lv' := [(3, .int (nI (0))), (0, .ref a), (1, .ref b), (2, .ref o)]) hx hb dX1_addRows_1 rfl hl (by decide) rfl (fun ls hl => ?_)
  have lp2 : ∀ (n : Nat) (i : Nat), 0 ≤ i → i ≤ 7 → 7 + 1 - i < n → ∀ (F_10 : Nat → va_E) (H : Heap) (locs : List Loc), wD G L F_10 s H locs → F_10 o = rw7 G (m_upto (m_add u v) w i) → (∀ q, q ≠ o → F_10 q = F q) → ∀ ls : Array Slot, lv_has ls 4 [(0, .ref a), (1, .ref b), (2, .ref o), (3, .int (nI (i)))] → W p l e rm_X1_addRows s m args below meth c H locs 0 0 Q (F0 m 2 ls []) := by
    intro n
    induction n with
    | zero => intro i hlo hhi hm; exact absurd hm (Nat.not_lt_zero _)
    | succ n ih_2 =>
      intro i hlo hhi hm F_10 H locs hw f_11 fr_12 ls hl
      refine lv_iload_n hx hb dX1_addRows_2 rfl (lv_at hl 3 rfl) ?_
      refine lv_bipush (v := nI 6) hx hb dX1_addRows_3 (by decide) ?_
      refine n_icmp_gt (tgt := 28) hx hb dX1_addRows_5 (by decide) (by omega) (by decide) (fun c_5 => ?_) (fun c_5 => ?_)
      · skip
        obtain rfl : i = 7 := by omega
        obtain ⟨F_13, hw, f_14, o_15⟩ := hw.rowE f_11 (v := m_add u v) (m_upto_7 (m_add u v) w)
        exact r_v C0 hr hlk hw ⟨f_14, (fun q k0 => ((o_15 q k0).trans (fr_12 q k0)))⟩ (Nat.le_refl _) (Nat.le_refl _) dX1_addRows_28 hQ
      · skip
        refine lv_aload_n hx hb dX1_addRows_8 rfl (lv_at hl 2 rfl) ?_
        refine lv_iload_n hx hb dX1_addRows_9 rfl (lv_at hl 3 rfl) ?_
        refine lv_aload_n hx hb dX1_addRows_10 rfl (lv_at hl 0 rfl) ?_
        refine lv_iload_n hx hb dX1_addRows_11 rfl (lv_at hl 3 rfl) ?_
        have f_16 : F_10 a = rw7 G u := (fr_12 a (nao)).trans fa
        refine q_rld C0 hw ma f_16 (i) (by omega) dX1_addRows_12 (fun z_17 => ?_)
        refine lv_aload_n hx hb dX1_addRows_13 rfl (lv_at hl 1 rfl) ?_
        refine lv_iload_n hx hb dX1_addRows_14 rfl (lv_at hl 3 rfl) ?_
        have f_18 : F_10 b = rw7 G v := (fr_12 b (nbo)).trans fb
        refine q_rld C0 hw mb f_18 (i) (by omega) dX1_addRows_15 (fun z_19 => ?_)
        refine n_iadd hx hb dX1_addRows_16 ?_
        refine lv_sipush (v := nI 10007) hx hb dX1_addRows_17 (by decide) ?_
        refine n_iremP hx hb (by omega) dX1_addRows_20 ?_
        refine q_rst C0 hw mo f_11 (i) (by omega) (z := zc ((u (i)).val + ((v (i)).val))) dX1_addRows_21 (fun F_20 H locs hw f_21 o_22 => ?_)
        refine lv_iinc (v := nI (i + 1)) (lv' := [(3, .int (nI (i + 1))), (0, .ref a), (1, .ref b), (2, .ref o)]) hx hb dX1_addRows_22 hl (k := 3) rfl (nI_add _ _) (by decide) rfl (fun ls hl => ?_)
        refine lv_goto (tgt := 2) hx hb dX1_addRows_25 (by decide) ?_
        exact ih_2 (i + 1) ((by omega)) ((by omega)) (by omega) F_20 _ _ hw (f_21.trans (congrArg (rw7 G) (m_upto_s (m_add u v) w i (by rw [zc_add, zc_z, zc_z]; rfl)))) (fun q k0 => ((o_22 q k0).trans (fr_12 q k0))) ls (lv_sub hl [1, 2, 3, 0] rfl)
  exact lp2 _ (0) ((by omega)) ((by omega)) (Nat.lt_succ_self _) F _ _ hw (fo.trans (congrArg (rw7 G) (m_upto_0 (m_add u v) w).symm)) (fun q k0 => rfl) ls (lv_sub hl [1, 2, 3, 0] rfl)
abbrev rm_X1_scaleRow : Room := { frames := 0, cells := 0, slots := 0, locals := 0 }
set_option maxHeartbeats 4000000 in
set_option maxRecDepth 100000 in
theorem c_X1_scaleRow (l : Launch) (G : Gl) (L : List Nat) (F : Nat → va_E) (a o : Nat) (u w : Nat → ZP) (z : ZP) (ma : a ∈ L) (fa : F a = rw7 G u) (mo : o ∈ L) (fo : F o = rw7 G w) (nao : a ≠ o) : CV l yX1_scaleRow cX1_scaleRow 4 none rm_X1_scaleRow G L F [.ref a, .int (nI (z.val)), .ref o] (fun F1 => F1 o = rw7 G (m_scale u z) ∧ ∀ q, q ≠ o → F1 q = F q) := by
  refine CG_of (by decide) (Nat.le_of_ble_eq_true rfl) rfl ?_
  intro p e s m args below meth c Q C0 hr hlk hnm hQ hw ls hl
  have hx := C0.x
  have hb := C0.b
  have hz := z.isLt
  refine lv_iconst (v := nI 0) hx hb dX1_scaleRow_0 (by decide) ?_
  refine lv_istore_n (lv' := [(3, .int (nI (0))), (0, .ref a), (1, .int (nI (z.val))), (2, .ref o)]) hx hb dX1_scaleRow_1 rfl hl (by decide) rfl (fun ls hl => ?_)
  have lp2 : ∀ (n : Nat) (i : Nat), 0 ≤ i → i ≤ 7 → 7 + 1 - i < n → ∀ (F_23 : Nat → va_E) (H : Heap) (locs : List Loc), wD G L F_23 s H locs → F_23 o = rw7 G (m_upto (m_scale u z) w i) → (∀ q, q ≠ o → F_23 q = F q) → ∀ ls : Array Slot, lv_has ls 4 [(0, .ref a), (1, .int (nI (z.val))), (2, .ref o), (3, .int (nI (i)))] → W p l e rm_X1_scaleRow s m args below meth c H locs 0 0 Q (F0 m 2 ls []) := by
    intro n
    induction n with
    | zero => intro i hlo hhi hm; exact absurd hm (Nat.not_lt_zero _)
    | succ n ih_2 =>
      intro i hlo hhi hm F_23 H locs hw f_24 fr_25 ls hl
      refine lv_iload_n hx hb dX1_scaleRow_2 rfl (lv_at hl 3 rfl) ?_
      refine lv_bipush (v := nI 6) hx hb dX1_scaleRow_3 (by decide) ?_
      refine n_icmp_gt (tgt := 29) hx hb dX1_scaleRow_5 (by decide) (by omega) (by decide) (fun c_5 => ?_) (fun c_5 => ?_)
      · skip
        obtain rfl : i = 7 := by omega
        obtain ⟨F_26, hw, f_27, o_28⟩ := hw.rowE f_24 (v := m_scale u z) (m_upto_7 (m_scale u z) w)
        exact r_v C0 hr hlk hw ⟨f_27, (fun q k0 => ((o_28 q k0).trans (fr_25 q k0)))⟩ (Nat.le_refl _) (Nat.le_refl _) dX1_scaleRow_29 hQ
      · skip
        refine lv_aload_n hx hb dX1_scaleRow_8 rfl (lv_at hl 2 rfl) ?_
        refine lv_iload_n hx hb dX1_scaleRow_9 rfl (lv_at hl 3 rfl) ?_
        refine lv_aload_n hx hb dX1_scaleRow_10 rfl (lv_at hl 0 rfl) ?_
        refine lv_iload_n hx hb dX1_scaleRow_11 rfl (lv_at hl 3 rfl) ?_
        have f_29 : F_23 a = rw7 G u := (fr_25 a (nao)).trans fa
        refine q_rld C0 hw ma f_29 (i) (by omega) dX1_scaleRow_12 (fun z_30 => ?_)
        refine n_i2l hx hb (by omega) dX1_scaleRow_13 ?_
        refine lv_iload_n hx hb dX1_scaleRow_14 rfl (lv_at hl 1 rfl) ?_
        refine n_i2l hx hb (by omega) dX1_scaleRow_15 ?_
        refine n_lmul hx hb dX1_scaleRow_16 ?_
        have m_31 := mul2_le (a := (u (i)).val) (b := z.val) (by omega) (by omega)
        refine lv_ldc2 (v := lN (10007)) hx hb C0.ow (C0.ts _ kw_X1_54) dX1_scaleRow_17 ?_
        refine n_lremP hx hb (by omega) dX1_scaleRow_20 ?_
        refine n_l2i hx hb dX1_scaleRow_21 ?_
        refine q_rst C0 hw mo f_24 (i) (by omega) (z := zc (((u (i)).val) * z.val)) dX1_scaleRow_22 (fun F_32 H locs hw f_33 o_34 => ?_)
        refine lv_iinc (v := nI (i + 1)) (lv' := [(3, .int (nI (i + 1))), (0, .ref a), (1, .int (nI (z.val))), (2, .ref o)]) hx hb dX1_scaleRow_23 hl (k := 3) rfl (nI_add _ _) (by decide) rfl (fun ls hl => ?_)
        refine lv_goto (tgt := 2) hx hb dX1_scaleRow_26 (by decide) ?_
        exact ih_2 (i + 1) ((by omega)) ((by omega)) (by omega) F_32 _ _ hw (f_33.trans (congrArg (rw7 G) (m_upto_s (m_scale u z) w i (by rw [zc_mul, zc_z, zc_z]; rfl)))) (fun q k0 => ((o_34 q k0).trans (fr_25 q k0))) ls (lv_sub hl [1, 2, 3, 0] rfl)
  exact lp2 _ (0) ((by omega)) ((by omega)) (Nat.lt_succ_self _) F _ _ hw (fo.trans (congrArg (rw7 G) (m_upto_0 (m_scale u z) w).symm)) (fun q k0 => rfl) ls (lv_sub hl [1, 2, 3, 0] rfl)
set_option maxHeartbeats 4000000 in
set_option maxRecDepth 100000 in
theorem c_X1_scaleRow_s (l : Launch) (G : Gl) (L : List Nat) (F : Nat → va_E) (a : Nat) (u : Nat → ZP) (z : ZP) (ma : a ∈ L) (fa : F a = rw7 G u) : CV l yX1_scaleRow cX1_scaleRow 4 none rm_X1_scaleRow G L F [.ref a, .int (nI (z.val)), .ref a] (fun F1 => F1 a = rw7 G (m_scale u z) ∧ ∀ q, q ≠ a → F1 q = F q) := by
  refine CG_of (by decide) (Nat.le_of_ble_eq_true rfl) rfl ?_
  intro p e s m args below meth c Q C0 hr hlk hnm hQ hw ls hl
  have hx := C0.x
  have hb := C0.b
  have hz := z.isLt
  refine lv_iconst (v := nI 0) hx hb dX1_scaleRow_0 (by decide) ?_
  refine lv_istore_n (lv' := [(3, .int (nI (0))), (0, .ref a), (1, .int (nI (z.val))), (2, .ref a)]) hx hb dX1_scaleRow_1 rfl hl (by decide) rfl (fun ls hl => ?_)
  have lp2 : ∀ (n : Nat) (i : Nat), 0 ≤ i → i ≤ 7 → 7 + 1 - i < n → ∀ (F_35 : Nat → va_E) (H : Heap) (locs : List Loc), wD G L F_35 s H locs → F_35 a = rw7 G (m_upto (m_scale u z) u i) → (∀ q, q ≠ a → F_35 q = F q) → ∀ ls : Array Slot, lv_has ls 4 [(0, .ref a), (1, .int (nI (z.val))), (2, .ref a), (3, .int (nI (i)))] → W p l e rm_X1_scaleRow s m args below meth c H locs 0 0 Q (F0 m 2 ls []) := by
    intro n
    induction n with
    | zero => intro i hlo hhi hm; exact absurd hm (Nat.not_lt_zero _)
    | succ n ih_2 =>
      intro i hlo hhi hm F_35 H locs hw f_36 fr_37 ls hl
      refine lv_iload_n hx hb dX1_scaleRow_2 rfl (lv_at hl 3 rfl) ?_
      refine lv_bipush (v := nI 6) hx hb dX1_scaleRow_3 (by decide) ?_
      refine n_icmp_gt (tgt := 29) hx hb dX1_scaleRow_5 (by decide) (by omega) (by decide) (fun c_5 => ?_) (fun c_5 => ?_)
      · skip
        obtain rfl : i = 7 := by omega
        obtain ⟨F_38, hw, f_39, o_40⟩ := hw.rowE f_36 (v := m_scale u z) (m_upto_7 (m_scale u z) u)
        exact r_v C0 hr hlk hw ⟨f_39, (fun q k0 => ((o_40 q k0).trans (fr_37 q k0)))⟩ (Nat.le_refl _) (Nat.le_refl _) dX1_scaleRow_29 hQ
      · skip
        refine lv_aload_n hx hb dX1_scaleRow_8 rfl (lv_at hl 2 rfl) ?_
        refine lv_iload_n hx hb dX1_scaleRow_9 rfl (lv_at hl 3 rfl) ?_
        refine lv_aload_n hx hb dX1_scaleRow_10 rfl (lv_at hl 0 rfl) ?_
        refine lv_iload_n hx hb dX1_scaleRow_11 rfl (lv_at hl 3 rfl) ?_
        refine q_rld C0 hw ma f_36 (i) (by omega) dX1_scaleRow_12 (fun z_41 => ?_)
        refine n_i2l hx hb (by omega) dX1_scaleRow_13 ?_
        refine lv_iload_n hx hb dX1_scaleRow_14 rfl (lv_at hl 1 rfl) ?_
        refine n_i2l hx hb (by omega) dX1_scaleRow_15 ?_
        refine n_lmul hx hb dX1_scaleRow_16 ?_
        have m_42 := mul2_le (a := ((m_upto (m_scale u z) u i) (i)).val) (b := z.val) (by omega) (by omega)
        refine lv_ldc2 (v := lN (10007)) hx hb C0.ow (C0.ts _ kw_X1_54) dX1_scaleRow_17 ?_
        refine n_lremP hx hb (by omega) dX1_scaleRow_20 ?_
        refine n_l2i hx hb dX1_scaleRow_21 ?_
        refine q_rst C0 hw ma f_36 (i) (by omega) (z := zc ((((m_upto (m_scale u z) u i) (i)).val) * z.val)) dX1_scaleRow_22 (fun F_43 H locs hw f_44 o_45 => ?_)
        refine lv_iinc (v := nI (i + 1)) (lv' := [(3, .int (nI (i + 1))), (0, .ref a), (1, .int (nI (z.val))), (2, .ref a)]) hx hb dX1_scaleRow_23 hl (k := 3) rfl (nI_add _ _) (by decide) rfl (fun ls hl => ?_)
        refine lv_goto (tgt := 2) hx hb dX1_scaleRow_26 (by decide) ?_
        exact ih_2 (i + 1) ((by omega)) ((by omega)) (by omega) F_43 _ _ hw (f_44.trans (congrArg (rw7 G) (m_upto_s (m_scale u z) u i (by rw [zc_mul, zc_z, zc_z, m_upto_at]; rfl)))) (fun q k0 => ((o_45 q k0).trans (fr_37 q k0))) ls (lv_sub hl [1, 2, 3, 0] rfl)
  exact lp2 _ (0) ((by omega)) ((by omega)) (Nat.lt_succ_self _) F _ _ hw (fa.trans (congrArg (rw7 G) (m_upto_0 (m_scale u z) u).symm)) (fun q k0 => rfl) ls (lv_sub hl [1, 2, 3, 0] rfl)
abbrev rm_X1_addMultiple : Room := { frames := 0, cells := 0, slots := 0, locals := 0 }
set_option maxHeartbeats 4000000 in
set_option maxRecDepth 100000 in
theorem c_X1_addMultiple (l : Launch) (G : Gl) (L : List Nat) (F : Nat → va_E) (o a : Nat) (w u : Nat → ZP) (z : ZP) (mo : o ∈ L) (fo : F o = rw7 G w) (ma : a ∈ L) (fa : F a = rw7 G u) (nao : a ≠ o) : CV l yX1_addMultiple cX1_addMultiple 4 none rm_X1_addMultiple G L F [.ref o, .ref a, .int (nI (z.val))] (fun F1 => F1 o = rw7 G (m_am w u z) ∧ ∀ q, q ≠ o → F1 q = F q) := by
  refine CG_of (by decide) (Nat.le_of_ble_eq_true rfl) rfl ?_
  intro p e s m args below meth c Q C0 hr hlk hnm hQ hw ls hl
  have hx := C0.x
  have hb := C0.b
  have hz := z.isLt
  refine lv_iconst (v := nI 0) hx hb dX1_addMultiple_0 (by decide) ?_
  refine lv_istore_n (lv' := [(3, .int (nI (0))), (0, .ref o), (1, .ref a), (2, .int (nI (z.val)))]) hx hb dX1_addMultiple_1 rfl hl (by decide) rfl (fun ls hl => ?_)
  have lp2 : ∀ (n : Nat) (i : Nat), 0 ≤ i → i ≤ 7 → 7 + 1 - i < n → ∀ (F_46 : Nat → va_E) (H : Heap) (locs : List Loc), wD G L F_46 s H locs → F_46 o = rw7 G (m_upto (m_am w u z) w i) → (∀ q, q ≠ o → F_46 q = F q) → ∀ ls : Array Slot, lv_has ls 4 [(0, .ref o), (1, .ref a), (2, .int (nI (z.val))), (3, .int (nI (i)))] → W p l e rm_X1_addMultiple s m args below meth c H locs 0 0 Q (F0 m 2 ls []) := by
    intro n
    induction n with
    | zero => intro i hlo hhi hm; exact absurd hm (Nat.not_lt_zero _)
    | succ n ih_2 =>
      intro i hlo hhi hm F_46 H locs hw f_47 fr_48 ls hl
      refine lv_iload_n hx hb dX1_addMultiple_2 rfl (lv_at hl 3 rfl) ?_
      refine lv_bipush (v := nI 6) hx hb dX1_addMultiple_3 (by decide) ?_
      refine n_icmp_gt (tgt := 34) hx hb dX1_addMultiple_5 (by decide) (by omega) (by decide) (fun c_5 => ?_) (fun c_5 => ?_)
      · skip
        obtain rfl : i = 7 := by omega
        obtain ⟨F_49, hw, f_50, o_51⟩ := hw.rowE f_47 (v := m_am w u z) (m_upto_7 (m_am w u z) w)
        exact r_v C0 hr hlk hw ⟨f_50, (fun q k0 => ((o_51 q k0).trans (fr_48 q k0)))⟩ (Nat.le_refl _) (Nat.le_refl _) dX1_addMultiple_34 hQ
      · skip
        refine lv_aload_n hx hb dX1_addMultiple_8 rfl (lv_at hl 0 rfl) ?_
        refine lv_iload_n hx hb dX1_addMultiple_9 rfl (lv_at hl 3 rfl) ?_
        refine lv_aload_n hx hb dX1_addMultiple_10 rfl (lv_at hl 0 rfl) ?_
        refine lv_iload_n hx hb dX1_addMultiple_11 rfl (lv_at hl 3 rfl) ?_
        refine q_rld C0 hw mo f_47 (i) (by omega) dX1_addMultiple_12 (fun z_52 => ?_)
        refine n_i2l hx hb (by omega) dX1_addMultiple_13 ?_
        refine lv_aload_n hx hb dX1_addMultiple_14 rfl (lv_at hl 1 rfl) ?_
        refine lv_iload_n hx hb dX1_addMultiple_15 rfl (lv_at hl 3 rfl) ?_
        have f_53 : F_46 a = rw7 G u := (fr_48 a (nao)).trans fa
        refine q_rld C0 hw ma f_53 (i) (by omega) dX1_addMultiple_16 (fun z_54 => ?_)
        refine n_i2l hx hb (by omega) dX1_addMultiple_17 ?_
        refine lv_iload_n hx hb dX1_addMultiple_18 rfl (lv_at hl 2 rfl) ?_
        refine n_i2l hx hb (by omega) dX1_addMultiple_19 ?_
        refine n_lmul hx hb dX1_addMultiple_20 ?_
        have m_55 := mul2_le (a := (u (i)).val) (b := z.val) (by omega) (by omega)
        refine n_ladd hx hb dX1_addMultiple_21 ?_
        refine lv_ldc2 (v := lN (10007)) hx hb C0.ow (C0.ts _ kw_X1_54) dX1_addMultiple_22 ?_
        refine n_lremP hx hb (by omega) dX1_addMultiple_25 ?_
        refine n_l2i hx hb dX1_addMultiple_26 ?_
        refine q_rst C0 hw mo f_47 (i) (by omega) (z := zc (((m_upto (m_am w u z) w i) (i)).val + (((u (i)).val) * z.val))) dX1_addMultiple_27 (fun F_56 H locs hw f_57 o_58 => ?_)
        refine lv_iinc (v := nI (i + 1)) (lv' := [(3, .int (nI (i + 1))), (0, .ref o), (1, .ref a), (2, .int (nI (z.val)))]) hx hb dX1_addMultiple_28 hl (k := 3) rfl (nI_add _ _) (by decide) rfl (fun ls hl => ?_)
        refine lv_goto (tgt := 2) hx hb dX1_addMultiple_31 (by decide) ?_
        exact ih_2 (i + 1) ((by omega)) ((by omega)) (by omega) F_56 _ _ hw (f_57.trans (congrArg (rw7 G) (m_upto_s (m_am w u z) w i (by rw [zc_add, zc_mul, zc_z, zc_z, zc_z, m_upto_at]; rfl)))) (fun q k0 => ((o_58 q k0).trans (fr_48 q k0))) ls (lv_sub hl [1, 2, 3, 0] rfl)
  exact lp2 _ (0) ((by omega)) ((by omega)) (Nat.lt_succ_self _) F _ _ hw (fo.trans (congrArg (rw7 G) (m_upto_0 (m_am w u z) w).symm)) (fun q k0 => rfl) ls (lv_sub hl [1, 2, 3, 0] rfl)
abbrev rm_X1_makeX : Room := { frames := 1, cells := 0, slots := 0, locals := 23 }
set_option maxHeartbeats 4000000 in
set_option maxRecDepth 100000 in
theorem c_X1_makeX (l : Launch) (G : Gl) (L : List Nat) (F : Nat → va_E) (a : Nat) (u : Nat → ZP) (ma : a ∈ L) (fa : F a = rw7 G u) : CV l yX1_makeX cX1_makeX 1 none rm_X1_makeX G L F [.ref a] (fun F1 => F1 a = rw7 G m_x ∧ ∀ q, q ≠ a → F1 q = F q) := by
  refine CG_of (by decide) (Nat.le_of_ble_eq_true rfl) rfl ?_
  intro p e s m args below meth c Q C0 hr hlk hnm hQ hw ls hl
  have hx := C0.x
  have hb := C0.b
  refine lv_aload_n hx hb dX1_makeX_0 rfl (lv_at hl 0 rfl) ?_
  refine lv_iconst (v := nI 0) hx hb dX1_makeX_1 (by decide) ?_
  refine q_callv hw (q_runS (As := [.ref a, .int (nI (0))]) (c_J7_fill_53178 l G L F a u (zc 0) ma fa) C0 hw sw_X1_62 rfl hl.1 rfl (Nat.le_of_ble_eq_true rfl) dX1_makeX_2 ⟨by decide, by decide⟩ ⟨by decide, by decide⟩) rfl rfl (fun F_59 H locs hw hp_60 => ?_)
  refine lv_aload_n hx hb dX1_makeX_5 rfl (lv_at hl 0 rfl) ?_
  refine lv_iconst (v := nI 1) hx hb dX1_makeX_6 (by decide) ?_
  refine lv_iconst (v := nI 1) hx hb dX1_makeX_7 (by decide) ?_
  refine q_rst C0 hw ma hp_60.1 (1) (by omega) (z := zc 1) dX1_makeX_8 (fun F_61 H locs hw f_62 o_63 => ?_)
  exact r_v C0 hr hlk hw ⟨f_62.trans (congrArg (rw7 G) m_x_eq), (fun q k0 => ((o_63 q k0).trans (hp_60.2 q k0)))⟩ (Nat.le_refl _) (Nat.le_refl _) dX1_makeX_9 hQ
abbrev rm_X1_act : Room := { frames := 1, cells := 0, slots := 0, locals := 23 }
set_option maxHeartbeats 4000000 in
set_option maxRecDepth 100000 in
theorem c_X1_act (l : Launch) (G : Gl) (L : List Nat) (F : Nat → va_E) (a b o cu : Nat) (u v w : Nat → ZP) (ma : a ∈ L) (fa : F a = rw7 G u) (mb : b ∈ L) (fb : F b = rw7 G v) (mo : o ∈ L) (fo : F o = rw7 G w) (nao : a ≠ o) (nbo : b ≠ o) (hc : cu ≤ 6) (hc1 : 1 ≤ cu) : CV l yX1_act cX1_act 9 none rm_X1_act G L F [.ref a, .ref b, .int (nI (cu)), .ref o] (fun F1 => F1 o = rw7 G ((m_act u v cu)) ∧ ∀ q, q ≠ o → F1 q = F q) := by
  refine CG_of (by decide) (Nat.le_of_ble_eq_true rfl) rfl ?_
  intro p e s m args below meth c Q C0 hr hlk hnm hQ hw ls hl
  have hx := C0.x
  have hb := C0.b
  refine lv_aload_n hx hb dX1_act_0 rfl (lv_at hl 3 rfl) ?_
  refine lv_iconst (v := nI 0) hx hb dX1_act_1 (by decide) ?_
  refine q_callv hw (q_runS (As := [.ref o, .int (nI (0))]) (c_J7_fill_53178 l G L F o w (zc 0) mo fo) C0 hw sw_X1_62 rfl hl.1 rfl (Nat.le_of_ble_eq_true rfl) dX1_act_2 ⟨by decide, by decide⟩ ⟨by decide, by decide⟩) rfl rfl (fun F_64 H locs hw hp_65 => ?_)
  refine lv_iconst (v := nI 2) hx hb dX1_act_5 (by decide) ?_
  refine lv_istore (lv' := [(4, .int (nI (2))), (0, .ref a), (1, .ref b), (2, .int (nI (cu))), (3, .ref o)]) hx hb dX1_act_6 hl (by decide) rfl (fun ls hl => ?_)
  have lp8 : ∀ (n : Nat) (i : Nat), 2 ≤ i → i ≤ cu + 1 → (cu + 1) + 1 - i < n → ∀ (F_66 : Nat → va_E) (H : Heap) (locs : List Loc), wD G L F_66 s H locs → F_66 o = rw7 G (m_actp u v i) → (∀ q, q ≠ o → F_66 q = F q) → ∀ ls : Array Slot, lv_has ls 9 [(0, .ref a), (1, .ref b), (2, .int (nI (cu))), (3, .ref o), (4, .int (nI (i)))] → W p l e rm_X1_act s m args below meth c H locs 0 0 Q (F0 m 8 ls []) := by
    intro n
    induction n with
    | zero => intro i hlo hhi hm; exact absurd hm (Nat.not_lt_zero _)
    | succ n ih_8 =>
      intro i hlo hhi hm F_66 H locs hw f_67 fr_68 ls hl
      refine lv_iload hx hb dX1_act_8 (lv_at hl 4 rfl) ?_
      refine lv_iload_n hx hb dX1_act_10 rfl (lv_at hl 2 rfl) ?_
      refine n_icmp_gt (tgt := 79) hx hb dX1_act_11 (by decide) (by omega) (by omega) (fun c_11 => ?_) (fun c_11 => ?_)
      · skip
        obtain rfl : i = cu + 1 := by omega
        rw [m_actp_e] at f_67
        exact r_v C0 hr hlk hw ⟨f_67, (fun q k0 => (fr_68 q k0))⟩ (Nat.le_refl _) (Nat.le_refl _) dX1_act_79 hQ
      · skip
        refine lv_lconst (v := lN 0) hx hb dX1_act_14 (by decide) ?_
        refine lv_lstore (lv' := [(5, .long (lN (0))), (0, .ref a), (1, .ref b), (2, .int (nI (cu))), (3, .ref o), (4, .int (nI (i)))]) hx hb dX1_act_15 hl (by decide) rfl (fun ls hl => ?_)
        refine lv_iconst (v := nI 2) hx hb dX1_act_17 (by decide) ?_
        refine lv_istore (lv' := [(7, .int (nI (2))), (5, .long (lN (0))), (0, .ref a), (1, .ref b), (2, .int (nI (cu))), (3, .ref o), (4, .int (nI (i)))]) hx hb dX1_act_18 hl (by decide) rfl (fun ls hl => ?_)
        have lp20 : ∀ (n : Nat) (j : Nat) (t : Nat), 2 ≤ j → j ≤ i + 1 → zc t = m_sumc u v i (j - 2) → t ≤ (j - 2) * 700000000 → (i + 1) + 1 - j < n → ∀ (F_69 : Nat → va_E) (H : Heap) (locs : List Loc), wD G L F_69 s H locs → F_69 o = rw7 G (m_actp u v i) → (∀ q, q ≠ o → F_69 q = F q) → ∀ ls : Array Slot, lv_has ls 9 [(0, .ref a), (1, .ref b), (2, .int (nI (cu))), (3, .ref o), (4, .int (nI (i))), (5, .long (lN (t))), (7, .int (nI (j)))] → W p l e rm_X1_act s m args below meth c H locs 0 0 Q (F0 m 20 ls []) := by
          intro n
          induction n with
          | zero => intro j t hlo hhi ht hb9 hm; exact absurd hm (Nat.not_lt_zero _)
          | succ n ih_20 =>
            intro j t hlo hhi ht hb9 hm F_69 H locs hw f_70 fr_71 ls hl
            refine lv_iload hx hb dX1_act_20 (lv_at hl 6 rfl) ?_
            refine lv_iload hx hb dX1_act_22 (lv_at hl 4 rfl) ?_
            refine n_icmp_gt (tgt := 62) hx hb dX1_act_24 (by decide) (by omega) (by omega) (fun c_24 => ?_) (fun c_24 => ?_)
            · skip
              obtain rfl : j = i + 1 := by omega
              have ht2 : zc t = m_actc u v i := by rw [ht]; unfold m_actc; congr 1
              refine lv_aload_n hx hb dX1_act_62 rfl (lv_at hl 3 rfl) ?_
              refine lv_iload hx hb dX1_act_63 (lv_at hl 4 rfl) ?_
              refine lv_lload hx hb dX1_act_65 (lv_at hl 5 rfl) ?_
              refine lv_ldc2 (v := lN (10007)) hx hb C0.ow (C0.ts _ kw_X1_54) dX1_act_67 ?_
              refine n_lremP hx hb (by omega) dX1_act_70 ?_
              refine n_l2i hx hb dX1_act_71 ?_
              refine q_rst C0 hw mo f_70 (i) (by omega) (z := zc (t)) dX1_act_72 (fun F_72 H locs hw f_73 o_74 => ?_)
              refine lv_iinc (v := nI (i + 1)) (lv' := [(4, .int (nI (i + 1))), (0, .ref a), (1, .ref b), (2, .int (nI (cu))), (3, .ref o), (5, .long (lN (t))), (7, .int (nI ((i + 1))))]) hx hb dX1_act_73 hl (k := 4) rfl (nI_add _ _) (by decide) rfl (fun ls hl => ?_)
              refine lv_goto (tgt := 8) hx hb dX1_act_76 (by decide) ?_
              exact ih_8 (i + 1) ((by omega)) ((by omega)) (by omega) F_72 _ _ hw (f_73.trans (congrArg (rw7 G) (m_actp_s u v (by omega) ht2))) (fun q k0 => ((o_74 q k0).trans (fr_71 q k0))) ls (lv_sub hl [1, 2, 3, 4, 0] rfl)
            · skip
              refine lv_iload hx hb dX1_act_27 (lv_at hl 4 rfl) ?_
              refine lv_iload hx hb dX1_act_29 (lv_at hl 6 rfl) ?_
              refine n_isub hx hb (by omega) dX1_act_31 ?_
              refine lv_iconst (v := nI 1) hx hb dX1_act_32 (by decide) ?_
              refine n_iadd hx hb dX1_act_33 ?_
              refine lv_istore (lv' := [(8, .int (nI (i - j + 1))), (0, .ref a), (1, .ref b), (2, .int (nI (cu))), (3, .ref o), (4, .int (nI (i))), (5, .long (lN (t))), (7, .int (nI (j)))]) hx hb dX1_act_34 hl (by decide) rfl (fun ls hl => ?_)
              refine lv_lload hx hb dX1_act_36 (lv_at hl 6 rfl) ?_
              refine lv_aload_n hx hb dX1_act_38 rfl (lv_at hl 1 rfl) ?_
              refine lv_iload hx hb dX1_act_39 (lv_at hl 7 rfl) ?_
              have f_75 : F_69 a = rw7 G u := (fr_71 a (nao)).trans fa
              refine q_rld C0 hw ma f_75 (j) (by omega) dX1_act_41 (fun z_76 => ?_)
              refine n_i2l hx hb (by omega) dX1_act_42 ?_
              refine lv_aload_n hx hb dX1_act_43 rfl (lv_at hl 2 rfl) ?_
              refine lv_iload hx hb dX1_act_44 (lv_at hl 0 rfl) ?_
              have f_77 : F_69 b = rw7 G v := (fr_71 b (nbo)).trans fb
              refine q_rld C0 hw mb f_77 (i - j + 1) (by omega) dX1_act_46 (fun z_78 => ?_)
              refine n_i2l hx hb (by omega) dX1_act_47 ?_
              refine n_lmul hx hb dX1_act_48 ?_
              have m_79 := mul2_le (a := (u (j)).val) (b := (v (i - j + 1)).val) (by omega) (by omega)
              refine lv_iload hx hb dX1_act_49 (lv_at hl 0 rfl) ?_
              refine n_i2l hx hb (by omega) dX1_act_51 ?_
              refine n_lmul hx hb dX1_act_52 ?_
              have m_80 := mul3_le (a := (u (j)).val) (b := (v (i - j + 1)).val) (d := i - j + 1) (by omega) (by omega) (by omega)
              refine n_ladd hx hb dX1_act_53 ?_
              refine lv_lstore (lv' := [(5, .long (lN (t + ((((u (j)).val) * ((v (i - j + 1)).val)) * (i - j + 1))))), (8, .int (nI (i - j + 1))), (0, .ref a), (1, .ref b), (2, .int (nI (cu))), (3, .ref o), (4, .int (nI (i))), (7, .int (nI (j)))]) hx hb dX1_act_54 hl (by decide) rfl (fun ls hl => ?_)
              refine lv_iinc (v := nI (j + 1)) (lv' := [(7, .int (nI (j + 1))), (5, .long (lN (t + ((((u (j)).val) * ((v (i - j + 1)).val)) * (i - j + 1))))), (8, .int (nI (i - j + 1))), (0, .ref a), (1, .ref b), (2, .int (nI (cu))), (3, .ref o), (4, .int (nI (i)))]) hx hb dX1_act_56 hl (k := 7) rfl (nI_add _ _) (by decide) rfl (fun ls hl => ?_)
              refine lv_goto (tgt := 20) hx hb dX1_act_59 (by decide) ?_
              exact ih_20 (j + 1) (t + ((((u (j)).val) * ((v (i - j + 1)).val)) * (i - j + 1))) ((by omega)) ((by omega)) ((m_sumc_s u v i hlo ht)) ((by omega)) (by omega) F_69 _ _ hw (f_70) (fun q k0 => (fr_71 q k0)) ls (lv_sub hl [3, 4, 5, 6, 7, 1, 0] rfl)
        exact lp20 _ (2) (0) ((by omega)) ((by omega)) (zc_0) ((by omega)) (Nat.lt_succ_self _) F_66 _ _ hw (f_67) (fun q k0 => (fr_68 q k0)) ls (lv_sub hl [2, 3, 4, 5, 6, 1, 0] rfl)
  exact lp8 _ (2) ((by omega)) ((by omega)) (Nat.lt_succ_self _) F_64 _ _ hw (hp_65.1.trans (congrArg (rw7 G) (m_actp_0 u v))) (fun q k0 => (hp_65.2 q k0)) ls (lv_sub hl [1, 2, 3, 4, 0] rfl)
theorem m_mulS_0 (u v : Nat → ZP) (p : Nat) : zc 0 = m_mulS u v p 0 := zc_0.trans (by simp only [m_mulS])
abbrev rm_X1_multiply : Room := { frames := 0, cells := 0, slots := 0, locals := 0 }
set_option maxHeartbeats 4000000 in
set_option maxRecDepth 100000 in
theorem c_X1_multiply (l : Launch) (G : Gl) (L : List Nat) (F : Nat → va_E) (a b o cu : Nat) (u v w : Nat → ZP) (ma : a ∈ L) (fa : F a = rw7 G u) (mb : b ∈ L) (fb : F b = rw7 G v) (mo : o ∈ L) (fo : F o = rw7 G w) (nao : a ≠ o) (nbo : b ≠ o) (hc : cu ≤ 6) : CV l yX1_multiply cX1_multiply 8 none rm_X1_multiply G L F [.ref a, .ref b, .int (nI (cu)), .ref o] (fun F1 => F1 o = rw7 G ((m_upto (m_mulc u v) w (cu + 1))) ∧ ∀ q, q ≠ o → F1 q = F q) := by
  refine CG_of (by decide) (Nat.le_of_ble_eq_true rfl) rfl ?_
  intro p e s m args below meth c Q C0 hr hlk hnm hQ hw ls hl
  have hx := C0.x
  have hb := C0.b
  refine lv_iconst (v := nI 0) hx hb dX1_multiply_0 (by decide) ?_
  refine lv_istore (lv' := [(4, .int (nI (0))), (0, .ref a), (1, .ref b), (2, .int (nI (cu))), (3, .ref o)]) hx hb dX1_multiply_1 hl (by decide) rfl (fun ls hl => ?_)
  have lp3 : ∀ (n : Nat) (i : Nat), 0 ≤ i → i ≤ cu + 1 → (cu + 1) + 1 - i < n → ∀ (F_81 : Nat → va_E) (H : Heap) (locs : List Loc), wD G L F_81 s H locs → F_81 o = rw7 G (m_upto (m_mulc u v) w i) → (∀ q, q ≠ o → F_81 q = F q) → ∀ ls : Array Slot, lv_has ls 8 [(0, .ref a), (1, .ref b), (2, .int (nI (cu))), (3, .ref o), (4, .int (nI (i)))] → W p l e rm_X1_multiply s m args below meth c H locs 0 0 Q (F0 m 3 ls []) := by
    intro n
    induction n with
    | zero => intro i hlo hhi hm; exact absurd hm (Nat.not_lt_zero _)
    | succ n ih_3 =>
      intro i hlo hhi hm F_81 H locs hw f_82 fr_83 ls hl
      refine lv_iload hx hb dX1_multiply_3 (lv_at hl 4 rfl) ?_
      refine lv_iload_n hx hb dX1_multiply_5 rfl (lv_at hl 2 rfl) ?_
      refine n_icmp_gt (tgt := 64) hx hb dX1_multiply_6 (by decide) (by omega) (by omega) (fun c_6 => ?_) (fun c_6 => ?_)
      · skip
        obtain rfl : i = cu + 1 := by omega
        exact r_v C0 hr hlk hw ⟨f_82, (fun q k0 => (fr_83 q k0))⟩ (Nat.le_refl _) (Nat.le_refl _) dX1_multiply_64 hQ
      · skip
        refine lv_lconst (v := lN 0) hx hb dX1_multiply_9 (by decide) ?_
        refine lv_lstore (lv' := [(5, .long (lN (0))), (0, .ref a), (1, .ref b), (2, .int (nI (cu))), (3, .ref o), (4, .int (nI (i)))]) hx hb dX1_multiply_10 hl (by decide) rfl (fun ls hl => ?_)
        refine lv_iconst (v := nI 0) hx hb dX1_multiply_12 (by decide) ?_
        refine lv_istore (lv' := [(7, .int (nI (0))), (5, .long (lN (0))), (0, .ref a), (1, .ref b), (2, .int (nI (cu))), (3, .ref o), (4, .int (nI (i)))]) hx hb dX1_multiply_13 hl (by decide) rfl (fun ls hl => ?_)
        have lp15 : ∀ (n : Nat) (j : Nat) (t : Nat), 0 ≤ j → j ≤ i + 1 → zc t = m_mulS u v i j → t ≤ j * 700000000 → (i + 1) + 1 - j < n → ∀ (F_84 : Nat → va_E) (H : Heap) (locs : List Loc), wD G L F_84 s H locs → F_84 o = rw7 G (m_upto (m_mulc u v) w i) → (∀ q, q ≠ o → F_84 q = F q) → ∀ ls : Array Slot, lv_has ls 8 [(0, .ref a), (1, .ref b), (2, .int (nI (cu))), (3, .ref o), (4, .int (nI (i))), (5, .long (lN (t))), (7, .int (nI (j)))] → W p l e rm_X1_multiply s m args below meth c H locs 0 0 Q (F0 m 15 ls []) := by
          intro n
          induction n with
          | zero => intro j t hlo hhi ht hb9 hm; exact absurd hm (Nat.not_lt_zero _)
          | succ n ih_15 =>
            intro j t hlo hhi ht hb9 hm F_84 H locs hw f_85 fr_86 ls hl
            refine lv_iload hx hb dX1_multiply_15 (lv_at hl 6 rfl) ?_
            refine lv_iload hx hb dX1_multiply_17 (lv_at hl 4 rfl) ?_
            refine n_icmp_gt (tgt := 47) hx hb dX1_multiply_19 (by decide) (by omega) (by omega) (fun c_19 => ?_) (fun c_19 => ?_)
            · skip
              obtain rfl : j = i + 1 := by omega
              refine lv_aload_n hx hb dX1_multiply_47 rfl (lv_at hl 3 rfl) ?_
              refine lv_iload hx hb dX1_multiply_48 (lv_at hl 4 rfl) ?_
              refine lv_lload hx hb dX1_multiply_50 (lv_at hl 5 rfl) ?_
              refine lv_ldc2 (v := lN (10007)) hx hb C0.ow (C0.ts _ kw_X1_54) dX1_multiply_52 ?_
              refine n_lremP hx hb (by omega) dX1_multiply_55 ?_
              refine n_l2i hx hb dX1_multiply_56 ?_
              refine q_rst C0 hw mo f_85 (i) (by omega) (z := zc (t)) dX1_multiply_57 (fun F_87 H locs hw f_88 o_89 => ?_)
              refine lv_iinc (v := nI (i + 1)) (lv' := [(4, .int (nI (i + 1))), (0, .ref a), (1, .ref b), (2, .int (nI (cu))), (3, .ref o), (5, .long (lN (t))), (7, .int (nI ((i + 1))))]) hx hb dX1_multiply_58 hl (k := 4) rfl (nI_add _ _) (by decide) rfl (fun ls hl => ?_)
              refine lv_goto (tgt := 3) hx hb dX1_multiply_61 (by decide) ?_
              exact ih_3 (i + 1) ((by omega)) ((by omega)) (by omega) F_87 _ _ hw (f_88.trans (congrArg (rw7 G) (m_upto_s _ w i ht))) (fun q k0 => ((o_89 q k0).trans (fr_86 q k0))) ls (lv_sub hl [1, 2, 3, 4, 0] rfl)
            · skip
              refine lv_lload hx hb dX1_multiply_22 (lv_at hl 5 rfl) ?_
              refine lv_aload_n hx hb dX1_multiply_24 rfl (lv_at hl 0 rfl) ?_
              refine lv_iload hx hb dX1_multiply_25 (lv_at hl 6 rfl) ?_
              have f_90 : F_84 a = rw7 G u := (fr_86 a (nao)).trans fa
              refine q_rld C0 hw ma f_90 (j) (by omega) dX1_multiply_27 (fun z_91 => ?_)
              refine n_i2l hx hb (by omega) dX1_multiply_28 ?_
              refine lv_aload_n hx hb dX1_multiply_29 rfl (lv_at hl 1 rfl) ?_
              refine lv_iload hx hb dX1_multiply_30 (lv_at hl 4 rfl) ?_
              refine lv_iload hx hb dX1_multiply_32 (lv_at hl 6 rfl) ?_
              refine n_isub hx hb (by omega) dX1_multiply_34 ?_
              have f_92 : F_84 b = rw7 G v := (fr_86 b (nbo)).trans fb
              refine q_rld C0 hw mb f_92 (i - j) (by omega) dX1_multiply_35 (fun z_93 => ?_)
              refine n_i2l hx hb (by omega) dX1_multiply_36 ?_
              refine n_lmul hx hb dX1_multiply_37 ?_
              have m_94 := mul2_le (a := (u (j)).val) (b := (v (i - j)).val) (by omega) (by omega)
              refine n_ladd hx hb dX1_multiply_38 ?_
              refine lv_lstore (lv' := [(5, .long (lN (t + (((u (j)).val) * ((v (i - j)).val))))), (0, .ref a), (1, .ref b), (2, .int (nI (cu))), (3, .ref o), (4, .int (nI (i))), (7, .int (nI (j)))]) hx hb dX1_multiply_39 hl (by decide) rfl (fun ls hl => ?_)
              refine lv_iinc (v := nI (j + 1)) (lv' := [(7, .int (nI (j + 1))), (5, .long (lN (t + (((u (j)).val) * ((v (i - j)).val))))), (0, .ref a), (1, .ref b), (2, .int (nI (cu))), (3, .ref o), (4, .int (nI (i)))]) hx hb dX1_multiply_41 hl (k := 6) rfl (nI_add _ _) (by decide) rfl (fun ls hl => ?_)
              refine lv_goto (tgt := 15) hx hb dX1_multiply_44 (by decide) ?_
              exact ih_15 (j + 1) (t + (((u (j)).val) * ((v (i - j)).val))) ((by omega)) ((by omega)) ((m_mulS_s u v i ht)) ((by omega)) (by omega) F_84 _ _ hw (f_85) (fun q k0 => (fr_86 q k0)) ls (lv_sub hl [2, 3, 4, 5, 6, 1, 0] rfl)
        exact lp15 _ (0) (0) ((by omega)) ((by omega)) ((m_mulS_0 u v i)) ((Nat.zero_le _)) (Nat.lt_succ_self _) F_81 _ _ hw (f_82) (fun q k0 => (fr_83 q k0)) ls (lv_sub hl [2, 3, 4, 5, 6, 1, 0] rfl)
  exact lp3 _ (0) ((by omega)) ((by omega)) (Nat.lt_succ_self _) F _ _ hw (fo.trans (congrArg (rw7 G) (m_upto_0 _ w).symm)) (fun q k0 => rfl) ls (lv_sub hl [1, 2, 3, 4, 0] rfl)
end
section
theorem m_low_ext {b : Nat → Bool} {i : Nat} (h : ∀ j, 2 ≤ j → j < i → b j = false) (hi : b i = false) : ∀ j, 2 ≤ j → j < i + 1 → b j = false := by
  intro j h1 h2
  rcases Nat.lt_or_ge j i with h3 | h3
  · exact h j h1 h3
  · obtain rfl : j = i := by omega
    exact hi
abbrev rm_X1_lowestPower : Room := { frames := 0, cells := 0, slots := 0, locals := 0 }
set_option maxHeartbeats 4000000 in
set_option maxRecDepth 100000 in
theorem c_X1_lowestPower (l : Launch) (G : Gl) (L : List Nat) (F : Nat → va_E) (a : Nat) (u : Nat → ZP) (ma : a ∈ L) (fa : F a = rw7 G u) : CI l yX1_lowestPower cX1_lowestPower 2 (some .int) rm_X1_lowestPower G L F [.ref a] (fun r F1 => r = m_low (fun k => decide (u k ≠ 0)) ∧ ∀ q, F1 q = F q) := by
  refine CG_of (by decide) (Nat.le_of_ble_eq_true rfl) rfl ?_
  intro p e s m args below meth c Q C0 hr hlk hnm hQ hw ls hl
  have hx := C0.x
  have hb := C0.b
  refine lv_iconst (v := nI 2) hx hb dX1_lowestPower_0 (by decide) ?_
  refine lv_istore_n (lv' := [(1, .int (nI (2))), (0, .ref a)]) hx hb dX1_lowestPower_1 rfl hl (by decide) rfl (fun ls hl => ?_)
  have lp2 : ∀ (n : Nat) (i : Nat), 2 ≤ i → i ≤ 7 → (∀ j, 2 ≤ j → j < i → (fun k => decide (u k ≠ 0)) j = false) → 7 + 1 - i < n → ∀ (F_95 : Nat → va_E) (H : Heap) (locs : List Loc), wD G L F_95 s H locs → (∀ q, F_95 q = F q) → ∀ ls : Array Slot, lv_has ls 2 [(0, .ref a), (1, .int (nI (i)))] → W p l e rm_X1_lowestPower s m args below meth c H locs 0 0 Q (F0 m 2 ls []) := by
    intro n
    induction n with
    | zero => intro i hlo hhi hall hm; exact absurd hm (Nat.not_lt_zero _)
    | succ n ih_2 =>
      intro i hlo hhi hall hm F_95 H locs hw  fr_96 ls hl
      refine lv_iload_n hx hb dX1_lowestPower_2 rfl (lv_at hl 1 rfl) ?_
      refine lv_bipush (v := nI 6) hx hb dX1_lowestPower_3 (by decide) ?_
      refine n_icmp_gt (tgt := 22) hx hb dX1_lowestPower_5 (by decide) (by omega) (by decide) (fun c_5 => ?_) (fun c_5 => ?_)
      · skip
        obtain rfl : i = 7 := by omega
        refine lv_iconst (v := (-1)) hx hb dX1_lowestPower_22 (by decide) ?_
        exact r_i C0 hr hlk hw (v := (-1)) rfl ⟨(m_low_no hall).symm, (fun q  => (fr_96 q ))⟩ (Nat.le_refl _) (Nat.le_refl _) dX1_lowestPower_23 hQ
      · skip
        refine lv_aload_n hx hb dX1_lowestPower_8 rfl (lv_at hl 0 rfl) ?_
        refine lv_iload_n hx hb dX1_lowestPower_9 rfl (lv_at hl 1 rfl) ?_
        have f_97 : F_95 a = rw7 G u := (fr_96 a ).trans fa
        refine q_rld C0 hw ma f_97 (i) (by omega) dX1_lowestPower_10 (fun z_98 => ?_)
        refine n_if_eq (tgt := 16) hx hb dX1_lowestPower_11 (by decide) (by omega) (fun c_11 => ?_) (fun c_11 => ?_)
        · skip
          refine lv_iinc (v := nI (i + 1)) (lv' := [(1, .int (nI (i + 1))), (0, .ref a)]) hx hb dX1_lowestPower_16 hl (k := 1) rfl (nI_add _ _) (by decide) rfl (fun ls hl => ?_)
          refine lv_goto (tgt := 2) hx hb dX1_lowestPower_19 (by decide) ?_
          exact ih_2 (i + 1) ((by omega)) ((by omega)) ((m_low_ext hall (by simp only [decide_eq_false_iff_not, Decidable.not_not]; exact Fin.ext c_11))) (by omega) F_95 _ _ hw  (fun q  => (fr_96 q )) ls (lv_sub hl [1, 0] rfl)
        · skip
          refine lv_iload_n hx hb dX1_lowestPower_14 rfl (lv_at hl 1 rfl) ?_
          exact r_i C0 hr hlk hw (v := nI (i)) rfl ⟨(m_low_at (by omega) (by omega) hall (by simp only [decide_eq_true_eq]; intro h9; exact c_11 (by rw [h9]; rfl))).symm, (fun q  => (fr_96 q ))⟩ (Nat.le_refl _) (Nat.le_refl _) dX1_lowestPower_15 hQ
  exact lp2 _ (2) ((by omega)) ((by omega)) ((fun j h1 h2 => absurd h1 (by omega))) (Nat.lt_succ_self _) F _ _ hw  (fun q  => rfl) ls (lv_sub hl [1, 0] rfl)
theorem m_hv_s (u : Nat → ZP) (x : ZP) {r : Nat} (h : r + 1 ≤ 7) : zc ((m_hv u x (7 - (r + 1))).val * x.val + (u r).val) = m_hv u x (7 - r) := by
  rw [zc_add, zc_mul, zc_z, zc_z, zc_z, show 7 - r = (7 - (r + 1)) + 1 by omega]
  show _ = m_hv u x (7 - (r + 1)) * x + u (6 - (7 - (r + 1)))
  rw [show 6 - (7 - (r + 1)) = r by omega]
end
section
theorem CG_ofF {l : Launch} {y : MethodName} {cc : ByteArray} {nL : Nat} {rt : Option FieldType} {rm : Room} {G : Gl} {L : List Nat} {F : Nat → va_E} {vals : List Value} {Qf : (Nat → Prop) → Array Value → State → Outcome → State → Prop} {lv : List (Nat × Value)}
    (hy : plainFor y = true) (hn : (lg_sl vals).length ≤ nL) (hv : lv_args 0 vals = lv)
    (body : ∀ (p : Program) (e : Env) (s : State) (m : MethodId) (args : Array Value) (below : List Frame) (meth : Method) (c : Code) (Q : State → Prop), Cx p s m args c cc nL y.cls G L → meth.sig.returnType = rt → meth.locks = false → meth.name = y.name → Q = MQ below (Qf (wA L s.heap.size)) args s rm.cells rm.slots (wA L s.heap.size) → wD G L F s s.heap [] → ∀ ls : Array Slot, lv_has ls nL lv →
      W p l e rm s m args below meth c s.heap [] 0 0 Q (F0 m 0 ls [])) : CG l y cc nL rt rm G L F vals Qf := by
  intro sz
  refine va_MetF (cc := cc) (maxL := nL) (ret := rt) hy rfl ?_
  intro p e s m args below meth c s₁ B hml hq
  obtain ⟨rfl, hsz, hP, hD0, hAm⟩ := hq
  subst hsz
  have hts := atoms_spec (ws := Cond.code y cc nL rt :: TB) B.pre
  have hl := lv_entry vals (n := nL) hn
  rw [lg_entry_eq]
  rw [hv] at hl
  exact body p e s m _ below meth c _ ⟨B.exec, B.bytes, hml, findClass_of_methodNamed B.named, fun w h => hts w (List.mem_cons_of_mem _ h), hAm⟩ B.returns B.notSynchronized (name_of_methodNamed B.named B.method).1 rfl (wD.start hP hD0) _ hl
def zi (x : Int32) : ZP := zc (x.toInt % 10007).toNat
theorem zi_toInt (x : Int32) : ((zi x).val : Int) = x.toInt % 10007 := by
  show (((x.toInt % 10007).toNat % 10007 : Nat) : Int) = _
  omega
theorem zi_nI {n : Nat} (h : n < 2 ^ 31) : zi (nI n) = zc n := by
  unfold zi
  rw [nI_toInt h]
  refine Fin.ext ?_
  show ((n : Int) % 10007).toNat % 10007 = n % 10007
  omega
theorem zi_eq {x y : Int32} (h : y.toInt = x.toInt % 10007) : y = nI (zi x).val := by
  refine Int32.toInt_inj.mp ?_
  rw [h, nI_toInt (by have := (zi x).isLt; omega), zi_toInt]
theorem fm_sgn (x : Int32) : (0 ≤ x ^^^ nI 10007) ↔ 0 ≤ x.toInt := by
  have h1 : (x ^^^ nI 10007).toBitVec.msb = x.toBitVec.msb := by
    rw [Int32.toBitVec_xor, BitVec.msb_xor]
    have h2 : (nI 10007).toBitVec.msb = false := by decide
    rw [h2, Bool.xor_false]
  rw [BitVec.msb_eq_toInt, BitVec.msb_eq_toInt] at h1
  rw [Int32.le_iff_toInt_le]
  have h3 : ((x ^^^ nI 10007).toBitVec.toInt < 0) ↔ (x.toBitVec.toInt < 0) := by simpa using h1
  show 0 ≤ (x ^^^ nI 10007).toBitVec.toInt ↔ 0 ≤ x.toBitVec.toInt
  omega
theorem fm_c : (nI 10007).toInt = 10007 := by decide
theorem fm_A {x : Int32} (h : 0 ≤ x ^^^ nI 10007) : x - x / nI 10007 * nI 10007 = nI (zi x).val := zi_eq (by rw [rem_toInt, fm_c, Int.tmod_eq_emod_of_nonneg ((fm_sgn x).mp h)])
theorem fm_t (a : Int) (h : a < 0) : a.tmod 10007 = - ((-a) % 10007) := by rw [← Int.tmod_eq_emod_of_nonneg (by omega), Int.neg_tmod, Int.neg_neg]
theorem fm_B {x : Int32} (h : ¬ 0 ≤ x ^^^ nI 10007) (h0 : x - x / nI 10007 * nI 10007 = 0) : x - x / nI 10007 * nI 10007 = nI (zi x).val := zi_eq (by
  have h1 : ¬ 0 ≤ x.toInt := fun z => h ((fm_sgn x).mpr z)
  have h2 := congrArg Int32.toInt h0
  rw [rem_toInt, fm_c, fm_t _ (by omega)] at h2
  rw [rem_toInt, fm_c, fm_t _ (by omega)]
  have h3 : (0 : Int32).toInt = 0 := rfl
  omega)
theorem fm_C {x : Int32} (h : ¬ 0 ≤ x ^^^ nI 10007) (h0 : ¬ x - x / nI 10007 * nI 10007 = 0) : x - x / nI 10007 * nI 10007 + nI 10007 = nI (zi x).val := zi_eq (by
  have h1 : ¬ 0 ≤ x.toInt := fun z => h ((fm_sgn x).mpr z)
  have h2 : ¬ (x - x / nI 10007 * nI 10007).toInt = 0 := fun z => h0 (Int32.toInt_inj.mp z)
  rw [rem_toInt, fm_c, fm_t _ (by omega)] at h2
  rw [Int32.toInt_add, rem_toInt, fm_c, fm_t _ (by omega)]
  rw [Int.bmod_eq_of_le (by omega) (by omega)]
  omega)
section IROWS
variable {p : Program} {l : Launch} {e : Env} {R : Room} {s : State} {m : MethodId} {args : Array Value} {below : List Frame} {meth : Method} {c : Code} {H : Heap} {locs : List Loc} {cells slots : Nat} {Q : State → Prop}
variable {cc : ByteArray} {pc : Nat} {ls : Array Slot} {rest : List Value}
theorem n_shr {a b : Nat} (ha : a < 2 ^ 31) (hb : b < 31) : nI a >>> (nI b &&& 31) = nI (a / 2 ^ b) := by
  have e : nI b &&& 31 = nI (b % 2 ^ 5) := pk_andN (n := b) (by omega) 5 rfl
  rw [e]
  have e2 : b % 2 ^ 5 = b := by omega
  rw [e2]
  refine pk_shrN ha (nI b) b ?_
  have h : ∀ b : Fin 31, ((nI b.val).toBitVec.smod 32).toNat = b.val := by decide +kernel
  exact h ⟨b, hb⟩
theorem n_ishr (hx : p.tables.exec = Jvm.exec) (hb : c.code = cc) {a b : Nat} (ha : a < 2 ^ 31) (hb2 : b < 31) (hdg : decode cc pc = .ok (.ishr, 1)) (k : W p l e R s m args below meth c H locs cells slots Q (F0 m (pc + 1) ls (.int (nI (a / 2 ^ b)) :: rest))) : W p l e R s m args below meth c H locs cells slots Q (F0 m pc ls (.int (nI b) :: .int (nI a) :: rest)) := lv_ishr hx hb hdg (by rw [n_shr ha hb2]; exact k)
theorem n_iand (hx : p.tables.exec = Jvm.exec) (hb : c.code = cc) {a d : Nat} (ha : a < 2 ^ 31) (k : Nat) (hk : d = 2 ^ k - 1) (hdg : decode cc pc = .ok (.iand, 1)) (kk : W p l e R s m args below meth c H locs cells slots Q (F0 m (pc + 1) ls (.int (nI (a % 2 ^ k)) :: rest))) (hd : d < 2 ^ 31 := by decide) : W p l e R s m args below meth c H locs cells slots Q (F0 m pc ls (.int (nI d) :: .int (nI a) :: rest)) := lv_iand hx hb hdg (by rw [pk_andN (n := a) (by omega) k (by rw [pk_tn (by omega)]; exact hk)]; exact kk)
theorem n_iandI (hx : p.tables.exec = Jvm.exec) (hb : c.code = cc) {x : Int32} {d : Nat} (k : Nat) (hk : d = 2 ^ k - 1) (hd : d < 2 ^ 31) (hdg : decode cc pc = .ok (.iand, 1)) (kk : ∀ z : Nat, z < 2 ^ k → W p l e R s m args below meth c H locs cells slots Q (F0 m (pc + 1) ls (.int (nI z) :: rest))) : W p l e R s m args below meth c H locs cells slots Q (F0 m pc ls (.int (nI d) :: .int x :: rest)) := lv_iand hx hb hdg (by
  rw [pk_and x k (by rw [pk_tn (by omega)]; exact hk)]
  exact kk _ (Nat.mod_lt _ (Nat.two_pow_pos k)))
end IROWS
abbrev rm_J9_floorMod_7cf53 : Room := { frames := 0, cells := 0, slots := 0, locals := 0 }
set_option maxHeartbeats 4000000 in
set_option maxRecDepth 100000 in
theorem c_J9_floorMod_7cf53 (l : Launch) (G : Gl) (L : List Nat) (F : Nat → va_E) (x : Int32) : CI l yJ9_floorMod_7cf53 cJ9_floorMod_7cf53 3 (some .int) rm_J9_floorMod_7cf53 G L F [.int (x), .int (nI (10007))] (fun r F1 => r = nI (zi x).val ∧ ∀ q, F1 q = F q) := by
  refine CG_ofF (by decide +kernel) (Nat.le_of_ble_eq_true rfl) rfl ?_
  intro p e s m args below meth c Q C0 hr hlk hnm hQ hw ls hl
  have hx := C0.x
  have hb := C0.b
  refine lv_iload_n hx hb dJ9_floorMod_7cf53_0 rfl (lv_at hl 0 rfl) ?_
  refine lv_iload_n hx hb dJ9_floorMod_7cf53_1 rfl (lv_at hl 1 rfl) ?_
  refine lv_irem hx hb dJ9_floorMod_7cf53_2 (by decide) ?_
  refine lv_istore_n (lv' := [(2, .int (x - x / nI 10007 * nI 10007)), (0, .int (x)), (1, .int (nI (10007)))]) hx hb dJ9_floorMod_7cf53_3 rfl hl (by decide) rfl (fun ls hl => ?_)
  refine lv_iload_n hx hb dJ9_floorMod_7cf53_4 rfl (lv_at hl 1 rfl) ?_
  refine lv_iload_n hx hb dJ9_floorMod_7cf53_5 rfl (lv_at hl 2 rfl) ?_
  refine lv_ixor hx hb dJ9_floorMod_7cf53_6 ?_
  refine lv_if_ge (tgt := 18) hx hb dJ9_floorMod_7cf53_7 (by decide) (fun c_7 => ?_) (fun c_7 => ?_)
  · skip
    refine lv_iload_n hx hb dJ9_floorMod_7cf53_18 rfl (lv_at hl 0 rfl) ?_
    exact r_i C0 hr hlk hw (v := (x - x / nI 10007 * nI 10007)) rfl ⟨fm_A c_7, (fun q  => rfl)⟩ (Nat.le_refl _) (Nat.le_refl _) dJ9_floorMod_7cf53_19 hQ
  · skip
    refine lv_iload_n hx hb dJ9_floorMod_7cf53_10 rfl (lv_at hl 0 rfl) ?_
    refine lv_if_eq (tgt := 18) hx hb dJ9_floorMod_7cf53_11 (by decide) (fun c_11 => ?_) (fun c_11 => ?_)
    · skip
      refine lv_iload_n hx hb dJ9_floorMod_7cf53_18 rfl (lv_at hl 0 rfl) ?_
      exact r_i C0 hr hlk hw (v := (x - x / nI 10007 * nI 10007)) rfl ⟨fm_B c_7 c_11, (fun q  => rfl)⟩ (Nat.le_refl _) (Nat.le_refl _) dJ9_floorMod_7cf53_19 hQ
    · skip
      refine lv_iload_n hx hb dJ9_floorMod_7cf53_14 rfl (lv_at hl 0 rfl) ?_
      refine lv_iload_n hx hb dJ9_floorMod_7cf53_15 rfl (lv_at hl 2 rfl) ?_
      refine lv_iadd hx hb dJ9_floorMod_7cf53_16 ?_
      exact r_i C0 hr hlk hw (v := ((x - x / nI 10007 * nI 10007) + nI 10007)) rfl ⟨fm_C c_7 c_11, (fun q  => rfl)⟩ (Nat.le_refl _) (Nat.le_refl _) dJ9_floorMod_7cf53_17 hQ
end
section
theorem m_hn_r (u v : Nat → ZP) (cu r : Nat) (w : Nat → ZP) (hr : r + 1 ≤ cu + 1) : (fun q => if q < cu + 1 then va_up (m_upto (m_mulc (m_hn u v cu (cu + 1 - (r + 1))) u) w (cu + 1)) 0 (zc ((m_upto (m_mulc (m_hn u v cu (cu + 1 - (r + 1))) u) w (cu + 1) 0).val + (v r).val)) q else m_hn u v cu (cu + 1 - (r + 1)) q) = m_hn u v cu (cu + 1 - r) := by
  rw [show cu + 1 - r = (cu + 1 - (r + 1)) + 1 by omega]
  refine m_hn_s u v cu (cu + 1 - (r + 1)) w ?_
  rw [zc_add, zc_z, zc_z, show cu - (cu + 1 - (r + 1)) = r by omega]
  congr 1
theorem m_hn_0 (u v : Nat → ZP) (cu : Nat) : (fun _ => zc 0) = m_hn u v cu (cu + 1 - (cu + 1)) := by
  rw [Nat.sub_self]
  funext q
  rw [zc_0]
  simp only [m_hn]
theorem m_inn_s (u : Nat → ZP) (j : Nat) : va_up (m_inn u j) (j + 2) (zc (10007 - (m_sub u (m_inn u j) (j + 2) (j + 2)).val)) = m_inn u (j + 1) := by
  rw [zc_neg]
  rfl
theorem m_lon_s (u : Nat → ZP) (j : Nat) : va_up (m_lon u j) (j + 2) (zc ((u (j + 2)).val + 10007 - (m_exp (m_lon u j) (j + 2) (j + 2)).val)) = m_lon u (j + 1) := by
  rw [zc_sub, zc_z]
  rfl
abbrev rm_X1_takeBracket : Room := { frames := 2, cells := 0, slots := 0, locals := 51 }
set_option maxHeartbeats 4000000 in
set_option maxRecDepth 100000 in
theorem c_X1_takeBracket (l : Launch) (G : Gl) (L : List Nat) (F : Nat → va_E) (k : Nat) (ra : Nat → Nat) (a : Nat) (b : Nat) (o cu : Nat) (u : Nat → ZP) (v : Nat → ZP) (w : Nat → ZP) (s0 : Nat → ZP) (mk : k ∈ L) (fk : F k = rkO ra) (hra : ∀ i, i < 14 → ra i ∈ L) (hin : ∀ i j, i < 14 → j < 14 → ra i = ra j → i = j) (ma : a ∈ L) (fa : F a = rw7 G u) (mb : b ∈ L) (fb : F b = rw7 G v) (mo : o ∈ L) (fo : F o = rw7 G w) (fs0 : F (ra 0) = rw7 G s0) (nao : a ≠ o) (nbo : b ≠ o) (na0 : a ≠ ra 0) (nb0 : b ≠ ra 0) (no0 : o ≠ ra 0) (hc : cu ≤ 6) (hc2 : 2 ≤ cu) : CV l yX1_takeBracket cX1_takeBracket 5 none rm_X1_takeBracket G L F [.ref k, .ref a, .ref b, .int (nI (cu)), .ref o] (fun F1 => F1 o = rw7 G (m_br u v cu) ∧ (∃ t, F1 (ra 0) = rw7 G t) ∧ ∀ q, q ≠ o → q ≠ ra 0 → F1 q = F q) := by
  refine CG_of (by decide) (Nat.le_of_ble_eq_true rfl) rfl ?_
  intro p e s m args below meth c Q C0 hr hlk hnm hQ hw ls hl
  have hx := C0.x
  have hb := C0.b
  refine lv_aload_n hx hb dX1_takeBracket_0 rfl (lv_at hl 1 rfl) ?_
  refine lv_aload_n hx hb dX1_takeBracket_1 rfl (lv_at hl 2 rfl) ?_
  refine lv_iload_n hx hb dX1_takeBracket_2 rfl (lv_at hl 3 rfl) ?_
  refine lv_aload hx hb dX1_takeBracket_3 (lv_at hl 4 rfl) ?_
  refine q_callv hw (q_runS (As := [.ref a, .ref b, .int (nI (cu)), .ref o]) (c_X1_act l G L F a b o cu u v w ma fa mb fb mo fo (nao) (nbo) (by omega) (by omega)) C0 hw sw_X1_68 rfl hl.1 rfl (Nat.le_of_ble_eq_true rfl) dX1_takeBracket_5 ⟨by decide, by decide⟩ ⟨by decide, by decide⟩) rfl rfl (fun F_99 H locs hw hp_100 => ?_)
  refine lv_aload_n hx hb dX1_takeBracket_8 rfl (lv_at hl 2 rfl) ?_
  refine lv_aload_n hx hb dX1_takeBracket_9 rfl (lv_at hl 1 rfl) ?_
  refine lv_iload_n hx hb dX1_takeBracket_10 rfl (lv_at hl 3 rfl) ?_
  refine lv_aload_n hx hb dX1_takeBracket_11 rfl (lv_at hl 0 rfl) ?_
  have f_101 : F_99 k = rkO ra := (hp_100.2 k (ne_oa fk fo)).trans fk
  refine q_get C0 hw mk f_101 fw_X1_9 rfl dX1_takeBracket_12 ?_
  have f_102 : F_99 b = rw7 G v := (hp_100.2 b (nbo)).trans fb
  have f_103 : F_99 a = rw7 G u := (hp_100.2 a (nao)).trans fa
  have f_104 : F_99 (ra 0) = rw7 G s0 := (hp_100.2 (ra 0) (Ne.symm (no0))).trans fs0
  refine q_callv hw (q_runS (As := [.ref b, .ref a, .int (nI (cu)), .ref (ra 0)]) (c_X1_act l G L F_99 b a (ra 0) cu v u s0 mb f_102 ma f_103 ((hra 0 (by decide))) f_104 (nb0) (na0) (by omega) (by omega)) C0 hw sw_X1_68 rfl hl.1 rfl (Nat.le_of_ble_eq_true rfl) dX1_takeBracket_15 ⟨by decide, by decide⟩ ⟨by decide, by decide⟩) rfl rfl (fun F_105 H locs hw hp_106 => ?_)
  refine lv_aload hx hb dX1_takeBracket_18 (lv_at hl 4 rfl) ?_
  refine lv_aload_n hx hb dX1_takeBracket_20 rfl (lv_at hl 0 rfl) ?_
  have f_107 : F_105 k = rkO ra := (hp_106.2 k (ne_oa f_101 f_104)).trans f_101
  refine q_get C0 hw mk f_107 fw_X1_9 rfl dX1_takeBracket_21 ?_
  refine lv_sipush (v := nI 10006) hx hb dX1_takeBracket_24 (by decide) ?_
  have f_108 : F_105 o = rw7 G ((m_act u v cu)) := (hp_106.2 o (no0)).trans hp_100.1
  refine q_callv hw (q_runS (As := [.ref o, .ref (ra 0), .int (nI (10006))]) (c_X1_addMultiple l G L F_105 o (ra 0) ((m_act u v cu)) ((m_act v u cu)) (zc 10006) mo f_108 ((hra 0 (by decide))) hp_106.1 (Ne.symm (no0))) C0 hw sw_X1_72 rfl hl.1 rfl (Nat.le_of_ble_eq_true rfl) dX1_takeBracket_27 ⟨by decide, by decide⟩ ⟨by decide, by decide⟩) rfl rfl (fun F_109 H locs hw hp_110 => ?_)
  have f_111 : F_109 (ra 0) = rw7 G ((m_act v u cu)) := (hp_110.2 (ra 0) (Ne.symm (no0))).trans hp_106.1
  exact r_v C0 hr hlk hw ⟨hp_110.1, ⟨_, f_111⟩, (fun q k0 k1 => ((hp_110.2 q k0).trans ((hp_106.2 q k1).trans (hp_100.2 q k0))))⟩ (Nat.le_refl _) (Nat.le_refl _) dX1_takeBracket_30 hQ
theorem g_inv_at {i : Nat} (h : i < 6) : g_inv i = .int (nI (m_iv i).val) := by
  rcases (show i = 0 ∨ i = 1 ∨ i = 2 ∨ i = 3 ∨ i = 4 ∨ i = 5 by omega) with rfl | rfl | rfl | rfl | rfl | rfl <;> rfl
theorem m_exO_s (u : Nat → ZP) (cu j : Nat) : m_am (m_exO u cu j) (m_scale (m_act u (m_exT u cu j) cu) (m_iv (j + 1))) (zc 1) = m_exO u cu (j + 1) := rfl
theorem m_exT_s (u : Nat → ZP) (cu j : Nat) : m_scale (m_act u (m_exT u cu j) cu) (m_iv (j + 1)) = m_exT u cu (j + 1) := rfl
abbrev rm_X1_exponential : Room := { frames := 2, cells := 0, slots := 0, locals := 51 }
set_option maxHeartbeats 4000000 in
set_option maxRecDepth 100000 in
theorem c_X1_exponential (l : Launch) (G : Gl) (L : List Nat) (F : Nat → va_E) (k : Nat) (ra : Nat → Nat) (a : Nat) (o cu : Nat) (u : Nat → ZP) (w : Nat → ZP) (s1 : Nat → ZP) (s2 : Nat → ZP) (mk : k ∈ L) (fk : F k = rkO ra) (hra : ∀ i, i < 14 → ra i ∈ L) (hin : ∀ i j, i < 14 → j < 14 → ra i = ra j → i = j) (ma : a ∈ L) (fa : F a = rw7 G u) (mo : o ∈ L) (fo : F o = rw7 G w) (fs1 : F (ra 1) = rw7 G s1) (fs2 : F (ra 2) = rw7 G s2) (nao : a ≠ o) (na1 : a ≠ ra 1) (no1 : o ≠ ra 1) (na2 : a ≠ ra 2) (no2 : o ≠ ra 2) (hc : cu ≤ 6) (hc2 : 2 ≤ cu) : CV l yX1_exponential cX1_exponential 5 none rm_X1_exponential G L F [.ref k, .ref a, .int (nI (cu)), .ref o] (fun F1 => F1 o = rw7 G (m_exp u cu) ∧ (∃ t, F1 (ra 1) = rw7 G t) ∧ (∃ t, F1 (ra 2) = rw7 G t) ∧ ∀ q, q ≠ o → q ≠ ra 1 → q ≠ ra 2 → F1 q = F q) := by
  refine CG_of (by decide) (Nat.le_of_ble_eq_true rfl) rfl ?_
  intro p e s m args below meth c Q C0 hr hlk hnm hQ hw ls hl
  have hx := C0.x
  have hb := C0.b
  refine lv_aload_n hx hb dX1_exponential_0 rfl (lv_at hl 3 rfl) ?_
  refine q_callv hw (q_runS (As := [.ref o]) (c_X1_makeX l G L F o w mo fo) C0 hw sw_X1_76 rfl hl.1 rfl (Nat.le_of_ble_eq_true rfl) dX1_exponential_1 ⟨by decide, by decide⟩ ⟨by decide, by decide⟩) rfl rfl (fun F_112 H locs hw hp_113 => ?_)
  refine lv_aload_n hx hb dX1_exponential_4 rfl (lv_at hl 0 rfl) ?_
  have f_114 : F_112 k = rkO ra := (hp_113.2 k (ne_oa fk fo)).trans fk
  refine q_get C0 hw mk f_114 fw_X1_15 rfl dX1_exponential_5 ?_
  have f_115 : F_112 (ra 1) = rw7 G s1 := (hp_113.2 (ra 1) (Ne.symm (no1))).trans fs1
  refine q_callv hw (q_runS (As := [.ref (ra 1)]) (c_X1_makeX l G L F_112 (ra 1) s1 ((hra 1 (by decide))) f_115) C0 hw sw_X1_76 rfl hl.1 rfl (Nat.le_of_ble_eq_true rfl) dX1_exponential_8 ⟨by decide, by decide⟩ ⟨by decide, by decide⟩) rfl rfl (fun F_116 H locs hw hp_117 => ?_)
  refine lv_iconst (v := nI 1) hx hb dX1_exponential_11 (by decide) ?_
  refine lv_istore (lv' := [(4, .int (nI (1))), (0, .ref k), (1, .ref a), (2, .int (nI (cu))), (3, .ref o)]) hx hb dX1_exponential_12 hl (by decide) rfl (fun ls hl => ?_)
  have lp14 : ∀ (n : Nat) (j : Nat) (t2 : Nat → ZP), 0 ≤ j → j ≤ cu - 1 → (cu - 1) + 1 - j < n → ∀ (F_118 : Nat → va_E) (H : Heap) (locs : List Loc), wD G L F_118 s H locs → F_118 o = rw7 G (m_exO u cu j) → F_118 (ra 1) = rw7 G (m_exT u cu j) → F_118 (ra 2) = rw7 G t2 → (∀ q, q ≠ o → q ≠ (ra 1) → q ≠ (ra 2) → F_118 q = F q) → ∀ ls : Array Slot, lv_has ls 5 [(0, .ref k), (1, .ref a), (2, .int (nI (cu))), (3, .ref o), (4, .int (nI (j + 1)))] → W p l e rm_X1_exponential s m args below meth c H locs 0 0 Q (F0 m 14 ls []) := by
    intro n
    induction n with
    | zero => intro j t2 hlo hhi hm; exact absurd hm (Nat.not_lt_zero _)
    | succ n ih_14 =>
      intro j t2 hlo hhi hm F_118 H locs hw f_119 f_120 f_121 fr_122 ls hl
      refine lv_iload hx hb dX1_exponential_14 (lv_at hl 4 rfl) ?_
      refine lv_iload_n hx hb dX1_exponential_16 rfl (lv_at hl 2 rfl) ?_
      refine n_icmp_ge (tgt := 74) hx hb dX1_exponential_17 (by decide) (by omega) (by omega) (fun c_17 => ?_) (fun c_17 => ?_)
      · skip
        obtain rfl : j = cu - 1 := by omega
        exact r_v C0 hr hlk hw ⟨f_119, ⟨_, f_120⟩, ⟨_, f_121⟩, (fun q k0 k1 k2 => (fr_122 q k0 k1 k2))⟩ (Nat.le_refl _) (Nat.le_refl _) dX1_exponential_74 hQ
      · skip
        refine lv_iload hx hb dX1_exponential_20 (lv_at hl 4 rfl) ?_
        refine q_inv C0 hw fwi dX1_exponential_22 (fun t_123 hT_124 => ?_)
        refine q_invlen C0 hw hT_124 dX1_exponential_25 ?_
        refine n_icmp_ge (tgt := 74) hx hb dX1_exponential_26 (by decide) (by omega) (by decide) (fun c_26 => ?_) (fun c_26 => ?_)
        · skip
          exact absurd c_26 (by omega)
        · skip
          refine lv_aload_n hx hb dX1_exponential_29 rfl (lv_at hl 1 rfl) ?_
          refine lv_aload_n hx hb dX1_exponential_30 rfl (lv_at hl 0 rfl) ?_
          have f_125 : F_118 k = rkO ra := (fr_122 k (ne_oa fk fo) (ne_oa fk fs1) (ne_oa fk fs2)).trans fk
          refine q_get C0 hw mk f_125 fw_X1_15 rfl dX1_exponential_31 ?_
          refine lv_iload_n hx hb dX1_exponential_34 rfl (lv_at hl 2 rfl) ?_
          refine lv_aload_n hx hb dX1_exponential_35 rfl (lv_at hl 0 rfl) ?_
          refine q_get C0 hw mk f_125 fw_X1_18 rfl dX1_exponential_36 ?_
          have f_126 : F_118 a = rw7 G u := (fr_122 a (nao) (na1) (na2)).trans fa
          refine q_callv hw (q_runS (As := [.ref a, .ref (ra 1), .int (nI (cu)), .ref (ra 2)]) (c_X1_act l G L F_118 a (ra 1) (ra 2) cu u (m_exT u cu j) t2 ma f_126 ((hra 1 (by decide))) f_120 ((hra 2 (by decide))) f_121 (na2) (fun h => absurd (hin 1 2 (by decide) (by decide) h) (by decide)) (by omega) (by omega)) C0 hw sw_X1_68 rfl hl.1 rfl (Nat.le_of_ble_eq_true rfl) dX1_exponential_39 ⟨by decide, by decide⟩ ⟨by decide, by decide⟩) rfl rfl (fun F_127 H locs hw hp_128 => ?_)
          refine lv_aload_n hx hb dX1_exponential_42 rfl (lv_at hl 0 rfl) ?_
          have f_129 : F_127 k = rkO ra := (hp_128.2 k (ne_oa f_125 f_121)).trans f_125
          refine q_get C0 hw mk f_129 fw_X1_18 rfl dX1_exponential_43 ?_
          refine q_inv C0 hw fwi dX1_exponential_46 (fun t_130 hT_131 => ?_)
          refine lv_iload hx hb dX1_exponential_49 (lv_at hl 4 rfl) ?_
          refine q_invld C0 hw hT_131 (j + 1) (by omega) (g_inv_at (by omega)) dX1_exponential_51 ?_
          refine lv_aload_n hx hb dX1_exponential_52 rfl (lv_at hl 0 rfl) ?_
          refine q_get C0 hw mk f_129 fw_X1_15 rfl dX1_exponential_53 ?_
          have f_132 : F_127 (ra 1) = rw7 G (m_exT u cu j) := (hp_128.2 (ra 1) (fun h => absurd (hin 1 2 (by decide) (by decide) h) (by decide))).trans f_120
          refine q_callv hw (q_runS (As := [.ref (ra 2), .int (nI ((m_iv (j + 1)).val)), .ref (ra 1)]) (c_X1_scaleRow l G L F_127 (ra 2) (ra 1) ((m_act u (m_exT u cu j) cu)) (m_exT u cu j) (m_iv (j + 1)) ((hra 2 (by decide))) hp_128.1 ((hra 1 (by decide))) f_132 (fun h => absurd (hin 2 1 (by decide) (by decide) h) (by decide))) C0 hw sw_X1_83 rfl hl.1 rfl (Nat.le_of_ble_eq_true rfl) dX1_exponential_56 ⟨by decide, by decide⟩ ⟨by decide, by decide⟩) rfl rfl (fun F_133 H locs hw hp_134 => ?_)
          refine lv_aload_n hx hb dX1_exponential_59 rfl (lv_at hl 3 rfl) ?_
          refine lv_aload_n hx hb dX1_exponential_60 rfl (lv_at hl 0 rfl) ?_
          have f_135 : F_133 k = rkO ra := (hp_134.2 k (ne_oa f_129 f_132)).trans f_129
          refine q_get C0 hw mk f_135 fw_X1_15 rfl dX1_exponential_61 ?_
          refine lv_iconst (v := nI 1) hx hb dX1_exponential_64 (by decide) ?_
          have f_136 : F_127 o = rw7 G (m_exO u cu j) := (hp_128.2 o (no2)).trans f_119
          have f_137 : F_133 o = rw7 G (m_exO u cu j) := (hp_134.2 o (no1)).trans f_136
          refine q_callv hw (q_runS (As := [.ref o, .ref (ra 1), .int (nI (1))]) (c_X1_addMultiple l G L F_133 o (ra 1) (m_exO u cu j) ((m_scale ((m_act u (m_exT u cu j) cu)) (m_iv (j + 1)))) (zc 1) mo f_137 ((hra 1 (by decide))) hp_134.1 (Ne.symm (no1))) C0 hw sw_X1_72 rfl hl.1 rfl (Nat.le_of_ble_eq_true rfl) dX1_exponential_65 ⟨by decide, by decide⟩ ⟨by decide, by decide⟩) rfl rfl (fun F_138 H locs hw hp_139 => ?_)
          refine lv_iinc (v := nI (j + 1 + 1)) (lv' := [(4, .int (nI (j + 1 + 1))), (0, .ref k), (1, .ref a), (2, .int (nI (cu))), (3, .ref o)]) hx hb dX1_exponential_68 hl (k := 4) rfl (nI_add _ _) (by decide) rfl (fun ls hl => ?_)
          refine lv_goto (tgt := 14) hx hb dX1_exponential_71 (by decide) ?_
          have f_140 : F_133 (ra 2) = rw7 G ((m_act u (m_exT u cu j) cu)) := (hp_134.2 (ra 2) (fun h => absurd (hin 2 1 (by decide) (by decide) h) (by decide))).trans hp_128.1
          have f_141 : F_138 (ra 2) = rw7 G ((m_act u (m_exT u cu j) cu)) := (hp_139.2 (ra 2) (Ne.symm (no2))).trans f_140
          have f_142 : F_138 (ra 1) = rw7 G ((m_scale ((m_act u (m_exT u cu j) cu)) (m_iv (j + 1)))) := (hp_139.2 (ra 1) (Ne.symm (no1))).trans hp_134.1
          exact ih_14 (j + 1) ((m_act u (m_exT u cu j) cu)) ((by omega)) ((by omega)) (by omega) F_138 _ _ hw (hp_139.1.trans (congrArg (rw7 G) ((m_exO_s u cu j)))) (f_142.trans (congrArg (rw7 G) ((m_exT_s u cu j)))) (f_141) (fun q k0 k1 k2 => ((hp_139.2 q k0).trans ((hp_134.2 q k1).trans ((hp_128.2 q k2).trans (fr_122 q k0 k1 k2))))) ls (lv_sub hl [1, 2, 3, 4, 0] rfl)
  have f_143 : F_116 o = rw7 G m_x := (hp_117.2 o (no1)).trans hp_113.1
  have f_144 : F_112 (ra 2) = rw7 G s2 := (hp_113.2 (ra 2) (Ne.symm (no2))).trans fs2
  have f_145 : F_116 (ra 2) = rw7 G s2 := (hp_117.2 (ra 2) (fun h => absurd (hin 2 1 (by decide) (by decide) h) (by decide))).trans f_144
  exact lp14 _ (0) (s2) ((by omega)) ((by omega)) (Nat.lt_succ_self _) F_116 _ _ hw (f_143) (hp_117.1) (f_145) (fun q k0 k1 k2 => ((hp_117.2 q k1).trans (hp_113.2 q k0))) ls (lv_sub hl [1, 2, 3, 4, 0] rfl)
abbrev rm_X1_substitute : Room := { frames := 1, cells := 0, slots := 0, locals := 40 }
set_option maxHeartbeats 4000000 in
set_option maxRecDepth 100000 in
theorem c_X1_substitute (l : Launch) (G : Gl) (L : List Nat) (F : Nat → va_E) (k : Nat) (ra : Nat → Nat) (a : Nat) (b : Nat) (o cu : Nat) (u : Nat → ZP) (v : Nat → ZP) (w : Nat → ZP) (s3 : Nat → ZP) (mk : k ∈ L) (fk : F k = rkO ra) (hra : ∀ i, i < 14 → ra i ∈ L) (hin : ∀ i j, i < 14 → j < 14 → ra i = ra j → i = j) (ma : a ∈ L) (fa : F a = rw7 G u) (mb : b ∈ L) (fb : F b = rw7 G v) (mo : o ∈ L) (fo : F o = rw7 G w) (fs3 : F (ra 3) = rw7 G s3) (nao : a ≠ o) (nbo : b ≠ o) (na3 : a ≠ ra 3) (nb3 : b ≠ ra 3) (no3 : o ≠ ra 3) (hc : cu ≤ 6) (hc2 : 2 ≤ cu) : CV l yX1_substitute cX1_substitute 6 none rm_X1_substitute G L F [.ref k, .ref a, .ref b, .int (nI (cu)), .ref o] (fun F1 => F1 o = rw7 G (m_sub u v cu) ∧ (∃ t, F1 (ra 3) = rw7 G t) ∧ ∀ q, q ≠ o → q ≠ ra 3 → F1 q = F q) := by
  refine CG_of (by decide) (Nat.le_of_ble_eq_true rfl) rfl ?_
  intro p e s m args below meth c Q C0 hr hlk hnm hQ hw ls hl
  have hx := C0.x
  have hb := C0.b
  refine lv_aload hx hb dX1_substitute_0 (lv_at hl 4 rfl) ?_
  refine lv_iconst (v := nI 0) hx hb dX1_substitute_2 (by decide) ?_
  refine q_callv hw (q_runS (As := [.ref o, .int (nI (0))]) (c_J7_fill_53178 l G L F o w (zc 0) mo fo) C0 hw sw_X1_62 rfl hl.1 rfl (Nat.le_of_ble_eq_true rfl) dX1_substitute_3 ⟨by decide, by decide⟩ ⟨by decide, by decide⟩) rfl rfl (fun F_146 H locs hw hp_147 => ?_)
  refine lv_iload_n hx hb dX1_substitute_6 rfl (lv_at hl 3 rfl) ?_
  refine lv_istore (lv' := [(5, .int (nI (cu))), (0, .ref k), (1, .ref a), (2, .ref b), (3, .int (nI (cu))), (4, .ref o)]) hx hb dX1_substitute_7 hl (by decide) rfl (fun ls hl => ?_)
  have hl : lv_has ls 6 [(5, .int (nI (cu + 1) + (-1))), (0, .ref k), (1, .ref a), (2, .ref b), (3, .int (nI (cu))), (4, .ref o)] := (by rw [pk_m1]; exact hl)
  have lp9 : ∀ (n : Nat) (r : Nat) (t3 : Nat → ZP), r ≤ cu + 1 → r < n → ∀ (F_148 : Nat → va_E) (H : Heap) (locs : List Loc), wD G L F_148 s H locs → F_148 o = rw7 G (m_hn u v cu (cu + 1 - r)) → F_148 (ra 3) = rw7 G t3 → (∀ q, q ≠ o → q ≠ (ra 3) → F_148 q = F q) → ∀ ls : Array Slot, lv_has ls 6 [(0, .ref k), (1, .ref a), (2, .ref b), (3, .int (nI (cu))), (4, .ref o), (5, .int (nI (r) + (-1)))] → W p l e rm_X1_substitute s m args below meth c H locs 0 0 Q (F0 m 9 ls []) := by
    intro n
    induction n with
    | zero => intro r t3 hr9 hm; exact absurd hm (Nat.not_lt_zero _)
    | succ n ih_9 =>
      intro r t3 hr9 hm F_148 H locs hw f_149 f_150 fr_151 ls hl
      rcases r with _ | r
      · skip
        have hl : lv_has ls 6 [(0, .ref k), (1, .ref a), (2, .ref b), (3, .int (nI (cu))), (4, .ref o), (5, .int ((-1)))] := hl
        refine lv_iload hx hb dX1_substitute_9 (lv_at hl 5 rfl) ?_
        refine lv_if_lt (tgt := 66) hx hb dX1_substitute_11 (by decide) (fun c_11 => ?_) (fun c_11 => ?_)
        · skip
          exact r_v C0 hr hlk hw ⟨f_149, ⟨_, f_150⟩, (fun q k0 k1 => (fr_151 q k0 k1))⟩ (Nat.le_refl _) (Nat.le_refl _) dX1_substitute_66 hQ
        · skip
          exact absurd (by decide) c_11
      · skip
        have hl : lv_has ls 6 [(0, .ref k), (1, .ref a), (2, .ref b), (3, .int (nI (cu))), (4, .ref o), (5, .int (nI (r)))] := (by rw [pk_m1] at hl; exact hl)
        refine lv_iload hx hb dX1_substitute_9 (lv_at hl 5 rfl) ?_
        refine n_if_lt (tgt := 66) hx hb dX1_substitute_11 (by decide) (by omega) ?_
        refine lv_aload hx hb dX1_substitute_14 (lv_at hl 4 rfl) ?_
        refine lv_aload_n hx hb dX1_substitute_16 rfl (lv_at hl 1 rfl) ?_
        refine lv_iload_n hx hb dX1_substitute_17 rfl (lv_at hl 3 rfl) ?_
        refine lv_aload_n hx hb dX1_substitute_18 rfl (lv_at hl 0 rfl) ?_
        have f_152 : F_148 k = .inr (1, [.ref (ra 0), .ref (ra 1), .ref (ra 2), .ref (ra 3), .ref (ra 4), .ref (ra 5), .ref (ra 6), .ref (ra 7), .ref (ra 8), .ref (ra 9), .ref (ra 10), .ref (ra 11), .ref (ra 12), .ref (ra 13)]) := (fr_151 k (ne_oa fk fo) (ne_oa fk fs3)).trans fk
        refine q_get C0 hw mk f_152 fw_X1_21 rfl dX1_substitute_19 ?_
        have f_153 : F_148 a = rw7 G u := (fr_151 a (nao) (na3)).trans fa
        refine q_callv hw (q_runS (As := [.ref o, .ref a, .int (nI (cu)), .ref (ra 3)]) (c_X1_multiply l G L F_148 o a (ra 3) cu (m_hn u v cu (cu + 1 - (r + 1))) u t3 mo f_149 ma f_153 ((hra 3 (by decide))) f_150 (no3) (na3) (by omega)) C0 hw sw_X1_87 rfl hl.1 rfl (Nat.le_of_ble_eq_true rfl) dX1_substitute_22 ⟨by decide, by decide⟩ ⟨by decide, by decide⟩) rfl rfl (fun F_154 H locs hw hp_155 => ?_)
        refine lv_aload_n hx hb dX1_substitute_25 rfl (lv_at hl 0 rfl) ?_
        have f_156 : F_154 k = .inr (1, [.ref (ra 0), .ref (ra 1), .ref (ra 2), .ref (ra 3), .ref (ra 4), .ref (ra 5), .ref (ra 6), .ref (ra 7), .ref (ra 8), .ref (ra 9), .ref (ra 10), .ref (ra 11), .ref (ra 12), .ref (ra 13)]) := (hp_155.2 k (ne_oa f_152 f_150)).trans f_152
        refine q_get C0 hw mk f_156 fw_X1_21 rfl dX1_substitute_26 ?_
        refine lv_iconst (v := nI 0) hx hb dX1_substitute_29 (by decide) ?_
        refine lv_aload_n hx hb dX1_substitute_30 rfl (lv_at hl 0 rfl) ?_
        refine q_get C0 hw mk f_156 fw_X1_21 rfl dX1_substitute_31 ?_
        refine lv_iconst (v := nI 0) hx hb dX1_substitute_34 (by decide) ?_
        refine q_rld C0 hw ((hra 3 (by decide))) hp_155.1 (0) (by omega) dX1_substitute_35 (fun z_157 => ?_)
        refine lv_aload_n hx hb dX1_substitute_36 rfl (lv_at hl 2 rfl) ?_
        refine lv_iload hx hb dX1_substitute_37 (lv_at hl 5 rfl) ?_
        have f_158 : F_148 b = rw7 G v := (fr_151 b (nbo) (nb3)).trans fb
        have f_159 : F_154 b = rw7 G v := (hp_155.2 b (nb3)).trans f_158
        refine q_rld C0 hw mb f_159 (r) (by omega) dX1_substitute_39 (fun z_160 => ?_)
        refine n_iadd hx hb dX1_substitute_40 ?_
        refine lv_sipush (v := nI 10007) hx hb dX1_substitute_41 (by decide) ?_
        refine n_iremP hx hb (by omega) dX1_substitute_44 ?_
        refine q_rst C0 hw ((hra 3 (by decide))) hp_155.1 (0) (by omega) (z := zc ((((m_upto (m_mulc (m_hn u v cu (cu + 1 - (r + 1))) u) t3 (cu + 1))) (0)).val + ((v (r)).val))) dX1_substitute_45 (fun F_161 H locs hw f_162 o_163 => ?_)
        refine lv_aload_n hx hb dX1_substitute_46 rfl (lv_at hl 0 rfl) ?_
        have f_164 : F_161 k = .inr (1, [.ref (ra 0), .ref (ra 1), .ref (ra 2), .ref (ra 3), .ref (ra 4), .ref (ra 5), .ref (ra 6), .ref (ra 7), .ref (ra 8), .ref (ra 9), .ref (ra 10), .ref (ra 11), .ref (ra 12), .ref (ra 13)]) := (o_163 k (ne_oa f_156 hp_155.1)).trans f_156
        refine q_get C0 hw mk f_164 fw_X1_21 rfl dX1_substitute_47 ?_
        refine lv_iconst (v := nI 0) hx hb dX1_substitute_50 (by decide) ?_
        refine lv_aload hx hb dX1_substitute_51 (lv_at hl 4 rfl) ?_
        refine lv_iconst (v := nI 0) hx hb dX1_substitute_53 (by decide) ?_
        refine lv_iload_n hx hb dX1_substitute_54 rfl (lv_at hl 3 rfl) ?_
        refine lv_iconst (v := nI 1) hx hb dX1_substitute_55 (by decide) ?_
        refine n_iadd hx hb dX1_substitute_56 ?_
        have f_165 : F_154 o = rw7 G (m_hn u v cu (cu + 1 - (r + 1))) := (hp_155.2 o (no3)).trans f_149
        have f_166 : F_161 o = rw7 G (m_hn u v cu (cu + 1 - (r + 1))) := (o_163 o (no3)).trans f_165
        refine q_copy C0 hw hl.1 aw_X1_90 ((hra 3 (by decide))) mo f_162 f_166 (n := cu + 1) (by omega) (by decide) (by decide) dX1_substitute_57 (fun F_167 H locs hw f_168 o_169 => ?_)
        refine lv_iinc (v := nI (r) + (-1)) (lv' := [(5, .int (nI (r) + (-1))), (0, .ref k), (1, .ref a), (2, .ref b), (3, .int (nI (cu))), (4, .ref o)]) hx hb dX1_substitute_60 hl (k := 5) rfl rfl (by decide) rfl (fun ls hl => ?_)
        refine lv_goto (tgt := 9) hx hb dX1_substitute_63 (by decide) ?_
        have f_170 : F_167 (ra 3) = rw7 G (va_up ((m_upto (m_mulc (m_hn u v cu (cu + 1 - (r + 1))) u) t3 (cu + 1))) (0) (zc ((((m_upto (m_mulc (m_hn u v cu (cu + 1 - (r + 1))) u) t3 (cu + 1))) (0)).val + ((v (r)).val)))) := (o_169 (ra 3) (Ne.symm (no3))).trans f_162
        exact ih_9 (r) (va_up ((m_upto (m_mulc (m_hn u v cu (cu + 1 - (r + 1))) u) t3 (cu + 1))) (0) (zc ((((m_upto (m_mulc (m_hn u v cu (cu + 1 - (r + 1))) u) t3 (cu + 1))) (0)).val + ((v (r)).val)))) ((by omega)) (by omega) F_167 _ _ hw (f_168.trans (congrArg (rw7 G) ((m_hn_r u v cu r _ hr9)))) (f_170) (fun q k0 k1 => ((o_169 q k0).trans ((o_163 q k1).trans ((hp_155.2 q k1).trans (fr_151 q k0 k1))))) ls (lv_sub hl [1, 2, 3, 4, 5, 0] rfl)
  have f_171 : F_146 (ra 3) = rw7 G s3 := (hp_147.2 (ra 3) (Ne.symm (no3))).trans fs3
  exact lp9 _ (cu + 1) (s3) ((Nat.le_refl _)) (Nat.lt_succ_self _) F_146 _ _ hw (hp_147.1.trans (congrArg (rw7 G) ((m_hn_0 u v cu)))) (f_171) (fun q k0 k1 => (hp_147.2 q k0)) ls (lv_sub hl [1, 2, 3, 4, 5, 0] rfl)
abbrev rm_X1_inverse : Room := { frames := 2, cells := 0, slots := 0, locals := 65 }
set_option maxHeartbeats 4000000 in
set_option maxRecDepth 100000 in
theorem c_X1_inverse (l : Launch) (G : Gl) (L : List Nat) (F : Nat → va_E) (k : Nat) (ra : Nat → Nat) (a : Nat) (o cu : Nat) (u : Nat → ZP) (w : Nat → ZP) (s4 : Nat → ZP) (s3 : Nat → ZP) (mk : k ∈ L) (fk : F k = rkO ra) (hra : ∀ i, i < 14 → ra i ∈ L) (hin : ∀ i j, i < 14 → j < 14 → ra i = ra j → i = j) (ma : a ∈ L) (fa : F a = rw7 G u) (mo : o ∈ L) (fo : F o = rw7 G w) (fs4 : F (ra 4) = rw7 G s4) (fs3 : F (ra 3) = rw7 G s3) (nao : a ≠ o) (na4 : a ≠ ra 4) (no4 : o ≠ ra 4) (na3 : a ≠ ra 3) (no3 : o ≠ ra 3) (hc : cu ≤ 6) (hc2 : 2 ≤ cu) : CV l yX1_inverse cX1_inverse 5 none rm_X1_inverse G L F [.ref k, .ref a, .int (nI (cu)), .ref o] (fun F1 => F1 o = rw7 G (m_inv u cu) ∧ (∃ t, F1 (ra 4) = rw7 G t) ∧ (∃ t, F1 (ra 3) = rw7 G t) ∧ ∀ q, q ≠ o → q ≠ ra 4 → q ≠ ra 3 → F1 q = F q) := by
  refine CG_of (by decide) (Nat.le_of_ble_eq_true rfl) rfl ?_
  intro p e s m args below meth c Q C0 hr hlk hnm hQ hw ls hl
  have hx := C0.x
  have hb := C0.b
  refine lv_aload_n hx hb dX1_inverse_0 rfl (lv_at hl 3 rfl) ?_
  refine q_callv hw (q_runS (As := [.ref o]) (c_X1_makeX l G L F o w mo fo) C0 hw sw_X1_76 rfl hl.1 rfl (Nat.le_of_ble_eq_true rfl) dX1_inverse_1 ⟨by decide, by decide⟩ ⟨by decide, by decide⟩) rfl rfl (fun F_172 H locs hw hp_173 => ?_)
  refine lv_iconst (v := nI 2) hx hb dX1_inverse_4 (by decide) ?_
  refine lv_istore (lv' := [(4, .int (nI (2))), (0, .ref k), (1, .ref a), (2, .int (nI (cu))), (3, .ref o)]) hx hb dX1_inverse_5 hl (by decide) rfl (fun ls hl => ?_)
  have lp7 : ∀ (n : Nat) (j : Nat) (t4 : Nat → ZP) (t3 : Nat → ZP), 0 ≤ j → j ≤ cu - 1 → (cu - 1) + 1 - j < n → ∀ (F_174 : Nat → va_E) (H : Heap) (locs : List Loc), wD G L F_174 s H locs → F_174 o = rw7 G (m_inn u j) → F_174 (ra 4) = rw7 G t4 → F_174 (ra 3) = rw7 G t3 → (∀ q, q ≠ o → q ≠ (ra 4) → q ≠ (ra 3) → F_174 q = F q) → ∀ ls : Array Slot, lv_has ls 5 [(0, .ref k), (1, .ref a), (2, .int (nI (cu))), (3, .ref o), (4, .int (nI (j + 2)))] → W p l e rm_X1_inverse s m args below meth c H locs 0 0 Q (F0 m 7 ls []) := by
    intro n
    induction n with
    | zero => intro j t4 t3 hlo hhi hm; exact absurd hm (Nat.not_lt_zero _)
    | succ n ih_7 =>
      intro j t4 t3 hlo hhi hm F_174 H locs hw f_175 f_176 f_177 fr_178 ls hl
      refine lv_iload hx hb dX1_inverse_7 (lv_at hl 4 rfl) ?_
      refine lv_iload_n hx hb dX1_inverse_9 rfl (lv_at hl 2 rfl) ?_
      refine n_icmp_gt (tgt := 50) hx hb dX1_inverse_10 (by decide) (by omega) (by omega) (fun c_10 => ?_) (fun c_10 => ?_)
      · skip
        obtain rfl : j = cu - 1 := by omega
        exact r_v C0 hr hlk hw ⟨f_175, ⟨_, f_176⟩, ⟨_, f_177⟩, (fun q k0 k1 k2 => (fr_178 q k0 k1 k2))⟩ (Nat.le_refl _) (Nat.le_refl _) dX1_inverse_50 hQ
      · skip
        refine lv_aload_n hx hb dX1_inverse_13 rfl (lv_at hl 0 rfl) ?_
        refine lv_aload_n hx hb dX1_inverse_14 rfl (lv_at hl 1 rfl) ?_
        refine lv_aload_n hx hb dX1_inverse_15 rfl (lv_at hl 3 rfl) ?_
        refine lv_iload hx hb dX1_inverse_16 (lv_at hl 4 rfl) ?_
        refine lv_aload_n hx hb dX1_inverse_18 rfl (lv_at hl 0 rfl) ?_
        have f_179 : F_174 k = rkO ra := (fr_178 k (ne_oa fk fo) (ne_oa fk fs4) (ne_oa fk fs3)).trans fk
        refine q_get C0 hw mk f_179 fw_X1_24 rfl dX1_inverse_19 ?_
        have f_180 : F_174 a = rw7 G u := (fr_178 a (nao) (na4) (na3)).trans fa
        refine q_callv hw (q_runV (As := [.ref a, .ref o, .int (nI (j + 2)), .ref (ra 4)]) (c_X1_substitute l G L F_174 k ra a o (ra 4) (j + 2) u (m_inn u j) t4 t3  mk f_179 hra hin ma f_180 mo f_175 ((hra 4 (by decide))) f_176 f_177 (na4) (no4) (na3) (no3) (fun h => absurd (hin 4 3 (by decide) (by decide) h) (by decide)) (by omega) (by omega) ) C0 hw vw_X1_96 mk f_179 rfl rfl rfl hl.1 rfl (Nat.le_of_ble_eq_true rfl) dX1_inverse_22 ⟨by decide, by decide⟩ ⟨by decide, by decide⟩) rfl rfl (fun F_181 H locs hw hp_182 => ?_)
        obtain ⟨f_183, ⟨t_185, f_184⟩, o_186⟩ := hp_182
        refine lv_aload_n hx hb dX1_inverse_25 rfl (lv_at hl 3 rfl) ?_
        refine lv_iload hx hb dX1_inverse_26 (lv_at hl 4 rfl) ?_
        refine lv_sipush (v := nI 10007) hx hb dX1_inverse_28 (by decide) ?_
        refine lv_aload_n hx hb dX1_inverse_31 rfl (lv_at hl 0 rfl) ?_
        have f_187 : F_181 k = rkO ra := (o_186 k (ne_oa f_179 f_176) (ne_oa f_179 f_177)).trans f_179
        refine q_get C0 hw mk f_187 fw_X1_24 rfl dX1_inverse_32 ?_
        refine lv_iload hx hb dX1_inverse_35 (lv_at hl 4 rfl) ?_
        refine q_rld C0 hw ((hra 4 (by decide))) f_183 (j + 2) (by omega) dX1_inverse_37 (fun z_188 => ?_)
        refine n_isub hx hb (by omega) dX1_inverse_38 ?_
        refine lv_sipush (v := nI 10007) hx hb dX1_inverse_39 (by decide) ?_
        refine n_iremP hx hb (by omega) dX1_inverse_42 ?_
        have f_189 : F_181 o = rw7 G (m_inn u j) := (o_186 o (no4) (no3)).trans f_175
        refine q_rst C0 hw mo f_189 (j + 2) (by omega) (z := zc (10007 - ((((m_sub u (m_inn u j) (j + 2))) (j + 2)).val))) dX1_inverse_43 (fun F_190 H locs hw f_191 o_192 => ?_)
        refine lv_iinc (v := nI (j + 2 + 1)) (lv' := [(4, .int (nI (j + 2 + 1))), (0, .ref k), (1, .ref a), (2, .int (nI (cu))), (3, .ref o)]) hx hb dX1_inverse_44 hl (k := 4) rfl (nI_add _ _) (by decide) rfl (fun ls hl => ?_)
        refine lv_goto (tgt := 7) hx hb dX1_inverse_47 (by decide) ?_
        have f_193 : F_190 (ra 4) = rw7 G ((m_sub u (m_inn u j) (j + 2))) := (o_192 (ra 4) (Ne.symm (no4))).trans f_183
        have f_194 : F_190 (ra 3) = rw7 G t_185 := (o_192 (ra 3) (Ne.symm (no3))).trans f_184
        exact ih_7 (j + 1) ((m_sub u (m_inn u j) (j + 2))) (t_185) ((by omega)) ((by omega)) (by omega) F_190 _ _ hw (f_191.trans (congrArg (rw7 G) ((m_inn_s u j)))) (f_193) (f_194) (fun q k0 k1 k2 => ((o_192 q k0).trans ((o_186 q k1 k2).trans (fr_178 q k0 k1 k2)))) ls (lv_sub hl [1, 2, 3, 4, 0] rfl)
  have f_195 : F_172 (ra 4) = rw7 G s4 := (hp_173.2 (ra 4) (Ne.symm (no4))).trans fs4
  have f_196 : F_172 (ra 3) = rw7 G s3 := (hp_173.2 (ra 3) (Ne.symm (no3))).trans fs3
  exact lp7 _ (0) (s4) (s3) ((by omega)) ((by omega)) (Nat.lt_succ_self _) F_172 _ _ hw (hp_173.1) (f_195) (f_196) (fun q k0 k1 k2 => (hp_173.2 q k0)) ls (lv_sub hl [1, 2, 3, 4, 0] rfl)
abbrev rm_X1_logarithm : Room := { frames := 3, cells := 0, slots := 0, locals := 75 }
set_option maxHeartbeats 4000000 in
set_option maxRecDepth 100000 in
theorem c_X1_logarithm (l : Launch) (G : Gl) (L : List Nat) (F : Nat → va_E) (k : Nat) (ra : Nat → Nat) (a : Nat) (o cu : Nat) (u : Nat → ZP) (w : Nat → ZP) (s4 : Nat → ZP) (s1 : Nat → ZP) (s2 : Nat → ZP) (mk : k ∈ L) (fk : F k = rkO ra) (hra : ∀ i, i < 14 → ra i ∈ L) (hin : ∀ i j, i < 14 → j < 14 → ra i = ra j → i = j) (ma : a ∈ L) (fa : F a = rw7 G u) (mo : o ∈ L) (fo : F o = rw7 G w) (fs4 : F (ra 4) = rw7 G s4) (fs1 : F (ra 1) = rw7 G s1) (fs2 : F (ra 2) = rw7 G s2) (nao : a ≠ o) (na4 : a ≠ ra 4) (no4 : o ≠ ra 4) (na1 : a ≠ ra 1) (no1 : o ≠ ra 1) (na2 : a ≠ ra 2) (no2 : o ≠ ra 2) (hc : cu ≤ 6) (hc2 : 2 ≤ cu) : CV l yX1_logarithm cX1_logarithm 5 none rm_X1_logarithm G L F [.ref k, .ref a, .int (nI (cu)), .ref o] (fun F1 => F1 o = rw7 G (m_log u cu) ∧ (∃ t, F1 (ra 4) = rw7 G t) ∧ (∃ t, F1 (ra 1) = rw7 G t) ∧ (∃ t, F1 (ra 2) = rw7 G t) ∧ ∀ q, q ≠ o → q ≠ ra 4 → q ≠ ra 1 → q ≠ ra 2 → F1 q = F q) := by
  refine CG_of (by decide) (Nat.le_of_ble_eq_true rfl) rfl ?_
  intro p e s m args below meth c Q C0 hr hlk hnm hQ hw ls hl
  have hx := C0.x
  have hb := C0.b
  refine lv_aload_n hx hb dX1_logarithm_0 rfl (lv_at hl 3 rfl) ?_
  refine lv_iconst (v := nI 0) hx hb dX1_logarithm_1 (by decide) ?_
  refine q_callv hw (q_runS (As := [.ref o, .int (nI (0))]) (c_J7_fill_53178 l G L F o w (zc 0) mo fo) C0 hw sw_X1_62 rfl hl.1 rfl (Nat.le_of_ble_eq_true rfl) dX1_logarithm_2 ⟨by decide, by decide⟩ ⟨by decide, by decide⟩) rfl rfl (fun F_197 H locs hw hp_198 => ?_)
  refine lv_iconst (v := nI 2) hx hb dX1_logarithm_5 (by decide) ?_
  refine lv_istore (lv' := [(4, .int (nI (2))), (0, .ref k), (1, .ref a), (2, .int (nI (cu))), (3, .ref o)]) hx hb dX1_logarithm_6 hl (by decide) rfl (fun ls hl => ?_)
  have lp8 : ∀ (n : Nat) (j : Nat) (t4 : Nat → ZP) (t1 : Nat → ZP) (t2 : Nat → ZP), 0 ≤ j → j ≤ cu - 1 → (cu - 1) + 1 - j < n → ∀ (F_199 : Nat → va_E) (H : Heap) (locs : List Loc), wD G L F_199 s H locs → F_199 o = rw7 G (m_lon u j) → F_199 (ra 4) = rw7 G t4 → F_199 (ra 1) = rw7 G t1 → F_199 (ra 2) = rw7 G t2 → (∀ q, q ≠ o → q ≠ (ra 4) → q ≠ (ra 1) → q ≠ (ra 2) → F_199 q = F q) → ∀ ls : Array Slot, lv_has ls 5 [(0, .ref k), (1, .ref a), (2, .int (nI (cu))), (3, .ref o), (4, .int (nI (j + 2)))] → W p l e rm_X1_logarithm s m args below meth c H locs 0 0 Q (F0 m 8 ls []) := by
    intro n
    induction n with
    | zero => intro j t4 t1 t2 hlo hhi hm; exact absurd hm (Nat.not_lt_zero _)
    | succ n ih_8 =>
      intro j t4 t1 t2 hlo hhi hm F_199 H locs hw f_200 f_201 f_202 f_203 fr_204 ls hl
      refine lv_iload hx hb dX1_logarithm_8 (lv_at hl 4 rfl) ?_
      refine lv_iload_n hx hb dX1_logarithm_10 rfl (lv_at hl 2 rfl) ?_
      refine n_icmp_gt (tgt := 55) hx hb dX1_logarithm_11 (by decide) (by omega) (by omega) (fun c_11 => ?_) (fun c_11 => ?_)
      · skip
        obtain rfl : j = cu - 1 := by omega
        exact r_v C0 hr hlk hw ⟨f_200, ⟨_, f_201⟩, ⟨_, f_202⟩, ⟨_, f_203⟩, (fun q k0 k1 k2 k3 => (fr_204 q k0 k1 k2 k3))⟩ (Nat.le_refl _) (Nat.le_refl _) dX1_logarithm_55 hQ
      · skip
        refine lv_aload_n hx hb dX1_logarithm_14 rfl (lv_at hl 0 rfl) ?_
        refine lv_aload_n hx hb dX1_logarithm_15 rfl (lv_at hl 3 rfl) ?_
        refine lv_iload hx hb dX1_logarithm_16 (lv_at hl 4 rfl) ?_
        refine lv_aload_n hx hb dX1_logarithm_18 rfl (lv_at hl 0 rfl) ?_
        have f_205 : F_199 k = rkO ra := (fr_204 k (ne_oa fk fo) (ne_oa fk fs4) (ne_oa fk fs1) (ne_oa fk fs2)).trans fk
        refine q_get C0 hw mk f_205 fw_X1_24 rfl dX1_logarithm_19 ?_
        refine q_callv hw (q_runV (As := [.ref o, .int (nI (j + 2)), .ref (ra 4)]) (c_X1_exponential l G L F_199 k ra o (ra 4) (j + 2) (m_lon u j) t4 t1 t2  mk f_205 hra hin mo f_200 ((hra 4 (by decide))) f_201 f_202 f_203 (no4) (no1) (fun h => absurd (hin 4 1 (by decide) (by decide) h) (by decide)) (no2) (fun h => absurd (hin 4 2 (by decide) (by decide) h) (by decide)) (by omega) (by omega) ) C0 hw vw_X1_99 mk f_205 rfl rfl rfl hl.1 rfl (Nat.le_of_ble_eq_true rfl) dX1_logarithm_22 ⟨by decide, by decide⟩ ⟨by decide, by decide⟩) rfl rfl (fun F_206 H locs hw hp_207 => ?_)
        obtain ⟨f_208, ⟨t_211, f_209⟩, ⟨t_212, f_210⟩, o_213⟩ := hp_207
        refine lv_aload_n hx hb dX1_logarithm_25 rfl (lv_at hl 3 rfl) ?_
        refine lv_iload hx hb dX1_logarithm_26 (lv_at hl 4 rfl) ?_
        refine lv_aload_n hx hb dX1_logarithm_28 rfl (lv_at hl 1 rfl) ?_
        refine lv_iload hx hb dX1_logarithm_29 (lv_at hl 4 rfl) ?_
        have f_214 : F_199 a = rw7 G u := (fr_204 a (nao) (na4) (na1) (na2)).trans fa
        have f_215 : F_206 a = rw7 G u := (o_213 a (na4) (na1) (na2)).trans f_214
        refine q_rld C0 hw ma f_215 (j + 2) (by omega) dX1_logarithm_31 (fun z_216 => ?_)
        refine lv_sipush (v := nI 10007) hx hb dX1_logarithm_32 (by decide) ?_
        refine n_iadd hx hb dX1_logarithm_35 ?_
        refine lv_aload_n hx hb dX1_logarithm_36 rfl (lv_at hl 0 rfl) ?_
        have f_217 : F_206 k = rkO ra := (o_213 k (ne_oa f_205 f_201) (ne_oa f_205 f_202) (ne_oa f_205 f_203)).trans f_205
        refine q_get C0 hw mk f_217 fw_X1_24 rfl dX1_logarithm_37 ?_
        refine lv_iload hx hb dX1_logarithm_40 (lv_at hl 4 rfl) ?_
        refine q_rld C0 hw ((hra 4 (by decide))) f_208 (j + 2) (by omega) dX1_logarithm_42 (fun z_218 => ?_)
        refine n_isub hx hb (by omega) dX1_logarithm_43 ?_
        refine lv_sipush (v := nI 10007) hx hb dX1_logarithm_44 (by decide) ?_
        refine n_iremP hx hb (by omega) dX1_logarithm_47 ?_
        have f_219 : F_206 o = rw7 G (m_lon u j) := (o_213 o (no4) (no1) (no2)).trans f_200
        refine q_rst C0 hw mo f_219 (j + 2) (by omega) (z := zc ((u (j + 2)).val + 10007 - ((((m_exp (m_lon u j) (j + 2))) (j + 2)).val))) dX1_logarithm_48 (fun F_220 H locs hw f_221 o_222 => ?_)
        refine lv_iinc (v := nI (j + 2 + 1)) (lv' := [(4, .int (nI (j + 2 + 1))), (0, .ref k), (1, .ref a), (2, .int (nI (cu))), (3, .ref o)]) hx hb dX1_logarithm_49 hl (k := 4) rfl (nI_add _ _) (by decide) rfl (fun ls hl => ?_)
        refine lv_goto (tgt := 8) hx hb dX1_logarithm_52 (by decide) ?_
        have f_223 : F_220 (ra 4) = rw7 G ((m_exp (m_lon u j) (j + 2))) := (o_222 (ra 4) (Ne.symm (no4))).trans f_208
        have f_224 : F_220 (ra 1) = rw7 G t_211 := (o_222 (ra 1) (Ne.symm (no1))).trans f_209
        have f_225 : F_220 (ra 2) = rw7 G t_212 := (o_222 (ra 2) (Ne.symm (no2))).trans f_210
        exact ih_8 (j + 1) ((m_exp (m_lon u j) (j + 2))) (t_211) (t_212) ((by omega)) ((by omega)) (by omega) F_220 _ _ hw (f_221.trans (congrArg (rw7 G) ((m_lon_s u j)))) (f_223) (f_224) (f_225) (fun q k0 k1 k2 k3 => ((o_222 q k0).trans ((o_213 q k1 k2 k3).trans (fr_204 q k0 k1 k2 k3)))) ls (lv_sub hl [1, 2, 3, 4, 0] rfl)
  have f_226 : F_197 (ra 4) = rw7 G s4 := (hp_198.2 (ra 4) (Ne.symm (no4))).trans fs4
  have f_227 : F_197 (ra 1) = rw7 G s1 := (hp_198.2 (ra 1) (Ne.symm (no1))).trans fs1
  have f_228 : F_197 (ra 2) = rw7 G s2 := (hp_198.2 (ra 2) (Ne.symm (no2))).trans fs2
  exact lp8 _ (0) (s4) (s1) (s2) ((by omega)) ((by omega)) (Nat.lt_succ_self _) F_197 _ _ hw (hp_198.1) (f_226) (f_227) (f_228) (fun q k0 k1 k2 k3 => (hp_198.2 q k0)) ls (lv_sub hl [1, 2, 3, 4, 0] rfl)
abbrev rm_X1_repeatFlow : Room := { frames := 4, cells := 0, slots := 0, locals := 99 }
set_option maxHeartbeats 4000000 in
set_option maxRecDepth 100000 in
theorem c_X1_repeatFlow (l : Launch) (G : Gl) (L : List Nat) (F : Nat → va_E) (k : Nat) (ra : Nat → Nat) (a : Nat) (o cu : Nat) (u : Nat → ZP) (w : Nat → ZP) (s7 : Nat → ZP) (s4 : Nat → ZP) (s1 : Nat → ZP) (s2 : Nat → ZP) (z : ZP) (mk : k ∈ L) (fk : F k = rkO ra) (hra : ∀ i, i < 14 → ra i ∈ L) (hin : ∀ i j, i < 14 → j < 14 → ra i = ra j → i = j) (ma : a ∈ L) (fa : F a = rw7 G u) (mo : o ∈ L) (fo : F o = rw7 G w) (fs7 : F (ra 7) = rw7 G s7) (fs4 : F (ra 4) = rw7 G s4) (fs1 : F (ra 1) = rw7 G s1) (fs2 : F (ra 2) = rw7 G s2) (nao : a ≠ o) (na7 : a ≠ ra 7) (no7 : o ≠ ra 7) (na4 : a ≠ ra 4) (no4 : o ≠ ra 4) (na1 : a ≠ ra 1) (no1 : o ≠ ra 1) (na2 : a ≠ ra 2) (no2 : o ≠ ra 2) (hc : cu ≤ 6) (hc2 : 2 ≤ cu) : CV l yX1_repeatFlow cX1_repeatFlow 5 none rm_X1_repeatFlow G L F [.ref k, .ref a, .int (nI (z.val)), .int (nI (cu)), .ref o] (fun F1 => F1 o = rw7 G (m_rep u z cu) ∧ (∃ t, F1 (ra 7) = rw7 G t) ∧ (∃ t, F1 (ra 4) = rw7 G t) ∧ (∃ t, F1 (ra 1) = rw7 G t) ∧ (∃ t, F1 (ra 2) = rw7 G t) ∧ ∀ q, q ≠ o → q ≠ ra 7 → q ≠ ra 4 → q ≠ ra 1 → q ≠ ra 2 → F1 q = F q) := by
  refine CG_of (by decide) (Nat.le_of_ble_eq_true rfl) rfl ?_
  intro p e s m args below meth c Q C0 hr hlk hnm hQ hw ls hl
  have hx := C0.x
  have hb := C0.b
  have hz := z.isLt
  refine lv_aload_n hx hb dX1_repeatFlow_0 rfl (lv_at hl 0 rfl) ?_
  refine lv_aload_n hx hb dX1_repeatFlow_1 rfl (lv_at hl 1 rfl) ?_
  refine lv_iload_n hx hb dX1_repeatFlow_2 rfl (lv_at hl 3 rfl) ?_
  refine lv_aload_n hx hb dX1_repeatFlow_3 rfl (lv_at hl 0 rfl) ?_
  refine q_get C0 hw mk fk fw_X1_33 rfl dX1_repeatFlow_4 ?_
  refine q_callv hw (q_runV (As := [.ref a, .int (nI (cu)), .ref (ra 7)]) (c_X1_logarithm l G L F k ra a (ra 7) cu u s7 s4 s1 s2  mk fk hra hin ma fa ((hra 7 (by decide))) fs7 fs4 fs1 fs2 (na7) (na4) (fun h => absurd (hin 7 4 (by decide) (by decide) h) (by decide)) (na1) (fun h => absurd (hin 7 1 (by decide) (by decide) h) (by decide)) (na2) (fun h => absurd (hin 7 2 (by decide) (by decide) h) (by decide)) (by omega) (by omega) ) C0 hw vw_X1_102 mk fk rfl rfl rfl hl.1 rfl (Nat.le_of_ble_eq_true rfl) dX1_repeatFlow_7 ⟨by decide, by decide⟩ ⟨by decide, by decide⟩) rfl rfl (fun F_229 H locs hw hp_230 => ?_)
  obtain ⟨f_231, ⟨t_235, f_232⟩, ⟨t_236, f_233⟩, ⟨t_237, f_234⟩, o_238⟩ := hp_230
  refine lv_aload_n hx hb dX1_repeatFlow_10 rfl (lv_at hl 0 rfl) ?_
  have f_239 : F_229 k = rkO ra := (o_238 k (ne_oa fk fs7) (ne_oa fk fs4) (ne_oa fk fs1) (ne_oa fk fs2)).trans fk
  refine q_get C0 hw mk f_239 fw_X1_33 rfl dX1_repeatFlow_11 ?_
  refine lv_iload_n hx hb dX1_repeatFlow_14 rfl (lv_at hl 2 rfl) ?_
  refine lv_aload_n hx hb dX1_repeatFlow_15 rfl (lv_at hl 0 rfl) ?_
  refine q_get C0 hw mk f_239 fw_X1_33 rfl dX1_repeatFlow_16 ?_
  refine q_callv hw (q_runS (As := [.ref (ra 7), .int (nI (z.val)), .ref (ra 7)]) (c_X1_scaleRow_s l G L F_229 (ra 7) ((m_log u cu)) z ((hra 7 (by decide))) f_231) C0 hw sw_X1_83 rfl hl.1 rfl (Nat.le_of_ble_eq_true rfl) dX1_repeatFlow_19 ⟨by decide, by decide⟩ ⟨by decide, by decide⟩) rfl rfl (fun F_240 H locs hw hp_241 => ?_)
  refine lv_aload_n hx hb dX1_repeatFlow_22 rfl (lv_at hl 0 rfl) ?_
  refine lv_aload_n hx hb dX1_repeatFlow_23 rfl (lv_at hl 0 rfl) ?_
  have f_242 : F_240 k = rkO ra := (hp_241.2 k (ne_oa f_239 f_231)).trans f_239
  refine q_get C0 hw mk f_242 fw_X1_33 rfl dX1_repeatFlow_24 ?_
  refine lv_iload_n hx hb dX1_repeatFlow_27 rfl (lv_at hl 3 rfl) ?_
  refine lv_aload hx hb dX1_repeatFlow_28 (lv_at hl 4 rfl) ?_
  have f_243 : F_229 o = rw7 G w := (o_238 o (no7) (no4) (no1) (no2)).trans fo
  have f_244 : F_240 o = rw7 G w := (hp_241.2 o (no7)).trans f_243
  have f_245 : F_240 (ra 1) = rw7 G t_236 := (hp_241.2 (ra 1) (fun h => absurd (hin 1 7 (by decide) (by decide) h) (by decide))).trans f_233
  have f_246 : F_240 (ra 2) = rw7 G t_237 := (hp_241.2 (ra 2) (fun h => absurd (hin 2 7 (by decide) (by decide) h) (by decide))).trans f_234
  refine q_callv hw (q_runV (As := [.ref (ra 7), .int (nI (cu)), .ref o]) (c_X1_exponential l G L F_240 k ra (ra 7) o cu ((m_scale ((m_log u cu)) z)) w t_236 t_237  mk f_242 hra hin ((hra 7 (by decide))) hp_241.1 mo f_244 f_245 f_246 (Ne.symm (no7)) (fun h => absurd (hin 7 1 (by decide) (by decide) h) (by decide)) (no1) (fun h => absurd (hin 7 2 (by decide) (by decide) h) (by decide)) (no2) (by omega) (by omega) ) C0 hw vw_X1_99 mk f_242 rfl rfl rfl hl.1 rfl (Nat.le_of_ble_eq_true rfl) dX1_repeatFlow_30 ⟨by decide, by decide⟩ ⟨by decide, by decide⟩) rfl rfl (fun F_247 H locs hw hp_248 => ?_)
  obtain ⟨f_249, ⟨t_252, f_250⟩, ⟨t_253, f_251⟩, o_254⟩ := hp_248
  have f_255 : F_247 (ra 7) = rw7 G ((m_scale ((m_log u cu)) z)) := (o_254 (ra 7) (Ne.symm (no7)) (fun h => absurd (hin 7 1 (by decide) (by decide) h) (by decide)) (fun h => absurd (hin 7 2 (by decide) (by decide) h) (by decide))).trans hp_241.1
  have f_256 : F_240 (ra 4) = rw7 G t_235 := (hp_241.2 (ra 4) (fun h => absurd (hin 4 7 (by decide) (by decide) h) (by decide))).trans f_232
  have f_257 : F_247 (ra 4) = rw7 G t_235 := (o_254 (ra 4) (Ne.symm (no4)) (fun h => absurd (hin 4 1 (by decide) (by decide) h) (by decide)) (fun h => absurd (hin 4 2 (by decide) (by decide) h) (by decide))).trans f_256
  exact r_v C0 hr hlk hw ⟨f_249, ⟨_, f_255⟩, ⟨_, f_257⟩, ⟨_, f_250⟩, ⟨_, f_251⟩, (fun q k0 k1 k2 k3 k4 => ((o_254 q k0 k3 k4).trans ((hp_241.2 q k1).trans (o_238 q k1 k2 k3 k4))))⟩ (Nat.le_refl _) (Nat.le_refl _) dX1_repeatFlow_33 hQ
abbrev rm_X1_pushField : Room := { frames := 3, cells := 0, slots := 0, locals := 89 }
set_option maxHeartbeats 4000000 in
set_option maxRecDepth 100000 in
theorem c_X1_pushField (l : Launch) (G : Gl) (L : List Nat) (F : Nat → va_E) (k : Nat) (ra : Nat → Nat) (a : Nat) (b : Nat) (o cu : Nat) (u : Nat → ZP) (v : Nat → ZP) (w : Nat → ZP) (s6 : Nat → ZP) (s5 : Nat → ZP) (s4 : Nat → ZP) (s3 : Nat → ZP) (mk : k ∈ L) (fk : F k = rkO ra) (hra : ∀ i, i < 14 → ra i ∈ L) (hin : ∀ i j, i < 14 → j < 14 → ra i = ra j → i = j) (ma : a ∈ L) (fa : F a = rw7 G u) (mb : b ∈ L) (fb : F b = rw7 G v) (mo : o ∈ L) (fo : F o = rw7 G w) (fs6 : F (ra 6) = rw7 G s6) (fs5 : F (ra 5) = rw7 G s5) (fs4 : F (ra 4) = rw7 G s4) (fs3 : F (ra 3) = rw7 G s3) (nao : a ≠ o) (nbo : b ≠ o) (na6 : a ≠ ra 6) (nb6 : b ≠ ra 6) (no6 : o ≠ ra 6) (na5 : a ≠ ra 5) (nb5 : b ≠ ra 5) (no5 : o ≠ ra 5) (na4 : a ≠ ra 4) (nb4 : b ≠ ra 4) (no4 : o ≠ ra 4) (na3 : a ≠ ra 3) (nb3 : b ≠ ra 3) (no3 : o ≠ ra 3) (hc : cu ≤ 6) (hc2 : 2 ≤ cu) : CV l yX1_pushField cX1_pushField 5 none rm_X1_pushField G L F [.ref k, .ref a, .ref b, .int (nI (cu)), .ref o] (fun F1 => F1 o = rw7 G (m_push u v cu) ∧ (∃ t, F1 (ra 6) = rw7 G t) ∧ (∃ t, F1 (ra 5) = rw7 G t) ∧ (∃ t, F1 (ra 4) = rw7 G t) ∧ (∃ t, F1 (ra 3) = rw7 G t) ∧ ∀ q, q ≠ o → q ≠ ra 6 → q ≠ ra 5 → q ≠ ra 4 → q ≠ ra 3 → F1 q = F q) := by
  refine CG_of (by decide) (Nat.le_of_ble_eq_true rfl) rfl ?_
  intro p e s m args below meth c Q C0 hr hlk hnm hQ hw ls hl
  have hx := C0.x
  have hb := C0.b
  refine lv_aload_n hx hb dX1_pushField_0 rfl (lv_at hl 0 rfl) ?_
  refine lv_aload_n hx hb dX1_pushField_1 rfl (lv_at hl 1 rfl) ?_
  refine lv_iload_n hx hb dX1_pushField_2 rfl (lv_at hl 3 rfl) ?_
  refine lv_aload_n hx hb dX1_pushField_3 rfl (lv_at hl 0 rfl) ?_
  refine q_get C0 hw mk fk fw_X1_30 rfl dX1_pushField_4 ?_
  refine q_callv hw (q_runV (As := [.ref a, .int (nI (cu)), .ref (ra 6)]) (c_X1_inverse l G L F k ra a (ra 6) cu u s6 s4 s3  mk fk hra hin ma fa ((hra 6 (by decide))) fs6 fs4 fs3 (na6) (na4) (fun h => absurd (hin 6 4 (by decide) (by decide) h) (by decide)) (na3) (fun h => absurd (hin 6 3 (by decide) (by decide) h) (by decide)) (by omega) (by omega) ) C0 hw vw_X1_105 mk fk rfl rfl rfl hl.1 rfl (Nat.le_of_ble_eq_true rfl) dX1_pushField_7 ⟨by decide, by decide⟩ ⟨by decide, by decide⟩) rfl rfl (fun F_258 H locs hw hp_259 => ?_)
  obtain ⟨f_260, ⟨t_263, f_261⟩, ⟨t_264, f_262⟩, o_265⟩ := hp_259
  refine lv_aload_n hx hb dX1_pushField_10 rfl (lv_at hl 2 rfl) ?_
  refine lv_aload_n hx hb dX1_pushField_11 rfl (lv_at hl 1 rfl) ?_
  refine lv_iload_n hx hb dX1_pushField_12 rfl (lv_at hl 3 rfl) ?_
  refine lv_aload_n hx hb dX1_pushField_13 rfl (lv_at hl 0 rfl) ?_
  have f_266 : F_258 k = rkO ra := (o_265 k (ne_oa fk fs6) (ne_oa fk fs4) (ne_oa fk fs3)).trans fk
  refine q_get C0 hw mk f_266 fw_X1_27 rfl dX1_pushField_14 ?_
  have f_267 : F_258 b = rw7 G v := (o_265 b (nb6) (nb4) (nb3)).trans fb
  have f_268 : F_258 a = rw7 G u := (o_265 a (na6) (na4) (na3)).trans fa
  have f_269 : F_258 (ra 5) = rw7 G s5 := (o_265 (ra 5) (fun h => absurd (hin 5 6 (by decide) (by decide) h) (by decide)) (fun h => absurd (hin 5 4 (by decide) (by decide) h) (by decide)) (fun h => absurd (hin 5 3 (by decide) (by decide) h) (by decide))).trans fs5
  refine q_callv hw (q_runS (As := [.ref b, .ref a, .int (nI (cu)), .ref (ra 5)]) (c_X1_act l G L F_258 b a (ra 5) cu v u s5 mb f_267 ma f_268 ((hra 5 (by decide))) f_269 (nb5) (na5) (by omega) (by omega)) C0 hw sw_X1_68 rfl hl.1 rfl (Nat.le_of_ble_eq_true rfl) dX1_pushField_17 ⟨by decide, by decide⟩ ⟨by decide, by decide⟩) rfl rfl (fun F_270 H locs hw hp_271 => ?_)
  refine lv_aload_n hx hb dX1_pushField_20 rfl (lv_at hl 0 rfl) ?_
  refine lv_aload_n hx hb dX1_pushField_21 rfl (lv_at hl 0 rfl) ?_
  have f_272 : F_270 k = rkO ra := (hp_271.2 k (ne_oa f_266 f_269)).trans f_266
  refine q_get C0 hw mk f_272 fw_X1_30 rfl dX1_pushField_22 ?_
  refine lv_aload_n hx hb dX1_pushField_25 rfl (lv_at hl 0 rfl) ?_
  refine q_get C0 hw mk f_272 fw_X1_27 rfl dX1_pushField_26 ?_
  refine lv_iload_n hx hb dX1_pushField_29 rfl (lv_at hl 3 rfl) ?_
  refine lv_aload hx hb dX1_pushField_30 (lv_at hl 4 rfl) ?_
  have f_273 : F_270 (ra 6) = rw7 G ((m_inv u cu)) := (hp_271.2 (ra 6) (fun h => absurd (hin 6 5 (by decide) (by decide) h) (by decide))).trans f_260
  have f_274 : F_258 o = rw7 G w := (o_265 o (no6) (no4) (no3)).trans fo
  have f_275 : F_270 o = rw7 G w := (hp_271.2 o (no5)).trans f_274
  have f_276 : F_270 (ra 3) = rw7 G t_264 := (hp_271.2 (ra 3) (fun h => absurd (hin 3 5 (by decide) (by decide) h) (by decide))).trans f_262
  refine q_callv hw (q_runV (As := [.ref (ra 6), .ref (ra 5), .int (nI (cu)), .ref o]) (c_X1_substitute l G L F_270 k ra (ra 6) (ra 5) o cu ((m_inv u cu)) ((m_act v u cu)) w t_264  mk f_272 hra hin ((hra 6 (by decide))) f_273 ((hra 5 (by decide))) hp_271.1 mo f_275 f_276 (Ne.symm (no6)) (Ne.symm (no5)) (fun h => absurd (hin 6 3 (by decide) (by decide) h) (by decide)) (fun h => absurd (hin 5 3 (by decide) (by decide) h) (by decide)) (no3) (by omega) (by omega) ) C0 hw vw_X1_96 mk f_272 rfl rfl rfl hl.1 rfl (Nat.le_of_ble_eq_true rfl) dX1_pushField_32 ⟨by decide, by decide⟩ ⟨by decide, by decide⟩) rfl rfl (fun F_277 H locs hw hp_278 => ?_)
  obtain ⟨f_279, ⟨t_281, f_280⟩, o_282⟩ := hp_278
  have f_283 : F_277 (ra 6) = rw7 G ((m_inv u cu)) := (o_282 (ra 6) (Ne.symm (no6)) (fun h => absurd (hin 6 3 (by decide) (by decide) h) (by decide))).trans f_273
  have f_284 : F_277 (ra 5) = rw7 G ((m_act v u cu)) := (o_282 (ra 5) (Ne.symm (no5)) (fun h => absurd (hin 5 3 (by decide) (by decide) h) (by decide))).trans hp_271.1
  have f_285 : F_270 (ra 4) = rw7 G t_263 := (hp_271.2 (ra 4) (fun h => absurd (hin 4 5 (by decide) (by decide) h) (by decide))).trans f_261
  have f_286 : F_277 (ra 4) = rw7 G t_263 := (o_282 (ra 4) (Ne.symm (no4)) (fun h => absurd (hin 4 3 (by decide) (by decide) h) (by decide))).trans f_285
  exact r_v C0 hr hlk hw ⟨f_279, ⟨_, f_283⟩, ⟨_, f_284⟩, ⟨_, f_286⟩, ⟨_, f_280⟩, (fun q k0 k1 k2 k3 k4 => ((o_282 q k0 k4).trans ((hp_271.2 q k2).trans (o_265 q k1 k3 k4))))⟩ (Nat.le_refl _) (Nat.le_refl _) dX1_pushField_35 hQ
abbrev rm_X1_secondWay : Room := { frames := 3, cells := 0, slots := 0, locals := 75 }
set_option maxHeartbeats 4000000 in
set_option maxRecDepth 100000 in
theorem c_X1_secondWay (l : Launch) (G : Gl) (L : List Nat) (F : Nat → va_E) (k : Nat) (ra : Nat → Nat) (a : Nat) (b : Nat) (o cu : Nat) (u : Nat → ZP) (v : Nat → ZP) (w : Nat → ZP) (s8 : Nat → ZP) (s9 : Nat → ZP) (s10 : Nat → ZP) (s0 : Nat → ZP) (y : Nat) (mk : k ∈ L) (fk : F k = rkO ra) (hra : ∀ i, i < 14 → ra i ∈ L) (hin : ∀ i j, i < 14 → j < 14 → ra i = ra j → i = j) (ma : a ∈ L) (fa : F a = rw7 G u) (mb : b ∈ L) (fb : F b = rw7 G v) (mo : o ∈ L) (fo : F o = rw7 G w) (fs8 : F (ra 8) = rw7 G s8) (fs9 : F (ra 9) = rw7 G s9) (fs10 : F (ra 10) = rw7 G s10) (fs0 : F (ra 0) = rw7 G s0) (nao : a ≠ o) (nbo : b ≠ o) (na8 : a ≠ ra 8) (nb8 : b ≠ ra 8) (no8 : o ≠ ra 8) (na9 : a ≠ ra 9) (nb9 : b ≠ ra 9) (no9 : o ≠ ra 9) (na10 : a ≠ ra 10) (nb10 : b ≠ ra 10) (no10 : o ≠ ra 10) (na0 : a ≠ ra 0) (nb0 : b ≠ ra 0) (no0 : o ≠ ra 0) (hc : cu ≤ 6) (hc2 : 2 ≤ cu) (hy1 : 2 ≤ y) (hy2 : y ≤ 5) : CV l yX1_secondWay cX1_secondWay 6 none rm_X1_secondWay G L F [.ref k, .ref a, .ref b, .int (nI (y)), .int (nI (cu)), .ref o] (fun F1 => F1 o = rw7 G (m_way u v y cu) ∧ (∃ t, F1 (ra 8) = rw7 G t) ∧ (∃ t, F1 (ra 9) = rw7 G t) ∧ (∃ t, F1 (ra 10) = rw7 G t) ∧ (∃ t, F1 (ra 0) = rw7 G t) ∧ ∀ q, q ≠ o → q ≠ ra 8 → q ≠ ra 9 → q ≠ ra 10 → q ≠ ra 0 → F1 q = F q) := by
  refine CG_of (by decide) (Nat.le_of_ble_eq_true rfl) rfl ?_
  intro p e s m args below meth c Q C0 hr hlk hnm hQ hw ls hl
  have hx := C0.x
  have hb := C0.b
  refine lv_aload_n hx hb dX1_secondWay_0 rfl (lv_at hl 1 rfl) ?_
  refine lv_aload_n hx hb dX1_secondWay_1 rfl (lv_at hl 2 rfl) ?_
  refine lv_aload hx hb dX1_secondWay_2 (lv_at hl 5 rfl) ?_
  refine q_callv hw (q_runS (As := [.ref a, .ref b, .ref o]) (c_X1_addRows l G L F a b o u v w ma fa mb fb mo fo (nao) (nbo)) C0 hw sw_X1_108 rfl hl.1 rfl (Nat.le_of_ble_eq_true rfl) dX1_secondWay_4 ⟨by decide, by decide⟩ ⟨by decide, by decide⟩) rfl rfl (fun F_287 H locs hw hp_288 => ?_)
  refine lv_iload_n hx hb dX1_secondWay_7 rfl (lv_at hl 3 rfl) ?_
  refine lv_iconst (v := nI 3) hx hb dX1_secondWay_8 (by decide) ?_
  refine n_icmp_ge (tgt := 13) hx hb dX1_secondWay_9 (by decide) (by omega) (by decide) (fun c_9 => ?_) (fun c_9 => ?_)
  · skip
    refine lv_aload_n hx hb dX1_secondWay_13 rfl (lv_at hl 0 rfl) ?_
    refine lv_aload_n hx hb dX1_secondWay_14 rfl (lv_at hl 1 rfl) ?_
    refine lv_aload_n hx hb dX1_secondWay_15 rfl (lv_at hl 2 rfl) ?_
    refine lv_iload hx hb dX1_secondWay_16 (lv_at hl 4 rfl) ?_
    refine lv_aload_n hx hb dX1_secondWay_18 rfl (lv_at hl 0 rfl) ?_
    have f_289 : F_287 k = rkO ra := (hp_288.2 k (ne_oa fk fo)).trans fk
    refine q_get C0 hw mk f_289 fw_X1_36 rfl dX1_secondWay_19 ?_
    have f_290 : F_287 a = rw7 G u := (hp_288.2 a (nao)).trans fa
    have f_291 : F_287 b = rw7 G v := (hp_288.2 b (nbo)).trans fb
    have f_292 : F_287 (ra 8) = rw7 G s8 := (hp_288.2 (ra 8) (Ne.symm (no8))).trans fs8
    have f_293 : F_287 (ra 0) = rw7 G s0 := (hp_288.2 (ra 0) (Ne.symm (no0))).trans fs0
    refine q_callv hw (q_runV (As := [.ref a, .ref b, .int (nI (cu)), .ref (ra 8)]) (c_X1_takeBracket l G L F_287 k ra a b (ra 8) cu u v s8 s0  mk f_289 hra hin ma f_290 mb f_291 ((hra 8 (by decide))) f_292 f_293 (na8) (nb8) (na0) (nb0) (fun h => absurd (hin 8 0 (by decide) (by decide) h) (by decide)) (by omega) (by omega) ) C0 hw vw_X1_112 mk f_289 rfl rfl rfl hl.1 rfl (Nat.le_of_ble_eq_true rfl) dX1_secondWay_22 ⟨by decide, by decide⟩ ⟨by decide, by decide⟩) rfl rfl (fun F_294 H locs hw hp_295 => ?_)
    obtain ⟨f_296, ⟨t_298, f_297⟩, o_299⟩ := hp_295
    refine lv_aload hx hb dX1_secondWay_25 (lv_at hl 5 rfl) ?_
    refine lv_aload_n hx hb dX1_secondWay_27 rfl (lv_at hl 0 rfl) ?_
    have f_300 : F_294 k = rkO ra := (o_299 k (ne_oa f_289 f_292) (ne_oa f_289 f_293)).trans f_289
    refine q_get C0 hw mk f_300 fw_X1_36 rfl dX1_secondWay_28 ?_
    refine lv_sipush (v := nI 5004) hx hb dX1_secondWay_31 (by decide) ?_
    have f_301 : F_294 o = rw7 G ((m_add u v)) := (o_299 o (no8) (no0)).trans hp_288.1
    refine q_callv hw (q_runS (As := [.ref o, .ref (ra 8), .int (nI (5004))]) (c_X1_addMultiple l G L F_294 o (ra 8) ((m_add u v)) ((m_br u v cu)) (zc 5004) mo f_301 ((hra 8 (by decide))) f_296 (Ne.symm (no8))) C0 hw sw_X1_72 rfl hl.1 rfl (Nat.le_of_ble_eq_true rfl) dX1_secondWay_34 ⟨by decide, by decide⟩ ⟨by decide, by decide⟩) rfl rfl (fun F_302 H locs hw hp_303 => ?_)
    refine lv_iload_n hx hb dX1_secondWay_37 rfl (lv_at hl 3 rfl) ?_
    refine lv_iconst (v := nI 4) hx hb dX1_secondWay_38 (by decide) ?_
    refine n_icmp_ge (tgt := 43) hx hb dX1_secondWay_39 (by decide) (by omega) (by decide) (fun c_39 => ?_) (fun c_39 => ?_)
    · skip
      refine lv_aload_n hx hb dX1_secondWay_43 rfl (lv_at hl 0 rfl) ?_
      refine lv_aload_n hx hb dX1_secondWay_44 rfl (lv_at hl 1 rfl) ?_
      refine lv_aload_n hx hb dX1_secondWay_45 rfl (lv_at hl 0 rfl) ?_
      have f_304 : F_302 k = rkO ra := (hp_303.2 k (ne_oa f_300 f_301)).trans f_300
      refine q_get C0 hw mk f_304 fw_X1_36 rfl dX1_secondWay_46 ?_
      refine lv_iload hx hb dX1_secondWay_49 (lv_at hl 4 rfl) ?_
      refine lv_aload_n hx hb dX1_secondWay_51 rfl (lv_at hl 0 rfl) ?_
      refine q_get C0 hw mk f_304 fw_X1_39 rfl dX1_secondWay_52 ?_
      have f_305 : F_294 a = rw7 G u := (o_299 a (na8) (na0)).trans f_290
      have f_306 : F_302 a = rw7 G u := (hp_303.2 a (nao)).trans f_305
      have f_307 : F_302 (ra 8) = rw7 G ((m_br u v cu)) := (hp_303.2 (ra 8) (Ne.symm (no8))).trans f_296
      have f_308 : F_287 (ra 9) = rw7 G s9 := (hp_288.2 (ra 9) (Ne.symm (no9))).trans fs9
      have f_309 : F_294 (ra 9) = rw7 G s9 := (o_299 (ra 9) (fun h => absurd (hin 9 8 (by decide) (by decide) h) (by decide)) (fun h => absurd (hin 9 0 (by decide) (by decide) h) (by decide))).trans f_308
      have f_310 : F_302 (ra 9) = rw7 G s9 := (hp_303.2 (ra 9) (Ne.symm (no9))).trans f_309
      have f_311 : F_302 (ra 0) = rw7 G t_298 := (hp_303.2 (ra 0) (Ne.symm (no0))).trans f_297
      refine q_callv hw (q_runV (As := [.ref a, .ref (ra 8), .int (nI (cu)), .ref (ra 9)]) (c_X1_takeBracket l G L F_302 k ra a (ra 8) (ra 9) cu u ((m_br u v cu)) s9 t_298  mk f_304 hra hin ma f_306 ((hra 8 (by decide))) f_307 ((hra 9 (by decide))) f_310 f_311 (na9) (fun h => absurd (hin 8 9 (by decide) (by decide) h) (by decide)) (na0) (fun h => absurd (hin 8 0 (by decide) (by decide) h) (by decide)) (fun h => absurd (hin 9 0 (by decide) (by decide) h) (by decide)) (by omega) (by omega) ) C0 hw vw_X1_112 mk f_304 rfl rfl rfl hl.1 rfl (Nat.le_of_ble_eq_true rfl) dX1_secondWay_55 ⟨by decide, by decide⟩ ⟨by decide, by decide⟩) rfl rfl (fun F_312 H locs hw hp_313 => ?_)
      obtain ⟨f_314, ⟨t_316, f_315⟩, o_317⟩ := hp_313
      refine lv_aload_n hx hb dX1_secondWay_58 rfl (lv_at hl 0 rfl) ?_
      refine lv_aload_n hx hb dX1_secondWay_59 rfl (lv_at hl 2 rfl) ?_
      refine lv_aload_n hx hb dX1_secondWay_60 rfl (lv_at hl 0 rfl) ?_
      have f_318 : F_312 k = rkO ra := (o_317 k (ne_oa f_304 f_310) (ne_oa f_304 f_311)).trans f_304
      refine q_get C0 hw mk f_318 fw_X1_36 rfl dX1_secondWay_61 ?_
      refine lv_iload hx hb dX1_secondWay_64 (lv_at hl 4 rfl) ?_
      refine lv_aload_n hx hb dX1_secondWay_66 rfl (lv_at hl 0 rfl) ?_
      refine q_get C0 hw mk f_318 fw_X1_42 rfl dX1_secondWay_67 ?_
      have f_319 : F_294 b = rw7 G v := (o_299 b (nb8) (nb0)).trans f_291
      have f_320 : F_302 b = rw7 G v := (hp_303.2 b (nbo)).trans f_319
      have f_321 : F_312 b = rw7 G v := (o_317 b (nb9) (nb0)).trans f_320
      have f_322 : F_312 (ra 8) = rw7 G ((m_br u v cu)) := (o_317 (ra 8) (fun h => absurd (hin 8 9 (by decide) (by decide) h) (by decide)) (fun h => absurd (hin 8 0 (by decide) (by decide) h) (by decide))).trans f_307
      have f_323 : F_287 (ra 10) = rw7 G s10 := (hp_288.2 (ra 10) (Ne.symm (no10))).trans fs10
      have f_324 : F_294 (ra 10) = rw7 G s10 := (o_299 (ra 10) (fun h => absurd (hin 10 8 (by decide) (by decide) h) (by decide)) (fun h => absurd (hin 10 0 (by decide) (by decide) h) (by decide))).trans f_323
      have f_325 : F_302 (ra 10) = rw7 G s10 := (hp_303.2 (ra 10) (Ne.symm (no10))).trans f_324
      have f_326 : F_312 (ra 10) = rw7 G s10 := (o_317 (ra 10) (fun h => absurd (hin 10 9 (by decide) (by decide) h) (by decide)) (fun h => absurd (hin 10 0 (by decide) (by decide) h) (by decide))).trans f_325
      refine q_callv hw (q_runV (As := [.ref b, .ref (ra 8), .int (nI (cu)), .ref (ra 10)]) (c_X1_takeBracket l G L F_312 k ra b (ra 8) (ra 10) cu v ((m_br u v cu)) s10 t_316  mk f_318 hra hin mb f_321 ((hra 8 (by decide))) f_322 ((hra 10 (by decide))) f_326 f_315 (nb10) (fun h => absurd (hin 8 10 (by decide) (by decide) h) (by decide)) (nb0) (fun h => absurd (hin 8 0 (by decide) (by decide) h) (by decide)) (fun h => absurd (hin 10 0 (by decide) (by decide) h) (by decide)) (by omega) (by omega) ) C0 hw vw_X1_112 mk f_318 rfl rfl rfl hl.1 rfl (Nat.le_of_ble_eq_true rfl) dX1_secondWay_70 ⟨by decide, by decide⟩ ⟨by decide, by decide⟩) rfl rfl (fun F_327 H locs hw hp_328 => ?_)
      obtain ⟨f_329, ⟨t_331, f_330⟩, o_332⟩ := hp_328
      refine lv_aload hx hb dX1_secondWay_73 (lv_at hl 5 rfl) ?_
      refine lv_aload_n hx hb dX1_secondWay_75 rfl (lv_at hl 0 rfl) ?_
      have f_333 : F_327 k = rkO ra := (o_332 k (ne_oa f_318 f_326) (ne_oa f_318 f_315)).trans f_318
      refine q_get C0 hw mk f_333 fw_X1_39 rfl dX1_secondWay_76 ?_
      refine lv_sipush (v := nI 834) hx hb dX1_secondWay_79 (by decide) ?_
      have f_334 : F_312 o = rw7 G ((m_am ((m_add u v)) ((m_br u v cu)) (zc 5004))) := (o_317 o (no9) (no0)).trans hp_303.1
      have f_335 : F_327 o = rw7 G ((m_am ((m_add u v)) ((m_br u v cu)) (zc 5004))) := (o_332 o (no10) (no0)).trans f_334
      have f_336 : F_327 (ra 9) = rw7 G ((m_br u ((m_br u v cu)) cu)) := (o_332 (ra 9) (fun h => absurd (hin 9 10 (by decide) (by decide) h) (by decide)) (fun h => absurd (hin 9 0 (by decide) (by decide) h) (by decide))).trans f_314
      refine q_callv hw (q_runS (As := [.ref o, .ref (ra 9), .int (nI (834))]) (c_X1_addMultiple l G L F_327 o (ra 9) ((m_am ((m_add u v)) ((m_br u v cu)) (zc 5004))) ((m_br u ((m_br u v cu)) cu)) (zc 834) mo f_335 ((hra 9 (by decide))) f_336 (Ne.symm (no9))) C0 hw sw_X1_72 rfl hl.1 rfl (Nat.le_of_ble_eq_true rfl) dX1_secondWay_82 ⟨by decide, by decide⟩ ⟨by decide, by decide⟩) rfl rfl (fun F_337 H locs hw hp_338 => ?_)
      refine lv_aload hx hb dX1_secondWay_85 (lv_at hl 5 rfl) ?_
      refine lv_aload_n hx hb dX1_secondWay_87 rfl (lv_at hl 0 rfl) ?_
      have f_339 : F_337 k = rkO ra := (hp_338.2 k (ne_oa f_333 f_335)).trans f_333
      refine q_get C0 hw mk f_339 fw_X1_42 rfl dX1_secondWay_88 ?_
      refine lv_sipush (v := nI 9173) hx hb dX1_secondWay_91 (by decide) ?_
      have f_340 : F_337 (ra 10) = rw7 G ((m_br v ((m_br u v cu)) cu)) := (hp_338.2 (ra 10) (Ne.symm (no10))).trans f_329
      refine q_callv hw (q_runS (As := [.ref o, .ref (ra 10), .int (nI (9173))]) (c_X1_addMultiple l G L F_337 o (ra 10) ((m_am ((m_am ((m_add u v)) ((m_br u v cu)) (zc 5004))) ((m_br u ((m_br u v cu)) cu)) (zc 834))) ((m_br v ((m_br u v cu)) cu)) (zc 9173) mo hp_338.1 ((hra 10 (by decide))) f_340 (Ne.symm (no10))) C0 hw sw_X1_72 rfl hl.1 rfl (Nat.le_of_ble_eq_true rfl) dX1_secondWay_94 ⟨by decide, by decide⟩ ⟨by decide, by decide⟩) rfl rfl (fun F_341 H locs hw hp_342 => ?_)
      refine lv_iload_n hx hb dX1_secondWay_97 rfl (lv_at hl 3 rfl) ?_
      refine lv_iconst (v := nI 5) hx hb dX1_secondWay_98 (by decide) ?_
      refine n_icmp_ge (tgt := 103) hx hb dX1_secondWay_99 (by decide) (by omega) (by decide) (fun c_99 => ?_) (fun c_99 => ?_)
      · skip
        refine lv_aload_n hx hb dX1_secondWay_103 rfl (lv_at hl 0 rfl) ?_
        refine lv_aload_n hx hb dX1_secondWay_104 rfl (lv_at hl 2 rfl) ?_
        refine lv_aload_n hx hb dX1_secondWay_105 rfl (lv_at hl 0 rfl) ?_
        have f_343 : F_341 k = rkO ra := (hp_342.2 k (ne_oa f_339 hp_338.1)).trans f_339
        refine q_get C0 hw mk f_343 fw_X1_39 rfl dX1_secondWay_106 ?_
        refine lv_iload hx hb dX1_secondWay_109 (lv_at hl 4 rfl) ?_
        refine lv_aload_n hx hb dX1_secondWay_111 rfl (lv_at hl 0 rfl) ?_
        refine q_get C0 hw mk f_343 fw_X1_42 rfl dX1_secondWay_112 ?_
        have f_344 : F_327 b = rw7 G v := (o_332 b (nb10) (nb0)).trans f_321
        have f_345 : F_337 b = rw7 G v := (hp_338.2 b (nbo)).trans f_344
        have f_346 : F_341 b = rw7 G v := (hp_342.2 b (nbo)).trans f_345
        have f_347 : F_337 (ra 9) = rw7 G ((m_br u ((m_br u v cu)) cu)) := (hp_338.2 (ra 9) (Ne.symm (no9))).trans f_336
        have f_348 : F_341 (ra 9) = rw7 G ((m_br u ((m_br u v cu)) cu)) := (hp_342.2 (ra 9) (Ne.symm (no9))).trans f_347
        have f_349 : F_341 (ra 10) = rw7 G ((m_br v ((m_br u v cu)) cu)) := (hp_342.2 (ra 10) (Ne.symm (no10))).trans f_340
        have f_350 : F_337 (ra 0) = rw7 G t_331 := (hp_338.2 (ra 0) (Ne.symm (no0))).trans f_330
        have f_351 : F_341 (ra 0) = rw7 G t_331 := (hp_342.2 (ra 0) (Ne.symm (no0))).trans f_350
        refine q_callv hw (q_runV (As := [.ref b, .ref (ra 9), .int (nI (cu)), .ref (ra 10)]) (c_X1_takeBracket l G L F_341 k ra b (ra 9) (ra 10) cu v ((m_br u ((m_br u v cu)) cu)) ((m_br v ((m_br u v cu)) cu)) t_331  mk f_343 hra hin mb f_346 ((hra 9 (by decide))) f_348 ((hra 10 (by decide))) f_349 f_351 (nb10) (fun h => absurd (hin 9 10 (by decide) (by decide) h) (by decide)) (nb0) (fun h => absurd (hin 9 0 (by decide) (by decide) h) (by decide)) (fun h => absurd (hin 10 0 (by decide) (by decide) h) (by decide)) (by omega) (by omega) ) C0 hw vw_X1_112 mk f_343 rfl rfl rfl hl.1 rfl (Nat.le_of_ble_eq_true rfl) dX1_secondWay_115 ⟨by decide, by decide⟩ ⟨by decide, by decide⟩) rfl rfl (fun F_352 H locs hw hp_353 => ?_)
        obtain ⟨f_354, ⟨t_356, f_355⟩, o_357⟩ := hp_353
        refine lv_aload hx hb dX1_secondWay_118 (lv_at hl 5 rfl) ?_
        refine lv_aload_n hx hb dX1_secondWay_120 rfl (lv_at hl 0 rfl) ?_
        have f_358 : F_352 k = rkO ra := (o_357 k (ne_oa f_343 f_349) (ne_oa f_343 f_351)).trans f_343
        refine q_get C0 hw mk f_358 fw_X1_42 rfl dX1_secondWay_121 ?_
        refine lv_sipush (v := nI 9590) hx hb dX1_secondWay_124 (by decide) ?_
        have f_359 : F_352 o = rw7 G ((m_am ((m_am ((m_am ((m_add u v)) ((m_br u v cu)) (zc 5004))) ((m_br u ((m_br u v cu)) cu)) (zc 834))) ((m_br v ((m_br u v cu)) cu)) (zc 9173))) := (o_357 o (no10) (no0)).trans hp_342.1
        refine q_callv hw (q_runS (As := [.ref o, .ref (ra 10), .int (nI (9590))]) (c_X1_addMultiple l G L F_352 o (ra 10) ((m_am ((m_am ((m_am ((m_add u v)) ((m_br u v cu)) (zc 5004))) ((m_br u ((m_br u v cu)) cu)) (zc 834))) ((m_br v ((m_br u v cu)) cu)) (zc 9173))) ((m_br v ((m_br u ((m_br u v cu)) cu)) cu)) (zc 9590) mo f_359 ((hra 10 (by decide))) f_354 (Ne.symm (no10))) C0 hw sw_X1_72 rfl hl.1 rfl (Nat.le_of_ble_eq_true rfl) dX1_secondWay_127 ⟨by decide, by decide⟩ ⟨by decide, by decide⟩) rfl rfl (fun F_360 H locs hw hp_361 => ?_)
        have h9o : F_360 o = rw7 G (m_way u v y cu) := hp_361.1.trans (congrArg (rw7 G) (by unfold m_way; rw [if_neg (by omega), if_neg (by omega), if_neg (by omega)]; rfl))
        have f_362 : F_327 (ra 8) = rw7 G ((m_br u v cu)) := (o_332 (ra 8) (fun h => absurd (hin 8 10 (by decide) (by decide) h) (by decide)) (fun h => absurd (hin 8 0 (by decide) (by decide) h) (by decide))).trans f_322
        have f_363 : F_337 (ra 8) = rw7 G ((m_br u v cu)) := (hp_338.2 (ra 8) (Ne.symm (no8))).trans f_362
        have f_364 : F_341 (ra 8) = rw7 G ((m_br u v cu)) := (hp_342.2 (ra 8) (Ne.symm (no8))).trans f_363
        have f_365 : F_352 (ra 8) = rw7 G ((m_br u v cu)) := (o_357 (ra 8) (fun h => absurd (hin 8 10 (by decide) (by decide) h) (by decide)) (fun h => absurd (hin 8 0 (by decide) (by decide) h) (by decide))).trans f_364
        have f_366 : F_360 (ra 8) = rw7 G ((m_br u v cu)) := (hp_361.2 (ra 8) (Ne.symm (no8))).trans f_365
        have f_367 : F_352 (ra 9) = rw7 G ((m_br u ((m_br u v cu)) cu)) := (o_357 (ra 9) (fun h => absurd (hin 9 10 (by decide) (by decide) h) (by decide)) (fun h => absurd (hin 9 0 (by decide) (by decide) h) (by decide))).trans f_348
        have f_368 : F_360 (ra 9) = rw7 G ((m_br u ((m_br u v cu)) cu)) := (hp_361.2 (ra 9) (Ne.symm (no9))).trans f_367
        have f_369 : F_360 (ra 10) = rw7 G ((m_br v ((m_br u ((m_br u v cu)) cu)) cu)) := (hp_361.2 (ra 10) (Ne.symm (no10))).trans f_354
        have f_370 : F_360 (ra 0) = rw7 G t_356 := (hp_361.2 (ra 0) (Ne.symm (no0))).trans f_355
        exact r_v C0 hr hlk hw ⟨h9o, ⟨_, f_366⟩, ⟨_, f_368⟩, ⟨_, f_369⟩, ⟨_, f_370⟩, (fun q k0 k1 k2 k3 k4 => ((hp_361.2 q k0).trans ((o_357 q k3 k4).trans ((hp_342.2 q k0).trans ((hp_338.2 q k0).trans ((o_332 q k3 k4).trans ((o_317 q k2 k4).trans ((hp_303.2 q k0).trans ((o_299 q k1 k4).trans (hp_288.2 q k0))))))))))⟩ (Nat.le_refl _) (Nat.le_refl _) dX1_secondWay_130 hQ
      · skip
        have h9o : F_341 o = rw7 G (m_way u v y cu) := hp_342.1.trans (congrArg (rw7 G) (by unfold m_way; rw [if_neg (by omega), if_neg (by omega), if_pos (by omega)]; rfl))
        have f_371 : F_327 (ra 8) = rw7 G ((m_br u v cu)) := (o_332 (ra 8) (fun h => absurd (hin 8 10 (by decide) (by decide) h) (by decide)) (fun h => absurd (hin 8 0 (by decide) (by decide) h) (by decide))).trans f_322
        have f_372 : F_337 (ra 8) = rw7 G ((m_br u v cu)) := (hp_338.2 (ra 8) (Ne.symm (no8))).trans f_371
        have f_373 : F_341 (ra 8) = rw7 G ((m_br u v cu)) := (hp_342.2 (ra 8) (Ne.symm (no8))).trans f_372
        have f_374 : F_337 (ra 9) = rw7 G ((m_br u ((m_br u v cu)) cu)) := (hp_338.2 (ra 9) (Ne.symm (no9))).trans f_336
        have f_375 : F_341 (ra 9) = rw7 G ((m_br u ((m_br u v cu)) cu)) := (hp_342.2 (ra 9) (Ne.symm (no9))).trans f_374
        have f_376 : F_341 (ra 10) = rw7 G ((m_br v ((m_br u v cu)) cu)) := (hp_342.2 (ra 10) (Ne.symm (no10))).trans f_340
        have f_377 : F_337 (ra 0) = rw7 G t_331 := (hp_338.2 (ra 0) (Ne.symm (no0))).trans f_330
        have f_378 : F_341 (ra 0) = rw7 G t_331 := (hp_342.2 (ra 0) (Ne.symm (no0))).trans f_377
        exact r_v C0 hr hlk hw ⟨h9o, ⟨_, f_373⟩, ⟨_, f_375⟩, ⟨_, f_376⟩, ⟨_, f_378⟩, (fun q k0 k1 k2 k3 k4 => ((hp_342.2 q k0).trans ((hp_338.2 q k0).trans ((o_332 q k3 k4).trans ((o_317 q k2 k4).trans ((hp_303.2 q k0).trans ((o_299 q k1 k4).trans (hp_288.2 q k0))))))))⟩ (Nat.le_refl _) (Nat.le_refl _) dX1_secondWay_102 hQ
    · skip
      have h9o : F_302 o = rw7 G (m_way u v y cu) := hp_303.1.trans (congrArg (rw7 G) (by unfold m_way; rw [if_neg (by omega), if_pos (by omega)]; rfl))
      have f_379 : F_302 (ra 8) = rw7 G ((m_br u v cu)) := (hp_303.2 (ra 8) (Ne.symm (no8))).trans f_296
      have f_380 : F_287 (ra 9) = rw7 G s9 := (hp_288.2 (ra 9) (Ne.symm (no9))).trans fs9
      have f_381 : F_294 (ra 9) = rw7 G s9 := (o_299 (ra 9) (fun h => absurd (hin 9 8 (by decide) (by decide) h) (by decide)) (fun h => absurd (hin 9 0 (by decide) (by decide) h) (by decide))).trans f_380
      have f_382 : F_302 (ra 9) = rw7 G s9 := (hp_303.2 (ra 9) (Ne.symm (no9))).trans f_381
      have f_383 : F_287 (ra 10) = rw7 G s10 := (hp_288.2 (ra 10) (Ne.symm (no10))).trans fs10
      have f_384 : F_294 (ra 10) = rw7 G s10 := (o_299 (ra 10) (fun h => absurd (hin 10 8 (by decide) (by decide) h) (by decide)) (fun h => absurd (hin 10 0 (by decide) (by decide) h) (by decide))).trans f_383
      have f_385 : F_302 (ra 10) = rw7 G s10 := (hp_303.2 (ra 10) (Ne.symm (no10))).trans f_384
      have f_386 : F_302 (ra 0) = rw7 G t_298 := (hp_303.2 (ra 0) (Ne.symm (no0))).trans f_297
      exact r_v C0 hr hlk hw ⟨h9o, ⟨_, f_379⟩, ⟨_, f_382⟩, ⟨_, f_385⟩, ⟨_, f_386⟩, (fun q k0 k1 k2 k3 k4 => ((hp_303.2 q k0).trans ((o_299 q k1 k4).trans (hp_288.2 q k0))))⟩ (Nat.le_refl _) (Nat.le_refl _) dX1_secondWay_42 hQ
  · skip
    have h9o : F_287 o = rw7 G (m_way u v y cu) := hp_288.1.trans (congrArg (rw7 G) (by unfold m_way; rw [if_pos (by omega)]; rfl))
    have f_387 : F_287 (ra 8) = rw7 G s8 := (hp_288.2 (ra 8) (Ne.symm (no8))).trans fs8
    have f_388 : F_287 (ra 9) = rw7 G s9 := (hp_288.2 (ra 9) (Ne.symm (no9))).trans fs9
    have f_389 : F_287 (ra 10) = rw7 G s10 := (hp_288.2 (ra 10) (Ne.symm (no10))).trans fs10
    have f_390 : F_287 (ra 0) = rw7 G s0 := (hp_288.2 (ra 0) (Ne.symm (no0))).trans fs0
    exact r_v C0 hr hlk hw ⟨h9o, ⟨_, f_387⟩, ⟨_, f_388⟩, ⟨_, f_389⟩, ⟨_, f_390⟩, (fun q k0 k1 k2 k3 k4 => (hp_288.2 q k0))⟩ (Nat.le_refl _) (Nat.le_refl _) dX1_secondWay_12 hQ
end
section
/-! the model's rows: twenty rows of seven numbers in one array -/
def pc (pl : Nat → Nat → ZP) : Nat → Int32 := fun j => nI (pl (j / 7) (j % 7)).val
abbrev pcE (G : Gl) (pl : Nat → Nat → ZP) : va_E := .inl (G.2 0, 140, .inl (pc pl))
theorem pc_at (pl : Nat → Nat → ZP) (p k : Nat) (hk : k < 7) : pc pl (7 * p + k) = nI (pl p k).val := by
  unfold pc
  rw [show (7 * p + k) / 7 = p by omega, show (7 * p + k) % 7 = k by omega]
theorem pc_upd (pl : Nat → Nat → ZP) (p k : Nat) (hk : k < 7) (z : ZP) : upd (pc pl) (7 * p + k) (nI z.val) = pc (va_up pl p (va_up (pl p) k z)) := by
  funext j
  by_cases h : j = 7 * p + k
  · subst h
    rw [pc_at _ _ _ hk]
    simp [upd, va_up]
  · have h2 : ¬ (j / 7 = p ∧ j % 7 = k) := by omega
    unfold pc
    simp only [upd, h, if_false]
    by_cases h3 : j / 7 = p
    · have h4 : ¬ j % 7 = k := fun z => h2 ⟨h3, z⟩
      simp [va_up, h3, h4]
    · simp [va_up, h3]
theorem pcE_congr {G : Gl} {A B : Nat → Nat → ZP} (h : ∀ p k, k < 7 → A p k = B p k) : pcE G A = pcE G B := by
  have e : pc A = pc B := by
    funext j
    unfold pc
    rw [h (j / 7) (j % 7) (by omega)]
  unfold pcE
  rw [e]
theorem pcE_row {G : Gl} {pl : Nat → Nat → ZP} {p : Nat} {f w : Nat → ZP} (h : ∀ k, k < 7 → f k = w k) : pcE G (va_up pl p f) = pcE G (va_up pl p w) := pcE_congr (fun q k hk => by
  by_cases e : q = p
  · subst e
    rw [va_up_self, va_up_self, h k hk]
  · rw [va_up_ne _ _ e, va_up_ne _ _ e])
theorem pst_s (pl : Nat → Nat → ZP) (p : Nat) (f w : Nat → ZP) (i : Nat) {z : ZP} (hz : z = f i) : va_up (va_up pl p (m_upto f w i)) p (va_up ((va_up pl p (m_upto f w i)) p) i z) = va_up pl p (m_upto f w (i + 1)) := by
  rw [bx_uu, va_up_self, m_upto_s f w i hz]
theorem pst_0 (pl : Nat → Nat → ZP) (p : Nat) (f : Nat → ZP) : pl = va_up pl p (m_upto f (pl p) 0) := by
  rw [m_upto_0]
  funext q
  by_cases e : q = p
  · subst e
    rw [va_up_self]
  · rw [va_up_ne _ _ e]
theorem pst_7 {G : Gl} (pl : Nat → Nat → ZP) (p : Nat) (f w : Nat → ZP) : pcE G (va_up pl p (m_upto f w 7)) = pcE G (va_up pl p f) := pcE_row (fun k hk => m_upto_7 f w k hk)
def m_mulT (u v : Nat → ZP) (cu : Nat) : Nat → ZP := fun j => if j ≤ cu then m_mulc u v j else 0
def m_mx (u v : Nat → ZP) (cu a b : Nat) : Nat → ZP := fun j => if j ≤ cu then m_mulS u v j (min a (j + 1)) + (if a ≤ j ∧ j < a + b then u a * v (j - a) else 0) else 0
theorem m_mx_0 (u v : Nat → ZP) (cu : Nat) : (fun _ => 0) = m_mx u v cu 0 0 := by
  funext j
  have h : ¬ (0 ≤ j ∧ j < 0 + 0) := by omega
  simp only [m_mx, h, if_false, Nat.zero_min, m_mulS]
  split <;> simp
theorem m_mx_in (u v : Nat → ZP) {cu a b : Nat} (h : a + b ≤ cu) : va_up (m_mx u v cu a b) (a + b) (m_mx u v cu a b (a + b) + u a * v b) = m_mx u v cu a (b + 1) := by
  funext j
  by_cases e : j = a + b
  · subst e
    have h1 : ¬ (a ≤ a + b ∧ a + b < a + b) := by omega
    have h2 : a ≤ a + b ∧ a + b < a + (b + 1) := by omega
    rw [va_up_self]
    unfold m_mx
    simp only [h, if_true]
    rw [if_neg h1, if_pos h2, Nat.add_sub_cancel_left, Fin.add_zero]
  · rw [va_up_ne _ _ e]
    have h3 : (a ≤ j ∧ j < a + (b + 1)) = (a ≤ j ∧ j < a + b) := by simp only [eq_iff_iff]; omega
    simp only [m_mx, h3]
theorem m_mx_out (u v : Nat → ZP) {cu a : Nat} (h : a ≤ cu) : m_mx u v cu a (cu + 1 - a) = m_mx u v cu (a + 1) 0 := by
  funext j
  have h0 : ¬ (a + 1 ≤ j ∧ j < a + 1 + 0) := by omega
  simp only [m_mx, h0, if_false]
  by_cases hj : j ≤ cu
  · simp only [hj, if_true]
    by_cases ha : a ≤ j
    · have h1 : a ≤ j ∧ j < a + (cu + 1 - a) := by omega
      rw [if_pos h1, show min a (j + 1) = a by omega, show min (a + 1) (j + 1) = a + 1 by omega, Fin.add_zero]
      rfl
    · have h1 : ¬ (a ≤ j ∧ j < a + (cu + 1 - a)) := by omega
      rw [if_neg h1, show min a (j + 1) = j + 1 by omega, show min (a + 1) (j + 1) = j + 1 by omega]
  · simp only [hj, if_false]
theorem m_mx_e (u v : Nat → ZP) (cu : Nat) : m_mx u v cu (cu + 1) 0 = m_mulT u v cu := by
  funext j
  have h0 : ¬ (cu + 1 ≤ j ∧ j < cu + 1 + 0) := by omega
  simp only [m_mx, h0, if_false, m_mulT, Fin.add_zero]
  by_cases hj : j ≤ cu
  · rw [if_pos hj, if_pos hj, show min (cu + 1) (j + 1) = j + 1 by omega]
    rfl
  · rw [if_neg hj, if_neg hj]
def m_der (u : Nat → ZP) : Nat → ZP := fun k => if k < 6 then u (k + 1) * zc (k + 1) else 0
def m_one : Nat → ZP := fun k => if k = 0 then 1 else 0
def m_pw (u : Nat → ZP) (cu : Nat) : Nat → Nat → ZP
  | 0 => m_one
  | k + 1 => m_mulT (m_pw u cu k) u cu
def m_pn (u v : Nat → ZP) (cu : Nat) : Nat → Nat → ZP
  | 0 => fun _ => 0
  | k + 1 => m_am (m_pn u v cu k) (m_pw u cu k) (v k)
def m_pi (u v : Nat → ZP) (cu : Nat) : Nat → ZP := m_pn u v cu (cu + 1)
def m_ivn (u : Nat → ZP) (cu : Nat) : Nat → Nat → ZP
  | 0 => m_x
  | j + 1 => va_up (m_ivn u cu j) (j + 2) (m_ivn u cu j (j + 2) - m_pi u (m_ivn u cu j) cu (j + 2))
def m_invM (u : Nat → ZP) (cu : Nat) : Nat → ZP := m_ivn u cu (cu - 1)
def m_xT (f : Nat → ZP) (cu : Nat) : Nat → Nat → ZP
  | 0 => m_x
  | n + 1 => m_am (fun _ => 0) (m_mulT f (m_der (m_xT f cu n)) cu) (m_finv (zc (n + 1)))
def m_xO (f : Nat → ZP) (cu : Nat) : Nat → Nat → ZP
  | 0 => m_x
  | n + 1 => m_am (m_xO f cu n) (m_xT f cu (n + 1)) 1
def m_expM (f : Nat → ZP) (cu : Nat) : Nat → ZP := m_xO f cu (cu - 1)
def m_lgn (u : Nat → ZP) (cu : Nat) : Nat → Nat → ZP
  | 0 => fun _ => 0
  | j + 1 => va_up (m_lgn u cu j) (j + 2) (m_lgn u cu j (j + 2) + u (j + 2) - m_expM (m_lgn u cu j) cu (j + 2))
def m_logM (u : Nat → ZP) (cu : Nat) : Nat → ZP := m_lgn u cu (cu - 1)
def m_brM (f g : Nat → ZP) (cu : Nat) : Nat → ZP := m_am (m_mulT f (m_der g) cu) (m_mulT g (m_der f) cu) (zc 10006)
def m_wayM (a b : Nat → ZP) (y cu : Nat) : Nat → ZP :=
  let w := m_brM a b cu
  let wa := m_brM a w cu
  let wb := m_brM b w cu
  let wc := m_brM b wa cu
  let t2 := m_am a b (zc 1)
  let t3 := m_am t2 w (m_finv (zc 2))
  let t4 := m_am (m_am t3 wa (m_finv (zc 12))) wb (zc (10007 - (m_finv (zc 12)).val))
  let t5 := m_am t4 wc (zc (10007 - (m_finv (zc 24)).val))
  if y ≤ 2 then t2 else if y ≤ 3 then t3 else if y ≤ 4 then t4 else t5
abbrev mO (ma : Nat → Nat) (mi : Nat → Int32) (hh : Int64) : va_E := .inr (6, [.ref (ma 0), .int (mi 0), .ref (ma 1), .ref (ma 2), .ref (ma 3), .ref (ma 4), .int (mi 1), .ref (ma 5), .int (mi 2), .ref (ma 6), .int (mi 3), .int (mi 4), .long hh])
section PROWS
variable {p : Program} {l : Launch} {e : Env} {R : Room} {s : State} {m : MethodId} {args : Array Value} {below : List Frame} {meth : Method} {c : Code} {H : Heap} {locs : List Loc} {cells slots : Nat} {Q : State → Prop}
variable {cc : ByteArray} {nL : Nat} {own : String} {pc9 : Nat} {ls : Array Slot} {rest : List Value} {G : Gl} {L : List Nat} {F : Nat → va_E} {a : Nat}
theorem q_pst (C0 : Cx p s m args c cc nL own G L) (hw : wD G L F s H locs) (ha : a ∈ L) {pl : Nat → Nat → ZP} (he : F a = pcE G pl) (r k : Nat) (hr : r < 20) (hk : k < 7) {z : ZP} (hdg : decode cc pc9 = .ok (.iastore, 1))
    (kk : ∀ (F' : Nat → va_E) (H1 : Heap) (locs1 : List Loc), wD G L F' s H1 locs1 → F' a = pcE G (va_up pl r (va_up (pl r) k z)) → (∀ q, q ≠ a → F' q = F q) → W p l e R s m args below meth c H1 locs1 cells slots Q (F0 m (pc9 + 1) ls rest)) : W p l e R s m args below meth c H locs cells slots Q (F0 m pc9 ls (.int (nI z.val) :: .int (nI (7 * r + k)) :: .ref a :: rest)) := q_iast C0 hw ha he (7 * r + k) (by omega) (by decide) hdg (fun F' H1 locs1 hw1 h1 h2 => kk F' H1 locs1 hw1 (by rw [h1, pc_upd pl r k hk z]) h2)
end PROWS
end
section
/-! the two ways of reckoning come to the same -/
theorem z_0m (a : ZP) : 0 * a = 0 := by grind
theorem z_m0 (a : ZP) : a * 0 = 0 := by grind
theorem z_a0 (a : ZP) : a + 0 = a := by grind
theorem z_0a (a : ZP) : 0 + a = a := by grind
theorem z_m1 (a : ZP) : a * 1 = a := by grind
theorem act_eq {f : Nat → ZP} (g : Nat → ZP) {cu : Nat} (h0 : f 0 = 0) (h1 : f 1 = 0) (hc : cu ≤ 6) : m_mulT f (m_der g) cu = m_act f g cu := by
  funext p
  by_cases hp : p ≤ cu
  · rcases (show p = 0 ∨ p = 1 ∨ p = 2 ∨ p = 3 ∨ p = 4 ∨ p = 5 ∨ p = 6 by omega) with rfl | rfl | rfl | rfl | rfl | rfl | rfl
    all_goals
      simp [m_mulT, m_act, hp, m_mulc, m_mulS, m_actc, m_sumc, m_der, h0, h1]
    all_goals grind
  · have h2 : ¬ (2 ≤ p ∧ p ≤ cu) := by omega
    unfold m_mulT m_act
    rw [if_neg hp, if_neg h2]
theorem mul_comm7 (f g : Nat → ZP) {cu : Nat} (hc : cu ≤ 6) : m_mulT f g cu = m_mulT g f cu := by
  funext p
  by_cases hp : p ≤ cu
  · rcases (show p = 0 ∨ p = 1 ∨ p = 2 ∨ p = 3 ∨ p = 4 ∨ p = 5 ∨ p = 6 by omega) with rfl | rfl | rfl | rfl | rfl | rfl | rfl
    all_goals
      simp [m_mulT, hp, m_mulc, m_mulS]
    all_goals grind
  · simp only [m_mulT, hp, if_false]
theorem am_0 (u : Nat → ZP) (z : ZP) : m_am (fun _ => 0) u z = m_scale u z := by
  funext k
  simp [m_am, m_scale, z_0m, z_m0, z_a0, z_0a, z_m1]
theorem am_1 (u v : Nat → ZP) : m_am u v (zc 1) = m_add u v := by
  funext k
  simp [m_am, m_add, zc_1, z_0m, z_m0, z_a0, z_0a, z_m1]
theorem iv_finv : ∀ n : Nat, n < 6 → 1 ≤ n → m_finv (zc n) = m_iv n := by decide +kernel
theorem br_eq {f g : Nat → ZP} {cu : Nat} (f0 : f 0 = 0) (f1 : f 1 = 0) (g0 : g 0 = 0) (g1 : g 1 = 0) (hc : cu ≤ 6) : m_brM f g cu = m_br f g cu := by
  unfold m_brM m_br
  rw [act_eq g f0 f1 hc, act_eq f g0 g1 hc]
theorem xT_eq {f : Nat → ZP} {cu : Nat} (f0 : f 0 = 0) (f1 : f 1 = 0) (hc : cu ≤ 6) : ∀ n, n < 6 → m_xT f cu n = m_exT f cu n
  | 0, _ => rfl
  | n + 1, h => by
    simp only [m_xT, m_exT]
    rw [xT_eq f0 f1 hc n (by omega), act_eq _ f0 f1 hc, am_0, iv_finv (n + 1) h (by omega)]
theorem xO_eq {f : Nat → ZP} {cu : Nat} (f0 : f 0 = 0) (f1 : f 1 = 0) (hc : cu ≤ 6) : ∀ n, n < 6 → m_xO f cu n = m_exO f cu n
  | 0, _ => rfl
  | n + 1, h => by
    simp only [m_xO, m_exO]
    rw [xO_eq f0 f1 hc n (by omega), xT_eq f0 f1 hc (n + 1) h]
theorem exp_eq {f : Nat → ZP} {cu : Nat} (f0 : f 0 = 0) (f1 : f 1 = 0) (hc : cu ≤ 6) : m_expM f cu = m_exp f cu := xO_eq f0 f1 hc (cu - 1) (by omega)
-- the powers' sum and Horner's way
def m_lc (A : Nat → Nat → ZP) (c : Nat → ZP) : Nat → Nat → ZP
  | 0, _ => 0
  | k + 1, j => m_lc A c k j + A k j * c k
theorem lc_head (A : Nat → Nat → ZP) (c : Nat → ZP) (j : Nat) : ∀ k, m_lc A c (k + 1) j = A 0 j * c 0 + m_lc (fun i => A (i + 1)) (fun i => c (i + 1)) k j
  | 0 => by simp [m_lc, z_0m, z_m0, z_a0, z_0a, z_m1]
  | k + 1 => by
    rw [m_lc, lc_head A c j k, m_lc]
    grind
theorem lc_congr {A B : Nat → Nat → ZP} {c d : Nat → ZP} {j : Nat} : ∀ k, (∀ i, i < k → A i j = B i j ∧ c i = d i) → m_lc A c k j = m_lc B d k j
  | 0, _ => rfl
  | k + 1, h => by
    rw [m_lc, m_lc, lc_congr k (fun i hi => h i (by omega)), (h k (by omega)).1, (h k (by omega)).2]
theorem mulS_congr {X Y : Nat → ZP} (u : Nat → ZP) (p : Nat) : ∀ n, (∀ q, q < n → X q = Y q) → m_mulS X u p n = m_mulS Y u p n
  | 0, _ => rfl
  | n + 1, h => by
    rw [m_mulS, m_mulS, mulS_congr u p n (fun q hq => h q (by omega)), h n (by omega)]
theorem mulS_add (X Y : Nat → ZP) (t : ZP) (u : Nat → ZP) (p : Nat) : ∀ n, m_mulS (fun q => X q + Y q * t) u p n = m_mulS X u p n + m_mulS Y u p n * t
  | 0 => by simp [m_mulS, z_0m, z_m0, z_a0, z_0a, z_m1]
  | n + 1 => by
    rw [m_mulS, m_mulS, m_mulS, mulS_add X Y t u p n]
    grind
theorem mulS_zero (u : Nat → ZP) (p : Nat) : ∀ n, m_mulS (fun _ => 0) u p n = 0
  | 0 => rfl
  | n + 1 => by
    rw [m_mulS, mulS_zero u p n]
    simp [z_0m, z_m0, z_a0, z_0a, z_m1]
theorem mulc_lc (A : Nat → Nat → ZP) (c : Nat → ZP) (u : Nat → ZP) (j : Nat) : ∀ k, m_mulc (m_lc A c k) u j = m_lc (fun i => m_mulc (A i) u) c k j
  | 0 => mulS_zero u j (j + 1)
  | k + 1 => by
    have h := mulS_add (m_lc A c k) (A k) (c k) u j (j + 1)
    show m_mulS (fun q => m_lc A c k q + A k q * c k) u j (j + 1) = m_lc (fun i => m_mulc (A i) u) c k j + m_mulc (A k) u j * c k
    rw [h]
    have h2 := mulc_lc A c u j k
    unfold m_mulc at h2
    rw [h2]
    rfl
theorem pn_lc (u v : Nat → ZP) (cu : Nat) (j : Nat) : ∀ k, m_pn u v cu k j = m_lc (m_pw u cu) v k j
  | 0 => rfl
  | k + 1 => by
    rw [m_lc, ← pn_lc u v cu j k]
    rfl
theorem hn_lc (u v : Nat → ZP) (cu : Nat) : ∀ k, k ≤ cu + 1 → ∀ j, j ≤ cu → m_hn u v cu k j = m_lc (m_pw u cu) (fun i => v (cu + 1 - k + i)) k j
  | 0, _, _, _ => rfl
  | k + 1, hk, j, hj => by
    rw [lc_head]
    simp only [m_hn, hj, if_true]
    have e1 : m_mulc (m_hn u v cu k) u j = m_mulc (m_lc (m_pw u cu) (fun i => v (cu + 1 - k + i)) k) u j := mulS_congr u j (j + 1) (fun q hq => hn_lc u v cu k (by omega) q (by omega))
    rw [e1, mulc_lc]
    have e2 : m_lc (fun i => m_mulc (m_pw u cu i) u) (fun i => v (cu + 1 - k + i)) k j = m_lc (fun i => m_pw u cu (i + 1)) (fun i => v (cu + 1 - (k + 1) + (i + 1))) k j := lc_congr k (fun i hi => ⟨by simp only [m_pw, m_mulT, hj, if_true], by congr 1; omega⟩)
    rw [e2]
    have e3 : m_pw u cu 0 j * v (cu + 1 - (k + 1) + 0) = if j = 0 then v (cu - k) else 0 := by
      have e4 : cu + 1 - (k + 1) + 0 = cu - k := by omega
      rw [e4]
      show m_one j * _ = _
      unfold m_one
      split <;> grind
    rw [e3]
    grind
theorem pn_hi (u v : Nat → ZP) (cu : Nat) {j : Nat} (h : cu < j) : ∀ k, m_pn u v cu k j = 0
  | 0 => rfl
  | k + 1 => by
    have h1 : m_pw u cu k j = 0 := by
      cases k with
      | zero => show m_one j = 0; unfold m_one; rw [if_neg (by omega)]
      | succ k => simp only [m_pw, m_mulT]; rw [if_neg (by omega)]
    show m_pn u v cu k j + m_pw u cu k j * v k = 0
    rw [pn_hi u v cu h k, h1]
    simp [z_0m, z_m0, z_a0, z_0a, z_m1]
theorem pi_eq (u v : Nat → ZP) (cu : Nat) : m_pi u v cu = m_sub u v cu := by
  funext j
  unfold m_pi m_sub
  by_cases hj : j ≤ cu
  · rw [hn_lc u v cu (cu + 1) (Nat.le_refl _) j hj, pn_lc]
    exact lc_congr (cu + 1) (fun i hi => ⟨rfl, by congr 1; omega⟩)
  · rw [pn_hi u v cu (by omega), m_hn_hi u v cu _ (by omega)]
-- cut lower
theorem pw_cut (u : Nat → ZP) {c c2 : Nat} : ∀ (k p : Nat), p ≤ c → p ≤ c2 → m_pw u c k p = m_pw u c2 k p
  | 0, _, _, _ => rfl
  | k + 1, p, h1, h2 => by
    simp only [m_pw, m_mulT, h1, h2, if_true]
    exact mulS_congr u p (p + 1) (fun q hq => pw_cut u k q (by omega) (by omega))
theorem pn_cut (u v : Nat → ZP) {c c2 p : Nat} (h1 : p ≤ c) (h2 : p ≤ c2) : ∀ k, m_pn u v c k p = m_pn u v c2 k p
  | 0 => rfl
  | k + 1 => by
    show m_pn u v c k p + m_pw u c k p * v k = m_pn u v c2 k p + m_pw u c2 k p * v k
    rw [pn_cut u v h1 h2 k, pw_cut u k p h1 h2]
theorem pn_more (u v : Nat → ZP) (c p k : Nat) (hv : ∀ i, k ≤ i → v i = 0) : ∀ d, m_pn u v c (k + d) p = m_pn u v c k p
  | 0 => rfl
  | d + 1 => by
    show m_pn u v c (k + d) p + m_pw u c (k + d) p * v (k + d) = _
    rw [pn_more u v c p k hv d, hv (k + d) (by omega)]
    simp [z_0m, z_m0, z_a0, z_0a, z_m1]
theorem sub_cut (u v : Nat → ZP) {c c2 : Nat} (h : c ≤ c2) (hv : ∀ i, c < i → v i = 0) : m_sub u v c2 c = m_sub u v c c := by
  rw [← pi_eq, ← pi_eq]
  unfold m_pi
  rw [pn_cut u v h (Nat.le_refl c) (c2 + 1), show c2 + 1 = c + 1 + (c2 - c) by omega]
  exact pn_more u v c c (c + 1) (fun i hi => hv i (by omega)) (c2 - c)
theorem inn_hi (u : Nat → ZP) : ∀ j i, j + 2 ≤ i → m_inn u j i = 0
  | 0, i, h => by show m_x i = 0; unfold m_x; rw [if_neg (by omega)]
  | j + 1, i, h => by
    show va_up (m_inn u j) (j + 2) _ i = 0
    rw [va_up_ne _ _ (by omega)]
    exact inn_hi u j i (by omega)
theorem ivn_eq (u : Nat → ZP) (cu : Nat) : ∀ j, j + 1 ≤ cu → m_ivn u cu j = m_inn u j
  | 0, _ => rfl
  | j + 1, h => by
    show va_up (m_ivn u cu j) (j + 2) (m_ivn u cu j (j + 2) - m_pi u (m_ivn u cu j) cu (j + 2)) = va_up (m_inn u j) (j + 2) (- m_sub u (m_inn u j) (j + 2) (j + 2))
    rw [ivn_eq u cu j (by omega), inn_hi u j (j + 2) (by omega), pi_eq, sub_cut u (m_inn u j) (c := j + 2) (c2 := cu) (by omega) (fun i hi => inn_hi u j i (by omega))]
    congr 1
theorem inv_eq (u : Nat → ZP) {cu : Nat} (h : 1 ≤ cu) : m_invM u cu = m_inv u cu := ivn_eq u cu (cu - 1) (by omega)
theorem sumc_congr (f : Nat → ZP) {g g2 : Nat → ZP} {p : Nat} (h : ∀ q, q ≤ p → g q = g2 q) : ∀ n, n ≤ p - 1 → m_sumc f g p n = m_sumc f g2 p n
  | 0, _ => rfl
  | n + 1, hn => by
    rw [m_sumc, m_sumc, sumc_congr f h n (by omega), h (p - (n + 2) + 1) (by omega)]
theorem exT_cut (f : Nat → ZP) {c c2 : Nat} : ∀ (n p : Nat), p ≤ c → p ≤ c2 → m_exT f c n p = m_exT f c2 n p
  | 0, _, _, _ => rfl
  | n + 1, p, h1, h2 => by
    simp only [m_exT, m_scale, m_act]
    have e : m_actc f (m_exT f c n) p = m_actc f (m_exT f c2 n) p := sumc_congr f (fun q hq => exT_cut f n q (by omega) (by omega)) (p - 1) (Nat.le_refl _)
    rw [e]
    by_cases h : 2 ≤ p
    · rw [if_pos ⟨h, h1⟩, if_pos ⟨h, h2⟩]
    · rw [if_neg (fun z => h z.1), if_neg (fun z => h z.1)]
theorem sumc_zero (f : Nat → ZP) {g : Nat → ZP} {p : Nat} (h : ∀ q, q < p → g q = 0) : ∀ n, n ≤ p - 1 → m_sumc f g p n = 0
  | 0, _ => rfl
  | n + 1, hn => by
    rw [m_sumc, sumc_zero f h n (by omega), h (p - (n + 2) + 1) (by omega)]
    simp [z_0m, z_m0, z_a0, z_0a, z_m1]
theorem exT_low (f : Nat → ZP) (c : Nat) : ∀ (n p : Nat), p ≤ n → m_exT f c n p = 0
  | 0, p, h => by show m_x p = 0; unfold m_x; rw [if_neg (by omega)]
  | n + 1, p, h => by
    simp only [m_exT, m_scale, m_act]
    have e : m_actc f (m_exT f c n) p = 0 := sumc_zero f (fun q hq => exT_low f c n q (by omega)) (p - 1) (Nat.le_refl _)
    rw [e]
    split <;> simp [z_0m, z_m0, z_a0, z_0a, z_m1]
theorem exO_cut (f : Nat → ZP) {c c2 p : Nat} (h1 : p ≤ c) (h2 : p ≤ c2) : ∀ n, m_exO f c n p = m_exO f c2 n p
  | 0 => rfl
  | n + 1 => by
    show m_exO f c n p + m_exT f c (n + 1) p * 1 = m_exO f c2 n p + m_exT f c2 (n + 1) p * 1
    rw [exO_cut f h1 h2 n, exT_cut f (n + 1) p h1 h2]
theorem exO_more (f : Nat → ZP) (c p n : Nat) (hp : p ≤ n + 1) : ∀ d, m_exO f c (n + d) p = m_exO f c n p
  | 0 => rfl
  | d + 1 => by
    show m_exO f c (n + d) p + m_exT f c (n + d + 1) p * 1 = _
    rw [exO_more f c p n hp d, exT_low f c (n + d + 1) p (by omega)]
    simp [z_0m, z_m0, z_a0, z_0a, z_m1]
theorem exp_cut (f : Nat → ZP) {c p : Nat} (hp : p ≤ c) (h1 : 1 ≤ p) : m_exp f c p = m_exp f p p := by
  unfold m_exp
  rw [exO_cut f hp (Nat.le_refl p) (c - 1), show c - 1 = (p - 1) + (c - p) by omega]
  exact exO_more f p p (p - 1) (by omega) (c - p)
theorem lon_hi (u : Nat → ZP) : ∀ j i, (j + 2 ≤ i ∨ i < 2) → m_lon u j i = 0
  | 0, _, _ => rfl
  | j + 1, i, h => by
    show va_up (m_lon u j) (j + 2) _ i = 0
    rw [va_up_ne _ _ (by omega)]
    exact lon_hi u j i (by omega)
theorem lgn_eq (u : Nat → ZP) {cu : Nat} (hc : cu ≤ 6) : ∀ j, j + 1 ≤ cu → m_lgn u cu j = m_lon u j
  | 0, _ => rfl
  | j + 1, h => by
    show va_up (m_lgn u cu j) (j + 2) (m_lgn u cu j (j + 2) + u (j + 2) - m_expM (m_lgn u cu j) cu (j + 2)) = va_up (m_lon u j) (j + 2) (u (j + 2) - m_exp (m_lon u j) (j + 2) (j + 2))
    rw [lgn_eq u hc j (by omega), lon_hi u j (j + 2) (by omega), exp_eq (lon_hi u j 0 (by omega)) (lon_hi u j 1 (by omega)) hc, exp_cut (m_lon u j) (c := cu) (p := j + 2) (by omega) (by omega)]
    congr 1
    grind
theorem log_eq (u : Nat → ZP) {cu : Nat} (h : 1 ≤ cu) (hc : cu ≤ 6) : m_logM u cu = m_log u cu := lgn_eq u hc (cu - 1) (by omega)
theorem log_lo (u : Nat → ZP) (cu : Nat) {k : Nat} (h : k < 2) : m_log u cu k = 0 := lon_hi u (cu - 1) k (by omega)
theorem br_lo (f g : Nat → ZP) (cu : Nat) {k : Nat} (h : k < 2) : m_br f g cu k = 0 := by
  have h1 : ¬ (2 ≤ k ∧ k ≤ cu) := by omega
  simp [m_br, m_am, m_act, h1, z_0m, z_m0, z_a0, z_0a, z_m1]
theorem add_lo {u v : Nat → ZP} {k : Nat} (h1 : u k = 0) (h2 : v k = 0) : m_add u v k = 0 := by simp [m_add, h1, h2, z_0m, z_m0, z_a0, z_0a, z_m1]
theorem scale_lo {u : Nat → ZP} {k : Nat} (z : ZP) (h1 : u k = 0) : m_scale u z k = 0 := by simp [m_scale, h1, z_0m, z_m0, z_a0, z_0a, z_m1]
theorem am_lo {u v : Nat → ZP} {k : Nat} (z : ZP) (h1 : u k = 0) (h2 : v k = 0) : m_am u v z k = 0 := by simp [m_am, h1, h2, z_0m, z_m0, z_a0, z_0a, z_m1]
theorem way_lo {a b : Nat → ZP} {y cu k : Nat} (h : k < 2) (h1 : a k = 0) (h2 : b k = 0) : m_way a b y cu k = 0 := by
  have e2 : m_way2 a b k = 0 := add_lo h1 h2
  have e3 : m_way3 a b cu k = 0 := am_lo _ e2 (br_lo _ _ _ h)
  have e4 : m_way4 a b cu k = 0 := am_lo _ (am_lo _ e3 (br_lo _ _ _ h)) (br_lo _ _ _ h)
  have e5 : m_way5 a b cu k = 0 := am_lo _ e4 (br_lo _ _ _ h)
  unfold m_way
  split
  · exact e2
  split
  · exact e3
  split
  · exact e4
  · exact e5
theorem fin_c : m_finv (zc 2) = zc 5004 ∧ m_finv (zc 12) = zc 834 ∧ zc (10007 - (zc 834).val) = zc 9173 ∧ zc (10007 - (m_finv (zc 24)).val) = zc 9590 := by decide +kernel
theorem way_eq {a b : Nat → ZP} {y cu : Nat} (a0 : a 0 = 0) (a1 : a 1 = 0) (b0 : b 0 = 0) (b1 : b 1 = 0) (hc : cu ≤ 6) : m_wayM a b y cu = m_way a b y cu := by
  have w0 := br_lo a b cu (k := 0) (by omega)
  have w1 := br_lo a b cu (k := 1) (by omega)
  have x0 := br_lo a (m_br a b cu) cu (k := 0) (by omega)
  have x1 := br_lo a (m_br a b cu) cu (k := 1) (by omega)
  simp only [m_wayM, br_eq a0 a1 b0 b1 hc, br_eq a0 a1 w0 w1 hc, br_eq b0 b1 w0 w1 hc, br_eq b0 b1 x0 x1 hc, am_1, fin_c.1, fin_c.2.1, fin_c.2.2.1, fin_c.2.2.2]
  unfold m_way m_way5 m_way4 m_way3 m_way2
  by_cases h2 : y ≤ 2
  · have a1 : y < 3 := by omega
    simp only [h2, a1, if_true]
  · have a1 : ¬ y < 3 := by omega
    by_cases h3 : y ≤ 3
    · have a2 : y < 4 := by omega
      simp only [h2, h3, a1, a2, if_true, if_false]
    · have a2 : ¬ y < 4 := by omega
      by_cases h4 : y ≤ 4
      · have a3 : y < 5 := by omega
        simp only [h2, h3, h4, a1, a2, a3, if_true, if_false]
      · have a3 : ¬ y < 5 := by omega
        simp only [h2, h3, h4, a1, a2, a3, if_false]
theorem push_eq {f : Nat → ZP} (u : Nat → ZP) {cu : Nat} (f0 : f 0 = 0) (f1 : f 1 = 0) (h : 1 ≤ cu) (hc : cu ≤ 6) : m_pi (m_invM u cu) (m_mulT (m_der u) f cu) cu = m_push u f cu := by
  rw [pi_eq, inv_eq u h, mul_comm7 (m_der u) f hc, act_eq u f0 f1 hc]
  rfl
theorem rep_eq (u : Nat → ZP) (z : ZP) {cu : Nat} (h : 1 ≤ cu) (hc : cu ≤ 6) : m_expM (m_am (fun _ => 0) (m_logM u cu) z) cu = m_rep u z cu := by
  rw [am_0, log_eq u h hc, exp_eq (scale_lo z (log_lo u cu (by omega))) (scale_lo z (log_lo u cu (by omega))) hc]
  rfl
theorem cf_eq {a b : Nat → ZP} {cu : Nat} (a0 : a 0 = 0) (a1 : a 1 = 0) (b0 : b 0 = 0) (b1 : b 1 = 0) (h : 1 ≤ cu) (hc : cu ≤ 6) : m_logM (m_pi (m_expM a cu) (m_expM b cu) cu) cu = m_cf a b cu := by
  rw [log_eq _ h hc, pi_eq, exp_eq a0 a1 hc, exp_eq b0 b1 hc]
  rfl
theorem pw_low (u : Nat → ZP) (cu : Nat) (u0 : u 0 = 0) : ∀ (k p : Nat), p < k → m_pw u cu k p = 0
  | k + 1, p, h => by
    simp only [m_pw, m_mulT]
    split
    · have e : ∀ n, n ≤ p + 1 → m_mulS (m_pw u cu k) u p n = 0 := by
        intro n
        induction n with
        | zero => intro _; rfl
        | succ n ih =>
          intro hn
          rw [m_mulS, ih (by omega)]
          by_cases hk : n < k
          · rw [pw_low u cu u0 k n hk]; simp [z_0m, z_m0, z_a0, z_0a, z_m1]
          · rw [show p - n = 0 by omega, u0]; simp [z_0m, z_m0, z_a0, z_0a, z_m1]
      exact e (p + 1) (Nat.le_refl _)
    · rfl
theorem push_lo {f : Nat → ZP} (u : Nat → ZP) {cu k : Nat} (h : k < 2) : m_push u f cu k = 0 := by
  unfold m_push
  rw [← pi_eq]
  unfold m_pi
  have i0 : m_inv u cu 0 = 0 := by
    have g : ∀ j, m_inn u j 0 = 0 := by
      intro j
      induction j with
      | zero => rfl
      | succ j ih => show va_up (m_inn u j) (j + 2) _ 0 = 0; rw [va_up_ne _ _ (by omega)]; exact ih
    exact g (cu - 1)
  have e : ∀ n, m_pn (m_inv u cu) (m_act f u cu) cu n k = 0 := by
    intro n
    induction n with
    | zero => rfl
    | succ n ih =>
      show m_pn (m_inv u cu) (m_act f u cu) cu n k + m_pw (m_inv u cu) cu n k * m_act f u cu n = 0
      rw [ih]
      by_cases hn : n < 2
      · have h1 : ¬ (2 ≤ n ∧ n ≤ cu) := by omega
        simp [m_act, h1, z_0m, z_m0, z_a0, z_0a, z_m1]
      · rw [pw_low _ cu i0 n k (by omega)]
        simp [z_0m, z_m0, z_a0, z_0a, z_m1]
  exact e (cu + 1)
end
section
/-! states, and where the component keeps them -/
abbrev Rws : Type := Nat → Nat → ZP
abbrev Sta : Type := Nat × Nat × Nat × Nat × Nat × Rws
abbrev oE (G : Gl) (f : Nat → Nat) : va_E := .inl (G.2 4, 6, .inr (.inr (.inr (.inr (fun i => some (f i))))))
abbrev shO (cu a b : Nat) : va_E := .inr (2, [.int (nI cu), .ref a, .ref b])
abbrev stO (a pu pd dn bk : Nat) : va_E := .inr (3, [.ref a, .int (nI pu), .int (nI pd), .int (nI dn), .int (nI bk)])
/-- a shape: its object at tb + 1, the outer arrays behind it, then the twelve rows -/
def shp (G : Gl) (F : Nat → va_E) (ad : Nat → Nat) (tb cu : Nat) (r : Rws) : Prop := F (ad (tb + 1)) = shO cu (ad (tb + 2)) (ad (tb + 3)) ∧ F (ad (tb + 2)) = oE G (fun i => ad (tb + 4 + i)) ∧ F (ad (tb + 3)) = oE G (fun i => ad (tb + 10 + i)) ∧ ∀ i, i < 12 → F (ad (tb + 4 + i)) = rw7 G (r i)
def sta (G : Gl) (F : Nat → va_E) (ad : Nat → Nat) (tb : Nat) (st : Sta) : Prop := F (ad tb) = stO (ad (tb + 1)) st.2.1 st.2.2.1 st.2.2.2.1 st.2.2.2.2.1 ∧ shp G F ad tb st.1 st.2.2.2.2.2
theorem shp.keep {G : Gl} {F F1 : Nat → va_E} {ad : Nat → Nat} {tb cu : Nat} {r : Rws} (h : shp G F ad tb cu r) (k : ∀ i, tb + 1 ≤ i ∧ i < tb + 16 → F1 (ad i) = F (ad i)) : shp G F1 ad tb cu r :=
  ⟨(k _ (by omega)).trans h.1, (k _ (by omega)).trans h.2.1, (k _ (by omega)).trans h.2.2.1, fun i hi => (k _ (by omega)).trans (h.2.2.2 i hi)⟩
theorem sta.keep {G : Gl} {F F1 : Nat → va_E} {ad : Nat → Nat} {tb : Nat} {st : Sta} (h : sta G F ad tb st) (k : ∀ i, tb ≤ i ∧ i < tb + 16 → F1 (ad i) = F (ad i)) : sta G F1 ad tb st :=
  ⟨(k _ (by omega)).trans h.1, h.2.keep (fun i hi => k i (by omega))⟩
/-- the rows of one, up to slot i, then of another -/
def mixR (a b : Rws) (i : Nat) : Rws := fun j => if j < i ∨ (6 ≤ j ∧ j < 6 + i) then b j else a j
def cutR (c : Nat) (r : Rws) : Rws := fun i k => if c < k then 0 else r i k
end
section
theorem mixR_0 (a b : Rws) : mixR a b 0 = a := by
  funext j
  have h : ¬ (j < 0 ∨ (6 ≤ j ∧ j < 6 + 0)) := by omega
  simp only [mixR, h, if_false]
theorem mixR_6 (a b : Rws) {j : Nat} (h : j < 12) : mixR a b 6 j = b j := by
  have h2 : j < 6 ∨ (6 ≤ j ∧ j < 6 + 6) := by omega
  simp only [mixR, h2, if_true]
theorem mixR_o (a b : Rws) {i j : Nat} (h1 : j ≠ i) (h2 : j ≠ 6 + i) : mixR a b (i + 1) j = mixR a b i j := by
  have h3 : (j < i + 1 ∨ (6 ≤ j ∧ j < 6 + (i + 1))) = (j < i ∨ (6 ≤ j ∧ j < 6 + i)) := by simp only [eq_iff_iff]; omega
  simp only [mixR, h3]
theorem mixR_a (a b : Rws) (i : Nat) : mixR a b (i + 1) i = b i := by
  have h : i < i + 1 ∨ (6 ≤ i ∧ i < 6 + (i + 1)) := by omega
  simp only [mixR, h, if_true]
theorem mixR_b (a b : Rws) (i : Nat) : mixR a b (i + 1) (6 + i) = b (6 + i) := by
  have h : 6 + i < i + 1 ∨ (6 ≤ 6 + i ∧ 6 + i < 6 + (i + 1)) := by omega
  simp only [mixR, h, if_true]
abbrev rm_X2_copyFrom : Room := { frames := 1, cells := 0, slots := 0, locals := 40 }
set_option maxHeartbeats 4000000 in
set_option maxRecDepth 100000 in
theorem c_X2_copyFrom (l : Launch) (G : Gl) (L : List Nat) (F : Nat → va_E) (ad : Nat → Nat) (hL : ∀ i, i < 166 → ad i ∈ L) (hin : ∀ i j, i < 166 → j < 166 → i ≠ j → ad i ≠ ad j) (tb ob c1 c2 : Nat) (r1 r2 : Rws) (hs1 : shp G F ad tb c1 r1) (hs2 : shp G F ad ob c2 r2) (htb : tb + 16 ≤ 166) (hob : ob + 16 ≤ 166) (hdis : tb + 16 ≤ ob ∨ ob + 16 ≤ tb) : CV l yX2_copyFrom cX2_copyFrom 3 none rm_X2_copyFrom G L F [.ref (ad (tb + 1)), .ref (ad (ob + 1))] (fun F1 => shp G F1 ad tb c2 r2 ∧ ∀ q, (∀ i, (i = tb + 1 ∨ (tb + 4 ≤ i ∧ i < tb + 16)) → q ≠ ad i) → F1 q = F q) := by
  refine CG_of (by decide) (Nat.le_of_ble_eq_true rfl) rfl ?_
  intro p e s m args below meth c Q C0 hr hlk hnm hQ hw ls hl
  have hx := C0.x
  have hb := C0.b
  refine lv_aload_n hx hb dX2_copyFrom_0 rfl (lv_at hl 0 rfl) ?_
  refine lv_aload_n hx hb dX2_copyFrom_1 rfl (lv_at hl 1 rfl) ?_
  refine q_get C0 hw ((hL (ob + 1) (by omega))) hs2.1 fw_X2_9 rfl dX2_copyFrom_2 ?_
  refine q_put C0 hw ((hL (tb + 1) (by omega))) hs1.1 fw_X2_9 pw_X2_0 rfl rfl rfl (Nat.le_of_ble_eq_true rfl) dX2_copyFrom_5 (fun F_391 H locs hw f_392 o_393 => ?_)
  have f_392 : F_391 (ad (tb + 1)) = .inr (2, [.int (nI (c2)), .ref (ad (tb + 2)), .ref (ad (tb + 3))]) := f_392
  refine lv_iconst (v := nI 0) hx hb dX2_copyFrom_8 (by decide) ?_
  refine lv_istore_n (lv' := [(2, .int (nI (0))), (0, .ref (ad (tb + 1))), (1, .ref (ad (ob + 1)))]) hx hb dX2_copyFrom_9 rfl hl (by decide) rfl (fun ls hl => ?_)
  have lp10_n_394 : ∀ (n : Nat) (j9 : Nat), j9 ≤ 6 → 7 - j9 < n → ∀ (F_395 : Nat → va_E) (H : Heap) (locs : List Loc), wD G L F_395 s H locs → F_395 (ad (tb + 1)) = .inr (2, [.int (nI (c2)), .ref (ad (tb + 2)), .ref (ad (tb + 3))]) → (∀ j, j < 12 → F_395 (ad (tb + 4 + j)) = rw7 G (mixR r1 r2 j9 j)) → (∀ q, (∀ i, (i = tb + 1 ∨ (tb + 4 ≤ i ∧ i < tb + 16)) → q ≠ ad i) → F_395 q = F q) → ∀ ls : Array Slot, lv_has ls 3 [(0, .ref (ad (tb + 1))), (1, .ref (ad (ob + 1))), (2, .int (nI (j9)))] → W p l e rm_X2_copyFrom s m args below meth c H locs 0 0 Q (F0 m 10 ls []) := by
    intro n
    induction n with
    | zero => intro j9 hj9 hm; exact absurd hm (Nat.not_lt_zero _)
    | succ n ih_10_n_399 =>
      intro j9 hj9 hm F_395 H locs hw f_396 ff_397 fr_398 ls hl
      refine lv_iload_n hx hb dX2_copyFrom_10 rfl (lv_at hl 2 rfl) ?_
      refine lv_bipush (v := nI 6) hx hb dX2_copyFrom_11 (by decide) ?_
      refine n_icmp_ge (tgt := 60) hx hb dX2_copyFrom_13 (by decide) (by omega) (by decide) (fun c_13 => ?_) (fun c_13 => ?_)
      · skip
        obtain rfl : j9 = 6 := by omega
        have f_400 : F_395 (ad (tb + 2)) = oE G (fun i => ad (tb + 4 + i)) := (fr_398 (ad (tb + 2)) (fun i hS => hin (tb + 2) i (by omega) (by omega) (by omega))).trans hs1.2.1
        have f_401 : F_395 (ad (tb + 3)) = oE G (fun i => ad (tb + 10 + i)) := (fr_398 (ad (tb + 3)) (fun i hS => hin (tb + 3) i (by omega) (by omega) (by omega))).trans hs1.2.2.1
        exact r_v C0 hr hlk hw ⟨⟨f_396, f_400, f_401, fun i hi => (ff_397 i hi).trans (congrArg (rw7 G) (mixR_6 r1 r2 hi))⟩, (fun q hq => (fr_398 q (fun i hS => hq i (by omega))))⟩ (Nat.le_refl _) (Nat.le_refl _) dX2_copyFrom_60 hQ
      · skip
        refine lv_aload_n hx hb dX2_copyFrom_16 rfl (lv_at hl 1 rfl) ?_
        have f_402 : F_395 (ad (ob + 1)) = .inr (2, [.int (nI (c2)), .ref (ad (ob + 2)), .ref (ad (ob + 3))]) := (fr_398 (ad (ob + 1)) (fun i hS => hin (ob + 1) i (by omega) (by omega) (by omega))).trans hs2.1
        refine q_get C0 hw ((hL (ob + 1) (by omega))) f_402 fw_X2_17 rfl dX2_copyFrom_17 ?_
        refine lv_iload_n hx hb dX2_copyFrom_20 rfl (lv_at hl 2 rfl) ?_
        have f_403 : F_395 (ad (ob + 2)) = oE G (fun i => ad (ob + 4 + i)) := (fr_398 (ad (ob + 2)) (fun i hS => hin (ob + 2) i (by omega) (by omega) (by omega))).trans hs2.2.1
        refine q_aaldi C0 hw ((hL (ob + 2) (by omega))) f_403 (j9) (by omega) (by decide) (b := ad (ob + 4 + j9)) rfl dX2_copyFrom_21 ?_
        refine lv_iconst (v := nI 0) hx hb dX2_copyFrom_22 (by decide) ?_
        refine lv_aload_n hx hb dX2_copyFrom_23 rfl (lv_at hl 0 rfl) ?_
        refine q_get C0 hw ((hL (tb + 1) (by omega))) f_396 fw_X2_17 rfl dX2_copyFrom_24 ?_
        refine lv_iload_n hx hb dX2_copyFrom_27 rfl (lv_at hl 2 rfl) ?_
        have f_404 : F_395 (ad (tb + 2)) = oE G (fun i => ad (tb + 4 + i)) := (fr_398 (ad (tb + 2)) (fun i hS => hin (tb + 2) i (by omega) (by omega) (by omega))).trans hs1.2.1
        refine q_aaldi C0 hw ((hL (tb + 2) (by omega))) f_404 (j9) (by omega) (by decide) (b := ad (tb + 4 + j9)) rfl dX2_copyFrom_28 ?_
        refine lv_iconst (v := nI 0) hx hb dX2_copyFrom_29 (by decide) ?_
        refine lv_bipush (v := nI 7) hx hb dX2_copyFrom_30 (by decide) ?_
        have f_405 : F_395 (ad (ob + 4 + j9)) = rw7 G ((r2 j9)) := (fr_398 (ad (ob + 4 + j9)) (fun i hS => hin (ob + 4 + j9) i (by omega) (by omega) (by omega))).trans ((hs2.2.2.2 (j9) (by omega)))
        refine q_copy C0 hw hl.1 aw_X2_23 ((hL (ob + 4 + j9) (by omega))) ((hL (tb + 4 + j9) (by omega))) f_405 (ff_397 (j9) (by omega)) (n := 7) (by omega) (by decide) (by decide) dX2_copyFrom_32 (fun F_406 H locs hw f_407 o_408 => ?_)
        obtain ⟨F_409, hw, f_410, o_411⟩ := hw.rowE f_407 (v := r2 j9) (fun k hk => if_pos hk)
        refine lv_aload_n hx hb dX2_copyFrom_35 rfl (lv_at hl 1 rfl) ?_
        have f_412 : F_406 (ad (ob + 1)) = .inr (2, [.int (nI (c2)), .ref (ad (ob + 2)), .ref (ad (ob + 3))]) := (o_408 (ad (ob + 1)) (hin (ob + 1) (tb + 4 + j9) (by omega) (by omega) (by omega))).trans f_402
        have f_413 : F_409 (ad (ob + 1)) = .inr (2, [.int (nI (c2)), .ref (ad (ob + 2)), .ref (ad (ob + 3))]) := (o_411 (ad (ob + 1)) (hin (ob + 1) (tb + 4 + j9) (by omega) (by omega) (by omega))).trans f_412
        refine q_get C0 hw ((hL (ob + 1) (by omega))) f_413 fw_X2_20 rfl dX2_copyFrom_36 ?_
        refine lv_iload_n hx hb dX2_copyFrom_39 rfl (lv_at hl 2 rfl) ?_
        have f_414 : F_395 (ad (ob + 3)) = oE G (fun i => ad (ob + 10 + i)) := (fr_398 (ad (ob + 3)) (fun i hS => hin (ob + 3) i (by omega) (by omega) (by omega))).trans hs2.2.2.1
        have f_415 : F_406 (ad (ob + 3)) = oE G (fun i => ad (ob + 10 + i)) := (o_408 (ad (ob + 3)) (hin (ob + 3) (tb + 4 + j9) (by omega) (by omega) (by omega))).trans f_414
        have f_416 : F_409 (ad (ob + 3)) = oE G (fun i => ad (ob + 10 + i)) := (o_411 (ad (ob + 3)) (hin (ob + 3) (tb + 4 + j9) (by omega) (by omega) (by omega))).trans f_415
        refine q_aaldi C0 hw ((hL (ob + 3) (by omega))) f_416 (j9) (by omega) (by decide) (b := ad (ob + 10 + j9)) rfl dX2_copyFrom_40 ?_
        refine lv_iconst (v := nI 0) hx hb dX2_copyFrom_41 (by decide) ?_
        refine lv_aload_n hx hb dX2_copyFrom_42 rfl (lv_at hl 0 rfl) ?_
        have f_417 : F_406 (ad (tb + 1)) = .inr (2, [.int (nI (c2)), .ref (ad (tb + 2)), .ref (ad (tb + 3))]) := (o_408 (ad (tb + 1)) (hin (tb + 1) (tb + 4 + j9) (by omega) (by omega) (by omega))).trans f_396
        have f_418 : F_409 (ad (tb + 1)) = .inr (2, [.int (nI (c2)), .ref (ad (tb + 2)), .ref (ad (tb + 3))]) := (o_411 (ad (tb + 1)) (hin (tb + 1) (tb + 4 + j9) (by omega) (by omega) (by omega))).trans f_417
        refine q_get C0 hw ((hL (tb + 1) (by omega))) f_418 fw_X2_20 rfl dX2_copyFrom_43 ?_
        refine lv_iload_n hx hb dX2_copyFrom_46 rfl (lv_at hl 2 rfl) ?_
        have f_419 : F_395 (ad (tb + 3)) = oE G (fun i => ad (tb + 10 + i)) := (fr_398 (ad (tb + 3)) (fun i hS => hin (tb + 3) i (by omega) (by omega) (by omega))).trans hs1.2.2.1
        have f_420 : F_406 (ad (tb + 3)) = oE G (fun i => ad (tb + 10 + i)) := (o_408 (ad (tb + 3)) (hin (tb + 3) (tb + 4 + j9) (by omega) (by omega) (by omega))).trans f_419
        have f_421 : F_409 (ad (tb + 3)) = oE G (fun i => ad (tb + 10 + i)) := (o_411 (ad (tb + 3)) (hin (tb + 3) (tb + 4 + j9) (by omega) (by omega) (by omega))).trans f_420
        refine q_aaldi C0 hw ((hL (tb + 3) (by omega))) f_421 (j9) (by omega) (by decide) (b := ad (tb + 10 + j9)) rfl dX2_copyFrom_47 ?_
        refine lv_iconst (v := nI 0) hx hb dX2_copyFrom_48 (by decide) ?_
        refine lv_bipush (v := nI 7) hx hb dX2_copyFrom_49 (by decide) ?_
        have f_422 : F_395 (ad (ob + 10 + j9)) = rw7 G ((r2 (6 + j9))) := (fr_398 (ad (ob + 10 + j9)) (fun i hS => hin (ob + 10 + j9) i (by omega) (by omega) (by omega))).trans ((show F (ad (ob + 10 + j9)) = _ from by have h9 := hs2.2.2.2 (6 + j9) (by omega); rwa [show ob + 4 + (6 + j9) = ob + 10 + j9 by omega] at h9))
        have f_423 : F_406 (ad (ob + 10 + j9)) = rw7 G ((r2 (6 + j9))) := (o_408 (ad (ob + 10 + j9)) (hin (ob + 10 + j9) (tb + 4 + j9) (by omega) (by omega) (by omega))).trans f_422
        have f_424 : F_409 (ad (ob + 10 + j9)) = rw7 G ((r2 (6 + j9))) := (o_411 (ad (ob + 10 + j9)) (hin (ob + 10 + j9) (tb + 4 + j9) (by omega) (by omega) (by omega))).trans f_423
        have f_425 : F_406 (ad (tb + 10 + j9)) = rw7 G ((mixR r1 r2 j9 (6 + j9))) := (o_408 (ad (tb + 10 + j9)) (hin (tb + 10 + j9) (tb + 4 + j9) (by omega) (by omega) (by omega))).trans ((show F_395 (ad (tb + 10 + j9)) = _ from by have h9 := ff_397 (6 + j9) (by omega); rwa [show tb + 4 + (6 + j9) = tb + 10 + j9 by omega] at h9))
        have f_426 : F_409 (ad (tb + 10 + j9)) = rw7 G ((mixR r1 r2 j9 (6 + j9))) := (o_411 (ad (tb + 10 + j9)) (hin (tb + 10 + j9) (tb + 4 + j9) (by omega) (by omega) (by omega))).trans f_425
        refine q_copy C0 hw hl.1 aw_X2_23 ((hL (ob + 10 + j9) (by omega))) ((hL (tb + 10 + j9) (by omega))) f_424 f_426 (n := 7) (by omega) (by decide) (by decide) dX2_copyFrom_51 (fun F_427 H locs hw f_428 o_429 => ?_)
        obtain ⟨F_430, hw, f_431, o_432⟩ := hw.rowE f_428 (v := r2 (6 + j9)) (fun k hk => if_pos hk)
        refine lv_iinc (v := nI (j9 + 1)) (lv' := [(2, .int (nI (j9 + 1))), (0, .ref (ad (tb + 1))), (1, .ref (ad (ob + 1)))]) hx hb dX2_copyFrom_54 hl (k := 2) rfl (nI_add _ _) (by decide) rfl (fun ls hl => ?_)
        refine lv_goto (tgt := 10) hx hb dX2_copyFrom_57 (by decide) ?_
        have f_433 : F_427 (ad (tb + 4 + j9)) = rw7 G (r2 j9) := (o_429 (ad (tb + 4 + j9)) (hin (tb + 4 + j9) (tb + 10 + j9) (by omega) (by omega) (by omega))).trans f_410
        have f_434 : F_430 (ad (tb + 4 + j9)) = rw7 G (r2 j9) := (o_432 (ad (tb + 4 + j9)) (hin (tb + 4 + j9) (tb + 10 + j9) (by omega) (by omega) (by omega))).trans f_433
        have f_435 : F_427 (ad (tb + 1)) = .inr (2, [.int (nI (c2)), .ref (ad (tb + 2)), .ref (ad (tb + 3))]) := (o_429 (ad (tb + 1)) (hin (tb + 1) (tb + 10 + j9) (by omega) (by omega) (by omega))).trans f_418
        have f_436 : F_430 (ad (tb + 1)) = .inr (2, [.int (nI (c2)), .ref (ad (tb + 2)), .ref (ad (tb + 3))]) := (o_432 (ad (tb + 1)) (hin (tb + 1) (tb + 10 + j9) (by omega) (by omega) (by omega))).trans f_435
        exact ih_10_n_399 (j9 + 1) ((by omega)) (by omega) F_430 _ _ hw (f_436) (fun j hj => by
        by_cases e1 : j = j9
        · subst e1
          rw [mixR_a]
          exact f_434
        · by_cases e2 : j = 6 + j9
          · subst e2
            rw [mixR_b, show tb + 4 + (6 + j9) = tb + 10 + j9 by omega]
            exact f_431
          · rw [mixR_o _ _ e1 e2]
            exact (((o_432 (ad (tb + 4 + j)) (hin (tb + 4 + j) (tb + 10 + j9) (by omega) (by omega) (by omega)))).trans (((o_429 (ad (tb + 4 + j)) (hin (tb + 4 + j) (tb + 10 + j9) (by omega) (by omega) (by omega)))).trans (((o_411 (ad (tb + 4 + j)) (hin (tb + 4 + j) (tb + 4 + j9) (by omega) (by omega) (by omega)))).trans ((o_408 (ad (tb + 4 + j)) (hin (tb + 4 + j) (tb + 4 + j9) (by omega) (by omega) (by omega))))))).trans (ff_397 j hj)) (fun q hq => ((o_432 q (hq (tb + 10 + j9) (by omega))).trans ((o_429 q (hq (tb + 10 + j9) (by omega))).trans ((o_411 q (hq (tb + 4 + j9) (by omega))).trans ((o_408 q (hq (tb + 4 + j9) (by omega))).trans (fr_398 q (fun i hS => hq i (by omega)))))))) ls (lv_sub hl [1, 2, 0] rfl)
  exact lp10_n_394 _ (0) ((by omega)) (Nat.lt_succ_self _) F_391 _ _ hw (f_392) (fun j hj => ((o_393 (ad (tb + 4 + j)) (hin (tb + 4 + j) (tb + 1) (by omega) (by omega) (by omega)))).trans ((hs1.2.2.2 j hj).trans (congrArg (rw7 G) (congrFun (mixR_0 r1 r2) j).symm))) (fun q hq => (o_393 q (hq (tb + 1) (by omega)))) ls (lv_sub hl [1, 2, 0] rfl)
end
section
def cutP (c p : Nat) (u : Nat → ZP) : Nat → ZP := fun k => if c < k ∧ k < p then 0 else u k
theorem cutP_0 (c : Nat) (u : Nat → ZP) : cutP c (c + 1) u = u := by
  funext k
  have h : ¬ (c < k ∧ k < c + 1) := by omega
  simp only [cutP, h, if_false]
theorem cutP_s (c : Nat) {p : Nat} (u : Nat → ZP) (hp : c < p) : va_up (cutP c p u) p (zc 0) = cutP c (p + 1) u := by
  funext k
  by_cases e : k = p
  · subst e
    have h : c < k ∧ k < k + 1 := by omega
    simp only [va_up, cutP, h, if_true, and_self, zc_0]
  · have h : (c < k ∧ k < p + 1) = (c < k ∧ k < p) := by simp only [eq_iff_iff]; omega
    rw [va_up_ne _ _ e]
    simp only [cutP, h]
theorem cutP_e (c : Nat) (r : Rws) (i k : Nat) (hk : k < 7) : cutP c 7 (r i) k = cutR c r i k := by
  simp only [cutP, cutR, hk, and_true]
abbrev rm_X2_cutAt : Room := { frames := 0, cells := 0, slots := 0, locals := 0 }
theorem mixR_n1 (a b : Rws) {i : Nat} (h : i < 6) : mixR a b i i = a i := by
  have h : ¬ (i < i ∨ (6 ≤ i ∧ i < 6 + i)) := by omega
  simp only [mixR, h, if_false]
theorem mixR_n2 (a b : Rws) {i : Nat} (h : i < 6) : mixR a b i (6 + i) = a (6 + i) := by
  have h : ¬ (6 + i < i ∨ (6 ≤ 6 + i ∧ 6 + i < 6 + i)) := by omega
  simp only [mixR, h, if_false]
set_option maxHeartbeats 4000000 in
set_option maxRecDepth 100000 in
theorem c_X2_cutAt (l : Launch) (G : Gl) (L : List Nat) (F : Nat → va_E) (ad : Nat → Nat) (hL : ∀ i, i < 166 → ad i ∈ L) (hin : ∀ i j, i < 166 → j < 166 → i ≠ j → ad i ≠ ad j) (tb c1 c9 : Nat) (r1 : Rws) (hs1 : shp G F ad tb c1 r1) (htb : tb + 16 ≤ 166) (hc9 : c9 ≤ 6) : CV l yX2_cutAt cX2_cutAt 4 none rm_X2_cutAt G L F [.ref (ad (tb + 1)), .int (nI (c9))] (fun F1 => shp G F1 ad tb c9 (cutR c9 r1) ∧ ∀ q, (∀ i, (i = tb + 1 ∨ (tb + 4 ≤ i ∧ i < tb + 16)) → q ≠ ad i) → F1 q = F q) := by
  refine CG_of (by decide) (Nat.le_of_ble_eq_true rfl) rfl ?_
  intro p e s m args below meth c Q C0 hr hlk hnm hQ hw ls hl
  have hx := C0.x
  have hb := C0.b
  refine lv_aload_n hx hb dX2_cutAt_0 rfl (lv_at hl 0 rfl) ?_
  refine lv_iload_n hx hb dX2_cutAt_1 rfl (lv_at hl 1 rfl) ?_
  refine q_put C0 hw ((hL (tb + 1) (by omega))) hs1.1 fw_X2_9 pw_X2_0 rfl rfl rfl (Nat.le_of_ble_eq_true rfl) dX2_cutAt_2 (fun F_437 H locs hw f_438 o_439 => ?_)
  have f_438 : F_437 (ad (tb + 1)) = .inr (2, [.int (nI (c9)), .ref (ad (tb + 2)), .ref (ad (tb + 3))]) := f_438
  refine lv_iconst (v := nI 0) hx hb dX2_cutAt_5 (by decide) ?_
  refine lv_istore_n (lv' := [(2, .int (nI (0))), (0, .ref (ad (tb + 1))), (1, .int (nI (c9)))]) hx hb dX2_cutAt_6 rfl hl (by decide) rfl (fun ls hl => ?_)
  have lp7_n_440 : ∀ (n : Nat) (j9 : Nat), j9 ≤ 6 → 7 - j9 < n → ∀ (F_441 : Nat → va_E) (H : Heap) (locs : List Loc), wD G L F_441 s H locs → F_441 (ad (tb + 1)) = .inr (2, [.int (nI (c9)), .ref (ad (tb + 2)), .ref (ad (tb + 3))]) → (∀ j, j < 12 → F_441 (ad (tb + 4 + j)) = rw7 G (mixR r1 (cutR c9 r1) j9 j)) → (∀ q, (∀ i, (i = tb + 1 ∨ (tb + 4 ≤ i ∧ i < tb + 16)) → q ≠ ad i) → F_441 q = F q) → ∀ ls : Array Slot, lv_has ls 4 [(0, .ref (ad (tb + 1))), (1, .int (nI (c9))), (2, .int (nI (j9)))] → W p l e rm_X2_cutAt s m args below meth c H locs 0 0 Q (F0 m 7 ls []) := by
    intro n
    induction n with
    | zero => intro j9 hj9 hm; exact absurd hm (Nat.not_lt_zero _)
    | succ n ih_7_n_445 =>
      intro j9 hj9 hm F_441 H locs hw f_442 ff_443 fr_444 ls hl
      refine lv_iload_n hx hb dX2_cutAt_7 rfl (lv_at hl 2 rfl) ?_
      refine lv_bipush (v := nI 6) hx hb dX2_cutAt_8 (by decide) ?_
      refine n_icmp_ge (tgt := 53) hx hb dX2_cutAt_10 (by decide) (by omega) (by decide) (fun c_10 => ?_) (fun c_10 => ?_)
      · skip
        obtain rfl : j9 = 6 := by omega
        have f_446 : F_441 (ad (tb + 2)) = oE G (fun i => ad (tb + 4 + i)) := (fr_444 (ad (tb + 2)) (fun i hS => hin (tb + 2) i (by omega) (by omega) (by omega))).trans hs1.2.1
        have f_447 : F_441 (ad (tb + 3)) = oE G (fun i => ad (tb + 10 + i)) := (fr_444 (ad (tb + 3)) (fun i hS => hin (tb + 3) i (by omega) (by omega) (by omega))).trans hs1.2.2.1
        exact r_v C0 hr hlk hw ⟨⟨f_442, f_446, f_447, fun i hi => (ff_443 i hi).trans (congrArg (rw7 G) (mixR_6 r1 (cutR c9 r1) hi))⟩, (fun q hq => (fr_444 q (fun i hS => hq i (by omega))))⟩ (Nat.le_refl _) (Nat.le_refl _) dX2_cutAt_53 hQ
      · skip
        refine lv_iload_n hx hb dX2_cutAt_13 rfl (lv_at hl 1 rfl) ?_
        refine lv_iconst (v := nI 1) hx hb dX2_cutAt_14 (by decide) ?_
        refine n_iadd hx hb dX2_cutAt_15 ?_
        refine lv_istore_n (lv' := [(3, .int (nI (c9 + 1))), (0, .ref (ad (tb + 1))), (1, .int (nI (c9))), (2, .int (nI (j9)))]) hx hb dX2_cutAt_16 rfl hl (by decide) rfl (fun ls hl => ?_)
        have lp17_n_448 : ∀ (n : Nat) (p9 : Nat), c9 + 1 ≤ p9 → p9 ≤ 7 → 8 - p9 < n → ∀ (F_449 : Nat → va_E) (H : Heap) (locs : List Loc), wD G L F_449 s H locs → F_449 (ad (tb + 1)) = .inr (2, [.int (nI (c9)), .ref (ad (tb + 2)), .ref (ad (tb + 3))]) → F_449 (ad (tb + 4 + j9)) = rw7 G ((cutP c9 p9 (r1 j9))) → F_449 (ad (tb + 10 + j9)) = rw7 G ((cutP c9 p9 (r1 (6 + j9)))) → (∀ j, j < 12 → j ≠ j9 → j ≠ 6 + j9 → F_449 (ad (tb + 4 + j)) = rw7 G (mixR r1 (cutR c9 r1) j9 j)) → (∀ q, (∀ i, (i = tb + 1 ∨ (tb + 4 ≤ i ∧ i < tb + 16)) → q ≠ ad i) → F_449 q = F q) → ∀ ls : Array Slot, lv_has ls 4 [(0, .ref (ad (tb + 1))), (1, .int (nI (c9))), (2, .int (nI (j9))), (3, .int (nI (p9)))] → W p l e rm_X2_cutAt s m args below meth c H locs 0 0 Q (F0 m 17 ls []) := by
          intro n
          induction n with
          | zero => intro p9 hp1 hp2 hm; exact absurd hm (Nat.not_lt_zero _)
          | succ n ih_17_n_455 =>
            intro p9 hp1 hp2 hm F_449 H locs hw f_450 f_451 f_452 ff_453 fr_454 ls hl
            refine lv_iload_n hx hb dX2_cutAt_17 rfl (lv_at hl 3 rfl) ?_
            refine lv_bipush (v := nI 6) hx hb dX2_cutAt_18 (by decide) ?_
            refine n_icmp_gt (tgt := 47) hx hb dX2_cutAt_20 (by decide) (by omega) (by decide) (fun c_20 => ?_) (fun c_20 => ?_)
            · skip
              obtain rfl : p9 = 7 := by omega
              obtain ⟨F_456, hw, f_457, o_458⟩ := hw.rowE f_451 (v := (cutR c9 r1) j9) (cutP_e c9 r1 j9)
              have f_459 : F_456 (ad (tb + 10 + j9)) = rw7 G ((cutP c9 7 (r1 (6 + j9)))) := (o_458 (ad (tb + 10 + j9)) (hin (tb + 10 + j9) (tb + 4 + j9) (by omega) (by omega) (by omega))).trans f_452
              obtain ⟨F_460, hw, f_461, o_462⟩ := hw.rowE f_459 (v := (cutR c9 r1) (6 + j9)) (cutP_e c9 r1 (6 + j9))
              refine lv_iinc (v := nI (j9 + 1)) (lv' := [(2, .int (nI (j9 + 1))), (0, .ref (ad (tb + 1))), (1, .int (nI (c9))), (3, .int (nI (7)))]) hx hb dX2_cutAt_47 hl (k := 2) rfl (nI_add _ _) (by decide) rfl (fun ls hl => ?_)
              refine lv_goto (tgt := 7) hx hb dX2_cutAt_50 (by decide) ?_
              have f_463 : F_460 (ad (tb + 4 + j9)) = rw7 G ((cutR c9 r1) j9) := (o_462 (ad (tb + 4 + j9)) (hin (tb + 4 + j9) (tb + 10 + j9) (by omega) (by omega) (by omega))).trans f_457
              have f_464 : F_456 (ad (tb + 1)) = .inr (2, [.int (nI (c9)), .ref (ad (tb + 2)), .ref (ad (tb + 3))]) := (o_458 (ad (tb + 1)) (hin (tb + 1) (tb + 4 + j9) (by omega) (by omega) (by omega))).trans f_450
              have f_465 : F_460 (ad (tb + 1)) = .inr (2, [.int (nI (c9)), .ref (ad (tb + 2)), .ref (ad (tb + 3))]) := (o_462 (ad (tb + 1)) (hin (tb + 1) (tb + 10 + j9) (by omega) (by omega) (by omega))).trans f_464
              exact ih_7_n_445 (j9 + 1) ((by omega)) (by omega) F_460 _ _ hw (f_465) (fun j hj => by
        by_cases e1 : j = j9
        · subst e1
          rw [mixR_a]
          exact f_463
        · by_cases e2 : j = 6 + j9
          · subst e2
            rw [mixR_b, show tb + 4 + (6 + j9) = tb + 10 + j9 by omega]
            exact f_461
          · rw [mixR_o _ _ e1 e2]
            exact (((o_462 (ad (tb + 4 + j)) (hin (tb + 4 + j) (tb + 10 + j9) (by omega) (by omega) (by omega)))).trans ((o_458 (ad (tb + 4 + j)) (hin (tb + 4 + j) (tb + 4 + j9) (by omega) (by omega) (by omega))))).trans (ff_453 j hj e1 e2)) (fun q hq => ((o_462 q (hq (tb + 10 + j9) (by omega))).trans ((o_458 q (hq (tb + 4 + j9) (by omega))).trans (fr_454 q (fun i hS => hq i (by omega)))))) ls (lv_sub hl [1, 2, 0] rfl)
            · skip
              refine lv_aload_n hx hb dX2_cutAt_23 rfl (lv_at hl 0 rfl) ?_
              refine q_get C0 hw ((hL (tb + 1) (by omega))) f_450 fw_X2_17 rfl dX2_cutAt_24 ?_
              refine lv_iload_n hx hb dX2_cutAt_27 rfl (lv_at hl 2 rfl) ?_
              have f_466 : F_449 (ad (tb + 2)) = oE G (fun i => ad (tb + 4 + i)) := (fr_454 (ad (tb + 2)) (fun i hS => hin (tb + 2) i (by omega) (by omega) (by omega))).trans hs1.2.1
              refine q_aaldi C0 hw ((hL (tb + 2) (by omega))) f_466 (j9) (by omega) (by decide) (b := ad (tb + 4 + j9)) rfl dX2_cutAt_28 ?_
              refine lv_iload_n hx hb dX2_cutAt_29 rfl (lv_at hl 3 rfl) ?_
              refine lv_iconst (v := nI 0) hx hb dX2_cutAt_30 (by decide) ?_
              refine q_rst C0 hw ((hL (tb + 4 + j9) (by omega))) f_451 (p9) (by omega) (z := zc 0) dX2_cutAt_31 (fun F_467 H locs hw f_468 o_469 => ?_)
              refine lv_aload_n hx hb dX2_cutAt_32 rfl (lv_at hl 0 rfl) ?_
              have f_470 : F_467 (ad (tb + 1)) = .inr (2, [.int (nI (c9)), .ref (ad (tb + 2)), .ref (ad (tb + 3))]) := (o_469 (ad (tb + 1)) (hin (tb + 1) (tb + 4 + j9) (by omega) (by omega) (by omega))).trans f_450
              refine q_get C0 hw ((hL (tb + 1) (by omega))) f_470 fw_X2_20 rfl dX2_cutAt_33 ?_
              refine lv_iload_n hx hb dX2_cutAt_36 rfl (lv_at hl 2 rfl) ?_
              have f_471 : F_449 (ad (tb + 3)) = oE G (fun i => ad (tb + 10 + i)) := (fr_454 (ad (tb + 3)) (fun i hS => hin (tb + 3) i (by omega) (by omega) (by omega))).trans hs1.2.2.1
              have f_472 : F_467 (ad (tb + 3)) = oE G (fun i => ad (tb + 10 + i)) := (o_469 (ad (tb + 3)) (hin (tb + 3) (tb + 4 + j9) (by omega) (by omega) (by omega))).trans f_471
              refine q_aaldi C0 hw ((hL (tb + 3) (by omega))) f_472 (j9) (by omega) (by decide) (b := ad (tb + 10 + j9)) rfl dX2_cutAt_37 ?_
              refine lv_iload_n hx hb dX2_cutAt_38 rfl (lv_at hl 3 rfl) ?_
              refine lv_iconst (v := nI 0) hx hb dX2_cutAt_39 (by decide) ?_
              have f_473 : F_467 (ad (tb + 10 + j9)) = rw7 G ((cutP c9 p9 (r1 (6 + j9)))) := (o_469 (ad (tb + 10 + j9)) (hin (tb + 10 + j9) (tb + 4 + j9) (by omega) (by omega) (by omega))).trans f_452
              refine q_rst C0 hw ((hL (tb + 10 + j9) (by omega))) f_473 (p9) (by omega) (z := zc 0) dX2_cutAt_40 (fun F_474 H locs hw f_475 o_476 => ?_)
              refine lv_iinc (v := nI (p9 + 1)) (lv' := [(3, .int (nI (p9 + 1))), (0, .ref (ad (tb + 1))), (1, .int (nI (c9))), (2, .int (nI (j9)))]) hx hb dX2_cutAt_41 hl (k := 3) rfl (nI_add _ _) (by decide) rfl (fun ls hl => ?_)
              refine lv_goto (tgt := 17) hx hb dX2_cutAt_44 (by decide) ?_
              have f_477 : F_474 (ad (tb + 1)) = .inr (2, [.int (nI (c9)), .ref (ad (tb + 2)), .ref (ad (tb + 3))]) := (o_476 (ad (tb + 1)) (hin (tb + 1) (tb + 10 + j9) (by omega) (by omega) (by omega))).trans f_470
              have f_478 : F_474 (ad (tb + 4 + j9)) = rw7 G (va_up ((cutP c9 p9 (r1 j9))) (p9) (zc 0)) := (o_476 (ad (tb + 4 + j9)) (hin (tb + 4 + j9) (tb + 10 + j9) (by omega) (by omega) (by omega))).trans f_468
              exact ih_17_n_455 (p9 + 1) ((by omega)) ((by omega)) (by omega) F_474 _ _ hw (f_477) (f_478.trans (congrArg (rw7 G) (cutP_s c9 (r1 j9) (by omega)))) (f_475.trans (congrArg (rw7 G) (cutP_s c9 (r1 (6 + j9)) (by omega)))) (fun j hj n1 n2 => (((o_476 (ad (tb + 4 + j)) (hin (tb + 4 + j) (tb + 10 + j9) (by omega) (by omega) (by omega)))).trans ((o_469 (ad (tb + 4 + j)) (hin (tb + 4 + j) (tb + 4 + j9) (by omega) (by omega) (by omega))))).trans (ff_453 j hj n1 n2)) (fun q hq => ((o_476 q (hq (tb + 10 + j9) (by omega))).trans ((o_469 q (hq (tb + 4 + j9) (by omega))).trans (fr_454 q (fun i hS => hq i (by omega)))))) ls (lv_sub hl [1, 2, 3, 0] rfl)
        exact lp17_n_448 _ (c9 + 1) ((Nat.le_refl _)) ((by omega)) (Nat.lt_succ_self _) F_441 _ _ hw (f_442) ((ff_443 (j9) (by omega)).trans (congrArg (rw7 G) ((mixR_n1 r1 (cutR c9 r1) (by omega)).trans (cutP_0 c9 (r1 j9)).symm))) ((show F_441 (ad (tb + 10 + j9)) = _ from by have h9 := ff_443 (6 + j9) (by omega); rwa [show tb + 4 + (6 + j9) = tb + 10 + j9 by omega] at h9).trans (congrArg (rw7 G) ((mixR_n2 r1 (cutR c9 r1) (by omega)).trans (cutP_0 c9 (r1 (6 + j9))).symm))) (fun j hj n1 n2 => (rfl).trans (ff_443 j hj)) (fun q hq => (fr_444 q (fun i hS => hq i (by omega)))) ls (lv_sub hl [1, 2, 3, 0] rfl)
  exact lp7_n_440 _ (0) ((by omega)) (Nat.lt_succ_self _) F_437 _ _ hw (f_438) (fun j hj => ((o_439 (ad (tb + 4 + j)) (hin (tb + 4 + j) (tb + 1) (by omega) (by omega) (by omega)))).trans ((hs1.2.2.2 j hj).trans (congrArg (rw7 G) (congrFun (mixR_0 r1 (cutR c9 r1)) j).symm))) (fun q hq => (o_439 q (hq (tb + 1) (by omega)))) ls (lv_sub hl [1, 2, 0] rfl)
def cntR (r : Rws) : Nat → Nat
  | 0 => 0
  | i + 1 => cntR r i + (if m_low (fun k => decide (r i k ≠ 0)) = -1 then 0 else 1)
theorem cntR_le (r : Rws) : ∀ i, cntR r i ≤ i
  | 0 => Nat.le_refl 0
  | i + 1 => by
    rw [cntR]
    have := cntR_le r i
    split <;> omega
theorem cntR_a {r : Rws} {i : Nat} (h : m_low (fun k => decide (r i k ≠ 0)) = -1) : cntR r (i + 1) = cntR r i := by rw [cntR, if_pos h, Nat.add_zero]
theorem cntR_b {r : Rws} {i : Nat} (h : ¬ m_low (fun k => decide (r i k ≠ 0)) = -1) : cntR r (i + 1) = cntR r i + 1 := by rw [cntR, if_neg h]
def cfP (u : Nat → ZP) : Nat → Nat
  | 0 => 0
  | k + 1 => cfP u k + (if (u (k + 2)).val = 0 then 0 else 1)
def cfR (r : Rws) : Nat → Nat
  | 0 => 0
  | i + 1 => cfR r i + cfP (r i) 5
theorem cfP_le (u : Nat → ZP) : ∀ k, cfP u k ≤ k
  | 0 => Nat.le_refl 0
  | k + 1 => by
    rw [cfP]
    have := cfP_le u k
    split <;> omega
theorem cfR_le (r : Rws) : ∀ i, cfR r i ≤ 5 * i
  | 0 => Nat.le_refl 0
  | i + 1 => by
    rw [cfR]
    have := cfR_le r i
    have := cfP_le (r i) 5
    omega
theorem cfP_a {u : Nat → ZP} {k : Nat} (h : (u (k + 2)).val = 0) : cfP u (k + 1) = cfP u k := by rw [cfP, if_pos h, Nat.add_zero]
theorem cfP_b {u : Nat → ZP} {k : Nat} (h : ¬ (u (k + 2)).val = 0) : cfP u (k + 1) = cfP u k + 1 := by rw [cfP, if_neg h]
abbrev rm_X2_rowsWithPowers : Room := { frames := 1, cells := 0, slots := 0, locals := 21 }
set_option maxHeartbeats 4000000 in
set_option maxRecDepth 100000 in
theorem c_X2_rowsWithPowers (l : Launch) (G : Gl) (L : List Nat) (F : Nat → va_E) (ad : Nat → Nat) (hL : ∀ i, i < 166 → ad i ∈ L) (hin : ∀ i j, i < 166 → j < 166 → i ≠ j → ad i ≠ ad j) (aa bb : Nat) (r9 : Rws) (hbb : bb + 6 ≤ 166) (ma : aa ∈ L) (fa : F aa = oE G (fun i => ad (bb + i))) (hr9 : ∀ i, i < 6 → F (ad (bb + i)) = rw7 G (r9 i)) : CI l yX2_rowsWithPowers cX2_rowsWithPowers 3 (some .int) rm_X2_rowsWithPowers G L F [.ref aa] (fun r F1 => r = nI (cntR r9 6) ∧ ∀ q, F1 q = F q) := by
  refine CG_of (by decide) (Nat.le_of_ble_eq_true rfl) rfl ?_
  intro p e s m args below meth c Q C0 hr hlk hnm hQ hw ls hl
  have hx := C0.x
  have hb := C0.b
  refine lv_iconst (v := nI 0) hx hb dX2_rowsWithPowers_0 (by decide) ?_
  refine lv_istore_n (lv' := [(1, .int (nI (0))), (0, .ref aa)]) hx hb dX2_rowsWithPowers_1 rfl hl (by decide) rfl (fun ls hl => ?_)
  refine lv_iconst (v := nI 0) hx hb dX2_rowsWithPowers_2 (by decide) ?_
  refine lv_istore_n (lv' := [(2, .int (nI (0))), (1, .int (nI (0))), (0, .ref aa)]) hx hb dX2_rowsWithPowers_3 rfl hl (by decide) rfl (fun ls hl => ?_)
  have lp4 : ∀ (n : Nat) (i9 : Nat), 0 ≤ i9 → i9 ≤ 6 → 6 + 1 - i9 < n → ∀ (F_479 : Nat → va_E) (H : Heap) (locs : List Loc), wD G L F_479 s H locs → (∀ q, F_479 q = F q) → ∀ ls : Array Slot, lv_has ls 3 [(0, .ref aa), (1, .int (nI (cntR r9 i9))), (2, .int (nI (i9)))] → W p l e rm_X2_rowsWithPowers s m args below meth c H locs 0 0 Q (F0 m 4 ls []) := by
    intro n
    induction n with
    | zero => intro i9 hlo hhi hm; exact absurd hm (Nat.not_lt_zero _)
    | succ n ih_4 =>
      intro i9 hlo hhi hm F_479 H locs hw  fr_480 ls hl
      refine lv_iload_n hx hb dX2_rowsWithPowers_4 rfl (lv_at hl 2 rfl) ?_
      refine lv_bipush (v := nI 6) hx hb dX2_rowsWithPowers_5 (by decide) ?_
      refine n_icmp_ge (tgt := 29) hx hb dX2_rowsWithPowers_7 (by decide) (by omega) (by decide) (fun c_7 => ?_) (fun c_7 => ?_)
      · skip
        obtain rfl : i9 = 6 := by omega
        refine lv_iload_n hx hb dX2_rowsWithPowers_29 rfl (lv_at hl 1 rfl) ?_
        exact r_i C0 hr hlk hw (v := nI (cntR r9 6)) rfl ⟨rfl, (fun q  => (fr_480 q ))⟩ (Nat.le_refl _) (Nat.le_refl _) dX2_rowsWithPowers_30 hQ
      · skip
        refine lv_aload_n hx hb dX2_rowsWithPowers_10 rfl (lv_at hl 0 rfl) ?_
        refine lv_iload_n hx hb dX2_rowsWithPowers_11 rfl (lv_at hl 2 rfl) ?_
        have f_481 : F_479 aa = oE G (fun i => ad (bb + i)) := (fr_480 aa ).trans fa
        refine q_aaldi C0 hw ma f_481 (i9) (by omega) (by decide) (b := ad (bb + i9)) rfl dX2_rowsWithPowers_12 ?_
        have f_482 : F_479 (ad (bb + i9)) = rw7 G ((r9 i9)) := (fr_480 (ad (bb + i9)) ).trans ((hr9 (i9) (by omega)))
        refine q_calli hw (q_runS (As := [.ref (ad (bb + i9))]) (c_X1_lowestPower l G L F_479 (ad (bb + i9)) ((r9 i9)) ((hL (bb + i9) (by omega))) f_482) C0 hw sw_X2_33 rfl hl.1 rfl (Nat.le_of_ble_eq_true rfl) dX2_rowsWithPowers_13 ⟨by decide, by decide⟩ ⟨by decide, by decide⟩) rfl rfl (fun r_485 F_483 H locs hw hp_484 => ?_)
        obtain ⟨he_486, o_487⟩ := hp_484
        subst he_486
        refine lv_iconst (v := (-1)) hx hb dX2_rowsWithPowers_16 (by decide) ?_
        refine lv_icmp_eq (tgt := 23) hx hb dX2_rowsWithPowers_17 (by decide) (fun c_17 => ?_) (fun c_17 => ?_)
        · skip
          have hcl := cntR_le r9 i9
          refine lv_iinc (v := nI (i9 + 1)) (lv' := [(2, .int (nI (i9 + 1))), (0, .ref aa), (1, .int (nI (cntR r9 i9)))]) hx hb dX2_rowsWithPowers_23 hl (k := 2) rfl (nI_add _ _) (by decide) rfl (fun ls hl => ?_)
          refine lv_goto (tgt := 4) hx hb dX2_rowsWithPowers_26 (by decide) ?_
          have hl : lv_has ls 3 [(2, .int (nI (i9 + 1))), (0, .ref aa), (1, .int (nI (cntR r9 (i9 + 1))))] := (by rw [cntR_a c_17]; exact hl)
          exact ih_4 (i9 + 1) ((by omega)) ((by omega)) (by omega) F_483 _ _ hw  (fun q  => ((o_487 q ).trans (fr_480 q ))) ls (lv_sub hl [1, 2, 0] rfl)
        · skip
          have hcl := cntR_le r9 i9
          refine lv_iinc (v := nI (cntR r9 i9 + 1)) (lv' := [(1, .int (nI (cntR r9 i9 + 1))), (0, .ref aa), (2, .int (nI (i9)))]) hx hb dX2_rowsWithPowers_20 hl (k := 1) rfl (nI_add _ _) (by decide) rfl (fun ls hl => ?_)
          refine lv_iinc (v := nI (i9 + 1)) (lv' := [(2, .int (nI (i9 + 1))), (1, .int (nI (cntR r9 i9 + 1))), (0, .ref aa)]) hx hb dX2_rowsWithPowers_23 hl (k := 2) rfl (nI_add _ _) (by decide) rfl (fun ls hl => ?_)
          refine lv_goto (tgt := 4) hx hb dX2_rowsWithPowers_26 (by decide) ?_
          have hl : lv_has ls 3 [(2, .int (nI (i9 + 1))), (1, .int (nI (cntR r9 (i9 + 1)))), (0, .ref aa)] := (by rw [cntR_b c_17]; exact hl)
          exact ih_4 (i9 + 1) ((by omega)) ((by omega)) (by omega) F_483 _ _ hw  (fun q  => ((o_487 q ).trans (fr_480 q ))) ls (lv_sub hl [2, 1, 0] rfl)
  exact lp4 _ (0) ((by omega)) ((by omega)) (Nat.lt_succ_self _) F _ _ hw  (fun q  => rfl) ls (lv_sub hl [2, 1, 0] rfl)
abbrev rm_X2_fieldsThatAreNotZero : Room := { frames := 2, cells := 0, slots := 0, locals := 43 }
set_option maxHeartbeats 4000000 in
set_option maxRecDepth 100000 in
theorem c_X2_fieldsThatAreNotZero (l : Launch) (G : Gl) (L : List Nat) (F : Nat → va_E) (ad : Nat → Nat) (hL : ∀ i, i < 166 → ad i ∈ L) (hin : ∀ i j, i < 166 → j < 166 → i ≠ j → ad i ≠ ad j) (tb c1 : Nat) (r1 : Rws) (hs1 : shp G F ad tb c1 r1) (htb : tb + 16 ≤ 166) : CI l yX2_fieldsThatAreNotZero cX2_fieldsThatAreNotZero 1 (some .int) rm_X2_fieldsThatAreNotZero G L F [.ref (ad (tb + 1))] (fun r F1 => r = nI (cntR (fun i => r1 i) 6) ∧ ∀ q, F1 q = F q) := by
  refine CG_of (by decide) (Nat.le_of_ble_eq_true rfl) rfl ?_
  intro p e s m args below meth c Q C0 hr hlk hnm hQ hw ls hl
  have hx := C0.x
  have hb := C0.b
  refine lv_aload_n hx hb dX2_fieldsThatAreNotZero_0 rfl (lv_at hl 0 rfl) ?_
  refine q_get C0 hw ((hL (tb + 1) (by omega))) hs1.1 fw_X2_17 rfl dX2_fieldsThatAreNotZero_1 ?_
  refine q_calli hw (q_runS (As := [.ref (ad (tb + 2))]) (c_X2_rowsWithPowers l G L F ad hL hin (ad (tb + 2)) (tb + 4) (fun i => r1 i) (by omega) ((hL (tb + 2) (by omega))) hs1.2.1 (fun i hi => hs1.2.2.2 i (by omega))) C0 hw sw_X2_29 rfl hl.1 rfl (Nat.le_of_ble_eq_true rfl) dX2_fieldsThatAreNotZero_4 ⟨by decide, by decide⟩ ⟨by decide, by decide⟩) rfl rfl (fun r_490 F_488 H locs hw hp_489 => ?_)
  obtain ⟨he_491, o_492⟩ := hp_489
  subst he_491
  exact r_i C0 hr hlk hw (v := nI (cntR (fun i => r1 i) 6)) rfl ⟨rfl, (fun q  => (o_492 q ))⟩ (Nat.le_refl _) (Nat.le_refl _) dX2_fieldsThatAreNotZero_7 hQ
abbrev rm_X2_flowsThatAreNotX : Room := { frames := 2, cells := 0, slots := 0, locals := 43 }
set_option maxHeartbeats 4000000 in
set_option maxRecDepth 100000 in
theorem c_X2_flowsThatAreNotX (l : Launch) (G : Gl) (L : List Nat) (F : Nat → va_E) (ad : Nat → Nat) (hL : ∀ i, i < 166 → ad i ∈ L) (hin : ∀ i j, i < 166 → j < 166 → i ≠ j → ad i ≠ ad j) (tb c1 : Nat) (r1 : Rws) (hs1 : shp G F ad tb c1 r1) (htb : tb + 16 ≤ 166) : CI l yX2_flowsThatAreNotX cX2_flowsThatAreNotX 1 (some .int) rm_X2_flowsThatAreNotX G L F [.ref (ad (tb + 1))] (fun r F1 => r = nI (cntR (fun i => r1 (6 + i)) 6) ∧ ∀ q, F1 q = F q) := by
  refine CG_of (by decide) (Nat.le_of_ble_eq_true rfl) rfl ?_
  intro p e s m args below meth c Q C0 hr hlk hnm hQ hw ls hl
  have hx := C0.x
  have hb := C0.b
  refine lv_aload_n hx hb dX2_flowsThatAreNotX_0 rfl (lv_at hl 0 rfl) ?_
  refine q_get C0 hw ((hL (tb + 1) (by omega))) hs1.1 fw_X2_20 rfl dX2_flowsThatAreNotX_1 ?_
  refine q_calli hw (q_runS (As := [.ref (ad (tb + 3))]) (c_X2_rowsWithPowers l G L F ad hL hin (ad (tb + 3)) (tb + 10) (fun i => r1 (6 + i)) (by omega) ((hL (tb + 3) (by omega))) hs1.2.2.1 (fun i hi => by have h9 := hs1.2.2.2 (6 + i) (by omega); rwa [show tb + 4 + (6 + i) = tb + 10 + i by omega] at h9)) C0 hw sw_X2_29 rfl hl.1 rfl (Nat.le_of_ble_eq_true rfl) dX2_flowsThatAreNotX_4 ⟨by decide, by decide⟩ ⟨by decide, by decide⟩) rfl rfl (fun r_495 F_493 H locs hw hp_494 => ?_)
  obtain ⟨he_496, o_497⟩ := hp_494
  subst he_496
  exact r_i C0 hr hlk hw (v := nI (cntR (fun i => r1 (6 + i)) 6)) rfl ⟨rfl, (fun q  => (o_497 q ))⟩ (Nat.le_refl _) (Nat.le_refl _) dX2_flowsThatAreNotX_7 hQ
end
section
abbrev hE (G : Gl) (ad pi : Nat → Nat) : va_E := .inl (G.2 3, 6, .inr (.inr (.inr (.inr (fun i => some (ad (22 + 16 * pi i)))))))
abbrev hO (a k : Nat) : va_E := .inr (0, [.ref a, .int (nI k)])
def hisW (G : Gl) (F : Nat → va_E) (ad : Nat → Nat) (h : Nat × (Nat → Sta)) : Prop := ∃ (pi : Nat → Nat) (hx : Nat → Sta), F (ad 1) = hO (ad 2) h.1 ∧ F (ad 2) = hE G ad pi ∧ (∀ i, i < 6 → 1 ≤ pi i ∧ pi i ≤ 6) ∧ (∀ i j, i < 6 → j < 6 → i ≠ j → pi i ≠ pi j) ∧ (∀ i, i < 6 → sta G F ad (22 + 16 * pi i) (hx i)) ∧ (∀ i, i < h.1 → hx i = h.2 i) ∧ h.1 ≤ 6
theorem hisW.keep {G : Gl} {F F1 : Nat → va_E} {ad : Nat → Nat} {h : Nat × (Nat → Sta)} (hh : hisW G F ad h) (k : ∀ i, (i = 1 ∨ i = 2 ∨ (38 ≤ i ∧ i < 134)) → F1 (ad i) = F (ad i)) : hisW G F1 ad h := by
  obtain ⟨pi, hx, e1, e2, hp, hpj, hs, hv, h6⟩ := hh
  exact ⟨pi, hx, (k 1 (by omega)).trans e1, (k 2 (by omega)).trans e2, hp, hpj, fun i hi => (hs i hi).keep (fun j hj => k j (by have := hp i hi; omega)), hv, h6⟩
def saveH (h : Nat × (Nat → Sta)) (st : Sta) : Nat × (Nat → Sta) := if h.1 < 6 then (h.1 + 1, fun i => if i = h.1 then st else h.2 i) else (6, fun i => if i = 5 then st else h.2 (i + 1))
def piL (pi : Nat → Nat) (i : Nat) : Nat → Nat := fun j => if j + 1 < i then pi (j + 1) else pi j
def piR (pi : Nat → Nat) : Nat → Nat := fun j => if j = 5 then pi 0 else piL pi 6 j
theorem piL_1 (pi : Nat → Nat) : piL pi 1 = pi := by
  funext j
  have h : ¬ j + 1 < 1 := by omega
  simp only [piL, h, if_false]
theorem piL_s (ad pi : Nat → Nat) {i : Nat} (hi : 1 ≤ i) : va_up (fun j => some (ad (22 + 16 * piL pi i j))) (i - 1) (some (ad (22 + 16 * pi i))) = fun j => some (ad (22 + 16 * piL pi (i + 1) j)) := by
  funext j
  by_cases e : j = i - 1
  · have h : j + 1 < i + 1 := by omega
    rw [e, va_up_self]
    have h2 : i - 1 + 1 < i + 1 := by omega
    simp only [piL, h2, if_true]
    rw [show i - 1 + 1 = i by omega]
  · rw [va_up_ne _ _ e]
    have h : (j + 1 < i + 1) = (j + 1 < i) := by simp only [eq_iff_iff]; omega
    simp only [piL, h]
theorem piL_e (ad pi : Nat → Nat) : va_up (fun j => some (ad (22 + 16 * piL pi 6 j))) 5 (some (ad (22 + 16 * pi 0))) = fun j => some (ad (22 + 16 * piR pi j)) := by
  funext j
  by_cases e : j = 5
  · subst e
    rw [va_up_self]
    rfl
  · rw [va_up_ne _ _ e]
    simp only [piR, e, if_false]
theorem piR_b {pi : Nat → Nat} (hp : ∀ i, i < 6 → 1 ≤ pi i ∧ pi i ≤ 6) (i : Nat) (hi : i < 6) : 1 ≤ piR pi i ∧ piR pi i ≤ 6 := by
  unfold piR piL
  split
  · exact hp 0 (by omega)
  · split
    · exact hp (i + 1) (by omega)
    · exact hp i hi
def rot (i : Nat) : Nat := if i = 5 then 0 else i + 1
theorem piR_r (pi : Nat → Nat) {i : Nat} (hi : i < 6) : piR pi i = pi (rot i) := by
  unfold piR piL rot
  split
  · rfl
  · rw [if_pos (by omega)]
section AROWS
variable {p : Program} {l : Launch} {e : Env} {R : Room} {s : State} {m : MethodId} {args : Array Value} {below : List Frame} {meth : Method} {c : Code} {H : Heap} {locs : List Loc} {cells slots : Nat} {Q : State → Prop}
variable {cc : ByteArray} {nL : Nat} {own : String} {pc : Nat} {ls : Array Slot} {rest : List Value} {G : Gl} {L : List Nat} {F : Nat → va_E} {a : Nat}
theorem q_aast (C0 : Cx p s m args c cc nL own G L) (hw : wD G L F s H locs) (ha : a ∈ L) (t0 ci : Nat) {q9 : vw_C} (ht : (g_tys G)[t0]? = some (G.2 t0, .object q9.1)) (hc : vwCl[ci]? = some q9) {N : Nat} {f : Nat → Option Nat} (he : F a = .inl (G.2 t0, N, .inr (.inr (.inr (.inr f))))) (i : Nat) (hi : i < N) (hN : N < 2 ^ 31) {b : Nat} {vs : List Value} (hb : b ∈ L) (hbe : F b = .inr (ci, vs)) (hdg : decode cc pc = .ok (.aastore, 1))
    (kk : ∀ (F' : Nat → va_E) (H1 : Heap) (locs1 : List Loc), wD G L F' s H1 locs1 → F' a = .inl (G.2 t0, N, .inr (.inr (.inr (.inr (va_up f i (some b)))))) → (∀ q, q ≠ a → F' q = F q) → W p l e R s m args below meth c H1 locs1 cells slots Q (F0 m (pc + 1) ls rest)) : W p l e R s m args below meth c H locs cells slots Q (F0 m pc ls (.ref b :: .int (nI i) :: .ref a :: rest)) := by
  obtain ⟨k, hk⟩ := va_pl_get (X := []) (f := F) ha
  obtain ⟨k1, hk1⟩ := va_pl_get (X := []) (f := F) hb
  have hk2 := hk
  rw [he] at hk2
  rw [hbe] at hk1
  refine va_astq C0.x C0.b C0.K hw.1 hw.2.1 hw.2.2 k t0 k1 ci hk2 ht hk1 hc (vp_in_nI hi hN) hdg fun H1 locs1 hP hD hS => ?_
  rw [nI_clamp (Nat.lt_trans hi hN)] at hP
  exact hw.go (P := fun H1 locs1 => W p l e R s m args below meth c H1 locs1 cells slots Q (F0 m (pc + 1) ls rest)) ha hk hP hS kk
end AROWS

abbrev rm_X3_copyFrom : Room := { frames := 2, cells := 0, slots := 0, locals := 62 }
set_option maxHeartbeats 4000000 in
set_option maxRecDepth 100000 in
theorem c_X3_copyFrom (l : Launch) (G : Gl) (L : List Nat) (F : Nat → va_E) (ad : Nat → Nat) (hL : ∀ i, i < 166 → ad i ∈ L) (hin : ∀ i j, i < 166 → j < 166 → i ≠ j → ad i ≠ ad j) (tb ob : Nat) (s1 s2 : Sta) (hs1 : sta G F ad tb s1) (hs2 : sta G F ad ob s2) (htb : tb + 16 ≤ 166) (hob : ob + 16 ≤ 166) (hdis : tb + 16 ≤ ob ∨ ob + 16 ≤ tb) : CV l yX3_copyFrom cX3_copyFrom 2 none rm_X3_copyFrom G L F [.ref (ad tb), .ref (ad ob)] (fun F1 => sta G F1 ad tb s2 ∧ ∀ q, (∀ i, (i = tb ∨ i = tb + 1 ∨ (tb + 4 ≤ i ∧ i < tb + 16)) → q ≠ ad i) → F1 q = F q) := by
  refine CG_of (by decide) (Nat.le_of_ble_eq_true rfl) rfl ?_
  intro p e s m args below meth c Q C0 hr hlk hnm hQ hw ls hl
  have hx := C0.x
  have hb := C0.b
  refine lv_aload_n hx hb dX3_copyFrom_0 rfl (lv_at hl 0 rfl) ?_
  refine q_get C0 hw ((hL tb (by omega))) hs1.1 fw_X3_12 rfl dX3_copyFrom_1 ?_
  refine lv_aload_n hx hb dX3_copyFrom_4 rfl (lv_at hl 1 rfl) ?_
  refine q_get C0 hw ((hL ob (by omega))) hs2.1 fw_X3_12 rfl dX3_copyFrom_5 ?_
  refine q_callv hw (q_runV (As := [.ref (ad (ob + 1))]) (c_X2_copyFrom l G L F ad hL hin tb ob s1.1 s2.1 s1.2.2.2.2.2 s2.2.2.2.2.2 hs1.2 hs2.2 (by omega) (by omega) (by omega)) C0 hw vw_X3_22 ((hL (tb + 1) (by omega))) hs1.2.1 rfl rfl rfl hl.1 rfl (Nat.le_of_ble_eq_true rfl) dX3_copyFrom_8 ⟨by decide, by decide⟩ ⟨by decide, by decide⟩) rfl rfl (fun F_498 H locs hw hp_499 => ?_)
  refine lv_aload_n hx hb dX3_copyFrom_11 rfl (lv_at hl 0 rfl) ?_
  refine lv_aload_n hx hb dX3_copyFrom_12 rfl (lv_at hl 1 rfl) ?_
  have f_500 : F_498 (ad ob) = .inr (3, [.ref (ad (ob + 1)), .int (nI (s2.2.1)), .int (nI (s2.2.2.1)), .int (nI (s2.2.2.2.1)), .int (nI (s2.2.2.2.2.1))]) := (hp_499.2 (ad ob) (fun i hS => hin ob i (by omega) (by omega) (by omega))).trans hs2.1
  refine q_get C0 hw ((hL ob (by omega))) f_500 fw_X3_18 rfl dX3_copyFrom_13 ?_
  have f_501 : F_498 (ad tb) = .inr (3, [.ref (ad (tb + 1)), .int (nI (s1.2.1)), .int (nI (s1.2.2.1)), .int (nI (s1.2.2.2.1)), .int (nI (s1.2.2.2.2.1))]) := (hp_499.2 (ad tb) (fun i hS => hin tb i (by omega) (by omega) (by omega))).trans hs1.1
  refine q_put C0 hw ((hL tb (by omega))) f_501 fw_X3_18 pw_X3_1 rfl rfl rfl (Nat.le_of_ble_eq_true rfl) dX3_copyFrom_16 (fun F_502 H locs hw f_503 o_504 => ?_)
  have f_503 : F_502 (ad tb) = .inr (3, [.ref (ad (tb + 1)), .int (nI (s2.2.1)), .int (nI (s1.2.2.1)), .int (nI (s1.2.2.2.1)), .int (nI (s1.2.2.2.2.1))]) := f_503
  refine lv_aload_n hx hb dX3_copyFrom_19 rfl (lv_at hl 0 rfl) ?_
  refine lv_aload_n hx hb dX3_copyFrom_20 rfl (lv_at hl 1 rfl) ?_
  have f_505 : F_502 (ad ob) = .inr (3, [.ref (ad (ob + 1)), .int (nI (s2.2.1)), .int (nI (s2.2.2.1)), .int (nI (s2.2.2.2.1)), .int (nI (s2.2.2.2.2.1))]) := (o_504 (ad ob) (hin ob tb (by omega) (by omega) (by omega))).trans f_500
  refine q_get C0 hw ((hL ob (by omega))) f_505 fw_X3_26 rfl dX3_copyFrom_21 ?_
  refine q_put C0 hw ((hL tb (by omega))) f_503 fw_X3_26 pw_X3_2 rfl rfl rfl (Nat.le_of_ble_eq_true rfl) dX3_copyFrom_24 (fun F_506 H locs hw f_507 o_508 => ?_)
  have f_507 : F_506 (ad tb) = .inr (3, [.ref (ad (tb + 1)), .int (nI (s2.2.1)), .int (nI (s2.2.2.1)), .int (nI (s1.2.2.2.1)), .int (nI (s1.2.2.2.2.1))]) := f_507
  refine lv_aload_n hx hb dX3_copyFrom_27 rfl (lv_at hl 0 rfl) ?_
  refine lv_aload_n hx hb dX3_copyFrom_28 rfl (lv_at hl 1 rfl) ?_
  have f_509 : F_506 (ad ob) = .inr (3, [.ref (ad (ob + 1)), .int (nI (s2.2.1)), .int (nI (s2.2.2.1)), .int (nI (s2.2.2.2.1)), .int (nI (s2.2.2.2.2.1))]) := (o_508 (ad ob) (hin ob tb (by omega) (by omega) (by omega))).trans f_505
  refine q_get C0 hw ((hL ob (by omega))) f_509 fw_X3_29 rfl dX3_copyFrom_29 ?_
  refine q_put C0 hw ((hL tb (by omega))) f_507 fw_X3_29 pw_X3_3 rfl rfl rfl (Nat.le_of_ble_eq_true rfl) dX3_copyFrom_32 (fun F_510 H locs hw f_511 o_512 => ?_)
  have f_511 : F_510 (ad tb) = .inr (3, [.ref (ad (tb + 1)), .int (nI (s2.2.1)), .int (nI (s2.2.2.1)), .int (nI (s2.2.2.2.1)), .int (nI (s1.2.2.2.2.1))]) := f_511
  refine lv_aload_n hx hb dX3_copyFrom_35 rfl (lv_at hl 0 rfl) ?_
  refine lv_aload_n hx hb dX3_copyFrom_36 rfl (lv_at hl 1 rfl) ?_
  have f_513 : F_510 (ad ob) = .inr (3, [.ref (ad (ob + 1)), .int (nI (s2.2.1)), .int (nI (s2.2.2.1)), .int (nI (s2.2.2.2.1)), .int (nI (s2.2.2.2.2.1))]) := (o_512 (ad ob) (hin ob tb (by omega) (by omega) (by omega))).trans f_509
  refine q_get C0 hw ((hL ob (by omega))) f_513 fw_X3_32 rfl dX3_copyFrom_37 ?_
  refine q_put C0 hw ((hL tb (by omega))) f_511 fw_X3_32 pw_X3_4 rfl rfl rfl (Nat.le_of_ble_eq_true rfl) dX3_copyFrom_40 (fun F_514 H locs hw f_515 o_516 => ?_)
  have f_515 : F_514 (ad tb) = .inr (3, [.ref (ad (tb + 1)), .int (nI (s2.2.1)), .int (nI (s2.2.2.1)), .int (nI (s2.2.2.2.1)), .int (nI (s2.2.2.2.2.1))]) := f_515
  exact r_v C0 hr hlk hw ⟨⟨f_515, (hp_499.1.keep (fun i0 hi => ((o_516 (ad (i0)) (hin (i0) tb (by omega) (by omega) (by omega)))).trans (((o_512 (ad (i0)) (hin (i0) tb (by omega) (by omega) (by omega)))).trans (((o_508 (ad (i0)) (hin (i0) tb (by omega) (by omega) (by omega)))).trans ((o_504 (ad (i0)) (hin (i0) tb (by omega) (by omega) (by omega))))))))⟩, (fun q hq => ((o_516 q (hq tb (by omega))).trans ((o_512 q (hq tb (by omega))).trans ((o_508 q (hq tb (by omega))).trans ((o_504 q (hq tb (by omega))).trans (hp_499.2 q (fun i hS => hq i (by omega))))))))⟩ (Nat.le_refl _) (Nat.le_refl _) dX3_copyFrom_43 hQ
abbrev rm_X0_dropOldest : Room := { frames := 0, cells := 0, slots := 0, locals := 0 }
set_option maxHeartbeats 4000000 in
set_option maxRecDepth 100000 in
theorem c_X0_dropOldest (l : Launch) (G : Gl) (L : List Nat) (F : Nat → va_E) (ad : Nat → Nat) (hL : ∀ i, i < 166 → ad i ∈ L) (hin : ∀ i j, i < 166 → j < 166 → i ≠ j → ad i ≠ ad j) (pi : Nat → Nat) (k9 : Nat) (gx : Nat → Sta) (e1 : F (ad 1) = hO (ad 2) k9) (e2 : F (ad 2) = hE G ad pi) (hp : ∀ i, i < 6 → 1 ≤ pi i ∧ pi i ≤ 6) (hs : ∀ i, i < 6 → sta G F ad (22 + 16 * pi i) (gx i)) : CV l yX0_dropOldest cX0_dropOldest 3 none rm_X0_dropOldest G L F [.ref (ad 1)] (fun F1 => (F1 (ad 1) = hO (ad 2) 5 ∧ F1 (ad 2) = hE G ad (piR pi)) ∧ ∀ q, (∀ i, (i = 1 ∨ i = 2) → q ≠ ad i) → F1 q = F q) := by
  refine CG_of (by decide) (Nat.le_of_ble_eq_true rfl) rfl ?_
  intro p e s m args below meth c Q C0 hr hlk hnm hQ hw ls hl
  have hx := C0.x
  have hb := C0.b
  have hp0 := hp 0 (by omega)
  refine lv_aload_n hx hb dX0_dropOldest_0 rfl (lv_at hl 0 rfl) ?_
  refine q_get C0 hw ((hL 1 (by omega))) e1 fw_X0_11 rfl dX0_dropOldest_1 ?_
  refine lv_iconst (v := nI 0) hx hb dX0_dropOldest_4 (by decide) ?_
  refine q_aald C0 hw ((hL 2 (by omega))) 3 rfl e2 (0) (by omega) (by decide) (b := ad (22 + 16 * pi 0)) rfl dX0_dropOldest_5 ?_
  refine lv_astore_n (lv' := [(1, .ref (ad (22 + 16 * pi 0))), (0, .ref (ad 1))]) hx hb dX0_dropOldest_6 rfl hl (by decide) rfl (fun ls hl => ?_)
  refine lv_iconst (v := nI 1) hx hb dX0_dropOldest_7 (by decide) ?_
  refine lv_istore_n (lv' := [(2, .int (nI (1))), (1, .ref (ad (22 + 16 * pi 0))), (0, .ref (ad 1))]) hx hb dX0_dropOldest_8 rfl hl (by decide) rfl (fun ls hl => ?_)
  have lp9_n_517 : ∀ (n : Nat) (i9 : Nat), 1 ≤ i9 → i9 ≤ 6 → 7 - i9 < n → ∀ (F_518 : Nat → va_E) (H : Heap) (locs : List Loc), wD G L F_518 s H locs → F_518 (ad 2) = hE G ad ((piL pi i9)) → F_518 (ad 1) = hO (ad 2) (k9) → (∀ q, (∀ i, (i = 1 ∨ i = 2) → q ≠ ad i) → F_518 q = F q) → ∀ ls : Array Slot, lv_has ls 3 [(0, .ref (ad 1)), (1, .ref (ad (22 + 16 * pi 0))), (2, .int (nI (i9)))] → W p l e rm_X0_dropOldest s m args below meth c H locs 0 0 Q (F0 m 9 ls []) := by
    intro n
    induction n with
    | zero => intro i9 h1i hi6 hm; exact absurd hm (Nat.not_lt_zero _)
    | succ n ih_9_n_522 =>
      intro i9 h1i hi6 hm F_518 H locs hw f_519 f_520 fr_521 ls hl
      refine lv_iload_n hx hb dX0_dropOldest_9 rfl (lv_at hl 2 rfl) ?_
      refine lv_bipush (v := nI 6) hx hb dX0_dropOldest_10 (by decide) ?_
      refine n_icmp_ge (tgt := 35) hx hb dX0_dropOldest_12 (by decide) (by omega) (by decide) (fun c_12 => ?_) (fun c_12 => ?_)
      · skip
        obtain rfl : i9 = 6 := by omega
        refine lv_aload_n hx hb dX0_dropOldest_35 rfl (lv_at hl 0 rfl) ?_
        refine q_get C0 hw ((hL 1 (by omega))) f_520 fw_X0_11 rfl dX0_dropOldest_36 ?_
        refine lv_iconst (v := nI 5) hx hb dX0_dropOldest_39 (by decide) ?_
        refine lv_aload_n hx hb dX0_dropOldest_40 rfl (lv_at hl 1 rfl) ?_
        have f_523 : F_518 (ad (22 + 16 * pi 0)) = .inr (3, [.ref (ad (22 + 16 * pi 0 + 1)), .int (nI ((gx 0).2.1)), .int (nI ((gx 0).2.2.1)), .int (nI ((gx 0).2.2.2.1)), .int (nI ((gx 0).2.2.2.2.1))]) := (fr_521 (ad (22 + 16 * pi 0)) (fun i hS => hin (22 + 16 * pi 0) i (by omega) (by omega) (by omega))).trans ((hs 0 (by omega)).1)
        refine q_aast C0 hw ((hL 2 (by omega))) 3 3 rfl rfl f_519 (5) (by omega) (by decide) ((hL (22 + 16 * pi 0) (by omega))) f_523 dX0_dropOldest_41 (fun F_524 H locs hw f_525 o_526 => ?_)
        have f_525 : F_524 (ad 2) = hE G ad (piR pi) := by rw [f_525, piL_e]
        refine lv_aload_n hx hb dX0_dropOldest_42 rfl (lv_at hl 0 rfl) ?_
        refine lv_iconst (v := nI 5) hx hb dX0_dropOldest_43 (by decide) ?_
        have f_527 : F_524 (ad 1) = hO (ad 2) (k9) := (o_526 (ad 1) (hin 1 2 (by omega) (by omega) (by omega))).trans f_520
        refine q_put C0 hw ((hL 1 (by omega))) f_527 fw_X0_18 pw_X0_1 rfl rfl rfl (Nat.le_of_ble_eq_true rfl) dX0_dropOldest_44 (fun F_528 H locs hw f_529 o_530 => ?_)
        have f_529 : F_528 (ad 1) = .inr (0, [.ref (ad 2), .int (nI (5))]) := f_529
        have f_531 : F_528 (ad 2) = hE G ad ((piR pi)) := (o_530 (ad 2) (hin 2 1 (by omega) (by omega) (by omega))).trans f_525
        exact r_v C0 hr hlk hw ⟨⟨f_529, f_531⟩, (fun q hq => ((o_530 q (hq 1 (by omega))).trans ((o_526 q (hq 2 (by omega))).trans (fr_521 q (fun i hS => hq i (by omega))))))⟩ (Nat.le_refl _) (Nat.le_refl _) dX0_dropOldest_47 hQ
      · skip
        have hpi := hp i9 (by omega)
        refine lv_aload_n hx hb dX0_dropOldest_15 rfl (lv_at hl 0 rfl) ?_
        refine q_get C0 hw ((hL 1 (by omega))) f_520 fw_X0_11 rfl dX0_dropOldest_16 ?_
        refine lv_iload_n hx hb dX0_dropOldest_19 rfl (lv_at hl 2 rfl) ?_
        refine lv_iconst (v := nI 1) hx hb dX0_dropOldest_20 (by decide) ?_
        refine n_isub hx hb (by omega) dX0_dropOldest_21 ?_
        refine lv_aload_n hx hb dX0_dropOldest_22 rfl (lv_at hl 0 rfl) ?_
        refine q_get C0 hw ((hL 1 (by omega))) f_520 fw_X0_11 rfl dX0_dropOldest_23 ?_
        refine lv_iload_n hx hb dX0_dropOldest_26 rfl (lv_at hl 2 rfl) ?_
        refine q_aald C0 hw ((hL 2 (by omega))) 3 rfl f_519 (i9) (by omega) (by decide) (b := ad (22 + 16 * pi i9)) (congrArg (fun z => some (ad (22 + 16 * z))) (show piL pi i9 i9 = pi i9 from if_neg (by omega))) dX0_dropOldest_27 ?_
        have f_532 : F_518 (ad (22 + 16 * pi i9)) = .inr (3, [.ref (ad (22 + 16 * pi i9 + 1)), .int (nI ((gx i9).2.1)), .int (nI ((gx i9).2.2.1)), .int (nI ((gx i9).2.2.2.1)), .int (nI ((gx i9).2.2.2.2.1))]) := (fr_521 (ad (22 + 16 * pi i9)) (fun i hS => hin (22 + 16 * pi i9) i (by omega) (by omega) (by omega))).trans ((hs i9 (by omega)).1)
        refine q_aast C0 hw ((hL 2 (by omega))) 3 3 rfl rfl f_519 (i9 - 1) (by omega) (by decide) ((hL (22 + 16 * pi i9) (by omega))) f_532 dX0_dropOldest_28 (fun F_533 H locs hw f_534 o_535 => ?_)
        have f_534 : F_533 (ad 2) = hE G ad (piL pi (i9 + 1)) := by rw [f_534, piL_s _ _ (by omega)]
        refine lv_iinc (v := nI (i9 + 1)) (lv' := [(2, .int (nI (i9 + 1))), (0, .ref (ad 1)), (1, .ref (ad (22 + 16 * pi 0)))]) hx hb dX0_dropOldest_29 hl (k := 2) rfl (nI_add _ _) (by decide) rfl (fun ls hl => ?_)
        refine lv_goto (tgt := 9) hx hb dX0_dropOldest_32 (by decide) ?_
        have f_536 : F_533 (ad 1) = hO (ad 2) (k9) := (o_535 (ad 1) (hin 1 2 (by omega) (by omega) (by omega))).trans f_520
        exact ih_9_n_522 (i9 + 1) ((by omega)) ((by omega)) (by omega) F_533 _ _ hw (f_534) (f_536) (fun q hq => ((o_535 q (hq 2 (by omega))).trans (fr_521 q (fun i hS => hq i (by omega))))) ls (lv_sub hl [1, 2, 0] rfl)
  exact lp9_n_517 _ (1) ((by omega)) ((by omega)) (Nat.lt_succ_self _) F _ _ hw (by rw [piL_1]; exact e2) (e1) (fun q hq => rfl) ls (lv_sub hl [2, 1, 0] rfl)
end
section
theorem rot_lt {i : Nat} (h : i < 6) : rot i < 6 := by unfold rot; split <;> omega
theorem rot_inj {i j : Nat} (h1 : i < 6) (h2 : j < 6) (h : i ≠ j) : rot i ≠ rot j := by unfold rot; split <;> split <;> omega
theorem his_push {G : Gl} {F F1 : Nat → va_E} {ad pi : Nat → Nat} {gx : Nat → Sta} {h : Nat × (Nat → Sta)} {st : Sta} (hlt : h.1 < 6) (e1 : F1 (ad 1) = hO (ad 2) (h.1 + 1)) (e2 : F1 (ad 2) = hE G ad pi) (hp : ∀ i, i < 6 → 1 ≤ pi i ∧ pi i ≤ 6) (hpj : ∀ i j, i < 6 → j < 6 → i ≠ j → pi i ≠ pi j) (hs : ∀ i, i < 6 → sta G F ad (22 + 16 * pi i) (gx i)) (hv : ∀ i, i < h.1 → gx i = h.2 i) (hn : sta G F1 ad (22 + 16 * pi h.1) st)
    (fr : ∀ j, (38 ≤ j ∧ j < 134) → ¬ (22 + 16 * pi h.1 ≤ j ∧ j < 22 + 16 * pi h.1 + 16) → F1 (ad j) = F (ad j)) : hisW G F1 ad (saveH h st) := by
  unfold saveH
  rw [if_pos hlt]
  refine ⟨pi, fun i => if i = h.1 then st else gx i, e1, e2, hp, hpj, fun i hi => ?_, fun i hi => ?_, by show h.1 + 1 ≤ 6; omega⟩
  · by_cases e : i = h.1
    · subst e
      simp only [if_true]
      exact hn
    · simp only [e, if_false]
      exact (hs i hi).keep (fun j hj => by
        have a1 := hp i hi
        have a2 := hp h.1 hlt
        have a3 := hpj i h.1 hi hlt e
        exact fr j (by omega) (by omega))
  · show (if i = h.1 then st else gx i) = (if i = h.1 then st else h.2 i)
    by_cases e : i = h.1
    · rw [if_pos e, if_pos e]
    · rw [if_neg e, if_neg e]
      exact hv i (by have : i < h.1 + 1 := hi; omega)
theorem his_rot {G : Gl} {F F1 : Nat → va_E} {ad pi : Nat → Nat} {gx : Nat → Sta} {h : Nat × (Nat → Sta)} {st : Sta} (hlt : ¬ h.1 < 6) (h6 : h.1 ≤ 6) (e1 : F1 (ad 1) = hO (ad 2) 6) (e2 : F1 (ad 2) = hE G ad (piR pi)) (hp : ∀ i, i < 6 → 1 ≤ pi i ∧ pi i ≤ 6) (hpj : ∀ i j, i < 6 → j < 6 → i ≠ j → pi i ≠ pi j) (hs : ∀ i, i < 6 → sta G F ad (22 + 16 * pi i) (gx i)) (hv : ∀ i, i < h.1 → gx i = h.2 i) (hn : sta G F1 ad (22 + 16 * piR pi 5) st)
    (fr : ∀ j, (38 ≤ j ∧ j < 134) → ¬ (22 + 16 * piR pi 5 ≤ j ∧ j < 22 + 16 * piR pi 5 + 16) → F1 (ad j) = F (ad j)) : hisW G F1 ad (saveH h st) := by
  unfold saveH
  rw [if_neg hlt]
  refine ⟨piR pi, fun i => if i = 5 then st else gx (i + 1), e1, e2, piR_b hp, fun i j hi hj hij => ?_, fun i hi => ?_, fun i hi => ?_, Nat.le_refl _⟩
  · rw [piR_r pi hi, piR_r pi hj]
    exact hpj _ _ (rot_lt hi) (rot_lt hj) (rot_inj hi hj hij)
  · by_cases e : i = 5
    · subst e
      simp only [if_true]
      exact hn
    · simp only [e, if_false]
      have e3 : rot i = i + 1 := if_neg e
      have k := hs (rot i) (rot_lt hi)
      rw [← piR_r pi hi, e3] at k
      exact k.keep (fun j hj => by
        have a1 := piR_b hp i hi
        have a2 := piR_b hp 5 (by omega)
        have a3 : piR pi i ≠ piR pi 5 := by
          rw [piR_r pi hi, piR_r pi (show 5 < 6 by omega)]
          exact hpj _ _ (rot_lt hi) (rot_lt (by omega)) (rot_inj hi (by omega) e)
        exact fr j (by omega) (by omega))
  · show (if i = 5 then st else gx (i + 1)) = (if i = 5 then st else h.2 (i + 1))
    by_cases e : i = 5
    · rw [if_pos e, if_pos e]
    · rw [if_neg e, if_neg e]
      exact hv (i + 1) (by have : i < 6 := hi; omega)
theorem his_pop {G : Gl} {F F1 : Nat → va_E} {ad : Nat → Nat} {h : Nat × (Nat → Sta)} {k : Nat} (hh : ∃ (pi : Nat → Nat) (hx : Nat → Sta), F1 (ad 1) = hO (ad 2) k ∧ F1 (ad 2) = hE G ad pi ∧ (∀ i, i < 6 → 1 ≤ pi i ∧ pi i ≤ 6) ∧ (∀ i j, i < 6 → j < 6 → i ≠ j → pi i ≠ pi j) ∧ (∀ i, i < 6 → sta G F ad (22 + 16 * pi i) (hx i)) ∧ (∀ i, i < h.1 → hx i = h.2 i)) (hk : h.1 = k + 1) (h6 : h.1 ≤ 6) (fr : ∀ j, (38 ≤ j ∧ j < 134) → F1 (ad j) = F (ad j)) : hisW G F1 ad (k, h.2) := by
  obtain ⟨pi, hx, e1, e2, hp, hpj, hs, hv⟩ := hh
  exact ⟨pi, hx, e1, e2, hp, hpj, fun i hi => (hs i hi).keep (fun j hj => fr j (by have := hp i hi; omega)), fun i hi => hv i (by have : i < k := hi; omega), by show k ≤ 6; omega⟩
abbrev rm_X0_save : Room := { frames := 3, cells := 0, slots := 0, locals := 83 }
set_option maxHeartbeats 4000000 in
set_option maxRecDepth 100000 in
theorem c_X0_save (l : Launch) (G : Gl) (L : List Nat) (F : Nat → va_E) (ad : Nat → Nat) (hL : ∀ i, i < 166 → ad i ∈ L) (hin : ∀ i j, i < 166 → j < 166 → i ≠ j → ad i ≠ ad j) (h9 : Nat × (Nat → Sta)) (st : Sta) (hh : hisW G F ad h9) (hn : sta G F ad 22 st) : CV l yX0_save cX0_save 2 none rm_X0_save G L F [.ref (ad 1), .ref (ad 22)] (fun F1 => hisW G F1 ad (saveH h9 st) ∧ ∀ q, (∀ i, (i = 1 ∨ i = 2 ∨ (38 ≤ i ∧ i < 134)) → q ≠ ad i) → F1 q = F q) := by
  obtain ⟨pi, gx, e1, e2, hp, hpj, hs, hv, h6⟩ := hh
  refine CG_of (by decide) (Nat.le_of_ble_eq_true rfl) rfl ?_
  intro p e s m args below meth c Q C0 hr hlk hnm hQ hw ls hl
  have hx := C0.x
  have hb := C0.b
  refine lv_aload_n hx hb dX0_save_0 rfl (lv_at hl 0 rfl) ?_
  refine q_get C0 hw ((hL 1 (by omega))) e1 fw_X0_18 rfl dX0_save_1 ?_
  refine lv_bipush (v := nI 6) hx hb dX0_save_4 (by decide) ?_
  refine n_icmp_lt (tgt := 13) hx hb dX0_save_6 (by decide) (by omega) (by decide) (fun c_6 => ?_) (fun c_6 => ?_)
  · skip
    have hpk := hp h9.1 (by omega)
    refine lv_aload_n hx hb dX0_save_13 rfl (lv_at hl 0 rfl) ?_
    refine q_get C0 hw ((hL 1 (by omega))) e1 fw_X0_11 rfl dX0_save_14 ?_
    refine lv_aload_n hx hb dX0_save_17 rfl (lv_at hl 0 rfl) ?_
    refine q_get C0 hw ((hL 1 (by omega))) e1 fw_X0_18 rfl dX0_save_18 ?_
    refine q_aald C0 hw ((hL 2 (by omega))) 3 rfl e2 (h9.1) (by omega) (by decide) (b := ad (22 + 16 * pi h9.1)) rfl dX0_save_21 ?_
    refine lv_aload_n hx hb dX0_save_22 rfl (lv_at hl 1 rfl) ?_
    refine q_callv hw (q_runV (As := [.ref (ad 22)]) (c_X3_copyFrom l G L F ad hL hin (22 + 16 * pi h9.1) 22 (gx h9.1) st (hs h9.1 (by omega)) hn (by omega) (by omega) (by omega)) C0 hw vw_X0_25 ((hL (22 + 16 * pi h9.1) (by omega))) (hs h9.1 (by omega)).1 rfl rfl rfl hl.1 rfl (Nat.le_of_ble_eq_true rfl) dX0_save_23 ⟨by decide, by decide⟩ ⟨by decide, by decide⟩) rfl rfl (fun F_537 H locs hw hp_538 => ?_)
    refine lv_aload_n hx hb dX0_save_26 rfl (lv_at hl 0 rfl) ?_
    refine lv_dup hx hb dX0_save_27 rfl ?_
    have f_539 : F_537 (ad 1) = hO (ad 2) (h9.1) := (hp_538.2 (ad 1) (fun i hS => hin 1 i (by omega) (by omega) (by omega))).trans e1
    refine q_get C0 hw ((hL 1 (by omega))) f_539 fw_X0_18 rfl dX0_save_28 ?_
    refine lv_iconst (v := nI 1) hx hb dX0_save_31 (by decide) ?_
    refine n_iadd hx hb dX0_save_32 ?_
    refine q_put C0 hw ((hL 1 (by omega))) f_539 fw_X0_18 pw_X0_1 rfl rfl rfl (Nat.le_of_ble_eq_true rfl) dX0_save_33 (fun F_540 H locs hw f_541 o_542 => ?_)
    have f_541 : F_540 (ad 1) = .inr (0, [.ref (ad 2), .int (nI (h9.1 + 1))]) := f_541
    have f_543 : F_537 (ad 2) = hE G ad pi := (hp_538.2 (ad 2) (fun i hS => hin 2 i (by omega) (by omega) (by omega))).trans e2
    have f_544 : F_540 (ad 2) = hE G ad pi := (o_542 (ad 2) (hin 2 1 (by omega) (by omega) (by omega))).trans f_543
    exact r_v C0 hr hlk hw ⟨his_push c_6 f_541 f_544 hp hpj hs hv (hp_538.1.keep (fun i0 hi => (o_542 (ad (i0)) (hin (i0) 1 (by omega) (by omega) (by omega))))) (fun j hj hnj => ((o_542 (ad (j)) (hin (j) 1 (by omega) (by omega) (by omega)))).trans ((hp_538.2 (ad (j)) (fun i hS => hin (j) i (by omega) (by omega) (by omega))))), (fun q hq => ((o_542 q (hq 1 (by omega))).trans (hp_538.2 q (fun i hS => hq i (by omega)))))⟩ (Nat.le_refl _) (Nat.le_refl _) dX0_save_36 hQ
  · skip
    have hpk := piR_b hp 5 (by omega)
    have e65 : h9.1 = 6 := by omega
    have hs5 : sta G F ad (22 + 16 * piR pi 5) (gx 0) := hs 0 (by omega)
    refine lv_aload_n hx hb dX0_save_9 rfl (lv_at hl 0 rfl) ?_
    refine q_callv hw (q_runV (As := []) (c_X0_dropOldest l G L F ad hL hin pi h9.1 gx e1 e2 hp hs) C0 hw vw_X0_22 ((hL 1 (by omega))) e1 rfl rfl rfl hl.1 rfl (Nat.le_of_ble_eq_true rfl) dX0_save_10 ⟨by decide, by decide⟩ ⟨by decide, by decide⟩) rfl rfl (fun F_545 H locs hw hp_546 => ?_)
    refine lv_aload_n hx hb dX0_save_13 rfl (lv_at hl 0 rfl) ?_
    refine q_get C0 hw ((hL 1 (by omega))) hp_546.1.1 fw_X0_11 rfl dX0_save_14 ?_
    refine lv_aload_n hx hb dX0_save_17 rfl (lv_at hl 0 rfl) ?_
    refine q_get C0 hw ((hL 1 (by omega))) hp_546.1.1 fw_X0_18 rfl dX0_save_18 ?_
    refine q_aald C0 hw ((hL 2 (by omega))) 3 rfl hp_546.1.2 (5) (by omega) (by decide) (b := ad (22 + 16 * (piR pi) 5)) rfl dX0_save_21 ?_
    refine lv_aload_n hx hb dX0_save_22 rfl (lv_at hl 1 rfl) ?_
    have f_547 : F_545 (ad (22 + 16 * (piR pi) 5)) = .inr (3, [.ref (ad (22 + 16 * piR pi 5 + 1)), .int (nI ((gx 0).2.1)), .int (nI ((gx 0).2.2.1)), .int (nI ((gx 0).2.2.2.1)), .int (nI ((gx 0).2.2.2.2.1))]) := (hp_546.2 (ad (22 + 16 * (piR pi) 5)) (fun i hS => hin ((22 + 16 * (piR pi) 5)) i (by omega) (by omega) (by omega))).trans hs5.1
    refine q_callv hw (q_runV (As := [.ref (ad 22)]) (c_X3_copyFrom l G L F_545 ad hL hin (22 + 16 * (piR pi) 5) 22 (gx 0) st (hs5.keep (fun i0 hi => (hp_546.2 (ad (i0)) (fun i hS => hin (i0) i (by omega) (by omega) (by omega))))) (hn.keep (fun i0 hi => (hp_546.2 (ad (i0)) (fun i hS => hin (i0) i (by omega) (by omega) (by omega))))) (by omega) (by omega) (by omega)) C0 hw vw_X0_25 ((hL ((22 + 16 * (piR pi) 5)) (by omega))) f_547 rfl rfl rfl hl.1 rfl (Nat.le_of_ble_eq_true rfl) dX0_save_23 ⟨by decide, by decide⟩ ⟨by decide, by decide⟩) rfl rfl (fun F_548 H locs hw hp_549 => ?_)
    refine lv_aload_n hx hb dX0_save_26 rfl (lv_at hl 0 rfl) ?_
    refine lv_dup hx hb dX0_save_27 rfl ?_
    have f_550 : F_548 (ad 1) = hO (ad 2) (5) := (hp_549.2 (ad 1) (fun i hS => hin 1 i (by omega) (by omega) (by omega))).trans hp_546.1.1
    refine q_get C0 hw ((hL 1 (by omega))) f_550 fw_X0_18 rfl dX0_save_28 ?_
    refine lv_iconst (v := nI 1) hx hb dX0_save_31 (by decide) ?_
    refine n_iadd hx hb dX0_save_32 ?_
    refine q_put C0 hw ((hL 1 (by omega))) f_550 fw_X0_18 pw_X0_1 rfl rfl rfl (Nat.le_of_ble_eq_true rfl) dX0_save_33 (fun F_551 H locs hw f_552 o_553 => ?_)
    have f_552 : F_551 (ad 1) = .inr (0, [.ref (ad 2), .int (nI (5 + 1))]) := f_552
    have f_554 : F_548 (ad 2) = hE G ad ((piR pi)) := (hp_549.2 (ad 2) (fun i hS => hin 2 i (by omega) (by omega) (by omega))).trans hp_546.1.2
    have f_555 : F_551 (ad 2) = hE G ad ((piR pi)) := (o_553 (ad 2) (hin 2 1 (by omega) (by omega) (by omega))).trans f_554
    exact r_v C0 hr hlk hw ⟨his_rot c_6 h6 f_552 f_555 hp hpj hs hv (hp_549.1.keep (fun i0 hi => (o_553 (ad (i0)) (hin (i0) 1 (by omega) (by omega) (by omega))))) (fun j hj hnj => ((o_553 (ad (j)) (hin (j) 1 (by omega) (by omega) (by omega)))).trans (((hp_549.2 (ad (j)) (fun i hS => hin (j) i (by omega) (by omega) (by omega)))).trans ((hp_546.2 (ad (j)) (fun i hS => hin (j) i (by omega) (by omega) (by omega)))))), (fun q hq => ((o_553 q (hq 1 (by omega))).trans ((hp_549.2 q (fun i hS => hq i (by omega))).trans (hp_546.2 q (fun i hS => hq i (by omega))))))⟩ (Nat.le_refl _) (Nat.le_refl _) dX0_save_36 hQ
end
