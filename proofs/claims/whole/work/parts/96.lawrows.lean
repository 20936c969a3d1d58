/-! rows of the law's own walk -/
section LAWROWS
variable {p : Program} {l : Launch} {e : Env} {R : Room} {s : State} {m : MethodId} {args : Array Value} {below : List Frame} {meth : Method} {c : Code} {H : Heap} {locs : List Loc} {cells slots : Nat} {Q : State → Prop}
variable {cc : ByteArray} {nL : Nat} {own : String} {pc : Nat} {ls : Array Slot} {rest : List Value} {G : Gl} {L : List Nat} {F : Nat → va_E}
theorem q_lcmp0 (hexec : p.tables.exec = Jvm.exec) (hb : c.code = cc) {x y : Int64} (hxy : y = x) (hdg : decode cc pc = .ok (.lcmp, 1)) (k : W p l e R s m args below meth c H locs cells slots Q (F0 m (pc + 1) ls (.int 0 :: rest))) : W p l e R s m args below meth c H locs cells slots Q (F0 m pc ls (.long y :: .long x :: rest)) := by
  subst hxy
  intro T hT X
  obtain ⟨t, a, b⟩ := k T hT X
  refine ⟨t, ?_, b⟩
  jvm_step X.here [X.here.top, hexec, hb, hdg, Int64.lt_irrefl, beq_self_eq_true]
  exact a
theorem q_arg (C0 : Cx p s m args c cc nL own G L) (hw : wD G L F s H locs) {b Ls i k : Nat} {xs : Nat → Int32} (hSc : va_X b Ls xs s s.heap) (hbl : b < s.heap.size) (hbA : ¬ wA L s.heap.size b) (hik : i + k < Ls) (hLs : Ls < 2 ^ 31) (h0 : ls[0]? = some (.val (.ref b))) (h4 : ls[4]? = some (.val (.int (nI i))))
    (d0 : decode cc pc = .ok (.aload_n 0, 1)) (d1 : decode cc (pc + 1) = .ok (.iload 4, 2)) {kz : Int} (d2 : decode cc (pc + 1 + 2) = .ok (.iconst kz, 1)) (hk : Int32.ofInt kz = nI k) (d3 : decode cc (pc + 1 + 2 + 1) = .ok (.iadd, 1)) (d4 : decode cc (pc + 1 + 2 + 1 + 1) = .ok (.iaload, 1))
    (kk : W p l e R s m args below meth c H locs cells slots Q (F0 m (pc + 1 + 2 + 1 + 1 + 1) ls (.int (xs (i + k)) :: rest))) : W p l e R s m args below meth c H locs cells slots Q (F0 m pc ls rest) := by
  refine lv_aload_n C0.x C0.b d0 rfl h0 ?_
  refine lv_iload C0.x C0.b d1 h4 ?_
  refine lv_iconst (v := nI k) C0.x C0.b d2 hk ?_
  refine n_iadd C0.x C0.b d3 ?_
  refine va_sld C0.x C0.b hSc hbl hbA hw.2.2 (vp_in_nI hik hLs) d4 ?_
  rw [nI_clamp (by omega)]
  exact kk
abbrev lv0 (b a b9 o i : Nat) : List (Nat × Value) := [(0, .ref b), (1, .ref a), (2, .ref b9), (3, .ref o), (4, .int (nI i))]
theorem MW.ob {b : Nat} {ma : Nat → Nat} {A : AB} {th : Nat} (h : MW G F b ma A th) : ∃ (mi : Nat → Int32) (hh : Int64) (zf : Nat → Int32), F b = mO ma mi hh ∧ mi 2 = nI th ∧ F (ma 0) = .inl (G.2 0, 89, .inl zf) := by
  obtain ⟨mi, hh, zf, hf, sf, kf, tf, pf, pl, h0, h1, h2, h3, h4, h5, h6, h7, h8⟩ := h
  exact ⟨mi, hh, zf, h0, h1.2.2, h2.1⟩
/-- from the model's answer on: the same exception, and the same answer -/
theorem q_tail (C0 : Cx p s m args c cc nL RL G L) (hw : wD G L F s H locs) {b a b9 o i kx : Nat} {ma : Nat → Nat} {A1 : AB} {f : Nat → Int64} {r v : Int32} (mb : b9 ∈ L) (hma : ∀ i, i < 7 → ma i ∈ L) (ho : o ∈ L) (hM : MW G F b9 ma A1 kx) (hk4 : kx < 4) (hO : F o = wO G f) (hv : kx = 0 → f 0 = v.toInt64) (hr : kx = 0 → r = v)
    (hl : lv_has ls nL [(6, .int r), (5, .int (nI kx)), (0, .ref b), (1, .ref a), (2, .ref b9), (3, .ref o), (4, .int (nI i))])
    (hroom : rm_X6_thrown.frames + 1 ≤ R.frames ∧ 8 + (1 + 11) + rm_X6_thrown.locals ≤ R.locals) (hcs : cells + rm_X6_thrown.cells ≤ R.cells ∧ slots + rm_X6_thrown.slots ≤ R.slots)
    (d0 : decode cc pc = .ok (.aload_n 2, 1)) (d1 : decode cc (pc + 1) = .ok (.invokevirtual 113, 3)) (d2 : decode cc (pc + 4) = .ok (.iload 5, 2)) (d3 : decode cc (pc + 6) = .ok (.if_icmp .eq 5, 3)) (d4 : decode cc (pc + 11) = .ok (.iload 5, 2)) (d5 : decode cc (pc + 13) = .ok (.ifCond .ne 15, 3)) (d6 : decode cc (pc + 16) = .ok (.aload_n 3, 1)) (d7 : decode cc (pc + 17) = .ok (.iconst 0, 1)) (d8 : decode cc (pc + 18) = .ok (.laload, 1)) (d9 : decode cc (pc + 19) = .ok (.iload 6, 2)) (d10 : decode cc (pc + 21) = .ok (.i2l, 1)) (d11 : decode cc (pc + 22) = .ok (.lcmp, 1)) (d12 : decode cc (pc + 23) = .ok (.ifCond .eq 5, 3)) {off : Int} {tgt : Nat} (d13 : decode cc (pc + 28) = .ok (.goto off, 3)) (ht : ((pc + 28 : Nat) : Int) + off = (tgt : Int))
    (kk : ∀ (F3 : Nat → va_E) (H3 : Heap) (locs3 : List Loc), wD G L F3 s H3 locs3 → (∀ q, F3 q = F q) → W p l e R s m args below meth c H3 locs3 cells slots Q (F0 m tgt ls [])) : W p l e R s m args below meth c H locs cells slots Q (F0 m pc ls []) := by
  have hx := C0.x
  have hb := C0.b
  obtain ⟨mi, hh, zf, hfb, hmi, hfz⟩ := hM.ob
  refine lv_aload_n hx hb d0 rfl (lv_at hl 4 rfl) ?_
  refine q_calli hw (q_runV (As := []) (c_X6_thrown l G L F b9 ma mi hh zf mb hfb hma hfz) C0 hw vw_L_113 mb hfb rfl rfl rfl hl.1 rfl (Nat.le_of_ble_eq_true rfl) d1 hroom hcs) rfl rfl (fun r3 F3 H3 locs3 hw3 hp => ?_)
  obtain ⟨hr3, e3⟩ := hp
  rw [hr3, hmi]
  have hgo : W p l e R s m args below meth c H3 locs3 cells slots Q (F0 m (pc + 28) ls []) := lv_goto (tgt := tgt) hx hb d13 ht (kk F3 H3 locs3 hw3 e3)
  refine lv_iload hx hb d2 (lv_at hl 1 rfl) ?_
  refine lv_icmp_eq (tgt := pc + 11) hx hb d3 (by omega) (fun _ => ?_) (fun h => absurd rfl h)
  refine lv_iload hx hb d4 (lv_at hl 1 rfl) ?_
  refine lv_if_ne (tgt := pc + 28) hx hb d5 (by omega) (fun _ => hgo) (fun h0 => ?_)
  have hk0 : kx = 0 := by
    have h9 : nI kx = nI 0 := h0
    exact (nI_inj (by omega) (by omega)).mp h9
  refine lv_aload_n hx hb d6 rfl (lv_at hl 5 rfl) ?_
  refine lv_iconst (v := nI 0) hx hb d7 rfl ?_
  refine q_lald C0 hw3 ho ((e3 o).trans hO) (hv hk0) d8 ?_
  refine lv_iload hx hb d9 (lv_at hl 0 rfl) ?_
  refine lv_i2l (v := r.toInt64) hx hb d10 rfl ?_
  refine q_lcmp0 hx hb (by rw [hr hk0]) d11 ?_
  refine lv_if_eq (tgt := pc + 28) hx hb d12 (by omega) (fun _ => hgo) (fun h => absurd rfl h)
end LAWROWS
section LAWDEFS
variable {p : Program} {l : Launch} {e : Env} {s : State} {m : MethodId} {args : Array Value} {below : List Frame} {meth : Method} {c : Code} {Q : State → Prop}
/-- what holds of the world at the start of each order -/
def LI (p : Program) (s : State) (m : MethodId) (args : Array Value) (c : Code) (G : Gl) (L : List Nat) (ad : Nat → Nat) (o b9 : Nat) (ma : Nat → Nat) (b Ls : Nat) (xs : Nat → Int32) (i : Nat) (A : AB) (th : Nat) (F : Nat → va_E) (f : Nat → Int64) (H : Heap) (locs : List Loc) (ls : Array Slot) : Prop :=
  Cx p s m args c cL_law 9 RL G L ∧ g_Xw s ∧ LST L ad o b9 ma ∧ va_X b Ls xs s s.heap ∧ b < s.heap.size ∧ ¬ wA L s.heap.size b ∧ Ls < 2 ^ 31 ∧ okA A ∧ okCA A ∧ wD G L F s H locs ∧ XW G F ad A ∧ MW G F b9 ma A th ∧ F o = wO G f ∧ i + 3 < Ls ∧ lv_has ls 9 (lv0 b (ad 0) b9 o i)
/-- how the walk goes on behind each order -/
def LKK (p : Program) (l : Launch) (e : Env) (s : State) (m : MethodId) (args : Array Value) (below : List Frame) (meth : Method) (c : Code) (Q : State → Prop) (G : Gl) (L : List Nat) (ad : Nat → Nat) (o b9 : Nat) (ma : Nat → Nat) (b i cells slots : Nat) : Prop :=
  ∀ (A1 : AB) (th1 : Nat) (F1 : Nat → va_E) (f1 : Nat → Int64) (H1 : Heap) (locs1 : List Loc) (ls1 : Array Slot), okA A1 → okCA A1 → wD G L F1 s H1 locs1 → XW G F1 ad A1 → MW G F1 b9 ma A1 th1 → F1 o = wO G f1 → lv_has ls1 9 (lv0 b (ad 0) b9 o i) → W p l e room_1 s m args below meth c H1 locs1 (cells + 1) (slots + 6) Q (F0 m 2177 ls1 [])
variable {G : Gl} {L : List Nat} {ad ma : Nat → Nat} {o b9 : Nat} {F F1 F2 F3 : Nat → va_E} {A : AB} {th : Nat} {f : Nat → Int64}
theorem lst_m (hS : LST L ad o b9 ma) (fr : ∀ q, q ≠ o → (∀ i, i < 166 → q ≠ ad i) → F1 q = F q) (hM : MW G F b9 ma A th) : MW G F1 b9 ma A th :=
  hM.keep (fr b9 (Ne.symm hS.2.2.2.2.2.2.1.1) (fun i hi => Ne.symm (hS.2.2.2.2.2.2.2 i hi).1)) (fun j hj => fr (ma j) (Ne.symm (hS.2.2.2.2.2.2.1.2 j hj)) (fun i hi => Ne.symm ((hS.2.2.2.2.2.2.2 i hi).2 j hj)))
theorem lst_x (hS : LST L ad o b9 ma) (fr : mFr F1 F2 b9 ma) (e3 : ∀ q, F3 q = F2 q) (hX : XW G F1 ad A) : XW G F3 ad A :=
  hX.keep (fun i hi => (e3 _).trans (fr _ (hS.2.2.2.2.2.2.2 i hi).1 (hS.2.2.2.2.2.2.2 i hi).2))
theorem lst_o (hS : LST L ad o b9 ma) (fr : mFr F1 F2 b9 ma) (hO : F1 o = wO G f) : F2 o = wO G f := (fr o hS.2.2.2.2.2.2.1.1 hS.2.2.2.2.2.2.1.2).trans hO
end LAWDEFS
