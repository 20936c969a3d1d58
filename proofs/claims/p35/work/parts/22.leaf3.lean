theorem CG_ofF {l : Launch} {y : MethodName} {cc : ByteArray} {nL : Nat} {rt : Option FieldType} {rm : Room} {G : Gl} {L : List Nat} {F : Nat → va_E} {vals : List Value} {Qf : (Nat → Prop) → Array Value → State → Outcome → State → Prop} {lv : List (Nat × Value)}
    (hy : plainFor y = true) (hn : (lg_sl vals).length ≤ nL) (hv : lv_args 0 vals = lv)
    (body : ∀ (p : Program) (e : Env) (s : State) (m : MethodId) (args : Array Value) (below : List Frame) (meth : Method) (c : Code) (Q : State → Prop), Cx p s m args c cc nL y.cls G L → meth.sig.returnType = rt → meth.locks = false → meth.name = y.name → Q = MQ below (Qf (wA L s.heap.size)) args s rm.cells rm.slots (wA L s.heap.size) → wD G L F s s.heap [] → ∀ ls : Array Slot, lv_has ls nL lv →
      W p l e rm s m args below meth c s.heap [] 0 0 Q (F0 m 0 ls [])) : CG l y cc nL rt rm G L F vals Qf := by
  intro sz
  refine va_MetF (cc := cc) (maxL := nL) (ret := rt) hy rfl ?_
  intro p e s m args below meth c s₁ B hml hq
  obtain ⟨rfl, hsz, hP, hD0, hAm⟩ := hq
  subst hsz
  have hts := atoms_spec (ws := Cond.code y cc nL rt :: TB) B.pre
  have hl := lv_entry vals (n := nL) hn
  rw [lg_entry_eq]
  rw [hv] at hl
  exact body p e s m _ below meth c _ ⟨B.exec, B.bytes, hml, findClass_of_methodNamed B.named, fun w h => hts w (List.mem_cons_of_mem _ h), hAm⟩ B.returns B.notSynchronized (name_of_methodNamed B.named B.method).1 rfl (wD.start hP hD0) _ hl
def zi (x : Int32) : ZP := zc (x.toInt % 10007).toNat
theorem zi_toInt (x : Int32) : ((zi x).val : Int) = x.toInt % 10007 := by
  show (((x.toInt % 10007).toNat % 10007 : Nat) : Int) = _
  omega
theorem zi_nI {n : Nat} (h : n < 2 ^ 31) : zi (nI n) = zc n := by
  unfold zi
  rw [nI_toInt h]
  refine Fin.ext ?_
  show ((n : Int) % 10007).toNat % 10007 = n % 10007
  omega
theorem zi_eq {x y : Int32} (h : y.toInt = x.toInt % 10007) : y = nI (zi x).val := by
  refine Int32.toInt_inj.mp ?_
  rw [h, nI_toInt (by have := (zi x).isLt; omega), zi_toInt]
theorem fm_sgn (x : Int32) : (0 ≤ x ^^^ nI 10007) ↔ 0 ≤ x.toInt := by
  have h1 : (x ^^^ nI 10007).toBitVec.msb = x.toBitVec.msb := by
    rw [Int32.toBitVec_xor, BitVec.msb_xor]
    have h2 : (nI 10007).toBitVec.msb = false := by decide
    rw [h2, Bool.xor_false]
  rw [BitVec.msb_eq_toInt, BitVec.msb_eq_toInt] at h1
  rw [Int32.le_iff_toInt_le]
  have h3 : ((x ^^^ nI 10007).toBitVec.toInt < 0) ↔ (x.toBitVec.toInt < 0) := by simpa using h1
  show 0 ≤ (x ^^^ nI 10007).toBitVec.toInt ↔ 0 ≤ x.toBitVec.toInt
  omega
theorem fm_c : (nI 10007).toInt = 10007 := by decide
theorem fm_A {x : Int32} (h : 0 ≤ x ^^^ nI 10007) : x - x / nI 10007 * nI 10007 = nI (zi x).val := zi_eq (by rw [rem_toInt, fm_c, Int.tmod_eq_emod_of_nonneg ((fm_sgn x).mp h)])
theorem fm_t (a : Int) (h : a < 0) : a.tmod 10007 = - ((-a) % 10007) := by rw [← Int.tmod_eq_emod_of_nonneg (by omega), Int.neg_tmod, Int.neg_neg]
theorem fm_B {x : Int32} (h : ¬ 0 ≤ x ^^^ nI 10007) (h0 : x - x / nI 10007 * nI 10007 = 0) : x - x / nI 10007 * nI 10007 = nI (zi x).val := zi_eq (by
  have h1 : ¬ 0 ≤ x.toInt := fun z => h ((fm_sgn x).mpr z)
  have h2 := congrArg Int32.toInt h0
  rw [rem_toInt, fm_c, fm_t _ (by omega)] at h2
  rw [rem_toInt, fm_c, fm_t _ (by omega)]
  have h3 : (0 : Int32).toInt = 0 := rfl
  omega)
theorem fm_C {x : Int32} (h : ¬ 0 ≤ x ^^^ nI 10007) (h0 : ¬ x - x / nI 10007 * nI 10007 = 0) : x - x / nI 10007 * nI 10007 + nI 10007 = nI (zi x).val := zi_eq (by
  have h1 : ¬ 0 ≤ x.toInt := fun z => h ((fm_sgn x).mpr z)
  have h2 : ¬ (x - x / nI 10007 * nI 10007).toInt = 0 := fun z => h0 (Int32.toInt_inj.mp z)
  rw [rem_toInt, fm_c, fm_t _ (by omega)] at h2
  rw [Int32.toInt_add, rem_toInt, fm_c, fm_t _ (by omega)]
  rw [Int.bmod_eq_of_le (by omega) (by omega)]
  omega)
section IROWS
variable {p : Program} {l : Launch} {e : Env} {R : Room} {s : State} {m : MethodId} {args : Array Value} {below : List Frame} {meth : Method} {c : Code} {H : Heap} {locs : List Loc} {cells slots : Nat} {Q : State → Prop}
variable {cc : ByteArray} {pc : Nat} {ls : Array Slot} {rest : List Value}
theorem n_shr {a b : Nat} (ha : a < 2 ^ 31) (hb : b < 31) : nI a >>> (nI b &&& 31) = nI (a / 2 ^ b) := by
  have e : nI b &&& 31 = nI (b % 2 ^ 5) := pk_andN (n := b) (by omega) 5 rfl
  rw [e]
  have e2 : b % 2 ^ 5 = b := by omega
  rw [e2]
  refine pk_shrN ha (nI b) b ?_
  have h : ∀ b : Fin 31, ((nI b.val).toBitVec.smod 32).toNat = b.val := by decide +kernel
  exact h ⟨b, hb⟩
theorem n_ishr (hx : p.tables.exec = Jvm.exec) (hb : c.code = cc) {a b : Nat} (ha : a < 2 ^ 31) (hb2 : b < 31) (hdg : decode cc pc = .ok (.ishr, 1)) (k : W p l e R s m args below meth c H locs cells slots Q (F0 m (pc + 1) ls (.int (nI (a / 2 ^ b)) :: rest))) : W p l e R s m args below meth c H locs cells slots Q (F0 m pc ls (.int (nI b) :: .int (nI a) :: rest)) := lv_ishr hx hb hdg (by rw [n_shr ha hb2]; exact k)
theorem n_iand (hx : p.tables.exec = Jvm.exec) (hb : c.code = cc) {a d : Nat} (ha : a < 2 ^ 31) (k : Nat) (hk : d = 2 ^ k - 1) (hdg : decode cc pc = .ok (.iand, 1)) (kk : W p l e R s m args below meth c H locs cells slots Q (F0 m (pc + 1) ls (.int (nI (a % 2 ^ k)) :: rest))) (hd : d < 2 ^ 31 := by decide) : W p l e R s m args below meth c H locs cells slots Q (F0 m pc ls (.int (nI d) :: .int (nI a) :: rest)) := lv_iand hx hb hdg (by rw [pk_andN (n := a) (by omega) k (by rw [pk_tn (by omega)]; exact hk)]; exact kk)
theorem n_iandI (hx : p.tables.exec = Jvm.exec) (hb : c.code = cc) {x : Int32} {d : Nat} (k : Nat) (hk : d = 2 ^ k - 1) (hd : d < 2 ^ 31) (hdg : decode cc pc = .ok (.iand, 1)) (kk : ∀ z : Nat, z < 2 ^ k → W p l e R s m args below meth c H locs cells slots Q (F0 m (pc + 1) ls (.int (nI z) :: rest))) : W p l e R s m args below meth c H locs cells slots Q (F0 m pc ls (.int (nI d) :: .int x :: rest)) := lv_iand hx hb hdg (by
  rw [pk_and x k (by rw [pk_tn (by omega)]; exact hk)]
  exact kk _ (Nat.mod_lt _ (Nat.two_pow_pos k)))
end IROWS
abbrev rm_J9_floorMod_7cf53 : Room := { frames := 0, cells := 0, slots := 0, locals := 0 }
set_option maxHeartbeats 4000000 in
set_option maxRecDepth 100000 in
theorem c_J9_floorMod_7cf53 (l : Launch) (G : Gl) (L : List Nat) (F : Nat → va_E) (x : Int32) : CI l yJ9_floorMod_7cf53 cJ9_floorMod_7cf53 3 (some .int) rm_J9_floorMod_7cf53 G L F [.int (x), .int (nI (10007))] (fun r F1 => r = nI (zi x).val ∧ ∀ q, F1 q = F q) := by
  refine CG_ofF (by decide +kernel) (Nat.le_of_ble_eq_true rfl) rfl ?_
  intro p e s m args below meth c Q C0 hr hlk hnm hQ hw ls hl
  have hx := C0.x
  have hb := C0.b
  refine lv_iload_n hx hb dJ9_floorMod_7cf53_0 rfl (lv_at hl 0 rfl) ?_
  refine lv_iload_n hx hb dJ9_floorMod_7cf53_1 rfl (lv_at hl 1 rfl) ?_
  refine lv_irem hx hb dJ9_floorMod_7cf53_2 (by decide) ?_
  refine lv_istore_n (lv' := [(2, .int (x - x / nI 10007 * nI 10007)), (0, .int (x)), (1, .int (nI (10007)))]) hx hb dJ9_floorMod_7cf53_3 rfl hl (by decide) rfl (fun ls hl => ?_)
  refine lv_iload_n hx hb dJ9_floorMod_7cf53_4 rfl (lv_at hl 1 rfl) ?_
  refine lv_iload_n hx hb dJ9_floorMod_7cf53_5 rfl (lv_at hl 2 rfl) ?_
  refine lv_ixor hx hb dJ9_floorMod_7cf53_6 ?_
  refine lv_if_ge (tgt := 18) hx hb dJ9_floorMod_7cf53_7 (by decide) (fun c_7 => ?_) (fun c_7 => ?_)
  · skip
    refine lv_iload_n hx hb dJ9_floorMod_7cf53_18 rfl (lv_at hl 0 rfl) ?_
    exact r_i C0 hr hlk hw (v := (x - x / nI 10007 * nI 10007)) rfl ⟨fm_A c_7, (fun q  => rfl)⟩ (Nat.le_refl _) (Nat.le_refl _) dJ9_floorMod_7cf53_19 hQ
  · skip
    refine lv_iload_n hx hb dJ9_floorMod_7cf53_10 rfl (lv_at hl 0 rfl) ?_
    refine lv_if_eq (tgt := 18) hx hb dJ9_floorMod_7cf53_11 (by decide) (fun c_11 => ?_) (fun c_11 => ?_)
    · skip
      refine lv_iload_n hx hb dJ9_floorMod_7cf53_18 rfl (lv_at hl 0 rfl) ?_
      exact r_i C0 hr hlk hw (v := (x - x / nI 10007 * nI 10007)) rfl ⟨fm_B c_7 c_11, (fun q  => rfl)⟩ (Nat.le_refl _) (Nat.le_refl _) dJ9_floorMod_7cf53_19 hQ
    · skip
      refine lv_iload_n hx hb dJ9_floorMod_7cf53_14 rfl (lv_at hl 0 rfl) ?_
      refine lv_iload_n hx hb dJ9_floorMod_7cf53_15 rfl (lv_at hl 2 rfl) ?_
      refine lv_iadd hx hb dJ9_floorMod_7cf53_16 ?_
      exact r_i C0 hr hlk hw (v := ((x - x / nI 10007 * nI 10007) + nI 10007)) rfl ⟨fm_C c_7 c_11, (fun q  => rfl)⟩ (Nat.le_refl _) (Nat.le_refl _) dJ9_floorMod_7cf53_17 hQ
