theorem CG_ofF {l : Launch} {y : MethodName} {cc : ByteArray} {nL : Nat} {rt : Option FieldType} {rm : Room} {G : Gl} {L : List Nat} {F : Nat → va_E} {vals : List Value} {Qf : (Nat → Prop) → Array Value → State → Outcome → State → Prop} {lv : List (Nat × Value)}
    (hy : plainFor y = true) (hn : (lg_sl vals).length ≤ nL) (hv : lv_args 0 vals = lv)
    (body : ∀ (p : Program) (e : Env) (s : State) (m : MethodId) (args : Array Value) (below : List Frame) (meth : Method) (c : Code) (Q : State → Prop), Cx p s m args c cc nL y.cls G L → meth.sig.returnType = rt → meth.locks = false → meth.name = y.name → Q = MQ below (Qf (wA L s.heap.size)) args s rm.cells rm.slots (wA L s.heap.size) → wD G L F s s.heap [] → ∀ ls : Array Slot, lv_has ls nL lv →
      W p l e rm s m args below meth c s.heap [] 0 0 Q (F0 m 0 ls [])) : CG l y cc nL rt rm G L F vals Qf := by
  intro sz
  refine va_MetF (cc := cc) (maxL := nL) (ret := rt) hy rfl ?_
  intro p e s m args below meth c s₁ B hml hq
  obtain ⟨rfl, hsz, hP, hD0, hAm⟩ := hq
  subst hsz
  have hts := atoms_spec (ws := Cond.code y cc nL rt :: TB) B.pre
  have hl := lv_entry vals (n := nL) hn
  rw [lg_entry_eq]
  rw [hv] at hl
  exact body p e s m _ below meth c _ ⟨B.exec, B.bytes, hml, findClass_of_methodNamed B.named, fun w h => hts w (List.mem_cons_of_mem _ h), hAm⟩ B.returns B.notSynchronized (name_of_methodNamed B.named B.method).1 rfl (wD.start hP hD0) _ hl
def zi (x : Int32) : ZP := zc (x.toInt % 10007).toNat
theorem zi_toInt (x : Int32) : ((zi x).val : Int) = x.toInt % 10007 := by
  show (((x.toInt % 10007).toNat % 10007 : Nat) : Int) = _
  omega
theorem zi_nI {n : Nat} (h : n < 2 ^ 31) : zi (nI n) = zc n := by
  unfold zi
  rw [nI_toInt h]
  refine Fin.ext ?_
  show ((n : Int) % 10007).toNat % 10007 = n % 10007
  omega
theorem zi_eq {x y : Int32} (h : y.toInt = x.toInt % 10007) : y = nI (zi x).val := by
  refine Int32.toInt_inj.mp ?_
  rw [h, nI_toInt (by have := (zi x).isLt; omega), zi_toInt]
theorem fm_sgn (x : Int32) : (0 ≤ x ^^^ nI 10007) ↔ 0 ≤ x.toInt := by
  have h1 : (x ^^^ nI 10007).toBitVec.msb = x.toBitVec.msb := by
    rw [Int32.toBitVec_xor, BitVec.msb_xor]
    have h2 : (nI 10007).toBitVec.msb = false := by decide
    rw [h2, Bool.xor_false]
  rw [BitVec.msb_eq_toInt, BitVec.msb_eq_toInt] at h1
  rw [Int32.le_iff_toInt_le]
  have h3 : ((x ^^^ nI 10007).toBitVec.toInt < 0) ↔ (x.toBitVec.toInt < 0) := by simpa using h1
  show 0 ≤ (x ^^^ nI 10007).toBitVec.toInt ↔ 0 ≤ x.toBitVec.toInt
  omega
theorem fm_c : (nI 10007).toInt = 10007 := by decide
theorem fm_A {x : Int32} (h : 0 ≤ x ^^^ nI 10007) : x - x / nI 10007 * nI 10007 = nI (zi x).val := zi_eq (by rw [rem_toInt, fm_c, Int.tmod_eq_emod_of_nonneg ((fm_sgn x).mp h)])
theorem fm_t (a : Int) (h : a < 0) : a.tmod 10007 = - ((-a) % 10007) := by rw [← Int.tmod_eq_emod_of_nonneg (by omega), Int.neg_tmod, Int.neg_neg]
theorem fm_B {x : Int32} (h : ¬ 0 ≤ x ^^^ nI 10007) (h0 : x - x / nI 10007 * nI 10007 = 0) : x - x / nI 10007 * nI 10007 = nI (zi x).val := zi_eq (by
  have h1 : ¬ 0 ≤ x.toInt := fun z => h ((fm_sgn x).mpr z)
  have h2 := congrArg Int32.toInt h0
  rw [rem_toInt, fm_c, fm_t _ (by omega)] at h2
  rw [rem_toInt, fm_c, fm_t _ (by omega)]
  have h3 : (0 : Int32).toInt = 0 := rfl
  omega)
theorem fm_C {x : Int32} (h : ¬ 0 ≤ x ^^^ nI 10007) (h0 : ¬ x - x / nI 10007 * nI 10007 = 0) : x - x / nI 10007 * nI 10007 + nI 10007 = nI (zi x).val := zi_eq (by
  have h1 : ¬ 0 ≤ x.toInt := fun z => h ((fm_sgn x).mpr z)
  have h2 : ¬ (x - x / nI 10007 * nI 10007).toInt = 0 := fun z => h0 (Int32.toInt_inj.mp z)
  rw [rem_toInt, fm_c, fm_t _ (by omega)] at h2
  rw [Int32.toInt_add, rem_toInt, fm_c, fm_t _ (by omega)]
  rw [Int.bmod_eq_of_le (by omega) (by omega)]
  omega)
section IROWS
variable {p : Program} {l : Launch} {e : Env} {R : Room} {s : State} {m : MethodId} {args : Array Value} {below : List Frame} {meth : Method} {c : Code} {H : Heap} {locs : List Loc} {cells slots : Nat} {Q : State → Prop}
variable {cc : ByteArray} {pc : Nat} {ls : Array Slot} {rest : List Value}
theorem n_shr {a b : Nat} (ha : a < 2 ^ 31) (hb : b < 31) : nI a >>> (nI b &&& 31) = nI (a / 2 ^ b) := by
  have e : nI b &&& 31 = nI (b % 2 ^ 5) := pk_andN (n := b) (by omega) 5 rfl
  rw [e]
  have e2 : b % 2 ^ 5 = b := by omega
  rw [e2]
  refine pk_shrN ha (nI b) b ?_
  have h : ∀ b : Fin 31, ((nI b.val).toBitVec.smod 32).toNat = b.val := by decide +kernel
  exact h ⟨b, hb⟩
theorem n_ishr (hx : p.tables.exec = Jvm.exec) (hb : c.code = cc) {a b : Nat} (ha : a < 2 ^ 31) (hb2 : b < 31) (hdg : decode cc pc = .ok (.ishr, 1)) (k : W p l e R s m args below meth c H locs cells slots Q (F0 m (pc + 1) ls (.int (nI (a / 2 ^ b)) :: rest))) : W p l e R s m args below meth c H locs cells slots Q (F0 m pc ls (.int (nI b) :: .int (nI a) :: rest)) := lv_ishr hx hb hdg (by rw [n_shr ha hb2]; exact k)
theorem n_iand (hx : p.tables.exec = Jvm.exec) (hb : c.code = cc) {a d : Nat} (ha : a < 2 ^ 31) (k : Nat) (hk : d = 2 ^ k - 1) (hdg : decode cc pc = .ok (.iand, 1)) (kk : W p l e R s m args below meth c H locs cells slots Q (F0 m (pc + 1) ls (.int (nI (a % 2 ^ k)) :: rest))) (hd : d < 2 ^ 31 := by decide) : W p l e R s m args below meth c H locs cells slots Q (F0 m pc ls (.int (nI d) :: .int (nI a) :: rest)) := lv_iand hx hb hdg (by rw [pk_andN (n := a) (by omega) k (by rw [pk_tn (by omega)]; exact hk)]; exact kk)
theorem n_iandI (hx : p.tables.exec = Jvm.exec) (hb : c.code = cc) {x : Int32} {d : Nat} (k : Nat) (hk : d = 2 ^ k - 1) (hd : d < 2 ^ 31) (hdg : decode cc pc = .ok (.iand, 1)) (kk : ∀ z : Nat, z < 2 ^ k → W p l e R s m args below meth c H locs cells slots Q (F0 m (pc + 1) ls (.int (nI z) :: rest))) : W p l e R s m args below meth c H locs cells slots Q (F0 m pc ls (.int (nI d) :: .int x :: rest)) := lv_iand hx hb hdg (by
  rw [pk_and x k (by rw [pk_tn (by omega)]; exact hk)]
  exact kk _ (Nat.mod_lt _ (Nat.two_pow_pos k)))
end IROWS
abbrev rm_J9_floorMod_7cf53 : Room := { frames := 0, cells := 0, slots := 0, locals := 0 }
set_option maxHeartbeats 4000000 in
set_option maxRecDepth 100000 in
theorem c_J9_floorMod_7cf53 (l : Launch) (G : Gl) (L : List Nat) (F : Nat → va_E) (x : Int32) : CI l yJ9_floorMod_7cf53 cJ9_floorMod_7cf53 3 (some .int) rm_J9_floorMod_7cf53 G L F [.int (x), .int (nI (10007))] (fun r F1 => r = nI (zi x).val ∧ ∀ q, F1 q = F q) := by
  refine CG_ofF (by decide +kernel) (Nat.le_of_ble_eq_true rfl) rfl ?_
  intro p e s m args below meth c Q C0 hr hlk hnm hQ hw ls hl
  have hx := C0.x
  have hb := C0.b
  refine lv_iload_n hx hb dJ9_floorMod_7cf53_0 rfl (lv_at hl 0 rfl) ?_
  refine lv_iload_n hx hb dJ9_floorMod_7cf53_1 rfl (lv_at hl 1 rfl) ?_
  refine lv_irem hx hb dJ9_floorMod_7cf53_2 (by decide) ?_
  refine lv_istore_n (lv' := [(2, .int (x - x / nI 10007 * nI 10007)), (0, .int (x)), (1, .int (nI (10007)))]) hx hb dJ9_floorMod_7cf53_3 rfl hl (by decide) rfl (fun ls hl => ?_)
  refine lv_iload_n hx hb dJ9_floorMod_7cf53_4 rfl (lv_at hl 1 rfl) ?_
  refine lv_iload_n hx hb dJ9_floorMod_7cf53_5 rfl (lv_at hl 2 rfl) ?_
  refine lv_ixor hx hb dJ9_floorMod_7cf53_6 ?_
  refine lv_if_ge (tgt := 18) hx hb dJ9_floorMod_7cf53_7 (by decide) (fun c_7 => ?_) (fun c_7 => ?_)
  · skip
    refine lv_iload_n hx hb dJ9_floorMod_7cf53_18 rfl (lv_at hl 0 rfl) ?_
    exact r_i C0 hr hlk hw (v := (x - x / nI 10007 * nI 10007)) rfl ⟨fm_A c_7, (fun q  => rfl)⟩ (Nat.le_refl _) (Nat.le_refl _) dJ9_floorMod_7cf53_19 hQ
  · skip
    refine lv_iload_n hx hb dJ9_floorMod_7cf53_10 rfl (lv_at hl 0 rfl) ?_
    refine lv_if_eq (tgt := 18) hx hb dJ9_floorMod_7cf53_11 (by decide) (fun c_11 => ?_) (fun c_11 => ?_)
    · skip
      refine lv_iload_n hx hb dJ9_floorMod_7cf53_18 rfl (lv_at hl 0 rfl) ?_
      exact r_i C0 hr hlk hw (v := (x - x / nI 10007 * nI 10007)) rfl ⟨fm_B c_7 c_11, (fun q  => rfl)⟩ (Nat.le_refl _) (Nat.le_refl _) dJ9_floorMod_7cf53_19 hQ
    · skip
      refine lv_iload_n hx hb dJ9_floorMod_7cf53_14 rfl (lv_at hl 0 rfl) ?_
      refine lv_iload_n hx hb dJ9_floorMod_7cf53_15 rfl (lv_at hl 2 rfl) ?_
      refine lv_iadd hx hb dJ9_floorMod_7cf53_16 ?_
      exact r_i C0 hr hlk hw (v := ((x - x / nI 10007 * nI 10007) + nI 10007)) rfl ⟨fm_C c_7 c_11, (fun q  => rfl)⟩ (Nat.le_refl _) (Nat.le_refl _) dJ9_floorMod_7cf53_17 hQ
abbrev rm_X1_inverseOf : Room := { frames := 1, cells := 0, slots := 0, locals := 22 }
set_option maxHeartbeats 4000000 in
set_option maxRecDepth 100000 in
theorem c_X1_inverseOf (l : Launch) (G : Gl) (L : List Nat) (F : Nat → va_E) (z : ZP) : CI l yX1_inverseOf cX1_inverseOf 6 (some .int) rm_X1_inverseOf G L F [.int (nI (z.val))] (fun r F1 => r = nI (m_finv z).val ∧ ∀ q, F1 q = F q) := by
  refine CG_of (by decide) (Nat.le_of_ble_eq_true rfl) rfl ?_
  intro p e s m args below meth c Q C0 hr hlk hnm hQ hw ls hl
  have hx := C0.x
  have hb := C0.b
  have hz := z.isLt
  refine lv_lconst (v := lN 1) hx hb dX1_inverseOf_0 (by decide) ?_
  refine lv_lstore_n (lv' := [(1, .long (lN (1))), (0, .int (nI (z.val)))]) hx hb dX1_inverseOf_1 rfl hl (by decide) rfl (fun ls hl => ?_)
  refine lv_iload_n hx hb dX1_inverseOf_2 rfl (lv_at hl 1 rfl) ?_
  refine lv_sipush (v := nI 10007) hx hb dX1_inverseOf_3 (by decide) ?_
  refine q_calli hw (q_runS (As := [.int (nI (z.val)), .int (nI (10007))]) (c_J9_floorMod_7cf53 l G L F (nI (z.val))) C0 hw sw_X1_56 rfl hl.1 rfl (by decide) dX1_inverseOf_6 ⟨by decide, by decide⟩ ⟨by decide, by decide⟩) rfl rfl (fun r_112 F_110 H locs hw hp_111 => ?_)
  obtain ⟨he_113, o_114⟩ := hp_111
  rw [zi_nI (by omega)] at he_113
  subst he_113
  refine n_top (show _ = .int (nI z.val) by rw [zc_z]) ?_
  refine n_i2l hx hb (by omega) dX1_inverseOf_9 ?_
  refine lv_lstore_n (lv' := [(3, .long (lN ((z).val))), (1, .long (lN (1))), (0, .int (nI (z.val)))]) hx hb dX1_inverseOf_10 rfl hl (by decide) rfl (fun ls hl => ?_)
  refine lv_iconst (v := nI 0) hx hb dX1_inverseOf_11 (by decide) ?_
  refine lv_istore (lv' := [(5, .int (nI (0))), (3, .long (lN ((z).val))), (1, .long (lN (1))), (0, .int (nI (z.val)))]) hx hb dX1_inverseOf_12 hl (by decide) rfl (fun ls hl => ?_)
  have ha0 := (m_ivI z 0).1.isLt
  have lp14 : ∀ (n : Nat) (i : Nat) (a : ZP) (b : ZP), 0 ≤ i → i ≤ 14 → a = (m_ivI z i).1 → b = (m_ivI z i).2 → 14 + 1 - i < n → ∀ (F_115 : Nat → va_E) (H : Heap) (locs : List Loc), wD G L F_115 s H locs → (∀ q, F_115 q = F q) → ∀ ls : Array Slot, lv_has ls 6 [(1, .long (lN (a.val))), (3, .long (lN (b.val))), (5, .int (nI (i)))] → W p l e rm_X1_inverseOf s m args below meth c H locs 0 0 Q (F0 m 14 ls []) := by
    intro n
    induction n with
    | zero => intro i a b hlo hhi ha hb2 hm; exact absurd hm (Nat.not_lt_zero _)
    | succ n ih_14 =>
      intro i a b hlo hhi ha hb2 hm F_115 H locs hw  fr_116 ls hl
      refine lv_iload hx hb dX1_inverseOf_14 (lv_at hl 2 rfl) ?_
      refine lv_bipush (v := nI 14) hx hb dX1_inverseOf_16 (by decide) ?_
      refine n_icmp_ge (tgt := 55) hx hb dX1_inverseOf_18 (by decide) (by omega) (by decide) (fun c_18 => ?_) (fun c_18 => ?_)
      · skip
        obtain rfl : i = 14 := by omega
        refine lv_lload_n hx hb dX1_inverseOf_55 rfl (lv_at hl 0 rfl) ?_
        refine n_l2i hx hb dX1_inverseOf_56 ?_
        exact r_i C0 hr hlk hw (v := nI (a.val)) rfl ⟨by rw [ha]; rfl, (fun q  => (fr_116 q ))⟩ (Nat.le_refl _) (Nat.le_refl _) dX1_inverseOf_57 hQ
      · skip
        have hza := a.isLt
        have hzb := b.isLt
        refine lv_sipush (v := nI 10005) hx hb dX1_inverseOf_21 (by decide) ?_
        refine lv_iload hx hb dX1_inverseOf_24 (lv_at hl 2 rfl) ?_
        refine n_ishr hx hb (by decide) (by omega) dX1_inverseOf_26 ?_
        refine lv_iconst (v := nI 1) hx hb dX1_inverseOf_27 (by decide) ?_
        refine n_iand hx hb (by have := Nat.div_le_self 10005 (2 ^ i); omega) 1 rfl dX1_inverseOf_28 ?_
        refine lv_iconst (v := nI 1) hx hb dX1_inverseOf_29 (by decide) ?_
        refine n_icmp_ne (tgt := 41) hx hb dX1_inverseOf_30 (by decide) (by have := Nat.div_le_self 10005 (2 ^ i); omega) (by decide) (fun c_30 => ?_) (fun c_30 => ?_)
        · skip
          refine lv_lload_n hx hb dX1_inverseOf_41 rfl (lv_at hl 1 rfl) ?_
          refine lv_lload_n hx hb dX1_inverseOf_42 rfl (lv_at hl 1 rfl) ?_
          refine n_lmul hx hb dX1_inverseOf_43 ?_
          have m_117 := mul2_le (a := b.val) (b := b.val) (by omega) (by omega)
          refine lv_ldc2 (v := lN (10007)) hx hb C0.ow (C0.ts _ kw_X1_54) dX1_inverseOf_44 ?_
          refine n_lremP hx hb (by omega) dX1_inverseOf_47 ?_
          refine lv_lstore_n (lv' := [(3, .long (lN ((zc (b.val * b.val)).val))), (1, .long (lN (a.val))), (5, .int (nI (i)))]) hx hb dX1_inverseOf_48 rfl hl (by decide) rfl (fun ls hl => ?_)
          refine lv_iinc (v := nI (i + 1)) (lv' := [(5, .int (nI (i + 1))), (3, .long (lN ((zc (b.val * b.val)).val))), (1, .long (lN (a.val)))]) hx hb dX1_inverseOf_49 hl (k := 2) rfl (nI_add _ _) (by decide) rfl (fun ls hl => ?_)
          refine lv_goto (tgt := 14) hx hb dX1_inverseOf_52 (by decide) ?_
          exact ih_14 (i + 1) (a) (zc (b.val * b.val)) ((by omega)) ((by omega)) ((by first | (simp only [m_ivI, zc_mul, zc_z, ha, hb2, c_30, if_true]; done) | (simp only [m_ivI, ha, if_neg c_30]; done))) ((by simp only [m_ivI, zc_mul, zc_z, hb2])) (by omega) F_115 _ _ hw  (fun q  => (fr_116 q )) ls (lv_sub hl [2, 1, 0] rfl)
        · skip
          refine lv_lload_n hx hb dX1_inverseOf_33 rfl (lv_at hl 0 rfl) ?_
          refine lv_lload_n hx hb dX1_inverseOf_34 rfl (lv_at hl 1 rfl) ?_
          refine n_lmul hx hb dX1_inverseOf_35 ?_
          have m_118 := mul2_le (a := a.val) (b := b.val) (by omega) (by omega)
          refine lv_ldc2 (v := lN (10007)) hx hb C0.ow (C0.ts _ kw_X1_54) dX1_inverseOf_36 ?_
          refine n_lremP hx hb (by omega) dX1_inverseOf_39 ?_
          refine lv_lstore_n (lv' := [(1, .long (lN ((zc (a.val * b.val)).val))), (3, .long (lN (b.val))), (5, .int (nI (i)))]) hx hb dX1_inverseOf_40 rfl hl (by decide) rfl (fun ls hl => ?_)
          refine lv_lload_n hx hb dX1_inverseOf_41 rfl (lv_at hl 1 rfl) ?_
          refine lv_lload_n hx hb dX1_inverseOf_42 rfl (lv_at hl 1 rfl) ?_
          refine n_lmul hx hb dX1_inverseOf_43 ?_
          have m_119 := mul2_le (a := b.val) (b := b.val) (by omega) (by omega)
          refine lv_ldc2 (v := lN (10007)) hx hb C0.ow (C0.ts _ kw_X1_54) dX1_inverseOf_44 ?_
          refine n_lremP hx hb (by omega) dX1_inverseOf_47 ?_
          refine lv_lstore_n (lv' := [(3, .long (lN ((zc (b.val * b.val)).val))), (1, .long (lN ((zc (a.val * b.val)).val))), (5, .int (nI (i)))]) hx hb dX1_inverseOf_48 rfl hl (by decide) rfl (fun ls hl => ?_)
          refine lv_iinc (v := nI (i + 1)) (lv' := [(5, .int (nI (i + 1))), (3, .long (lN ((zc (b.val * b.val)).val))), (1, .long (lN ((zc (a.val * b.val)).val)))]) hx hb dX1_inverseOf_49 hl (k := 2) rfl (nI_add _ _) (by decide) rfl (fun ls hl => ?_)
          refine lv_goto (tgt := 14) hx hb dX1_inverseOf_52 (by decide) ?_
          exact ih_14 (i + 1) (zc (a.val * b.val)) (zc (b.val * b.val)) ((by omega)) ((by omega)) ((by first | (simp only [m_ivI, zc_mul, zc_z, ha, hb2, c_30, if_true]; done) | (simp only [m_ivI, ha, if_neg c_30]; done))) ((by simp only [m_ivI, zc_mul, zc_z, hb2])) (by omega) F_115 _ _ hw  (fun q  => (fr_116 q )) ls (lv_sub hl [2, 1, 0] rfl)
  exact lp14 _ (0) (1) (z) ((by omega)) ((by omega)) (rfl) (rfl) (Nat.lt_succ_self _) F_110 _ _ hw  (fun q  => (o_114 q )) ls (lv_sub hl [2, 1, 0] rfl)
