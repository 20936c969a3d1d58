theorem aw_in : Cond.initialized "java/lang/System" ∈ TB := tb_t 11 (by decide +kernel) rfl
theorem kw_L_7 : Cond.constant RL 7 (nI 625341607) ∈ TB := tb_t 183 (by decide +kernel) rfl
theorem aw_X2_23 : Cond.methodLink RX2 23 arraycopyName ∈ TB := tb_t 288 (by decide +kernel) rfl
theorem aw_st : Cond.static arraycopyName ∈ TB := tb_t 289 (by decide +kernel) rfl
theorem aw_nat : Cond.native arraycopyName ∈ TB := tb_t 290 (by decide +kernel) rfl
theorem kw_X5_101 : Cond.constant RX5 101 (nI 100000) ∈ TB := tb_t 330 (by decide +kernel) rfl
theorem kw_X1_54 : Cond.constantLong RX1 54 (lN 10007) ∈ TB := tb_t 388 (by decide +kernel) rfl
theorem aw_X5_289 : Cond.methodLink RX5 289 arraycopyName ∈ TB := tb_t 396 (by decide +kernel) rfl
theorem aw_X1_90 : Cond.methodLink RX1 90 arraycopyName ∈ TB := tb_t 427 (by decide +kernel) rfl
section CROWS
variable {p : Program} {l : Launch} {e : Env} {R : Room} {s : State} {m : MethodId} {args : Array Value} {below : List Frame} {meth : Method} {c : Code} {H : Heap} {locs : List Loc} {cells slots : Nat} {Q : State → Prop}
variable {cc : ByteArray} {nL : Nat} {own : String} {pc : Nat} {ls : Array Slot} {rest : List Value} {G : Gl} {L : List Nat} {F : Nat → va_E} {a : Nat}
/-- the first n places of one row into another -/
theorem q_copy (C0 : Cx p s m args c cc nL own G L) (hw : wD G L F s H locs) (hsz : ls.size = nL) {idx b n : Nat} (hl : Cond.methodLink own idx arraycopyName ∈ TB) (hb : b ∈ L) (ha : a ∈ L) {u v : Nat → ZP} (eb : F b = rw7 G u) (ea : F a = rw7 G v) (hn : n ≤ 7) (hfr : 1 ≤ R.frames) (hlo : (rest.map fun v => v.category).sum + (nativeFrameWords "java/lang/System" "arraycopy" 5 + 11) ≤ R.locals) (hdg : decode cc pc = .ok (.invokestatic idx, 3))
    (kk : ∀ (F' : Nat → va_E) (H1 : Heap) (locs1 : List Loc), wD G L F' s H1 locs1 → F' a = rw7 G (fun k => if k < n then u k else v k) → (∀ q, q ≠ a → F' q = F q) → W p l e R s m args below meth c H1 locs1 cells slots Q (F0 m (pc + 3) ls rest)) : W p l e R s m args below meth c H locs cells slots Q (F0 m pc ls (.int (nI n) :: .int (nI 0) :: .ref a :: .int (nI 0) :: .ref b :: rest)) := by
  obtain ⟨k0, hk0⟩ := va_pl_get (X := []) (f := F) hb
  obtain ⟨k1, hk1⟩ := va_pl_get (X := []) (f := F) ha
  have hk2 := hk1
  rw [eb] at hk0
  rw [ea] at hk2
  have e0 : (nI 0).toNatClampNeg = 0 := rfl
  have en : (nI n).toNatClampNeg = n := nI_clamp (by omega)
  refine va_copyi C0.x C0.b (C0.ml.trans hsz.symm) C0.ow (C0.ts _ hl) (C0.ts _ aw_nat) (C0.ts _ aw_st) (C0.ts _ aw_in) C0.K hw.1 hw.2.1 hw.2.2 k0 k1 0 0 hk0 hk2 rfl rfl rfl (by decide) (by decide) (nI_pos (by omega)) (by rw [e0, en]; omega) (by rw [e0, en]; omega) (fun i hi => rfl) hfr hlo hdg fun H1 locs1 hP hD hS => ?_
  have hc : va_cpy (cv u) (cv v) (nI 0).toNatClampNeg (nI 0).toNatClampNeg (nI n).toNatClampNeg = cv (fun k => if k < n then u k else v k) := by
    funext k
    rw [e0, en]
    by_cases h : k < n
    · simp [va_cpy, cv, h]
    · simp [va_cpy, cv, h]
  rw [hc] at hP
  exact hw.go (P := fun H1 locs1 => W p l e R s m args below meth c H1 locs1 cells slots Q (F0 m (pc + 3) ls rest)) ha hk1 hP hS kk
theorem q_invlen (C0 : Cx p s m args c cc nL own G L) (hw : wD G L F s H locs) {t : Nat} (hT : va_T .int t 6 g_inv (wA L s.heap.size) s s.heap) (hdg : decode cc pc = .ok (.arraylength, 1))
    (kk : W p l e R s m args below meth c H locs cells slots Q (F0 m (pc + 1) ls (.int (nI 6) :: rest))) : W p l e R s m args below meth c H locs cells slots Q (F0 m pc ls (.ref t :: rest)) := va_tlen C0.x C0.b hT hw.2.2 rfl hdg kk
end CROWS
