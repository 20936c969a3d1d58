/-! numbers modulo 10007, and rows of them -/
abbrev ZP : Type := Fin 10007
def zc (n : Nat) : ZP := Fin.ofNat 10007 n
theorem zc_val (n : Nat) : (zc n).val = n % 10007 := rfl
theorem zc_add (a b : Nat) : zc (a + b) = zc a + zc b := Fin.ext (by simp [zc, Fin.val_add])
theorem zc_mul (a b : Nat) : zc (a * b) = zc a * zc b := Fin.ext (by simp [zc, Fin.val_mul])
theorem zc_z (z : ZP) : zc z.val = z := Fin.ext (Nat.mod_eq_of_lt z.isLt)
theorem zc_0 : zc 0 = 0 := rfl
theorem zc_1 : zc 1 = 1 := rfl
theorem zc_P (n : Nat) : zc (n % 10007) = zc n := Fin.ext (by simp [zc])
theorem zc_sub {a : Nat} {z : ZP} : zc (a + 10007 - z.val) = zc a - z := by
  have h : zc (a + 10007 - z.val) + z = zc a := by
    have h1 : zc (a + 10007 - z.val) + zc z.val = zc (a + 10007) := by
      rw [← zc_add]
      congr 1
      have := z.isLt
      omega
    rw [zc_z] at h1
    rw [h1, zc_add, show zc 10007 = 0 from rfl]
    exact Fin.add_zero _
  rw [← h]
  grind
def cv (u : Nat → ZP) : Nat → Int32 := fun k => nI (u k).val
abbrev rw7 (G : Gl) (u : Nat → ZP) : va_E := .inl (G.2 0, 7, .inl (cv u))
theorem cv_upd (u : Nat → ZP) (i : Nat) (z : ZP) : upd (cv u) i (nI z.val) = cv (va_up u i z) := by
  funext j
  by_cases h : j = i
  · subst h
    simp [upd, cv, va_up]
  · simp [upd, cv, va_up, h]
/-- rows that agree at the first n places are one row of n places -/
theorem cv_congr {u v : Nat → ZP} {n : Nat} (h : ∀ k, k < n → u k = v k) (k : Nat) (hk : k < n) : cv u k = cv v k := by unfold cv; rw [h k hk]
section ZROWS
variable {p : Program} {l : Launch} {e : Env} {R : Room} {s : State} {m : MethodId} {args : Array Value} {below : List Frame} {meth : Method} {c : Code} {H : Heap} {locs : List Loc} {cells slots : Nat} {Q : State → Prop}
variable {cc : ByteArray} {nL : Nat} {own : String} {pc : Nat} {ls : Array Slot} {rest : List Value} {G : Gl} {L : List Nat} {F : Nat → va_E} {a : Nat}
theorem q_rld (C0 : Cx p s m args c cc nL own G L) (hw : wD G L F s H locs) (ha : a ∈ L) {u : Nat → ZP} (he : F a = rw7 G u) (i : Nat) (hi : i < 7) (hdg : decode cc pc = .ok (.iaload, 1))
    (kk : (u i).val < 10007 → W p l e R s m args below meth c H locs cells slots Q (F0 m (pc + 1) ls (.int (nI (u i).val) :: rest))) : W p l e R s m args below meth c H locs cells slots Q (F0 m pc ls (.int (nI i) :: .ref a :: rest)) := q_iald C0 hw ha he i hi (by decide) rfl hdg (kk (u i).isLt)
theorem q_rst (C0 : Cx p s m args c cc nL own G L) (hw : wD G L F s H locs) (ha : a ∈ L) {u : Nat → ZP} (he : F a = rw7 G u) (i : Nat) (hi : i < 7) {z : ZP} (hdg : decode cc pc = .ok (.iastore, 1))
    (kk : ∀ (F' : Nat → va_E) (H1 : Heap) (locs1 : List Loc), wD G L F' s H1 locs1 → F' a = rw7 G (va_up u i z) → (∀ q, q ≠ a → F' q = F q) → W p l e R s m args below meth c H1 locs1 cells slots Q (F0 m (pc + 1) ls rest)) : W p l e R s m args below meth c H locs cells slots Q (F0 m pc ls (.int (nI z.val) :: .int (nI i) :: .ref a :: rest)) := q_iast C0 hw ha he i hi (by decide) hdg (fun F' H1 locs1 hw1 h1 h2 => kk F' H1 locs1 hw1 (by rw [h1, cv_upd]) h2)
theorem n_iremP (hx : p.tables.exec = Jvm.exec) (hb : c.code = cc) {a : Nat} (ha : a < 2 ^ 31) (hdg : decode cc pc = .ok (.irem, 1)) (k : W p l e R s m args below meth c H locs cells slots Q (F0 m (pc + 1) ls (.int (nI (zc a).val) :: rest))) : W p l e R s m args below meth c H locs cells slots Q (F0 m pc ls (.int (nI 10007) :: .int (nI a) :: rest)) := n_irem hx hb ha (by decide) (by decide) hdg k
theorem n_lremP (hx : p.tables.exec = Jvm.exec) (hb : c.code = cc) {a : Nat} (ha : a < 2 ^ 63) (hdg : decode cc pc = .ok (.lrem, 1)) (k : W p l e R s m args below meth c H locs cells slots Q (F0 m (pc + 1) ls (.long (lN (zc a).val) :: rest))) : W p l e R s m args below meth c H locs cells slots Q (F0 m pc ls (.long (lN 10007) :: .long (lN a) :: rest)) := n_lrem hx hb ha (by decide) (by decide) hdg k
/-- a row by another that agrees at its places -/
theorem wD.canon {N : Nat} {d : ClassId} {f g : Nat → Int32} (hw : wD G L F s H locs) (ha : F a = .inl (d, N, .inl f)) (h : ∀ k, k < N → f k = g k) : wD G L (va_up F a (.inl (d, N, .inl g))) s H locs := by
  refine ⟨fun k q hk => ?_, va_pl_D hw.2.1, hw.2.2⟩
  have hm := List.mem_of_getElem? hk
  obtain ⟨b, hb, rfl⟩ := List.mem_map.mp hm
  obtain ⟨k9, hk9⟩ := va_pl_get (X := []) (f := F) hb
  have h9 := hw.1 k9 _ hk9
  by_cases hba : b = a
  · subst hba
    rw [va_up_self]
    rw [ha] at h9
    show H[b]? = some (vp_cell d (N, .inl g))
    have h8 : H[b]? = some (vp_cell d (N, .inl f)) := h9
    rw [h8, vp_cell_i, vp_cell_i]
    unfold arrV
    have h7 : (fun j : Fin N => Value.int (f j.val)) = (fun j : Fin N => Value.int (g j.val)) := funext fun j => by rw [h j.val j.isLt]
    rw [h7]
  · rw [va_up_ne _ _ hba]
    exact h9
end ZROWS
theorem wD.rowE {s : State} {H : Heap} {locs : List Loc} {G : Gl} {L : List Nat} {F : Nat → va_E} {a : Nat} {u v : Nat → ZP} (hw : wD G L F s H locs) (ha : F a = rw7 G u) (h : ∀ k, k < 7 → u k = v k) : ∃ F', wD G L F' s H locs ∧ F' a = rw7 G v ∧ ∀ q, q ≠ a → F' q = F q :=
  ⟨_, hw.canon ha (cv_congr h), va_up_self _ _ _, fun _ hq => va_up_ne _ _ hq⟩
