/-! the model's rows: twenty rows of seven numbers in one array -/
def pc (pl : Nat → Nat → ZP) : Nat → Int32 := fun j => nI (pl (j / 7) (j % 7)).val
abbrev pcE (G : Gl) (pl : Nat → Nat → ZP) : va_E := .inl (G.2 0, 140, .inl (pc pl))
theorem pc_at (pl : Nat → Nat → ZP) (p k : Nat) (hk : k < 7) : pc pl (7 * p + k) = nI (pl p k).val := by
  unfold pc
  rw [show (7 * p + k) / 7 = p by omega, show (7 * p + k) % 7 = k by omega]
theorem pc_upd (pl : Nat → Nat → ZP) (p k : Nat) (hk : k < 7) (z : ZP) : upd (pc pl) (7 * p + k) (nI z.val) = pc (va_up pl p (va_up (pl p) k z)) := by
  funext j
  by_cases h : j = 7 * p + k
  · subst h
    rw [pc_at _ _ _ hk]
    simp [upd, va_up]
  · have h2 : ¬ (j / 7 = p ∧ j % 7 = k) := by omega
    unfold pc
    simp only [upd, h, if_false]
    by_cases h3 : j / 7 = p
    · have h4 : ¬ j % 7 = k := fun z => h2 ⟨h3, z⟩
      simp [va_up, h3, h4]
    · simp [va_up, h3]
theorem pcE_congr {G : Gl} {A B : Nat → Nat → ZP} (h : ∀ p k, k < 7 → A p k = B p k) : pcE G A = pcE G B := by
  have e : pc A = pc B := by
    funext j
    unfold pc
    rw [h (j / 7) (j % 7) (by omega)]
  unfold pcE
  rw [e]
theorem pcE_row {G : Gl} {pl : Nat → Nat → ZP} {p : Nat} {f w : Nat → ZP} (h : ∀ k, k < 7 → f k = w k) : pcE G (va_up pl p f) = pcE G (va_up pl p w) := pcE_congr (fun q k hk => by
  by_cases e : q = p
  · subst e
    rw [va_up_self, va_up_self, h k hk]
  · rw [va_up_ne _ _ e, va_up_ne _ _ e])
theorem pst_s (pl : Nat → Nat → ZP) (p : Nat) (f w : Nat → ZP) (i : Nat) {z : ZP} (hz : z = f i) : va_up (va_up pl p (m_upto f w i)) p (va_up ((va_up pl p (m_upto f w i)) p) i z) = va_up pl p (m_upto f w (i + 1)) := by
  rw [bx_uu, va_up_self, m_upto_s f w i hz]
theorem pst_0 (pl : Nat → Nat → ZP) (p : Nat) (f : Nat → ZP) : pl = va_up pl p (m_upto f (pl p) 0) := by
  rw [m_upto_0]
  funext q
  by_cases e : q = p
  · subst e
    rw [va_up_self]
  · rw [va_up_ne _ _ e]
theorem pst_7 {G : Gl} (pl : Nat → Nat → ZP) (p : Nat) (f w : Nat → ZP) : pcE G (va_up pl p (m_upto f w 7)) = pcE G (va_up pl p f) := pcE_row (fun k hk => m_upto_7 f w k hk)
def m_mulT (u v : Nat → ZP) (cu : Nat) : Nat → ZP := fun j => if j ≤ cu then m_mulc u v j else 0
def m_mx (u v : Nat → ZP) (cu a b : Nat) : Nat → ZP := fun j => if j ≤ cu then m_mulS u v j (min a (j + 1)) + (if a ≤ j ∧ j < a + b then u a * v (j - a) else 0) else 0
theorem m_mx_0 (u v : Nat → ZP) (cu : Nat) : (fun _ => 0) = m_mx u v cu 0 0 := by
  funext j
  have h : ¬ (0 ≤ j ∧ j < 0 + 0) := by omega
  simp only [m_mx, h, if_false, Nat.zero_min, m_mulS]
  split <;> simp
theorem m_mx_in (u v : Nat → ZP) {cu a b : Nat} (h : a + b ≤ cu) : va_up (m_mx u v cu a b) (a + b) (m_mx u v cu a b (a + b) + u a * v b) = m_mx u v cu a (b + 1) := by
  funext j
  by_cases e : j = a + b
  · subst e
    have h1 : ¬ (a ≤ a + b ∧ a + b < a + b) := by omega
    have h2 : a ≤ a + b ∧ a + b < a + (b + 1) := by omega
    rw [va_up_self]
    unfold m_mx
    simp only [h, if_true]
    rw [if_neg h1, if_pos h2, Nat.add_sub_cancel_left, Fin.add_zero]
  · rw [va_up_ne _ _ e]
    have h3 : (a ≤ j ∧ j < a + (b + 1)) = (a ≤ j ∧ j < a + b) := by simp only [eq_iff_iff]; omega
    simp only [m_mx, h3]
theorem m_mx_out (u v : Nat → ZP) {cu a : Nat} (h : a ≤ cu) : m_mx u v cu a (cu + 1 - a) = m_mx u v cu (a + 1) 0 := by
  funext j
  have h0 : ¬ (a + 1 ≤ j ∧ j < a + 1 + 0) := by omega
  simp only [m_mx, h0, if_false]
  by_cases hj : j ≤ cu
  · simp only [hj, if_true]
    by_cases ha : a ≤ j
    · have h1 : a ≤ j ∧ j < a + (cu + 1 - a) := by omega
      rw [if_pos h1, show min a (j + 1) = a by omega, show min (a + 1) (j + 1) = a + 1 by omega, Fin.add_zero]
      rfl
    · have h1 : ¬ (a ≤ j ∧ j < a + (cu + 1 - a)) := by omega
      rw [if_neg h1, show min a (j + 1) = j + 1 by omega, show min (a + 1) (j + 1) = j + 1 by omega]
  · simp only [hj, if_false]
theorem m_mx_e (u v : Nat → ZP) (cu : Nat) : m_mx u v cu (cu + 1) 0 = m_mulT u v cu := by
  funext j
  have h0 : ¬ (cu + 1 ≤ j ∧ j < cu + 1 + 0) := by omega
  simp only [m_mx, h0, if_false, m_mulT, Fin.add_zero]
  by_cases hj : j ≤ cu
  · rw [if_pos hj, if_pos hj, show min (cu + 1) (j + 1) = j + 1 by omega]
    rfl
  · rw [if_neg hj, if_neg hj]
def m_der (u : Nat → ZP) : Nat → ZP := fun k => if k < 6 then u (k + 1) * zc (k + 1) else 0
def m_one : Nat → ZP := fun k => if k = 0 then 1 else 0
def m_pw (u : Nat → ZP) (cu : Nat) : Nat → Nat → ZP
  | 0 => m_one
  | k + 1 => m_mulT (m_pw u cu k) u cu
def m_pn (u v : Nat → ZP) (cu : Nat) : Nat → Nat → ZP
  | 0 => fun _ => 0
  | k + 1 => m_am (m_pn u v cu k) (m_pw u cu k) (v k)
def m_pi (u v : Nat → ZP) (cu : Nat) : Nat → ZP := m_pn u v cu (cu + 1)
def m_ivn (u : Nat → ZP) (cu : Nat) : Nat → Nat → ZP
  | 0 => m_x
  | j + 1 => va_up (m_ivn u cu j) (j + 2) (m_ivn u cu j (j + 2) - m_pi u (m_ivn u cu j) cu (j + 2))
def m_invM (u : Nat → ZP) (cu : Nat) : Nat → ZP := m_ivn u cu (cu - 1)
def m_xT (f : Nat → ZP) (cu : Nat) : Nat → Nat → ZP
  | 0 => m_x
  | n + 1 => m_am (fun _ => 0) (m_mulT f (m_der (m_xT f cu n)) cu) (m_finv (zc (n + 1)))
def m_xO (f : Nat → ZP) (cu : Nat) : Nat → Nat → ZP
  | 0 => m_x
  | n + 1 => m_am (m_xO f cu n) (m_xT f cu (n + 1)) 1
def m_expM (f : Nat → ZP) (cu : Nat) : Nat → ZP := m_xO f cu (cu - 1)
def m_lgn (u : Nat → ZP) (cu : Nat) : Nat → Nat → ZP
  | 0 => fun _ => 0
  | j + 1 => va_up (m_lgn u cu j) (j + 2) (m_lgn u cu j (j + 2) + u (j + 2) - m_expM (m_lgn u cu j) cu (j + 2))
def m_logM (u : Nat → ZP) (cu : Nat) : Nat → ZP := m_lgn u cu (cu - 1)
def m_brM (f g : Nat → ZP) (cu : Nat) : Nat → ZP := m_am (m_mulT f (m_der g) cu) (m_mulT g (m_der f) cu) (zc 10006)
def m_wayM (a b : Nat → ZP) (y cu : Nat) : Nat → ZP :=
  let w := m_brM a b cu
  let wa := m_brM a w cu
  let wb := m_brM b w cu
  let wc := m_brM b wa cu
  let t2 := m_am a b (zc 1)
  let t3 := m_am t2 w (m_finv (zc 2))
  let t4 := m_am (m_am t3 wa (m_finv (zc 12))) wb (zc (10007 - (m_finv (zc 12)).val))
  let t5 := m_am t4 wc (zc (10007 - (m_finv (zc 24)).val))
  if y ≤ 2 then t2 else if y ≤ 3 then t3 else if y ≤ 4 then t4 else t5
abbrev mO (ma : Nat → Nat) (mi : Nat → Int32) (hh : Int64) : va_E := .inr (6, [.ref (ma 0), .int (mi 0), .ref (ma 1), .ref (ma 2), .ref (ma 3), .ref (ma 4), .int (mi 1), .ref (ma 5), .int (mi 2), .ref (ma 6), .int (mi 3), .int (mi 4), .long hh])
section PROWS
variable {p : Program} {l : Launch} {e : Env} {R : Room} {s : State} {m : MethodId} {args : Array Value} {below : List Frame} {meth : Method} {c : Code} {H : Heap} {locs : List Loc} {cells slots : Nat} {Q : State → Prop}
variable {cc : ByteArray} {nL : Nat} {own : String} {pc9 : Nat} {ls : Array Slot} {rest : List Value} {G : Gl} {L : List Nat} {F : Nat → va_E} {a : Nat}
theorem q_pst (C0 : Cx p s m args c cc nL own G L) (hw : wD G L F s H locs) (ha : a ∈ L) {pl : Nat → Nat → ZP} (he : F a = pcE G pl) (r k : Nat) (hr : r < 20) (hk : k < 7) {z : ZP} (hdg : decode cc pc9 = .ok (.iastore, 1))
    (kk : ∀ (F' : Nat → va_E) (H1 : Heap) (locs1 : List Loc), wD G L F' s H1 locs1 → F' a = pcE G (va_up pl r (va_up (pl r) k z)) → (∀ q, q ≠ a → F' q = F q) → W p l e R s m args below meth c H1 locs1 cells slots Q (F0 m (pc9 + 1) ls rest)) : W p l e R s m args below meth c H locs cells slots Q (F0 m pc9 ls (.int (nI z.val) :: .int (nI (7 * r + k)) :: .ref a :: rest)) := q_iast C0 hw ha he (7 * r + k) (by omega) (by decide) hdg (fun F' H1 locs1 hw1 h1 h2 => kk F' H1 locs1 hw1 (by rw [h1, pc_upd pl r k hk z]) h2)
end PROWS
