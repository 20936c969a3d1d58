/-! the law's own account of the state -/
def nG (a b c d e f : Nat) : Nat → Int32 := fun i => if i = 0 then nI a else if i = 1 then nI b else if i = 2 then nI c else if i = 3 then nI d else if i = 4 then nI e else nI f
abbrev nE (G : Gl) (a b c d e f : Nat) : va_E := .inl (G.2 0, 6, .inl (nG a b c d e f))
theorem nG_u0 (a b c d e f x : Nat) : upd (nG a b c d e f) 0 (nI x) = nG x b c d e f := by
  funext i
  unfold upd nG
  by_cases h : i = 0 <;> simp [h]
theorem nG_u1 (a b c d e f x : Nat) : upd (nG a b c d e f) 1 (nI x) = nG a x c d e f := by
  funext i
  unfold upd nG
  by_cases h : i = 1 <;> simp [h]
theorem nG_u2 (a b c d e f x : Nat) : upd (nG a b c d e f) 2 (nI x) = nG a b x d e f := by
  funext i
  unfold upd nG
  by_cases h : i = 2 <;> simp [h]
theorem nG_u3 (a b c d e f x : Nat) : upd (nG a b c d e f) 3 (nI x) = nG a b c x e f := by
  funext i
  unfold upd nG
  by_cases h : i = 3 <;> simp [h]
theorem nG_u4 (a b c d e f x : Nat) : upd (nG a b c d e f) 4 (nI x) = nG a b c d x f := by
  funext i
  unfold upd nG
  by_cases h : i = 4 <;> simp [h]
theorem nG_u5 (a b c d e f x : Nat) (g : Nat → Int32) (hg : ∀ i, i < 6 → g i = upd (nG a b c d e f) 5 (nI x) i) : ∀ i, i < 6 → g i = nG a b c d e x i := by
  intro i hi
  rw [hg i hi]
  unfold upd nG
  by_cases h : i = 5
  · simp [h]
  · simp only [h, if_false]
    rcases (show i = 0 ∨ i = 1 ∨ i = 2 ∨ i = 3 ∨ i = 4 by omega) with rfl | rfl | rfl | rfl | rfl <;> simp
theorem nG_5 (a b c d e f x : Nat) : ∀ i, i < 6 → upd (nG a b c d e f) 5 (nI x) i = nG a b c d e x i := nG_u5 a b c d e f x _ (fun _ _ => rfl)
theorem nG_0 : ∀ i, i < 6 → (fun _ : Nat => nI 0) i = nG 0 0 0 0 0 0 i := by
  intro i _
  unfold nG
  repeat' split
  all_goals rfl
/-- what is saved: at most six -/
def hs (f : Nat) : Nat := if f < 6 then f + 1 else f
theorem hs_a {f : Nat} (h : f < 6) : hs f = f + 1 := if_pos h
theorem hs_b {f : Nat} (h : ¬ f < 6) : hs f = f := if_neg h
theorem sv_1 (h : Nat × (Nat → Sta)) (st : Sta) (h6 : h.1 ≤ 6) : (saveH h st).1 = hs h.1 := by
  unfold saveH hs
  split
  · rfl
  · show 6 = h.1
    omega
def zR : Nat → ZP := fun _ => 0
def loR (r : Rws) : Rws := fun s => if s < 6 then r s else zR
def hiR (r : Rws) : Rws := fun s => if s < 6 then r (6 + s) else zR
theorem loR_at (r : Rws) {s : Nat} (h : s < 6) : loR r s = r s := if_pos h
theorem hiR_at (r : Rws) {s : Nat} (h : s < 6) : hiR r s = r (6 + s) := if_pos h
theorem loR_u (r : Rws) {t : Nat} (h : t < 6) (u : Nat → ZP) : va_up (loR r) t u = loR (va_up r t u) := by
  funext s
  unfold loR va_up
  by_cases e : s = t
  · subst e
    simp [h]
  · simp [e]
theorem hiR_u (r : Rws) {t : Nat} (h : t < 6) (u : Nat → ZP) : va_up (hiR r) t u = hiR (va_up r (6 + t) u) := by
  funext s
  unfold hiR va_up
  by_cases e : s = t
  · subst e
    simp [h]
  · have e2 : ¬ (6 + s = 6 + t) := by omega
    simp [e, e2]
theorem loR_k (r : Rws) (t : Nat) (u : Nat → ZP) : loR r = loR (va_up r (6 + t) u) := by
  funext s
  unfold loR va_up
  by_cases h : s < 6
  · have e : ¬ s = 6 + t := by omega
    simp [h, e]
  · simp [h]
theorem hiR_k (r : Rws) {t : Nat} (h : t < 6) (u : Nat → ZP) : hiR r = hiR (va_up r t u) := by
  funext s
  unfold hiR va_up
  by_cases h6 : s < 6
  · have e : ¬ 6 + s = t := by omega
    simp [h6, e]
  · simp [h6]
theorem pcF_congr {G : Gl} {A B : Nat → Nat → ZP} (h : ∀ p k, k < 7 → A p k = B p k) : pcF G A = pcF G B := by
  have e : pc A = pc B := by
    funext j
    unfold pc
    rw [h (j / 7) (j % 7) (by omega)]
  unfold pcF
  rw [e]
/-- flows: no constant, x once -/
def okFl (A : AB) : Prop := ∀ i, i < 6 → A.1.2.2.2.2.2 (6 + i) 0 = 0 ∧ A.1.2.2.2.2.2 (6 + i) 1 = 1
def LNQ (G : Gl) (F : Nat → va_E) (n fi fl : Nat) (A : AB) : Prop := F n = nE G A.1.1 A.1.2.1 A.1.2.2.1 A.1.2.2.2.1 A.1.2.2.2.2.1 A.2.1.1 ∧ F fi = pcF G (loR A.1.2.2.2.2.2) ∧ F fl = pcF G (hiR A.1.2.2.2.2.2)
def LWQ (G : Gl) (F : Nat → va_E) (ad : Nat → Nat) (n fi fl : Nat) (A : AB) : Prop := XW G F ad A ∧ okA A ∧ okFl A ∧ LNQ G F n fi fl A
def LSQ (L : List Nat) (ad : Nat → Nat) (n fi fl : Nat) : Prop := (∀ i, i < 166 → ad i ∈ L) ∧ (∀ i j, i < 166 → j < 166 → i ≠ j → ad i ≠ ad j) ∧ n ∈ L ∧ fi ∈ L ∧ fl ∈ L ∧ n ≠ fi ∧ n ≠ fl ∧ fi ≠ fl ∧ (∀ i, i < 166 → n ≠ ad i) ∧ (∀ i, i < 166 → fi ≠ ad i) ∧ (∀ i, i < 166 → fl ≠ ad i)
/-- the lowest power but x, from the top down -/
def l_lw (u : Nat → ZP) : Nat → Int32
  | 0 => -1
  | d + 1 => if 1 < 6 - d ∧ ¬ (u (6 - d)).val = 0 then nI (6 - d) else l_lw u d
theorem lw_no (u : Nat → ZP) {r : Nat} (h7 : r + 1 ≤ 7) (h : ¬ (1 < r ∧ ¬ (u r).val = 0)) : l_lw u (7 - (r + 1)) = l_lw u (7 - r) := by
  rw [show 7 - r = (7 - (r + 1)) + 1 by omega]
  show _ = if _ then _ else _
  rw [if_neg (by rw [show 6 - (7 - (r + 1)) = r by omega]; exact h)]
theorem lw_yes (u : Nat → ZP) {r : Nat} (h7 : r + 1 ≤ 7) (h : 1 < r ∧ ¬ (u r).val = 0) : nI r = l_lw u (7 - r) := by
  rw [show 7 - r = (7 - (r + 1)) + 1 by omega]
  show _ = if _ then _ else _
  rw [show 6 - (7 - (r + 1)) = r by omega, if_pos h]
theorem lw_end (u : Nat → ZP) : l_lw u (7 - 0) = lowR u := by
  have z : ∀ k : Nat, (decide (u k ≠ 0) = true) = (¬ (u k).val = 0) := by
    intro k
    simp only [decide_eq_true_eq, eq_iff_iff]
    exact not_congr ⟨fun h => by rw [h]; rfl, fun h => Fin.ext h⟩
  unfold lowR m_low
  simp only [z]
  simp [l_lw]
def putr (u w : Nat → ZP) (r : Nat) : Nat → ZP := fun j => if r ≤ j then u j else w j
theorem putr_7 (X : Rws) (t : Nat) (u : Nat → ZP) {G : Gl} : pcF G X = pcF G (va_up X t (putr u (X t) 7)) := pcF_congr (fun p k hk => by
  by_cases e : p = t
  · subst e
    rw [va_up_self]
    unfold putr
    rw [if_neg (by omega)]
  · rw [va_up_ne _ _ e])
theorem putr_s (X : Rws) (t r : Nat) (u : Nat → ZP) : va_up (va_up X t (putr u (X t) (r + 1))) t (va_up (va_up X t (putr u (X t) (r + 1)) t) r (u r)) = va_up X t (putr u (X t) r) := by
  rw [bx_uu, va_up_self]
  congr 1
  funext j
  unfold putr
  by_cases e : j = r
  · subst e
    rw [va_up_self, if_pos (Nat.le_refl _)]
  · rw [va_up_ne _ _ e]
    have h : (r + 1 ≤ j) = (r ≤ j) := by simp only [eq_iff_iff]; omega
    simp only [h]
theorem putr_0 (X : Rws) (t : Nat) (u : Nat → ZP) : va_up X t (putr u (X t) 0) = va_up X t u := by
  congr 1
section LROWS2
variable {p : Program} {l : Launch} {e : Env} {R : Room} {s : State} {m : MethodId} {args : Array Value} {below : List Frame} {meth : Method} {c : Code} {H : Heap} {locs : List Loc} {cells slots : Nat} {Q : State → Prop}
variable {cc : ByteArray} {nL : Nat} {own : String} {pc9 : Nat} {ls : Array Slot} {rest : List Value} {G : Gl} {L : List Nat} {F : Nat → va_E} {a : Nat}
theorem q_pst42 (C0 : Cx p s m args c cc nL own G L) (hw : wD G L F s H locs) (ha : a ∈ L) {pl : Nat → Nat → ZP} (he : F a = pcF G pl) (r k : Nat) (hr : r < 6) (hk : k < 7) {z : ZP} (hdg : decode cc pc9 = .ok (.iastore, 1))
    (kk : ∀ (F' : Nat → va_E) (H1 : Heap) (locs1 : List Loc), wD G L F' s H1 locs1 → F' a = pcF G (va_up pl r (va_up (pl r) k z)) → (∀ q, q ≠ a → F' q = F q) → W p l e R s m args below meth c H1 locs1 cells slots Q (F0 m (pc9 + 1) ls rest)) : W p l e R s m args below meth c H locs cells slots Q (F0 m pc9 ls (.int (nI z.val) :: .int (nI (7 * r + k)) :: .ref a :: rest)) := q_iast C0 hw ha he (7 * r + k) (by omega) (by decide) hdg (fun F' H1 locs1 hw1 h2 ho => kk F' H1 locs1 hw1 (h2.trans (by rw [pc_upd pl r k hk z])) ho)
/-- an array of numbers by another that agrees at its places -/
theorem wD.canonE {N : Nat} {d : ClassId} {f g : Nat → Int32} (hw : wD G L F s H locs) (ha : F a = .inl (d, N, .inl f)) (h : ∀ k, k < N → f k = g k) : ∃ F', wD G L F' s H locs ∧ F' a = .inl (d, N, .inl g) ∧ ∀ q, q ≠ a → F' q = F q :=
  ⟨_, hw.canon ha h, va_up_self _ _ _, fun _ hq => va_up_ne _ _ hq⟩
end LROWS2
