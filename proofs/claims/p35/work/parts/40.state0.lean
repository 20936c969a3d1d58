/-! states, and where the component keeps them -/
abbrev Rws : Type := Nat → Nat → ZP
abbrev Sta : Type := Nat × Nat × Nat × Nat × Nat × Rws
abbrev oE (G : Gl) (f : Nat → Nat) : va_E := .inl (G.2 4, 6, .inr (.inr (.inr (.inr (fun i => some (f i))))))
abbrev shO (cu a b : Nat) : va_E := .inr (2, [.int (nI cu), .ref a, .ref b])
abbrev stO (a pu pd dn bk : Nat) : va_E := .inr (3, [.ref a, .int (nI pu), .int (nI pd), .int (nI dn), .int (nI bk)])
/-- a shape: its object at tb + 1, the outer arrays behind it, then the twelve rows -/
def shp (G : Gl) (F : Nat → va_E) (ad : Nat → Nat) (tb cu : Nat) (r : Rws) : Prop := F (ad (tb + 1)) = shO cu (ad (tb + 2)) (ad (tb + 3)) ∧ F (ad (tb + 2)) = oE G (fun i => ad (tb + 4 + i)) ∧ F (ad (tb + 3)) = oE G (fun i => ad (tb + 10 + i)) ∧ ∀ i, i < 12 → F (ad (tb + 4 + i)) = rw7 G (r i)
def sta (G : Gl) (F : Nat → va_E) (ad : Nat → Nat) (tb : Nat) (st : Sta) : Prop := F (ad tb) = stO (ad (tb + 1)) st.2.1 st.2.2.1 st.2.2.2.1 st.2.2.2.2.1 ∧ shp G F ad tb st.1 st.2.2.2.2.2
theorem shp.keep {G : Gl} {F F1 : Nat → va_E} {ad : Nat → Nat} {tb cu : Nat} {r : Rws} (h : shp G F ad tb cu r) (k : ∀ i, tb + 1 ≤ i ∧ i < tb + 16 → F1 (ad i) = F (ad i)) : shp G F1 ad tb cu r :=
  ⟨(k _ (by omega)).trans h.1, (k _ (by omega)).trans h.2.1, (k _ (by omega)).trans h.2.2.1, fun i hi => (k _ (by omega)).trans (h.2.2.2 i hi)⟩
theorem sta.keep {G : Gl} {F F1 : Nat → va_E} {ad : Nat → Nat} {tb : Nat} {st : Sta} (h : sta G F ad tb st) (k : ∀ i, tb ≤ i ∧ i < tb + 16 → F1 (ad i) = F (ad i)) : sta G F1 ad tb st :=
  ⟨(k _ (by omega)).trans h.1, h.2.keep (fun i hi => k i (by omega))⟩
/-- the rows of one, up to slot i, then of another -/
def mixR (a b : Rws) (i : Nat) : Rws := fun j => if j < i ∨ (6 ≤ j ∧ j < 6 + i) then b j else a j
def cutR (c : Nat) (r : Rws) : Rws := fun i k => if c < k then 0 else r i k
