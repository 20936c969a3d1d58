/-! above the cut a field's coefficients are 0: density is from 0 to 1 -/
def hiZ (cu : Nat) (u : Nat → ZP) : Prop := ∀ k, cu < k → u k = 0
def okC (st : Sta) : Prop := ∀ i, i < 6 → hiZ st.1 (st.2.2.2.2.2 i)
def okCA (A : AB) : Prop := okC A.1 ∧ (∀ i, i < A.2.1.1 → okC (A.2.1.2 i)) ∧ ∀ j, j < 2 → (A.2.2.1 j).1 = true → ∀ i, i < 6 → hiZ (A.2.2.1 j).2.1 ((A.2.2.1 j).2.2 i)
theorem hi_br (f g : Nat → ZP) (cu : Nat) : hiZ cu (m_br f g cu) := by
  intro k hk
  have h1 : ¬ (2 ≤ k ∧ k ≤ cu) := by omega
  simp [m_br, m_am, m_act, h1, z_0m, z_m0, z_a0, z_0a, z_m1]
theorem hi_add {cu : Nat} {u v : Nat → ZP} (h1 : hiZ cu u) (h2 : hiZ cu v) : hiZ cu (m_add u v) := fun k hk => add_lo (h1 k hk) (h2 k hk)
theorem hi_am {cu : Nat} {u v : Nat → ZP} (z : ZP) (h1 : hiZ cu u) (h2 : hiZ cu v) : hiZ cu (m_am u v z) := fun k hk => am_lo z (h1 k hk) (h2 k hk)
theorem hi_scale {cu : Nat} {u : Nat → ZP} (z : ZP) (h1 : hiZ cu u) : hiZ cu (m_scale u z) := fun k hk => scale_lo z (h1 k hk)
theorem hi_way {cu : Nat} {a b : Nat → ZP} (h1 : hiZ cu a) (h2 : hiZ cu b) : hiZ cu (m_way a b 5 cu) := by
  have e2 : hiZ cu (m_way2 a b) := hi_add h1 h2
  have e3 : hiZ cu (m_way3 a b cu) := hi_am _ e2 (hi_br _ _ _)
  have e4 : hiZ cu (m_way4 a b cu) := hi_am _ (hi_am _ e3 (hi_br _ _ _)) (hi_br _ _ _)
  have e5 : hiZ cu (m_way5 a b cu) := hi_am _ e4 (hi_br _ _ _)
  exact e5
theorem hi_push (u f : Nat → ZP) (cu : Nat) : hiZ cu (m_push u f cu) := fun _ hk => m_hn_hi _ _ _ _ hk
theorem hi_log (u : Nat → ZP) {cu : Nat} (h : 1 ≤ cu) : hiZ cu (m_log u cu) := fun k hk => lon_hi u (cu - 1) k (by omega)
theorem okC_up {cu t : Nat} {r : Rws} {u : Nat → ZP} (h : ∀ i, i < 6 → hiZ cu (r i)) (hu : t < 6 → hiZ cu u) : ∀ i, i < 6 → hiZ cu (va_up r t u i) := by
  intro i hi
  by_cases e : i = t
  · subst e
    rw [va_up_self]
    exact hu hi
  · rw [va_up_ne _ _ e]
    exact h i hi
theorem okC_gen {un t : Nat} {u : Nat → ZP} {st : Sta} (h : okC st) (hu : t < 6 → hiZ st.1 u) : okC (genS un t u st) := okC_up h hu
theorem okC_row {t : Nat} {u : Nat → ZP} {st : Sta} (h : okC st) (hu : t < 6 → hiZ st.1 u) : okC (rowS t u st) := okC_up h hu
theorem okC_cut {c : Nat} {st : Sta} : okC (cutS c st) := fun i _ k hk => if_pos hk
theorem okC_earn {m : Nat} {st : Sta} (h : okC st) : okC (earnS m st) := h
theorem okC_ord {lt f g to : Nat} {st : Sta} (hl : isOrd lt) (hf : f < 6) (hg : g < 6) (hc : 1 ≤ st.1) (h : okC st) : okC (ordS lt f g to st) := by
  refine okC_up h ?_
  intro ht
  rcases hl with rfl | rfl | rfl | rfl | rfl | rfl | rfl | rfl
  · exact hi_br (st.2.2.2.2.2 f) (st.2.2.2.2.2 g) st.1
  · exact hi_add (h f hf) (h g hg)
  · exact hi_way (h f hf) (h g hg)
  · exact hi_push (st.2.2.2.2.2 (6 + f)) (st.2.2.2.2.2 g) st.1
  · exact hi_log (st.2.2.2.2.2 (6 + f)) hc
  · exact absurd ht (by unfold ordT; simp)
  · exact absurd ht (by unfold ordT; simp)
  · exact absurd ht (by unfold ordT; simp)
theorem okCH_save {h : Nat × (Nat → Sta)} {st : Sta} (ho : ∀ i, i < h.1 → okC (h.2 i)) (h6 : h.1 ≤ 6) (hs : okC st) : ∀ i, i < (saveH h st).1 → okC ((saveH h st).2 i) := by
  unfold saveH
  split
  · rename_i h1
    intro i hi
    have hi2 : i < h.1 + 1 := hi
    show okC (if i = h.1 then st else h.2 i)
    split
    · exact hs
    · exact ho i (by omega)
  · intro i hi
    have hi2 : i < 6 := hi
    show okC (if i = 5 then st else h.2 (i + 1))
    split
    · exact hs
    · exact ho (i + 1) (by omega)
theorem okCA_save {A : AB} {st : Sta} (hA : okA A) (hC : okCA A) (hs : okC st) : okCA (aSave A st) := ⟨hs, okCH_save hC.2.1 hA.2.1.1 hC.1, hC.2.2⟩
theorem okCA_take {A : AB} (j : Nat) (hC : okCA A) : okCA (A.1, A.2.1, takeN j A.1.1 A.1.2.2.2.2.2 A.2.2.1, A.2.2.2) := by
  refine ⟨hC.1, hC.2.1, ?_⟩
  intro i hi
  show (takeN j A.1.1 A.1.2.2.2.2.2 A.2.2.1 i).1 = true → ∀ i9, i9 < 6 → hiZ (takeN j A.1.1 A.1.2.2.2.2.2 A.2.2.1 i).2.1 ((takeN j A.1.1 A.1.2.2.2.2.2 A.2.2.1 i).2.2 i9)
  unfold takeN
  by_cases e : i = j
  · rw [if_pos e]
    intro _
    exact hC.1
  · rw [if_neg e]
    exact hC.2.2 i hi
theorem okCA_restore {A : AB} {j : Nat} (hj : j < 2) (hA : okA A) (hC : okCA A) (ht : (A.2.2.1 j).1 = true) : okCA (aSave A (shpS (A.2.2.1 j).2.1 (A.2.2.1 j).2.2 A.1)) := okCA_save hA hC (hC.2.2 j hj ht)
theorem okCA_undo {A : AB} {k : Nat} (hC : okCA A) (hk : A.2.1.1 = k + 1) : okCA (A.2.1.2 k, (k, A.2.1.2), A.2.2) := ⟨hC.2.1 k (by omega), fun i hi => hC.2.1 i (by have hi2 : i < k := hi; omega), hC.2.2⟩
