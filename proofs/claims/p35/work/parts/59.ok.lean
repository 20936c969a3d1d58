/-! what every call keeps of the abstract state: okA -/
theorem okR_up {r : Rws} {t : Nat} {u : Nat → ZP} (h : okR r) (hu : t < 6 → u 0 = 0 ∧ u 1 = 0) : okR (va_up r t u) := by
  intro i hi
  by_cases e : i = t
  · subst e
    rw [va_up_self]
    exact hu hi
  · rw [va_up_ne _ _ e]
    exact h i hi
theorem okR_cut {r : Rws} (c : Nat) (h : okR r) : okR (cutR c r) := by
  intro i hi
  obtain ⟨h0, h1⟩ := h i hi
  constructor
  · show (if c < 0 then 0 else r i 0) = 0
    split
    · rfl
    · exact h0
  · show (if c < 1 then 0 else r i 1) = 0
    split
    · rfl
    · exact h1
theorem okS_gen {un t : Nat} {u : Nat → ZP} {st : Sta} (h : okS st) (hu : t < 6 → u 0 = 0 ∧ u 1 = 0) : okS (genS un t u st) := ⟨h.1, h.2.1, by show st.2.1 - _ ≤ 100000; have := h.2.2.1; omega, okR_up h.2.2.2 hu⟩
theorem okS_row {t : Nat} {u : Nat → ZP} {st : Sta} (h : okS st) (hu : t < 6 → u 0 = 0 ∧ u 1 = 0) : okS (rowS t u st) := ⟨h.1, h.2.1, h.2.2.1, okR_up h.2.2.2 hu⟩
theorem okS_cut {c : Nat} {st : Sta} (h : okS st) (h2 : 2 ≤ c) (h6 : c ≤ 6) : okS (cutS c st) := ⟨h2, h6, h.2.2.1, okR_cut c h.2.2.2⟩
theorem okS_earn {m : Nat} {st : Sta} (h : okS st) (hm : st.2.1 + m ≤ 100000) : okS (earnS m st) := ⟨h.1, h.2.1, hm, h.2.2.2⟩
theorem okS_shp {cu : Nat} {r : Rws} {st : Sta} (h : okS st) (h2 : 2 ≤ cu) (h6 : cu ≤ 6) (hr : okR r) : okS (shpS cu r st) := ⟨h2, h6, h.2.2.1, hr⟩
theorem okS_ord {lt f g to : Nat} {st : Sta} (hl : isOrd lt) (hf : f < 6) (hg : g < 6) (h : okS st) : okS (ordS lt f g to st) := by
  refine ⟨h.1, h.2.1, by show st.2.1 - _ ≤ 100000; have := h.2.2.1; omega, okR_up h.2.2.2 ?_⟩
  intro ht
  have hF := h.2.2.2 f hf
  have hG := h.2.2.2 g hg
  rcases hl with rfl | rfl | rfl | rfl | rfl | rfl | rfl | rfl
  · exact ⟨br_lo _ _ _ (by omega), br_lo _ _ _ (by omega)⟩
  · exact ⟨add_lo hF.1 hG.1, add_lo hF.2 hG.2⟩
  · exact ⟨way_lo (a := st.2.2.2.2.2 f) (b := st.2.2.2.2.2 g) (y := 5) (cu := st.1) (k := 0) (by omega) hF.1 hG.1, way_lo (a := st.2.2.2.2.2 f) (b := st.2.2.2.2.2 g) (y := 5) (cu := st.1) (k := 1) (by omega) hF.2 hG.2⟩
  · exact ⟨push_lo (f := st.2.2.2.2.2 g) (st.2.2.2.2.2 (6 + f)) (cu := st.1) (k := 0) (by omega), push_lo (f := st.2.2.2.2.2 g) (st.2.2.2.2.2 (6 + f)) (cu := st.1) (k := 1) (by omega)⟩
  · exact ⟨log_lo _ _ (by omega), log_lo _ _ (by omega)⟩
  · exact absurd ht (by unfold ordT; simp)
  · exact absurd ht (by unfold ordT; simp)
  · exact absurd ht (by unfold ordT; simp)
theorem okH_save {h : Nat × (Nat → Sta)} {st : Sta} (h6 : h.1 ≤ 6) (ho : ∀ i, i < h.1 → okS (h.2 i)) (hs : okS st) : (saveH h st).1 ≤ 6 ∧ ∀ i, i < (saveH h st).1 → okS ((saveH h st).2 i) := by
  unfold saveH
  split
  · rename_i h1
    refine ⟨by show h.1 + 1 ≤ 6; omega, fun i hi => ?_⟩
    have hi2 : i < h.1 + 1 := hi
    show okS (if i = h.1 then st else h.2 i)
    split
    · exact hs
    · exact ho i (by omega)
  · refine ⟨Nat.le_refl 6, fun i hi => ?_⟩
    have hi2 : i < 6 := hi
    show okS (if i = 5 then st else h.2 (i + 1))
    split
    · exact hs
    · exact ho (i + 1) (by omega)
theorem okA_save {A : AB} {st : Sta} (hA : okA A) (hs : okS st) : okA (aSave A st) := ⟨hs, okH_save hA.2.1.1 hA.2.1.2 hA.1, hA.2.2⟩
theorem okA_take {A : AB} (j : Nat) (hA : okA A) : okA (A.1, A.2.1, takeN j A.1.1 A.1.2.2.2.2.2 A.2.2.1, A.2.2.2) := by
  refine ⟨hA.1, hA.2.1, ?_, hA.2.2.2⟩
  intro i hi
  show (takeN j A.1.1 A.1.2.2.2.2.2 A.2.2.1 i).1 = true → 2 ≤ (takeN j A.1.1 A.1.2.2.2.2.2 A.2.2.1 i).2.1 ∧ (takeN j A.1.1 A.1.2.2.2.2.2 A.2.2.1 i).2.1 ≤ 6 ∧ okR (takeN j A.1.1 A.1.2.2.2.2.2 A.2.2.1 i).2.2
  unfold takeN
  by_cases e : i = j
  · rw [if_pos e]
    intro _
    exact ⟨hA.1.1, hA.1.2.1, hA.1.2.2.2⟩
  · rw [if_neg e]
    exact hA.2.2.1 i hi
theorem okA_restore {A : AB} {j : Nat} (hj : j < 2) (hA : okA A) (ht : (A.2.2.1 j).1 = true) : okA (aSave A (shpS (A.2.2.1 j).2.1 (A.2.2.1 j).2.2 A.1)) := by
  obtain ⟨h1, h2, h3⟩ := hA.2.2.1 j hj ht
  exact okA_save hA (okS_shp hA.1 h1 h2 h3)
theorem okA_undo {A : AB} {k : Nat} (hA : okA A) (hk : A.2.1.1 = k + 1) : okA (A.2.1.2 k, (k, A.2.1.2), A.2.2) := ⟨hA.2.1.2 k (by omega), ⟨by show k ≤ 6; have := hA.2.1.1; omega, fun i hi => hA.2.1.2 i (by have hi2 : i < k := hi; omega)⟩, hA.2.2⟩
theorem okA_append {A : AB} {x : Nat} (hA : okA A) (h60 : A.2.2.2.1 < 60) (h1 : 33 ≤ x) (h2 : x ≤ 126) : okA (A.1, A.2.1, A.2.2.1, (A.2.2.2.1 + 1, va_up A.2.2.2.2 A.2.2.2.1 x)) := by
  refine ⟨hA.1, hA.2.1, hA.2.2.1, by show A.2.2.2.1 + 1 ≤ 60; omega, fun i hi => ?_⟩
  have hi2 : i < A.2.2.2.1 + 1 := hi
  show 33 ≤ va_up A.2.2.2.2 A.2.2.2.1 x i ∧ va_up A.2.2.2.2 A.2.2.2.1 x i ≤ 126
  by_cases e : i = A.2.2.2.1
  · rw [e, va_up_self]
    exact ⟨h1, h2⟩
  · rw [va_up_ne _ _ e]
    exact hA.2.2.2.2 i (by omega)
theorem okA_empty {A : AB} {st : Sta} {h : Nat × (Nat → Sta)} (g : Nat → Nat) (hA : okA A) (hs : okS st) (hh : h.1 ≤ 6 ∧ ∀ i, i < h.1 → okS (h.2 i)) : okA (st, h, A.2.2.1, (0, g)) := ⟨hs, hh, hA.2.2.1, Nat.zero_le _, fun i hi => absurd hi (Nat.not_lt_zero i)⟩
