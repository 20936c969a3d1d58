/-! the component's cells, as one list of addresses -/
theorem shp_at {s : State} {H : Heap} {locs : List Loc} {G : Gl} {L : List Nat} {F : Nat → va_E} {n ad : Nat → Nat} {tb cu : Nat} {r : Rws} (hw : wD G L F s H locs) (h : shp G F n 0 cu r) (e : ∀ i, 1 ≤ i → i < 16 → ad (tb + i) = n i) (hj : ∀ i j, 1 ≤ i → i < 16 → 1 ≤ j → j < 16 → i ≠ j → n i ≠ n j) : ∃ F', wD G L F' s H locs ∧ shp G F' ad tb cu r ∧ ∀ q, q ≠ n 2 → q ≠ n 3 → F' q = F q := by
  obtain ⟨h1, h2, h3, h4⟩ := h
  have z : ∀ k i, n (0 + k + i) = n (k + i) := fun k i => by rw [Nat.zero_add]
  have e4 : ∀ i, i < 12 → ad (tb + 4 + i) = n (4 + i) := fun i hi => by rw [Nat.add_assoc]; exact e (4 + i) (by omega) (by omega)
  obtain ⟨F2, hw2, f2, o2⟩ := hw.canonqE (a := n 2) h2 (g := fun i => some (ad (tb + 4 + i))) (fun k hk => congrArg some ((z 4 k).trans (e4 k (by omega)).symm))
  have h3b : F2 (n 3) = oE G (fun i => n (0 + 10 + i)) := (o2 _ (hj 3 2 (by decide) (by decide) (by decide) (by decide) (by decide))).trans h3
  obtain ⟨F3, hw3, f3, o3⟩ := hw2.canonqE (a := n 3) h3b (g := fun i => some (ad (tb + 10 + i))) (fun k hk => congrArg some ((z 10 k).trans (by rw [show tb + 10 + k = tb + (10 + k) by omega]; exact (e (10 + k) (by omega) (by omega)).symm)))
  refine ⟨F3, hw3, ⟨?_, ?_, ?_, fun i hi => ?_⟩, fun q q2 q3 => (o3 q q3).trans (o2 q q2)⟩
  · rw [e 1 (by decide) (by decide), e 2 (by decide) (by decide), e 3 (by decide) (by decide)]
    exact (o3 _ (hj 1 3 (by decide) (by decide) (by decide) (by decide) (by decide))).trans ((o2 _ (hj 1 2 (by decide) (by decide) (by decide) (by decide) (by decide))).trans h1)
  · rw [e 2 (by decide) (by decide)]
    exact (o3 _ (hj 2 3 (by decide) (by decide) (by decide) (by decide) (by decide))).trans f2
  · rw [e 3 (by decide) (by decide)]
    exact f3
  · rw [e4 i hi]
    have h9 := h4 i hi
    rw [z] at h9
    exact (o3 _ (hj (4 + i) 3 (by omega) (by omega) (by decide) (by decide) (by omega))).trans ((o2 _ (hj (4 + i) 2 (by omega) (by omega) (by decide) (by decide) (by omega))).trans h9)
theorem shps_at {s : State} {H : Heap} {locs : List Loc} {G : Gl} {L : List Nat} {F : Nat → va_E} {N : Nat → Nat → Nat} {ad : Nat → Nat} (hw : wD G L F s H locs) (hin : ∀ i j, i < 166 → j < 166 → i ≠ j → ad i ≠ ad j) (h : ∀ k, k < 9 → shp G F (N k) 0 5 r0) (e : ∀ k i, k < 9 → 1 ≤ i → i < 16 → ad (22 + 16 * k + i) = N k i) : ∀ m, m ≤ 9 → ∃ F', wD G L F' s H locs ∧ (∀ k, k < m → shp G F' ad (22 + 16 * k) 5 r0) ∧ (∀ k, m ≤ k → k < 9 → shp G F' (N k) 0 5 r0) ∧ ∀ q, (∀ k, k < m → q ≠ ad (22 + 16 * k + 2) ∧ q ≠ ad (22 + 16 * k + 3)) → F' q = F q := by
  intro m
  induction m with
  | zero => exact fun _ => ⟨F, hw, fun k hk => absurd hk (Nat.not_lt_zero k), fun k _ hk => h k hk, fun q _ => rfl⟩
  | succ m ih =>
    intro hm
    obtain ⟨F1, hw1, h1, h2, h3⟩ := ih (by omega)
    obtain ⟨F2, hw2, g1, g2⟩ := shp_at (ad := ad) (tb := 22 + 16 * m) hw1 (h2 m (Nat.le_refl m) (by omega)) (fun i a b => e m i (by omega) a b) (fun i j a b c d hne => by rw [← e m i (by omega) a b, ← e m j (by omega) c d]; exact hin _ _ (by omega) (by omega) (by omega))
    refine ⟨F2, hw2, fun k hk => ?_, fun k hk1 hk2 => ?_, fun q hq => ?_⟩
    · by_cases ek : k = m
      · rw [ek]
        exact g1
      · refine (h1 k (by omega)).keep (fun i hi => g2 _ ?_ ?_)
        · rw [← e m 2 (by omega) (by decide) (by decide)]; exact hin _ _ (by omega) (by omega) (by omega)
        · rw [← e m 3 (by omega) (by decide) (by decide)]; exact hin _ _ (by omega) (by omega) (by omega)
    · refine (h2 k (by omega) hk2).keep (fun i hi => g2 _ ?_ ?_)
      · rw [← e m 2 (by omega) (by decide) (by decide), ← e k i hk2 (by omega) (by omega)]; exact hin _ _ (by omega) (by omega) (by omega)
      · rw [← e m 3 (by omega) (by decide) (by decide), ← e k i hk2 (by omega) (by omega)]; exact hin _ _ (by omega) (by omega) (by omega)
    · have a1 := hq m (Nat.lt_succ_self m)
      rw [e m 2 (by omega) (by decide) (by decide), e m 3 (by omega) (by decide) (by decide)] at a1
      exact (g2 q a1.1 a1.2).trans (h3 q (fun k hk => hq k (by omega)))
def lfN (n0 : Nat → Nat) (nn : Nat → Nat → Nat) (s0 s1 : Nat → Nat) (k i : Nat) : Nat := if k = 0 then n0 i else if k < 7 then nn (k - 1) i else if k = 7 then s0 i else s1 i
def lfA (a xh xs x3 x4 xt xc xr y0 y1 : Nat) (nr n0 : Nat → Nat) (nn : Nat → Nat → Nat) (s0 s1 : Nat → Nat) (i : Nat) : Nat := if i = 0 then a else if i = 1 then xh else if i = 2 then xs else if i = 3 then x3 else if i = 4 then x4 else if i = 5 then xt else if i = 6 then xc else if i = 7 then xr else if i < 22 then nr (i - 8) else if i = 134 then y0 else if i = 150 then y1 else lfN n0 nn s0 s1 ((i - 22) / 16) ((i - 22) % 16)
section LF
variable {a xh xs x3 x4 xt xc xr y0 y1 : Nat} {nr n0 s0 s1 : Nat → Nat} {nn : Nat → Nat → Nat}
theorem lf_r {i : Nat} (h : i < 14) : lfA a xh xs x3 x4 xt xc xr y0 y1 nr n0 nn s0 s1 (8 + i) = nr i := by
  unfold lfA
  rw [if_neg (by omega), if_neg (by omega), if_neg (by omega), if_neg (by omega), if_neg (by omega), if_neg (by omega), if_neg (by omega), if_neg (by omega), if_pos (by omega), Nat.add_sub_cancel_left]
theorem lf_n {k i : Nat} (hk : k < 9) (hi : i < 16) (h : k < 7 ∨ 1 ≤ i) : lfA a xh xs x3 x4 xt xc xr y0 y1 nr n0 nn s0 s1 (22 + 16 * k + i) = lfN n0 nn s0 s1 k i := by
  unfold lfA
  rw [if_neg (by omega), if_neg (by omega), if_neg (by omega), if_neg (by omega), if_neg (by omega), if_neg (by omega), if_neg (by omega), if_neg (by omega), if_neg (by omega), if_neg (by omega), if_neg (by omega), show (22 + 16 * k + i - 22) / 16 = k by omega, show (22 + 16 * k + i - 22) % 16 = i by omega]
theorem lf_cat {i : Nat} (hi : i < 166) : (i < 8 ∨ i = 134 ∨ i = 150) ∨ (∃ r, r < 14 ∧ i = 8 + r) ∨ (∃ k r, k < 9 ∧ r < 16 ∧ (k < 7 ∨ 1 ≤ r) ∧ i = 22 + 16 * k + r) := by
  by_cases h8 : i < 8 ∨ i = 134 ∨ i = 150
  · exact Or.inl h8
  · by_cases h22 : i < 22
    · exact Or.inr (Or.inl ⟨i - 8, by omega, by omega⟩)
    · exact Or.inr (Or.inr ⟨(i - 22) / 16, (i - 22) % 16, by omega, by omega, by omega, by omega⟩)
/-- a number that grows with the place: a bound from below and above for every cell -/
def lfK (i : Nat) : Nat := if i = 0 then 0 else if i = 1 then 2 else if i = 2 then 3 else if i = 3 then 10 else if i = 4 then 13 else if i = 5 then 14 else if i = 6 then 15 else if i = 7 then 16 else if i < 22 then 17 else if i = 134 then 18 else if i = 150 then 19 else if i < 38 then 1 else if i < 134 then 4 + (i - 38) / 16 else if i < 150 then 11 else 12
def lfB (a xh xs x3 x4 xt xc xr y0 y1 : Nat) (nr n0 : Nat → Nat) (nn : Nat → Nat → Nat) (s0 s1 : Nat → Nat) (B : Nat → Nat) : Prop := (∀ i, i < 166 → B (lfK i) ≤ lfA a xh xs x3 x4 xt xc xr y0 y1 nr n0 nn s0 s1 i ∧ lfA a xh xs x3 x4 xt xc xr y0 y1 nr n0 nn s0 s1 i < B (lfK i + 1))
theorem lf_inj {B : Nat → Nat} (hB : ∀ k, k < 20 → B k ≤ B (k + 1)) (h : lfB a xh xs x3 x4 xt xc xr y0 y1 nr n0 nn s0 s1 B) (hr : ∀ i j, i < 14 → j < 14 → i ≠ j → nr i ≠ nr j) (hN : ∀ k i j, k < 9 → i < 16 → j < 16 → (k < 7 ∨ 1 ≤ i) → (k < 7 ∨ 1 ≤ j) → i ≠ j → lfN n0 nn s0 s1 k i ≠ lfN n0 nn s0 s1 k j) : ∀ i j, i < 166 → j < 166 → i ≠ j → lfA a xh xs x3 x4 xt xc xr y0 y1 nr n0 nn s0 s1 i ≠ lfA a xh xs x3 x4 xt xc xr y0 y1 nr n0 nn s0 s1 j := by
  have mono : ∀ d k, k + d ≤ 20 → B k ≤ B (k + d) := by
    intro d
    induction d with
    | zero => exact fun k _ => Nat.le_refl _
    | succ d ih => exact fun k hk => Nat.le_trans (ih k (by omega)) (hB (k + d) (by omega))
  have k20 : ∀ i, i < 166 → lfK i < 20 := by decide +kernel
  have lt : ∀ i j, i < 166 → j < 166 → lfK i < lfK j → lfA a xh xs x3 x4 xt xc xr y0 y1 nr n0 nn s0 s1 i < lfA a xh xs x3 x4 xt xc xr y0 y1 nr n0 nn s0 s1 j := by
    intro i j hi hj hk
    have h1 := (h i hi).2
    have h2 := (h j hj).1
    have h3 := mono (lfK j - (lfK i + 1)) (lfK i + 1) (by have := k20 j hj; omega)
    rw [show lfK i + 1 + (lfK j - (lfK i + 1)) = lfK j by omega] at h3
    omega
  intro i j hi hj hne
  rcases Nat.lt_trichotomy (lfK i) (lfK j) with hk | hk | hk
  · have := lt i j hi hj hk
    omega
  · have dec : ∀ i : Fin 166, ∀ j : Fin 166, lfK i.val = lfK j.val → i.val ≠ j.val → (8 ≤ i.val ∧ i.val < 22 ∧ 8 ≤ j.val ∧ j.val < 22) ∨ ((i.val - 22) / 16 = (j.val - 22) / 16 ∧ 22 ≤ i.val ∧ 22 ≤ j.val ∧ i.val ≠ 134 ∧ j.val ≠ 134 ∧ i.val ≠ 150 ∧ j.val ≠ 150) := by decide +kernel
    rcases dec ⟨i, hi⟩ ⟨j, hj⟩ hk hne with ⟨a1, a2, a3, a4⟩ | ⟨a1, a2, a3, a4, a5, a6, a7⟩
    · simp only at a1 a2 a3 a4
      rw [show i = 8 + (i - 8) by omega, show j = 8 + (j - 8) by omega, lf_r (by omega), lf_r (by omega)]
      exact hr _ _ (by omega) (by omega) (by omega)
    · simp only at a1 a2 a3 a4 a5 a6 a7
      have b1 : (i - 22) / 16 < 9 := by omega
      rw [show i = 22 + 16 * ((i - 22) / 16) + (i - 22) % 16 by omega, show j = 22 + 16 * ((i - 22) / 16) + (j - 22) % 16 by omega, lf_n b1 (by omega) (by omega), lf_n b1 (by omega) (by omega)]
      exact hN _ _ _ b1 (by omega) (by omega) (by omega) (by omega) (by omega)
  · have := lt j i hj hi hk
    omega
end LF
section LF2
variable {a xh xs x3 x4 xt xc xr y0 y1 p0 q0 q1 : Nat} {nr n0 s0 s1 : Nat → Nat} {nn : Nat → Nat → Nat}
def lfBf (a p0 xh xs : Nat) (nn : Nat → Nat → Nat) (x3 q0 q1 x4 xt xc xr y0 y1 : Nat) (k : Nat) : Nat := if k = 0 then a else if k = 1 then p0 else if k = 2 then xh else if k = 3 then xs else if k < 10 then nn (k - 4) 0 else if k = 10 then x3 else if k = 11 then q0 else if k = 12 then q1 else if k = 13 then x4 else if k = 14 then xt else if k = 15 then xc else if k = 16 then xr else if k = 17 then xr + 1 else if k = 18 then y0 else if k = 19 then y1 else y1 + 1
theorem lfK_r {r : Nat} (h : r < 14) : lfK (8 + r) = 17 := by
  unfold lfK
  rw [if_neg (by omega), if_neg (by omega), if_neg (by omega), if_neg (by omega), if_neg (by omega), if_neg (by omega), if_neg (by omega), if_neg (by omega), if_pos (by omega)]
theorem lfK_n {k r : Nat} (hk : k < 9) (hr : r < 16) (h : k < 7 ∨ 1 ≤ r) : lfK (22 + 16 * k + r) = if k = 0 then 1 else if k < 7 then 4 + (k - 1) else if k = 7 then 11 else 12 := by
  unfold lfK
  rw [if_neg (by omega), if_neg (by omega), if_neg (by omega), if_neg (by omega), if_neg (by omega), if_neg (by omega), if_neg (by omega), if_neg (by omega), if_neg (by omega), if_neg (by omega), if_neg (by omega)]
  by_cases e0 : k = 0
  · rw [if_pos (by omega), if_pos e0]
  · rw [if_neg (by omega), if_neg e0]
    by_cases e7 : k < 7
    · rw [if_pos (by omega), if_pos e7, show (22 + 16 * k + r - 38) / 16 = k - 1 by omega]
    · rw [if_neg (by omega), if_neg e7]
      by_cases e8 : k = 7
      · rw [if_pos (by omega), if_pos e8]
      · rw [if_neg (by omega), if_neg e8]
theorem lf_B (h0 : a < p0) (hn0 : ∀ i, i < 16 → p0 ≤ n0 i ∧ n0 i < xh) (hxs : xh < xs) (hnn : ∀ k i, k < 6 → i < 16 → xs < nn k i ∧ nn k i < x3) (hnl : ∀ k i, k < 6 → i < 16 → nn k 0 ≤ nn k i) (ho : ∀ k k2 i j, k < k2 → k2 < 6 → i < 16 → j < 16 → nn k i < nn k2 j) (h3 : x3 < q0) (hs0 : ∀ i, 1 ≤ i → i < 16 → q0 ≤ s0 i ∧ s0 i < q1) (hs1 : ∀ i, 1 ≤ i → i < 16 → q1 ≤ s1 i ∧ s1 i < x4) (h4 : x4 < xt) (h5 : xt < xc) (h6 : xc < xr) (hnr : ∀ i, i < 14 → xr < nr i ∧ nr i < y0) (hy : y0 < y1) :
    lfB a xh xs x3 x4 xt xc xr y0 y1 nr n0 nn s0 s1 (lfBf a p0 xh xs nn x3 q0 q1 x4 xt xc xr y0 y1) ∧ ∀ k, k < 20 → lfBf a p0 xh xs nn x3 q0 q1 x4 xt xc xr y0 y1 k ≤ lfBf a p0 xh xs nn x3 q0 q1 x4 xt xc xr y0 y1 (k + 1) := by
  have n00 := hn0 0 (by decide)
  have s01 := hs0 1 (by decide) (by decide)
  have s11 := hs1 1 (by decide) (by decide)
  have r00 := hnr 0 (by decide)
  refine ⟨fun i hi => ?_, fun k hk => ?_⟩
  · rcases lf_cat hi with h | ⟨r, hr, rfl⟩ | ⟨k, r, hk, hr, hkr, rfl⟩
    · rcases (show i = 0 ∨ i = 1 ∨ i = 2 ∨ i = 3 ∨ i = 4 ∨ i = 5 ∨ i = 6 ∨ i = 7 ∨ i = 134 ∨ i = 150 by omega) with rfl | rfl | rfl | rfl | rfl | rfl | rfl | rfl | rfl | rfl
      · exact ⟨Nat.le_refl _, h0⟩
      · exact ⟨Nat.le_refl _, hxs⟩
      · exact ⟨Nat.le_refl _, (hnn 0 0 (by decide) (by decide)).1⟩
      · exact ⟨Nat.le_refl _, h3⟩
      · exact ⟨Nat.le_refl _, h4⟩
      · exact ⟨Nat.le_refl _, h5⟩
      · exact ⟨Nat.le_refl _, h6⟩
      · exact ⟨Nat.le_refl _, Nat.lt_succ_self _⟩
      · exact ⟨Nat.le_refl _, hy⟩
      · exact ⟨Nat.le_refl _, Nat.lt_succ_self _⟩
    · rw [lfK_r hr, lf_r hr]
      have := hnr r hr
      exact ⟨this.1, this.2⟩
    · rw [lfK_n hk hr hkr, lf_n hk hr hkr]
      unfold lfN
      by_cases e0 : k = 0
      · rw [if_pos e0, if_pos e0]
        exact hn0 r hr
      · rw [if_neg e0, if_neg e0]
        by_cases e7 : k < 7
        · rw [if_pos e7, if_pos e7]
          unfold lfBf
          rw [if_neg (by omega), if_neg (by omega), if_neg (by omega), if_neg (by omega), if_pos (by omega), show 4 + (k - 1) - 4 = k - 1 by omega]
          refine ⟨hnl (k - 1) r (by omega) hr, ?_⟩
          rw [if_neg (by omega), if_neg (by omega), if_neg (by omega), if_neg (by omega)]
          by_cases e6 : k = 6
          · rw [if_neg (by omega), if_pos (by omega)]
            exact (hnn (k - 1) r (by omega) hr).2
          · rw [if_pos (by omega), show 4 + (k - 1) + 1 - 4 = k by omega]
            exact ho (k - 1) k r 0 (by omega) (by omega) hr (by decide)
        · rw [if_neg e7, if_neg e7]
          by_cases e8 : k = 7
          · rw [if_pos e8, if_pos e8]
            exact hs0 r (by omega) hr
          · rw [if_neg e8, if_neg e8]
            exact hs1 r (by omega) hr
  · rcases (show k = 0 ∨ k = 1 ∨ k = 2 ∨ k = 3 ∨ (4 ≤ k ∧ k < 9) ∨ k = 9 ∨ k = 10 ∨ k = 11 ∨ k = 12 ∨ k = 13 ∨ k = 14 ∨ k = 15 ∨ k = 16 ∨ k = 17 ∨ k = 18 ∨ k = 19 by omega) with rfl | rfl | rfl | rfl | ⟨k1, k2⟩ | rfl | rfl | rfl | rfl | rfl | rfl | rfl | rfl | rfl | rfl | rfl
    · exact Nat.le_of_lt h0
    · show p0 ≤ xh
      omega
    · exact Nat.le_of_lt hxs
    · exact Nat.le_of_lt (hnn 0 0 (by decide) (by decide)).1
    · unfold lfBf
      rw [if_neg (by omega), if_neg (by omega), if_neg (by omega), if_neg (by omega), if_pos (by omega), if_neg (by omega), if_neg (by omega), if_neg (by omega), if_neg (by omega), if_pos (by omega)]
      exact Nat.le_of_lt (ho (k - 4) (k + 1 - 4) 0 0 (by omega) (by omega) (by decide) (by decide))
    · exact Nat.le_of_lt (hnn 5 0 (by decide) (by decide)).2
    · exact Nat.le_of_lt h3
    · show q0 ≤ q1
      omega
    · show q1 ≤ x4
      omega
    · exact Nat.le_of_lt h4
    · exact Nat.le_of_lt h5
    · exact Nat.le_of_lt h6
    · exact Nat.le_succ _
    · show xr + 1 ≤ y0
      omega
    · exact Nat.le_of_lt hy
    · exact Nat.le_succ _
end LF2
theorem lf_XW {s : State} {H : Heap} {locs : List Loc} {G : Gl} {L : List Nat} {F : Nat → va_E} {N : Nat → Nat → Nat} {ad nr : Nat → Nat} (hw : wD G L F s H locs) (hin : ∀ i j, i < 166 → j < 166 → i ≠ j → ad i ≠ ad j) (e : ∀ k i, k < 9 → i < 16 → (k < 7 ∨ 1 ≤ i) → ad (22 + 16 * k + i) = N k i) (er : ∀ i, i < 14 → ad (8 + i) = nr i)
    (h0 : F (ad 0) = xO ad) (h1 : F (ad 1) = hO (ad 2) 0) (h2 : ∃ f : Nat → Option Nat, F (ad 2) = .inl (G.2 3, 6, .inr (.inr (.inr (.inr f)))) ∧ ∀ i, i < 6 → f i = some (N (i + 1) 0)) (h3 : ∃ f : Nat → Option Nat, F (ad 3) = .inl (G.2 2, 2, .inr (.inr (.inr (.inr f)))) ∧ ∀ j, j < 2 → f j = some (N (7 + j) 1)) (h4 : F (ad 4) = .inl (G.2 1, 2, .inl (fun _ => nI 0))) (h5 : F (ad 5) = tO (ad 6) 0) (h6 : F (ad 6) = .inl (G.2 0, 60, .inl (fun _ => nI 0))) (h7 : F (ad 7) = rkO nr) (h8 : ∀ i, i < 14 → F (nr i) = rw7 G (fun _ => zc 0)) (h134 : F (ad 134) = rw7 G (fun _ => zc 0)) (h150 : F (ad 150) = rw7 G (fun _ => zc 0)) (hS : ∀ k, k < 7 → F (N k 0) = stO (N k 1) 500 0 0 0) (hN : ∀ k, k < 9 → shp G F (N k) 0 5 r0) :
    ∃ F', wD G L F' s H locs ∧ XW G F' ad A0 ∧ ∀ q, (∀ i, i < 166 → 0 < i → q ≠ ad i) → F' q = F q := by
  obtain ⟨F1, hw1, g1, -, g3⟩ := shps_at (ad := ad) hw hin hN (fun k i hk h1 h2 => e k i hk h2 (Or.inr h1)) 9 (Nat.le_refl 9)
  have fr : ∀ i, i < 166 → (∀ k, k < 9 → i ≠ 22 + 16 * k + 2 ∧ i ≠ 22 + 16 * k + 3) → F1 (ad i) = F (ad i) := fun i hi hk => g3 _ (fun k hk9 => ⟨hin _ _ hi (by omega) (hk k hk9).1, hin _ _ hi (by omega) (hk k hk9).2⟩)
  obtain ⟨f2, a2, b2⟩ := h2
  obtain ⟨f3, a3, b3⟩ := h3
  obtain ⟨F2, hw2, c2, d2⟩ := hw1.canonqE (a := ad 2) ((fr 2 (by decide) (fun k hk => by omega)).trans a2) (g := fun i => some (ad (22 + 16 * (i + 1)))) (fun i hi => (b2 i hi).trans (congrArg some (e (i + 1) 0 (by omega) (by decide) (by omega)).symm))
  have c3 : F2 (ad 3) = .inl (G.2 2, 2, .inr (.inr (.inr (.inr f3)))) := (d2 _ (hin 3 2 (by decide) (by decide) (by decide))).trans ((fr 3 (by decide) (fun k hk => by omega)).trans a3)
  obtain ⟨F3, hw3, c4, d3⟩ := hw2.canonqE (a := ad 3) c3 (g := fun j => some (ad (135 + 16 * j))) (fun j hj => (b3 j hj).trans (congrArg some (by rw [show 135 + 16 * j = 22 + 16 * (7 + j) + 1 by omega]; exact (e (7 + j) 1 (by omega) (by decide) (Or.inr (Nat.le_refl 1))).symm)))
  have up : ∀ i, i < 166 → i ≠ 2 → i ≠ 3 → F3 (ad i) = F1 (ad i) := fun i hi n2 n3 => (d3 _ (hin i 3 hi (by decide) n3)).trans (d2 _ (hin i 2 hi (by decide) n2))
  have all : ∀ i, i < 166 → i ≠ 2 → i ≠ 3 → (∀ k, k < 9 → i ≠ 22 + 16 * k + 2 ∧ i ≠ 22 + 16 * k + 3) → F3 (ad i) = F (ad i) := fun i hi n2 n3 hk => (up i hi n2 n3).trans (fr i hi hk)
  have gs : ∀ k, k < 9 → shp G F3 ad (22 + 16 * k) 5 r0 := fun k hk => (g1 k hk).keep (fun i hi => up i (by omega) (by omega) (by omega))
  have st : ∀ k, k < 7 → sta G F3 ad (22 + 16 * k) st0 := fun k hk => ⟨by
    rw [all (22 + 16 * k) (by omega) (by omega) (by omega) (fun k2 hk2 => by omega), e k 1 (by omega) (by decide) (Or.inl hk)]
    have e9 := e k 0 (by omega) (by decide) (Or.inl hk)
    rw [Nat.add_zero] at e9
    rw [e9]
    exact hS k hk, gs k (by omega)⟩
  refine ⟨F3, hw3, ⟨(all 0 (by decide) (by decide) (by decide) (fun k hk => by omega)).trans h0, st 0 (by decide), ?_, ⟨c4, ?_, ?_⟩, ⟨(all 5 (by decide) (by decide) (by decide) (fun k hk => by omega)).trans h5, _, (all 6 (by decide) (by decide) (by decide) (fun k hk => by omega)).trans h6, fun i hi => absurd hi (Nat.not_lt_zero i), Nat.zero_le _⟩, ⟨?_, ?_⟩, ⟨_, (all 134 (by decide) (by decide) (by decide) (fun k hk => by omega)).trans h134⟩, ⟨_, (all 150 (by decide) (by decide) (by decide) (fun k hk => by omega)).trans h150⟩⟩, fun q hq => ?_⟩
  · exact ⟨fun i => i + 1, fun _ => st0, (all 1 (by decide) (by decide) (by decide) (fun k hk => by omega)).trans h1, (d3 _ (hin 2 3 (by decide) (by decide) (by decide))).trans c2, fun i hi => ⟨Nat.le_add_left 1 i, hi⟩, fun i j _ _ hne h9 => hne (Nat.succ.inj h9), fun i hi => st (i + 1) (by omega), fun i hi => absurd hi (Nat.not_lt_zero i), Nat.zero_le _⟩
  · exact (all 4 (by decide) (by decide) (by decide) (fun k hk => by omega)).trans h4
  · intro j hj
    refine ⟨5, r0, ?_, fun h9 => Bool.noConfusion h9⟩
    have h9 := gs (7 + j) (by omega)
    rw [show 22 + 16 * (7 + j) = 134 + 16 * j by omega] at h9
    exact h9
  · refine (all 7 (by decide) (by decide) (by decide) (fun k hk => by omega)).trans (h7.trans ?_)
    unfold rkO
    rw [← er 0 (by decide), ← er 1 (by decide), ← er 2 (by decide), ← er 3 (by decide), ← er 4 (by decide), ← er 5 (by decide), ← er 6 (by decide), ← er 7 (by decide), ← er 8 (by decide), ← er 9 (by decide), ← er 10 (by decide), ← er 11 (by decide), ← er 12 (by decide), ← er 13 (by decide)]
  · intro i hi
    exact ⟨_, (all (8 + i) (by omega) (by omega) (by omega) (fun k hk => by omega)).trans (by rw [er i hi]; exact h8 i hi)⟩
  · rw [d3 q (hq 3 (by decide) (by decide)), d2 q (hq 2 (by decide) (by decide))]
    exact g3 q (fun k hk => ⟨hq _ (by omega) (by omega), hq _ (by omega) (by omega)⟩)
