/-! powers of a flow, one by one, and by its logarithm -/
theorem exp2 (f : Nat → ZP) : m_exp f 2 2 = f 2 := by
  simp [m_exp, m_exO, m_exT, m_am, m_scale, m_act, m_actc, m_sumc, m_x, m_iv, zc]
  grind
theorem exp3 (f : Nat → ZP) : m_exp f 3 3 = f 3 + f 2 * f 2 := by
  simp [m_exp, m_exO, m_exT, m_am, m_scale, m_act, m_actc, m_sumc, m_x, m_iv, zc]
  grind
theorem exp4 (f : Nat → ZP) : m_exp f 4 4 = f 4 + 5006 * f 2 * f 3 + f 2 * f 2 * f 2 := by
  simp [m_exp, m_exO, m_exT, m_am, m_scale, m_act, m_actc, m_sumc, m_x, m_iv, zc]
  grind
theorem exp5 (f : Nat → ZP) : m_exp f 5 5 = f 5 + 5005 * f 3 * f 3 + 3 * f 2 * f 4 + 3340 * f 2 * f 2 * f 3 + f 2 * f 2 * f 2 * f 2 := by
  simp [m_exp, m_exO, m_exT, m_am, m_scale, m_act, m_actc, m_sumc, m_x, m_iv, zc]
  grind
theorem exp6 (f : Nat → ZP) : m_exp f 6 6 = f 6 + 5007 * f 3 * f 4 + 5007 * f 2 * f 5 + 8345 * f 2 * f 3 * f 3 + 6 * f 2 * f 2 * f 4 + 4176 * f 2 * f 2 * f 2 * f 3 + f 2 * f 2 * f 2 * f 2 * f 2 := by
  simp [m_exp, m_exO, m_exT, m_am, m_scale, m_act, m_actc, m_sumc, m_x, m_iv, zc]
  grind
theorem sub2 (u v : Nat → ZP) (u0 : u 0 = 0) (u1 : u 1 = 1) : m_sub u v 2 2 = v 1 * u 2 + v 2 := by
  simp [m_sub, m_hn, m_mulc, m_mulS, u0, u1]
  grind
theorem sub3 (u v : Nat → ZP) (u0 : u 0 = 0) (u1 : u 1 = 1) : m_sub u v 3 3 = v 1 * u 3 + v 2 * (2 * u 2) + v 3 := by
  simp [m_sub, m_hn, m_mulc, m_mulS, u0, u1]
  grind
theorem sub4 (u v : Nat → ZP) (u0 : u 0 = 0) (u1 : u 1 = 1) : m_sub u v 4 4 = v 1 * u 4 + v 2 * (2 * u 3 + u 2 * u 2) + v 3 * (3 * u 2) + v 4 := by
  simp [m_sub, m_hn, m_mulc, m_mulS, u0, u1]
  grind
theorem sub5 (u v : Nat → ZP) (u0 : u 0 = 0) (u1 : u 1 = 1) : m_sub u v 5 5 = v 1 * u 5 + v 2 * (2 * u 4 + 2 * u 2 * u 3) + v 3 * (3 * u 3 + 3 * u 2 * u 2) + v 4 * (4 * u 2) + v 5 := by
  simp [m_sub, m_hn, m_mulc, m_mulS, u0, u1]
  grind
theorem sub6 (u v : Nat → ZP) (u0 : u 0 = 0) (u1 : u 1 = 1) : m_sub u v 6 6 = v 1 * u 6 + v 2 * (2 * u 5 + 2 * u 2 * u 4 + u 3 * u 3) + v 3 * (3 * u 4 + 6 * u 2 * u 3 + u 2 * u 2 * u 2) + v 4 * (4 * u 3 + 6 * u 2 * u 2) + v 5 * (5 * u 2) + v 6 := by
  simp [m_sub, m_hn, m_mulc, m_mulS, u0, u1]
  grind
theorem pn_low (u v : Nat → ZP) (u0 : u 0 = 0) (c p k : Nat) (h : p < k) : ∀ d, m_pn u v c (k + d) p = m_pn u v c k p
  | 0 => rfl
  | d + 1 => by
    have ih := pn_low u v u0 c p k h d
    show m_am (m_pn u v c (k + d)) (m_pw u c (k + d)) (v (k + d)) p = _
    unfold m_am
    rw [pw_low u c u0 (k + d) p (by omega), ih, z_0m, z_a0]
/-- below the cut a composition's coefficient doesn't know the cut -/
theorem sub_at (u v : Nat → ZP) (u0 : u 0 = 0) {c p : Nat} (h : p ≤ c) : m_sub u v c p = m_sub u v p p := by
  rw [← pi_eq, ← pi_eq]
  unfold m_pi
  rw [pn_cut u v (c := c) (c2 := p) h (Nat.le_refl p) (c + 1), show c + 1 = (p + 1) + (c - p) by omega]
  exact pn_low u v u0 p p (p + 1) (by omega) (c - p)
theorem sub_hi (u v : Nat → ZP) {c p : Nat} (h : c < p) : m_sub u v c p = 0 := m_hn_hi u v c (c + 1) h
theorem sub_0 (u v : Nat → ZP) (u0 : u 0 = 0) {c : Nat} : m_sub u v c 0 = v 0 := by
  rw [sub_at u v u0 (Nat.zero_le c)]
  simp [m_sub, m_hn, m_mulc, m_mulS, u0]
theorem sub_1 (u v : Nat → ZP) (u0 : u 0 = 0) (u1 : u 1 = 1) {c : Nat} (h : 1 ≤ c) : m_sub u v c 1 = v 1 := by
  rw [sub_at u v u0 h]
  simp [m_sub, m_hn, m_mulc, m_mulS, u0, u1, z_m1]
theorem exO_hi (f : Nat → ZP) {c p : Nat} (h : c < p) (h1 : 2 ≤ p) : ∀ n, m_exO f c n p = 0
  | 0 => by
    show m_x p = 0
    unfold m_x
    rw [if_neg (by omega)]
  | n + 1 => by
    have ih := exO_hi f h h1 n
    have h9 : ¬ (2 ≤ p ∧ p ≤ c) := by omega
    show m_am (m_exO f c n) (m_scale (m_act f (m_exT f c n) c) (m_iv (n + 1))) 1 p = 0
    simp only [m_am, m_scale, m_act, ih, if_neg h9, z_0m, z_a0]
theorem exp_hi (f : Nat → ZP) {c p : Nat} (h : c < p) (h1 : 2 ≤ p) : m_exp f c p = 0 := exO_hi f h h1 _
theorem exO_lo (f : Nat → ZP) {c p : Nat} (h : p < 2) : ∀ n, m_exO f c n p = m_x p
  | 0 => rfl
  | n + 1 => by
    have ih := exO_lo f (c := c) h n
    have h9 : ¬ (2 ≤ p ∧ p ≤ c) := by omega
    show m_am (m_exO f c n) (m_scale (m_act f (m_exT f c n) c) (m_iv (n + 1))) 1 p = m_x p
    simp only [m_am, m_scale, m_act, ih, if_neg h9, z_0m, z_a0]
theorem exp_lo (f : Nat → ZP) {c p : Nat} (h : p < 2) : m_exp f c p = m_x p := exO_lo f h _
/-- the logarithm's coefficients one by one -/
theorem lon_at (u : Nat → ZP) (j i : Nat) (h : i ≤ j + 1) : ∀ d, m_lon u (j + d) i = m_lon u j i
  | 0 => rfl
  | d + 1 => by
    have ih := lon_at u j i h d
    show va_up (m_lon u (j + d)) (j + d + 2) _ i = _
    rw [va_up_ne _ _ (by omega), ih]
theorem log_at (u : Nat → ZP) {c j : Nat} (h : j + 2 ≤ c) : m_log u c (j + 2) = u (j + 2) - m_exp (m_lon u j) (j + 2) (j + 2) := by
  unfold m_log
  rw [show c - 1 = (j + 1) + (c - 2 - j) by omega, lon_at u (j + 1) (j + 2) (by omega)]
  show va_up (m_lon u j) (j + 2) _ (j + 2) = _
  rw [va_up_self]
theorem log_lon (u : Nat → ZP) {c j i : Nat} (h : j + 1 ≤ c) (hi : i ≤ j + 1) : m_lon u j i = m_log u c i := by
  unfold m_log
  rw [show c - 1 = j + (c - 1 - j) by omega, lon_at u j i hi]
theorem lon_top (u : Nat → ZP) (j : Nat) : m_lon u j (j + 2) = 0 := lon_hi u j (j + 2) (Or.inl (Nat.le_refl _))
/-- a field to its flow, and back -/
theorem exp_log (u : Nat → ZP) {c p : Nat} (h2 : 2 ≤ p) (hp : p ≤ c) (hc : c ≤ 6) : m_exp (m_log u c) p p = u p := by
  obtain ⟨j, rfl⟩ : ∃ j, p = j + 2 := ⟨p - 2, by omega⟩
  have e := log_at u (c := c) (j := j) hp
  have t := lon_top u j
  have q : ∀ i, i ≤ j + 1 → m_lon u j i = m_log u c i := fun i hi => log_lon u (by omega) hi
  rcases (show j = 0 ∨ j = 1 ∨ j = 2 ∨ j = 3 ∨ j = 4 by omega) with rfl | rfl | rfl | rfl | rfl
  · rw [exp2] at e ⊢
    rw [t] at e
    grind
  · rw [exp3] at e ⊢
    rw [t, q 2 (by omega)] at e
    grind
  · rw [exp4] at e ⊢
    rw [t, q 2 (by omega), q 3 (by omega)] at e
    grind
  · rw [exp5] at e ⊢
    rw [t, q 2 (by omega), q 3 (by omega), q 4 (by omega)] at e
    grind
  · rw [exp6] at e ⊢
    rw [t, q 2 (by omega), q 3 (by omega), q 4 (by omega), q 5 (by omega)] at e
    grind
/-- one flow after the other along one field -/
theorem fl_add (f : Nat → ZP) (s t : ZP) {p : Nat} (h2 : 2 ≤ p) (h6 : p ≤ 6) (A B : Nat → ZP) (a0 : A 0 = 0) (a1 : A 1 = 1) (b1 : B 1 = 1) (hA : ∀ q, 2 ≤ q → q ≤ p → A q = m_exp (m_scale f s) q q) (hB : ∀ q, 2 ≤ q → q ≤ p → B q = m_exp (m_scale f t) q q) : m_sub A B p p = m_exp (m_scale f (s + t)) p p := by
  rcases (show p = 2 ∨ p = 3 ∨ p = 4 ∨ p = 5 ∨ p = 6 by omega) with rfl | rfl | rfl | rfl | rfl
  · rw [sub2 A B a0 a1, b1, hA 2 (by omega) (by omega), hB 2 (by omega) (by omega)]
    simp only [exp2, m_scale]
    grind
  · rw [sub3 A B a0 a1, b1, hA 2 (by omega) (by omega), hB 2 (by omega) (by omega), hA 3 (by omega) (by omega), hB 3 (by omega) (by omega)]
    simp only [exp2, exp3, m_scale]
    grind
  · rw [sub4 A B a0 a1, b1, hA 2 (by omega) (by omega), hB 2 (by omega) (by omega), hA 3 (by omega) (by omega), hB 3 (by omega) (by omega), hA 4 (by omega) (by omega), hB 4 (by omega) (by omega)]
    simp only [exp2, exp3, exp4, m_scale]
    grind
  · rw [sub5 A B a0 a1, b1, hA 2 (by omega) (by omega), hB 2 (by omega) (by omega), hA 3 (by omega) (by omega), hB 3 (by omega) (by omega), hA 4 (by omega) (by omega), hB 4 (by omega) (by omega), hA 5 (by omega) (by omega), hB 5 (by omega) (by omega)]
    simp only [exp2, exp3, exp4, exp5, m_scale]
    grind
  · rw [sub6 A B a0 a1, b1, hA 2 (by omega) (by omega), hB 2 (by omega) (by omega), hA 3 (by omega) (by omega), hB 3 (by omega) (by omega), hA 4 (by omega) (by omega), hB 4 (by omega) (by omega), hA 5 (by omega) (by omega), hB 5 (by omega) (by omega), hA 6 (by omega) (by omega), hB 6 (by omega) (by omega)]
    simp only [exp2, exp3, exp4, exp5, exp6, m_scale]
    grind
/-- the inverse is determined -/
theorem sub_det (u v w : Nat → ZP) (u0 : u 0 = 0) (u1 : u 1 = 1) {p : Nat} (h2 : 2 ≤ p) (h6 : p ≤ 6) (v1 : v 1 = 1) (w1 : w 1 = 1) (hl : ∀ q, 2 ≤ q → q < p → v q = w q) (h : m_sub u v p p = m_sub u w p p) : v p = w p := by
  rcases (show p = 2 ∨ p = 3 ∨ p = 4 ∨ p = 5 ∨ p = 6 by omega) with rfl | rfl | rfl | rfl | rfl
  · rw [sub2 u v u0 u1, sub2 u w u0 u1, v1, w1] at h
    grind
  · rw [sub3 u v u0 u1, sub3 u w u0 u1, v1, w1, hl 2 (by omega) (by omega)] at h
    grind
  · rw [sub4 u v u0 u1, sub4 u w u0 u1, v1, w1, hl 2 (by omega) (by omega), hl 3 (by omega) (by omega)] at h
    grind
  · rw [sub5 u v u0 u1, sub5 u w u0 u1, v1, w1, hl 2 (by omega) (by omega), hl 3 (by omega) (by omega), hl 4 (by omega) (by omega)] at h
    grind
  · rw [sub6 u v u0 u1, sub6 u w u0 u1, v1, w1, hl 2 (by omega) (by omega), hl 3 (by omega) (by omega), hl 4 (by omega) (by omega), hl 5 (by omega) (by omega)] at h
    grind
theorem exp_zero (f : Nat → ZP) (h : ∀ q, f q = 0) {p : Nat} (h2 : 2 ≤ p) (h6 : p ≤ 6) : m_exp f p p = 0 := by
  rcases (show p = 2 ∨ p = 3 ∨ p = 4 ∨ p = 5 ∨ p = 6 by omega) with rfl | rfl | rfl | rfl | rfl
  · rw [exp2, h 2]
  · rw [exp3, h 2, h 3]; rfl
  · rw [exp4, h 2, h 3, h 4]; rfl
  · rw [exp5, h 2, h 3, h 4, h 5]; rfl
  · rw [exp6, h 2, h 3, h 4, h 5, h 6]; rfl
theorem scale_1 (f : Nat → ZP) : m_scale f 1 = f := funext fun k => z_m1 (f k)
theorem inn_at (u : Nat → ZP) (j i : Nat) (h : i ≤ j + 1) : ∀ d, m_inn u (j + d) i = m_inn u j i
  | 0 => rfl
  | d + 1 => by
    have ih := inn_at u j i h d
    show va_up (m_inn u (j + d)) (j + d + 2) _ i = _
    rw [va_up_ne _ _ (by omega), ih]
theorem inv_at (u : Nat → ZP) {c j : Nat} (h : j + 2 ≤ c) : m_inv u c (j + 2) = - m_sub u (m_inn u j) (j + 2) (j + 2) := by
  unfold m_inv
  rw [show c - 1 = (j + 1) + (c - 2 - j) by omega, inn_at u (j + 1) (j + 2) (by omega)]
  show va_up (m_inn u j) (j + 2) _ (j + 2) = _
  rw [va_up_self]
theorem inv_inn (u : Nat → ZP) {c j i : Nat} (h : j + 1 ≤ c) (hi : i ≤ j + 1) : m_inn u j i = m_inv u c i := by
  unfold m_inv
  rw [show c - 1 = j + (c - 1 - j) by omega, inn_at u j i hi]
theorem inv_lo (u : Nat → ZP) {c p : Nat} (hp : p < 2) : m_inv u c p = m_x p := by
  unfold m_inv
  have h := inn_at u 0 p (by omega) (c - 1)
  rw [Nat.zero_add] at h
  rw [h]
  rfl
theorem inn_top (u : Nat → ZP) (j : Nat) : m_inn u j (j + 2) = 0 := inn_hi u j (j + 2) (Nat.le_refl _)
theorem inn_lo (u : Nat → ZP) (j : Nat) : m_inn u j 1 = 1 := by
  have h := inn_at u 0 1 (by omega) j
  rw [Nat.zero_add] at h
  rw [h]
  rfl
/-- a flow before its inverse -/
theorem inv_sub (u : Nat → ZP) (u0 : u 0 = 0) (u1 : u 1 = 1) {c p : Nat} (h2 : 2 ≤ p) (hp : p ≤ c) (hc : c ≤ 6) : m_sub u (m_inv u c) p p = 0 := by
  obtain ⟨j, rfl⟩ : ∃ j, p = j + 2 := ⟨p - 2, by omega⟩
  have e := inv_at u (c := c) (j := j) hp
  have t := inn_top u j
  have i1 : m_inv u c 1 = 1 := inv_lo u (by omega)
  have t1 := inn_lo u j
  have q : ∀ i, i ≤ j + 1 → m_inn u j i = m_inv u c i := fun i hi => inv_inn u (by omega) hi
  rcases (show j = 0 ∨ j = 1 ∨ j = 2 ∨ j = 3 ∨ j = 4 by omega) with rfl | rfl | rfl | rfl | rfl
  · rw [sub2 _ _ u0 u1, t, t1] at e
    rw [sub2 _ _ u0 u1, i1]
    grind
  · rw [sub3 _ _ u0 u1, t, t1, q 2 (by omega)] at e
    rw [sub3 _ _ u0 u1, i1]
    grind
  · rw [sub4 _ _ u0 u1, t, t1, q 2 (by omega), q 3 (by omega)] at e
    rw [sub4 _ _ u0 u1, i1]
    grind
  · rw [sub5 _ _ u0 u1, t, t1, q 2 (by omega), q 3 (by omega), q 4 (by omega)] at e
    rw [sub5 _ _ u0 u1, i1]
    grind
  · rw [sub6 _ _ u0 u1, t, t1, q 2 (by omega), q 3 (by omega), q 4 (by omega), q 5 (by omega)] at e
    rw [sub6 _ _ u0 u1, i1]
    grind
theorem inv_flow (u : Nat → ZP) (u0 : u 0 = 0) (u1 : u 1 = 1) {c : Nat} (hc : c ≤ 6) (hc2 : 2 ≤ c) : ∀ n p, p ≤ n → 2 ≤ p → p ≤ c → m_inv u c p = m_exp (m_scale (m_log u c) (-1)) p p := by
  intro n
  induction n with
  | zero => intro p h1 h2; omega
  | succ n ih =>
    intro p h1 h2 hp
    have cut : ∀ q, 2 ≤ q → q ≤ p → m_exp (m_scale (m_log u c) (-1)) c q = m_exp (m_scale (m_log u c) (-1)) q q := fun q a b => exp_cut _ (by omega) (by omega)
    rw [← cut p h2 (Nat.le_refl p)]
    refine sub_det u _ _ u0 u1 h2 (by omega) (inv_lo u (by omega)) (exp_lo _ (by omega)) (fun q a b => ?_) ?_
    · rw [cut q a (by omega)]
      exact ih q (by omega) a (by omega)
    · rw [inv_sub u u0 u1 h2 hp hc, fl_add (m_log u c) 1 (-1) h2 (by omega) u _ u0 u1 (exp_lo _ (by omega)) (fun q a b => by rw [scale_1, exp_log u a (by omega) hc]) cut]
      exact (exp_zero _ (fun q => by unfold m_scale; grind) h2 (by omega)).symm
/-- the law's powers, one by one -/
def l_pw (one : Nat → ZP) (cu : Nat) : Nat → Nat → ZP
  | 0 => m_x
  | k + 1 => m_sub (l_pw one cu k) one cu
theorem pw_flow (f one : Nat → ZP) (s : ZP) {c : Nat} (hc2 : 2 ≤ c) (hc : c ≤ 6) (o0 : one 0 = 0) (o1 : one 1 = 1) (ho : ∀ q, 2 ≤ q → q ≤ c → one q = m_exp (m_scale f s) q q) : ∀ k, l_pw one c k 0 = 0 ∧ l_pw one c k 1 = 1 ∧ ∀ q, 2 ≤ q → q ≤ c → l_pw one c k q = m_exp (m_scale f (zc k * s)) q q := by
  intro k
  induction k with
  | zero =>
    refine ⟨rfl, rfl, fun q h2 hq => ?_⟩
    rw [exp_zero _ (fun i => by unfold m_scale; rw [zc_0]; grind) h2 (by omega)]
    show m_x q = 0
    unfold m_x
    rw [if_neg (by omega)]
  | succ k ih =>
    obtain ⟨i0, i1, i2⟩ := ih
    refine ⟨?_, ?_, fun q h2 hq => ?_⟩
    · show m_sub (l_pw one c k) one c 0 = 0
      rw [sub_0 _ _ i0, o0]
    · show m_sub (l_pw one c k) one c 1 = 1
      rw [sub_1 _ _ i0 i1 (by omega), o1]
    · show m_sub (l_pw one c k) one c q = _
      rw [sub_at _ _ i0 hq, fl_add f (zc k * s) s h2 (by omega) _ _ i0 i1 o1 (fun i a b => i2 i a (by omega)) (fun i a b => ho i a (by omega)), zc_add, zc_1]
      congr 2
      grind
theorem pw_all (f one : Nat → ZP) (s : ZP) {c : Nat} (hc2 : 2 ≤ c) (hc : c ≤ 6) (o0 : one 0 = 0) (o1 : one 1 = 1) (ho : ∀ q, 2 ≤ q → q ≤ c → one q = m_exp (m_scale f s) q q) (k p : Nat) : l_pw one c k p = m_exp (m_scale f (zc k * s)) c p := by
  obtain ⟨h0, h1, h2⟩ := pw_flow f one s hc2 hc o0 o1 ho k
  rcases (show p = 0 ∨ p = 1 ∨ (2 ≤ p ∧ p ≤ c) ∨ c < p by omega) with rfl | rfl | ⟨a, b⟩ | h
  · rw [h0, exp_lo _ (by omega)]
    rfl
  · rw [h1, exp_lo _ (by omega)]
    rfl
  · rw [h2 p a b, exp_cut _ b (by omega)]
  · rw [exp_hi _ h (by omega)]
    cases k with
    | zero =>
      show m_x p = 0
      unfold m_x
      rw [if_neg (by omega)]
    | succ k => exact sub_hi _ _ h
theorem pow_pos (u : Nat → ZP) (u0 : u 0 = 0) (u1 : u 1 = 1) {c : Nat} (hc2 : 2 ≤ c) (hc : c ≤ 6) (k p : Nat) : l_pw u c k p = m_rep u (zc k) c p := by
  rw [pw_all (m_log u c) u 1 hc2 hc u0 u1 (fun q a b => by rw [scale_1, exp_log u a b hc]) k p, z_m1]
  rfl
theorem pow_neg (u : Nat → ZP) (u0 : u 0 = 0) (u1 : u 1 = 1) {c : Nat} (hc2 : 2 ≤ c) (hc : c ≤ 6) (k p : Nat) : l_pw (m_inv u c) c k p = m_rep u (- zc k) c p := by
  rw [pw_all (m_log u c) (m_inv u c) (-1) hc2 hc (inv_lo u (by omega)) (inv_lo u (by omega)) (fun q a b => inv_flow u u0 u1 hc hc2 q q (Nat.le_refl q) a b) k p, show zc k * -1 = - zc k by grind]
  rfl
/-- the law's exponential and logarithm -/
theorem lexp_eq {f : Nat → ZP} (f0 : f 0 = 0) (f1 : f 1 = 0) {cu : Nat} (hc2 : 2 ≤ cu) (hc : cu ≤ 6) {p : Nat} (hp : p < 7) : m_xO f cu 6 p = m_exp f cu p := by
  have h5 : m_xO f cu 6 p = m_exO f cu 5 p := by
    show m_am (m_xO f cu 5) (m_am (fun _ => 0) (m_mulT f (m_der (m_xT f cu 5)) cu) (m_finv (zc (5 + 1)))) 1 p = _
    rw [xO_eq f0 f1 hc 5 (by omega), xT_eq f0 f1 hc 5 (by omega), act_eq _ f0 f1 hc]
    have hz : m_act f (m_exT f cu 5) cu p = 0 := by
      unfold m_act
      split
      · unfold m_actc
        exact sumc_zero f (fun q hq => exT_low f cu 5 q (by omega)) (p - 1) (Nat.le_refl _)
      · rfl
    simp only [m_am, hz, z_0m, z_a0]
  rw [h5]
  unfold m_exp
  rcases Nat.lt_or_ge cu p with h | h
  · rw [exO_hi f h (by omega), exO_hi f h (by omega)]
  · rw [show (5 : Nat) = (cu - 1) + (6 - cu) by omega, exO_more f cu p (cu - 1) (by omega)]
def l_lgn (u : Nat → ZP) (cu : Nat) : Nat → Nat → ZP
  | 0 => fun _ => 0
  | j + 1 => va_up (l_lgn u cu j) (j + 2) (l_lgn u cu j (j + 2) + u (j + 2) - m_xO (l_lgn u cu j) cu 6 (j + 2))
theorem llgn_eq (u : Nat → ZP) {cu : Nat} (hc2 : 2 ≤ cu) (hc : cu ≤ 6) : ∀ j, j + 1 ≤ cu → l_lgn u cu j = m_lon u j
  | 0, _ => rfl
  | j + 1, h => by
    have ih := llgn_eq u hc2 hc j (by omega)
    show va_up (l_lgn u cu j) (j + 2) _ = va_up (m_lon u j) (j + 2) _
    rw [ih, lexp_eq (lon_hi u j 0 (by omega)) (lon_hi u j 1 (by omega)) hc2 hc (by omega), exp_cut _ (show j + 2 ≤ cu by omega) (by omega), lon_top, z_0a]
theorem llog_eq (u : Nat → ZP) {cu : Nat} (hc2 : 2 ≤ cu) (hc : cu ≤ 6) : l_lgn u cu (cu - 1) = m_log u cu := llgn_eq u hc2 hc (cu - 1) (by omega)
def l_way (w0 w aw bw baw : Nat → ZP) : Nat → ZP := fun k => w0 k + w k * m_finv (zc 2) + aw k * m_finv (zc 12) - bw k * m_finv (zc 12) - baw k * m_finv (zc 24)
theorem lway_eq (a b : Nat → ZP) (cu : Nat) : l_way (m_am a b (zc 1)) (m_brM a b cu) (m_brM a (m_brM a b cu) cu) (m_brM b (m_brM a b cu) cu) (m_brM b (m_brM a (m_brM a b cu) cu) cu) = m_wayM a b 5 cu := by
  funext k
  unfold m_wayM l_way
  simp only [show ¬ (5 ≤ 2) by decide, show ¬ (5 ≤ 3) by decide, show ¬ (5 ≤ 4) by decide, if_false]
  simp only [m_am, zc_neg]
  generalize m_finv (zc 2) = c2
  generalize m_finv (zc 12) = c12
  generalize m_finv (zc 24) = c24
  grind
