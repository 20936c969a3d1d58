/-! the two ways of reckoning come to the same -/
theorem z_0m (a : ZP) : 0 * a = 0 := by grind
theorem z_m0 (a : ZP) : a * 0 = 0 := by grind
theorem z_a0 (a : ZP) : a + 0 = a := by grind
theorem z_0a (a : ZP) : 0 + a = a := by grind
theorem z_m1 (a : ZP) : a * 1 = a := by grind
theorem act_eq {f : Nat → ZP} (g : Nat → ZP) {cu : Nat} (h0 : f 0 = 0) (h1 : f 1 = 0) (hc : cu ≤ 6) : m_mulT f (m_der g) cu = m_act f g cu := by
  funext p
  by_cases hp : p ≤ cu
  · rcases (show p = 0 ∨ p = 1 ∨ p = 2 ∨ p = 3 ∨ p = 4 ∨ p = 5 ∨ p = 6 by omega) with rfl | rfl | rfl | rfl | rfl | rfl | rfl
    all_goals
      simp [m_mulT, m_act, hp, m_mulc, m_mulS, m_actc, m_sumc, m_der, h0, h1]
    all_goals grind
  · have h2 : ¬ (2 ≤ p ∧ p ≤ cu) := by omega
    unfold m_mulT m_act
    rw [if_neg hp, if_neg h2]
theorem mul_comm7 (f g : Nat → ZP) {cu : Nat} (hc : cu ≤ 6) : m_mulT f g cu = m_mulT g f cu := by
  funext p
  by_cases hp : p ≤ cu
  · rcases (show p = 0 ∨ p = 1 ∨ p = 2 ∨ p = 3 ∨ p = 4 ∨ p = 5 ∨ p = 6 by omega) with rfl | rfl | rfl | rfl | rfl | rfl | rfl
    all_goals
      simp [m_mulT, hp, m_mulc, m_mulS]
    all_goals grind
  · simp only [m_mulT, hp, if_false]
theorem am_0 (u : Nat → ZP) (z : ZP) : m_am (fun _ => 0) u z = m_scale u z := by
  funext k
  simp [m_am, m_scale, z_0m, z_m0, z_a0, z_0a, z_m1]
theorem am_1 (u v : Nat → ZP) : m_am u v (zc 1) = m_add u v := by
  funext k
  simp [m_am, m_add, zc_1, z_0m, z_m0, z_a0, z_0a, z_m1]
theorem iv_finv : ∀ n : Nat, n < 6 → 1 ≤ n → m_finv (zc n) = m_iv n := by decide +kernel
theorem br_eq {f g : Nat → ZP} {cu : Nat} (f0 : f 0 = 0) (f1 : f 1 = 0) (g0 : g 0 = 0) (g1 : g 1 = 0) (hc : cu ≤ 6) : m_brM f g cu = m_br f g cu := by
  unfold m_brM m_br
  rw [act_eq g f0 f1 hc, act_eq f g0 g1 hc]
theorem xT_eq {f : Nat → ZP} {cu : Nat} (f0 : f 0 = 0) (f1 : f 1 = 0) (hc : cu ≤ 6) : ∀ n, n < 6 → m_xT f cu n = m_exT f cu n
  | 0, _ => rfl
  | n + 1, h => by
    simp only [m_xT, m_exT]
    rw [xT_eq f0 f1 hc n (by omega), act_eq _ f0 f1 hc, am_0, iv_finv (n + 1) h (by omega)]
theorem xO_eq {f : Nat → ZP} {cu : Nat} (f0 : f 0 = 0) (f1 : f 1 = 0) (hc : cu ≤ 6) : ∀ n, n < 6 → m_xO f cu n = m_exO f cu n
  | 0, _ => rfl
  | n + 1, h => by
    simp only [m_xO, m_exO]
    rw [xO_eq f0 f1 hc n (by omega), xT_eq f0 f1 hc (n + 1) h]
theorem exp_eq {f : Nat → ZP} {cu : Nat} (f0 : f 0 = 0) (f1 : f 1 = 0) (hc : cu ≤ 6) : m_expM f cu = m_exp f cu := xO_eq f0 f1 hc (cu - 1) (by omega)
-- the powers' sum and Horner's way
def m_lc (A : Nat → Nat → ZP) (c : Nat → ZP) : Nat → Nat → ZP
  | 0, _ => 0
  | k + 1, j => m_lc A c k j + A k j * c k
theorem lc_head (A : Nat → Nat → ZP) (c : Nat → ZP) (j : Nat) : ∀ k, m_lc A c (k + 1) j = A 0 j * c 0 + m_lc (fun i => A (i + 1)) (fun i => c (i + 1)) k j
  | 0 => by simp [m_lc, z_0m, z_m0, z_a0, z_0a, z_m1]
  | k + 1 => by
    rw [m_lc, lc_head A c j k, m_lc]
    grind
theorem lc_congr {A B : Nat → Nat → ZP} {c d : Nat → ZP} {j : Nat} : ∀ k, (∀ i, i < k → A i j = B i j ∧ c i = d i) → m_lc A c k j = m_lc B d k j
  | 0, _ => rfl
  | k + 1, h => by
    rw [m_lc, m_lc, lc_congr k (fun i hi => h i (by omega)), (h k (by omega)).1, (h k (by omega)).2]
theorem mulS_congr {X Y : Nat → ZP} (u : Nat → ZP) (p : Nat) : ∀ n, (∀ q, q < n → X q = Y q) → m_mulS X u p n = m_mulS Y u p n
  | 0, _ => rfl
  | n + 1, h => by
    rw [m_mulS, m_mulS, mulS_congr u p n (fun q hq => h q (by omega)), h n (by omega)]
theorem mulS_add (X Y : Nat → ZP) (t : ZP) (u : Nat → ZP) (p : Nat) : ∀ n, m_mulS (fun q => X q + Y q * t) u p n = m_mulS X u p n + m_mulS Y u p n * t
  | 0 => by simp [m_mulS, z_0m, z_m0, z_a0, z_0a, z_m1]
  | n + 1 => by
    rw [m_mulS, m_mulS, m_mulS, mulS_add X Y t u p n]
    grind
theorem mulS_zero (u : Nat → ZP) (p : Nat) : ∀ n, m_mulS (fun _ => 0) u p n = 0
  | 0 => rfl
  | n + 1 => by
    rw [m_mulS, mulS_zero u p n]
    simp [z_0m, z_m0, z_a0, z_0a, z_m1]
theorem mulc_lc (A : Nat → Nat → ZP) (c : Nat → ZP) (u : Nat → ZP) (j : Nat) : ∀ k, m_mulc (m_lc A c k) u j = m_lc (fun i => m_mulc (A i) u) c k j
  | 0 => mulS_zero u j (j + 1)
  | k + 1 => by
    have h := mulS_add (m_lc A c k) (A k) (c k) u j (j + 1)
    show m_mulS (fun q => m_lc A c k q + A k q * c k) u j (j + 1) = m_lc (fun i => m_mulc (A i) u) c k j + m_mulc (A k) u j * c k
    rw [h]
    have h2 := mulc_lc A c u j k
    unfold m_mulc at h2
    rw [h2]
    rfl
theorem pn_lc (u v : Nat → ZP) (cu : Nat) (j : Nat) : ∀ k, m_pn u v cu k j = m_lc (m_pw u cu) v k j
  | 0 => rfl
  | k + 1 => by
    rw [m_lc, ← pn_lc u v cu j k]
    rfl
theorem hn_lc (u v : Nat → ZP) (cu : Nat) : ∀ k, k ≤ cu + 1 → ∀ j, j ≤ cu → m_hn u v cu k j = m_lc (m_pw u cu) (fun i => v (cu + 1 - k + i)) k j
  | 0, _, _, _ => rfl
  | k + 1, hk, j, hj => by
    rw [lc_head]
    simp only [m_hn, hj, if_true]
    have e1 : m_mulc (m_hn u v cu k) u j = m_mulc (m_lc (m_pw u cu) (fun i => v (cu + 1 - k + i)) k) u j := mulS_congr u j (j + 1) (fun q hq => hn_lc u v cu k (by omega) q (by omega))
    rw [e1, mulc_lc]
    have e2 : m_lc (fun i => m_mulc (m_pw u cu i) u) (fun i => v (cu + 1 - k + i)) k j = m_lc (fun i => m_pw u cu (i + 1)) (fun i => v (cu + 1 - (k + 1) + (i + 1))) k j := lc_congr k (fun i hi => ⟨by simp only [m_pw, m_mulT, hj, if_true], by congr 1; omega⟩)
    rw [e2]
    have e3 : m_pw u cu 0 j * v (cu + 1 - (k + 1) + 0) = if j = 0 then v (cu - k) else 0 := by
      have e4 : cu + 1 - (k + 1) + 0 = cu - k := by omega
      rw [e4]
      show m_one j * _ = _
      unfold m_one
      split <;> grind
    rw [e3]
    grind
theorem pn_hi (u v : Nat → ZP) (cu : Nat) {j : Nat} (h : cu < j) : ∀ k, m_pn u v cu k j = 0
  | 0 => rfl
  | k + 1 => by
    have h1 : m_pw u cu k j = 0 := by
      cases k with
      | zero => show m_one j = 0; unfold m_one; rw [if_neg (by omega)]
      | succ k => simp only [m_pw, m_mulT]; rw [if_neg (by omega)]
    show m_pn u v cu k j + m_pw u cu k j * v k = 0
    rw [pn_hi u v cu h k, h1]
    simp [z_0m, z_m0, z_a0, z_0a, z_m1]
theorem pi_eq (u v : Nat → ZP) (cu : Nat) : m_pi u v cu = m_sub u v cu := by
  funext j
  unfold m_pi m_sub
  by_cases hj : j ≤ cu
  · rw [hn_lc u v cu (cu + 1) (Nat.le_refl _) j hj, pn_lc]
    exact lc_congr (cu + 1) (fun i hi => ⟨rfl, by congr 1; omega⟩)
  · rw [pn_hi u v cu (by omega), m_hn_hi u v cu _ (by omega)]
-- cut lower
theorem pw_cut (u : Nat → ZP) {c c2 : Nat} : ∀ (k p : Nat), p ≤ c → p ≤ c2 → m_pw u c k p = m_pw u c2 k p
  | 0, _, _, _ => rfl
  | k + 1, p, h1, h2 => by
    simp only [m_pw, m_mulT, h1, h2, if_true]
    exact mulS_congr u p (p + 1) (fun q hq => pw_cut u k q (by omega) (by omega))
theorem pn_cut (u v : Nat → ZP) {c c2 p : Nat} (h1 : p ≤ c) (h2 : p ≤ c2) : ∀ k, m_pn u v c k p = m_pn u v c2 k p
  | 0 => rfl
  | k + 1 => by
    show m_pn u v c k p + m_pw u c k p * v k = m_pn u v c2 k p + m_pw u c2 k p * v k
    rw [pn_cut u v h1 h2 k, pw_cut u k p h1 h2]
theorem pn_more (u v : Nat → ZP) (c p k : Nat) (hv : ∀ i, k ≤ i → v i = 0) : ∀ d, m_pn u v c (k + d) p = m_pn u v c k p
  | 0 => rfl
  | d + 1 => by
    show m_pn u v c (k + d) p + m_pw u c (k + d) p * v (k + d) = _
    rw [pn_more u v c p k hv d, hv (k + d) (by omega)]
    simp [z_0m, z_m0, z_a0, z_0a, z_m1]
theorem sub_cut (u v : Nat → ZP) {c c2 : Nat} (h : c ≤ c2) (hv : ∀ i, c < i → v i = 0) : m_sub u v c2 c = m_sub u v c c := by
  rw [← pi_eq, ← pi_eq]
  unfold m_pi
  rw [pn_cut u v h (Nat.le_refl c) (c2 + 1), show c2 + 1 = c + 1 + (c2 - c) by omega]
  exact pn_more u v c c (c + 1) (fun i hi => hv i (by omega)) (c2 - c)
theorem inn_hi (u : Nat → ZP) : ∀ j i, j + 2 ≤ i → m_inn u j i = 0
  | 0, i, h => by show m_x i = 0; unfold m_x; rw [if_neg (by omega)]
  | j + 1, i, h => by
    show va_up (m_inn u j) (j + 2) _ i = 0
    rw [va_up_ne _ _ (by omega)]
    exact inn_hi u j i (by omega)
theorem ivn_eq (u : Nat → ZP) (cu : Nat) : ∀ j, j + 1 ≤ cu → m_ivn u cu j = m_inn u j
  | 0, _ => rfl
  | j + 1, h => by
    show va_up (m_ivn u cu j) (j + 2) (m_ivn u cu j (j + 2) - m_pi u (m_ivn u cu j) cu (j + 2)) = va_up (m_inn u j) (j + 2) (- m_sub u (m_inn u j) (j + 2) (j + 2))
    rw [ivn_eq u cu j (by omega), inn_hi u j (j + 2) (by omega), pi_eq, sub_cut u (m_inn u j) (c := j + 2) (c2 := cu) (by omega) (fun i hi => inn_hi u j i (by omega))]
    congr 1
theorem inv_eq (u : Nat → ZP) {cu : Nat} (h : 1 ≤ cu) : m_invM u cu = m_inv u cu := ivn_eq u cu (cu - 1) (by omega)
theorem sumc_congr (f : Nat → ZP) {g g2 : Nat → ZP} {p : Nat} (h : ∀ q, q ≤ p → g q = g2 q) : ∀ n, n ≤ p - 1 → m_sumc f g p n = m_sumc f g2 p n
  | 0, _ => rfl
  | n + 1, hn => by
    rw [m_sumc, m_sumc, sumc_congr f h n (by omega), h (p - (n + 2) + 1) (by omega)]
theorem exT_cut (f : Nat → ZP) {c c2 : Nat} : ∀ (n p : Nat), p ≤ c → p ≤ c2 → m_exT f c n p = m_exT f c2 n p
  | 0, _, _, _ => rfl
  | n + 1, p, h1, h2 => by
    simp only [m_exT, m_scale, m_act]
    have e : m_actc f (m_exT f c n) p = m_actc f (m_exT f c2 n) p := sumc_congr f (fun q hq => exT_cut f n q (by omega) (by omega)) (p - 1) (Nat.le_refl _)
    rw [e]
    by_cases h : 2 ≤ p
    · rw [if_pos ⟨h, h1⟩, if_pos ⟨h, h2⟩]
    · rw [if_neg (fun z => h z.1), if_neg (fun z => h z.1)]
theorem sumc_zero (f : Nat → ZP) {g : Nat → ZP} {p : Nat} (h : ∀ q, q < p → g q = 0) : ∀ n, n ≤ p - 1 → m_sumc f g p n = 0
  | 0, _ => rfl
  | n + 1, hn => by
    rw [m_sumc, sumc_zero f h n (by omega), h (p - (n + 2) + 1) (by omega)]
    simp [z_0m, z_m0, z_a0, z_0a, z_m1]
theorem exT_low (f : Nat → ZP) (c : Nat) : ∀ (n p : Nat), p ≤ n → m_exT f c n p = 0
  | 0, p, h => by show m_x p = 0; unfold m_x; rw [if_neg (by omega)]
  | n + 1, p, h => by
    simp only [m_exT, m_scale, m_act]
    have e : m_actc f (m_exT f c n) p = 0 := sumc_zero f (fun q hq => exT_low f c n q (by omega)) (p - 1) (Nat.le_refl _)
    rw [e]
    split <;> simp [z_0m, z_m0, z_a0, z_0a, z_m1]
theorem exO_cut (f : Nat → ZP) {c c2 p : Nat} (h1 : p ≤ c) (h2 : p ≤ c2) : ∀ n, m_exO f c n p = m_exO f c2 n p
  | 0 => rfl
  | n + 1 => by
    show m_exO f c n p + m_exT f c (n + 1) p * 1 = m_exO f c2 n p + m_exT f c2 (n + 1) p * 1
    rw [exO_cut f h1 h2 n, exT_cut f (n + 1) p h1 h2]
theorem exO_more (f : Nat → ZP) (c p n : Nat) (hp : p ≤ n + 1) : ∀ d, m_exO f c (n + d) p = m_exO f c n p
  | 0 => rfl
  | d + 1 => by
    show m_exO f c (n + d) p + m_exT f c (n + d + 1) p * 1 = _
    rw [exO_more f c p n hp d, exT_low f c (n + d + 1) p (by omega)]
    simp [z_0m, z_m0, z_a0, z_0a, z_m1]
theorem exp_cut (f : Nat → ZP) {c p : Nat} (hp : p ≤ c) (h1 : 1 ≤ p) : m_exp f c p = m_exp f p p := by
  unfold m_exp
  rw [exO_cut f hp (Nat.le_refl p) (c - 1), show c - 1 = (p - 1) + (c - p) by omega]
  exact exO_more f p p (p - 1) (by omega) (c - p)
theorem lon_hi (u : Nat → ZP) : ∀ j i, (j + 2 ≤ i ∨ i < 2) → m_lon u j i = 0
  | 0, _, _ => rfl
  | j + 1, i, h => by
    show va_up (m_lon u j) (j + 2) _ i = 0
    rw [va_up_ne _ _ (by omega)]
    exact lon_hi u j i (by omega)
theorem lgn_eq (u : Nat → ZP) {cu : Nat} (hc : cu ≤ 6) : ∀ j, j + 1 ≤ cu → m_lgn u cu j = m_lon u j
  | 0, _ => rfl
  | j + 1, h => by
    show va_up (m_lgn u cu j) (j + 2) (m_lgn u cu j (j + 2) + u (j + 2) - m_expM (m_lgn u cu j) cu (j + 2)) = va_up (m_lon u j) (j + 2) (u (j + 2) - m_exp (m_lon u j) (j + 2) (j + 2))
    rw [lgn_eq u hc j (by omega), lon_hi u j (j + 2) (by omega), exp_eq (lon_hi u j 0 (by omega)) (lon_hi u j 1 (by omega)) hc, exp_cut (m_lon u j) (c := cu) (p := j + 2) (by omega) (by omega)]
    congr 1
    grind
theorem log_eq (u : Nat → ZP) {cu : Nat} (h : 1 ≤ cu) (hc : cu ≤ 6) : m_logM u cu = m_log u cu := lgn_eq u hc (cu - 1) (by omega)
theorem log_lo (u : Nat → ZP) (cu : Nat) {k : Nat} (h : k < 2) : m_log u cu k = 0 := lon_hi u (cu - 1) k (by omega)
theorem br_lo (f g : Nat → ZP) (cu : Nat) {k : Nat} (h : k < 2) : m_br f g cu k = 0 := by
  have h1 : ¬ (2 ≤ k ∧ k ≤ cu) := by omega
  simp [m_br, m_am, m_act, h1, z_0m, z_m0, z_a0, z_0a, z_m1]
theorem add_lo {u v : Nat → ZP} {k : Nat} (h1 : u k = 0) (h2 : v k = 0) : m_add u v k = 0 := by simp [m_add, h1, h2, z_0m, z_m0, z_a0, z_0a, z_m1]
theorem scale_lo {u : Nat → ZP} {k : Nat} (z : ZP) (h1 : u k = 0) : m_scale u z k = 0 := by simp [m_scale, h1, z_0m, z_m0, z_a0, z_0a, z_m1]
theorem am_lo {u v : Nat → ZP} {k : Nat} (z : ZP) (h1 : u k = 0) (h2 : v k = 0) : m_am u v z k = 0 := by simp [m_am, h1, h2, z_0m, z_m0, z_a0, z_0a, z_m1]
theorem way_lo {a b : Nat → ZP} {y cu k : Nat} (h : k < 2) (h1 : a k = 0) (h2 : b k = 0) : m_way a b y cu k = 0 := by
  have e2 : m_way2 a b k = 0 := add_lo h1 h2
  have e3 : m_way3 a b cu k = 0 := am_lo _ e2 (br_lo _ _ _ h)
  have e4 : m_way4 a b cu k = 0 := am_lo _ (am_lo _ e3 (br_lo _ _ _ h)) (br_lo _ _ _ h)
  have e5 : m_way5 a b cu k = 0 := am_lo _ e4 (br_lo _ _ _ h)
  unfold m_way
  split
  · exact e2
  split
  · exact e3
  split
  · exact e4
  · exact e5
theorem fin_c : m_finv (zc 2) = zc 5004 ∧ m_finv (zc 12) = zc 834 ∧ zc (10007 - (zc 834).val) = zc 9173 ∧ zc (10007 - (m_finv (zc 24)).val) = zc 9590 := by decide +kernel
theorem way_eq {a b : Nat → ZP} {y cu : Nat} (a0 : a 0 = 0) (a1 : a 1 = 0) (b0 : b 0 = 0) (b1 : b 1 = 0) (hc : cu ≤ 6) : m_wayM a b y cu = m_way a b y cu := by
  have w0 := br_lo a b cu (k := 0) (by omega)
  have w1 := br_lo a b cu (k := 1) (by omega)
  have x0 := br_lo a (m_br a b cu) cu (k := 0) (by omega)
  have x1 := br_lo a (m_br a b cu) cu (k := 1) (by omega)
  simp only [m_wayM, br_eq a0 a1 b0 b1 hc, br_eq a0 a1 w0 w1 hc, br_eq b0 b1 w0 w1 hc, br_eq b0 b1 x0 x1 hc, am_1, fin_c.1, fin_c.2.1, fin_c.2.2.1, fin_c.2.2.2]
  unfold m_way m_way5 m_way4 m_way3 m_way2
  by_cases h2 : y ≤ 2
  · have a1 : y < 3 := by omega
    simp only [h2, a1, if_true]
  · have a1 : ¬ y < 3 := by omega
    by_cases h3 : y ≤ 3
    · have a2 : y < 4 := by omega
      simp only [h2, h3, a1, a2, if_true, if_false]
    · have a2 : ¬ y < 4 := by omega
      by_cases h4 : y ≤ 4
      · have a3 : y < 5 := by omega
        simp only [h2, h3, h4, a1, a2, a3, if_true, if_false]
      · have a3 : ¬ y < 5 := by omega
        simp only [h2, h3, h4, a1, a2, a3, if_false]
theorem push_eq {f : Nat → ZP} (u : Nat → ZP) {cu : Nat} (f0 : f 0 = 0) (f1 : f 1 = 0) (h : 1 ≤ cu) (hc : cu ≤ 6) : m_pi (m_invM u cu) (m_mulT (m_der u) f cu) cu = m_push u f cu := by
  rw [pi_eq, inv_eq u h, mul_comm7 (m_der u) f hc, act_eq u f0 f1 hc]
  rfl
theorem rep_eq (u : Nat → ZP) (z : ZP) {cu : Nat} (h : 1 ≤ cu) (hc : cu ≤ 6) : m_expM (m_am (fun _ => 0) (m_logM u cu) z) cu = m_rep u z cu := by
  rw [am_0, log_eq u h hc, exp_eq (scale_lo z (log_lo u cu (by omega))) (scale_lo z (log_lo u cu (by omega))) hc]
  rfl
theorem cf_eq {a b : Nat → ZP} {cu : Nat} (a0 : a 0 = 0) (a1 : a 1 = 0) (b0 : b 0 = 0) (b1 : b 1 = 0) (h : 1 ≤ cu) (hc : cu ≤ 6) : m_logM (m_pi (m_expM a cu) (m_expM b cu) cu) cu = m_cf a b cu := by
  rw [log_eq _ h hc, pi_eq, exp_eq a0 a1 hc, exp_eq b0 b1 hc]
  rfl
theorem pw_low (u : Nat → ZP) (cu : Nat) (u0 : u 0 = 0) : ∀ (k p : Nat), p < k → m_pw u cu k p = 0
  | k + 1, p, h => by
    simp only [m_pw, m_mulT]
    split
    · have e : ∀ n, n ≤ p + 1 → m_mulS (m_pw u cu k) u p n = 0 := by
        intro n
        induction n with
        | zero => intro _; rfl
        | succ n ih =>
          intro hn
          rw [m_mulS, ih (by omega)]
          by_cases hk : n < k
          · rw [pw_low u cu u0 k n hk]; simp [z_0m, z_m0, z_a0, z_0a, z_m1]
          · rw [show p - n = 0 by omega, u0]; simp [z_0m, z_m0, z_a0, z_0a, z_m1]
      exact e (p + 1) (Nat.le_refl _)
    · rfl
theorem push_lo {f : Nat → ZP} (u : Nat → ZP) {cu k : Nat} (h : k < 2) : m_push u f cu k = 0 := by
  unfold m_push
  rw [← pi_eq]
  unfold m_pi
  have i0 : m_inv u cu 0 = 0 := by
    have g : ∀ j, m_inn u j 0 = 0 := by
      intro j
      induction j with
      | zero => rfl
      | succ j ih => show va_up (m_inn u j) (j + 2) _ 0 = 0; rw [va_up_ne _ _ (by omega)]; exact ih
    exact g (cu - 1)
  have e : ∀ n, m_pn (m_inv u cu) (m_act f u cu) cu n k = 0 := by
    intro n
    induction n with
    | zero => rfl
    | succ n ih =>
      show m_pn (m_inv u cu) (m_act f u cu) cu n k + m_pw (m_inv u cu) cu n k * m_act f u cu n = 0
      rw [ih]
      by_cases hn : n < 2
      · have h1 : ¬ (2 ≤ n ∧ n ≤ cu) := by omega
        simp [m_act, h1, z_0m, z_m0, z_a0, z_0a, z_m1]
      · rw [pw_low _ cu i0 n k (by omega)]
        simp [z_0m, z_m0, z_a0, z_0a, z_m1]
  exact e (cu + 1)
