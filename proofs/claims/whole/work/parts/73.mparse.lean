/-! the model's parser against the text -/
def stt (t : Txt) : Nat → Nat
  | 0 => 0
  | i + 1 => stt t i + dgA t (stt t i) + 4
def pA (t : Txt) (pf : Nat → Int32) (i : Nat) : Prop := 0 < dgA t (stt t i) ∧ pf (4 * i) = nI (cdA t (stt t i)) ∧ pf (4 * i + 1) = nI (slA t (stt t i + 1)) ∧ (dgA t (stt t i) = 2 → pf (4 * i + 2) = nI (slA t (stt t i + 2))) ∧ pf (4 * i + 3) = nI (slA t (stt t i + dgA t (stt t i) + 2))
def pL (t : Txt) (pf : Nat → Int32) (s r : Nat) : Prop := 0 < dgA t s ∧ pf (4 * r) = nI (cdA t s)
def pS1 (t : Txt) (pf : Nat → Int32) (s r : Nat) : Prop := isSl (cdA t (s + 1)) ∧ pf (4 * r + 1) = nI (slA t (s + 1))
def pS2 (t : Txt) (pf : Nat → Int32) (s r : Nat) : Prop := dgA t s = 2 → isSl (cdA t (s + 2)) ∧ pf (4 * r + 2) = nI (slA t (s + 2))
def pGt (t : Txt) (s : Nat) : Prop := cdA t (s + dgA t s + 1) = 62
def pS3 (t : Txt) (pf : Nat → Int32) (s r : Nat) : Prop := isSl (cdA t (s + dgA t s + 2)) ∧ pf (4 * r + 3) = nI (slA t (s + dgA t s + 2))
def psJ (t : Txt) (pf : Nat → Int32) (s r d j : Nat) : Prop :=
  (d = 0 ∧ j = 0) ∨ (d = 1 ∧ j = 1 ∧ pL t pf s r) ∨ (d = 2 ∧ j = 2 ∧ dgA t s = 2 ∧ pL t pf s r ∧ pS1 t pf s r) ∨
  (d = 3 ∧ j = dgA t s + 1 ∧ pL t pf s r ∧ pS1 t pf s r ∧ pS2 t pf s r) ∨ (d = 4 ∧ j = dgA t s + 2 ∧ pL t pf s r ∧ pS1 t pf s r ∧ pS2 t pf s r ∧ pGt t s) ∨
  (d = 5 ∧ j = dgA t s + 3 ∧ pL t pf s r ∧ pS1 t pf s r ∧ pS2 t pf s r ∧ pGt t s ∧ pS3 t pf s r)
def PS (t : Txt) (pf : Nat → Int32) (r d s k : Nat) : Prop := s = stt t r ∧ 5 * r ≤ s ∧ s ≤ k ∧ (∀ i, i < r → pA t pf i) ∧ (0 < r → 2 ≤ s ∧ isSl (cdA t (s - 2)) ∧ cdA t (s - 1) = 59) ∧ psJ t pf s r d (k - s)
theorem PS_0 (t : Txt) (pf : Nat → Int32) : PS t pf 0 0 0 0 := ⟨rfl, Nat.le_refl _, Nat.le_refl _, fun i hi => absurd hi (Nat.not_lt_zero i), fun h => absurd h (Nat.lt_irrefl 0), Or.inl ⟨rfl, rfl⟩⟩
theorem pA_up {t : Txt} {pf : Nat → Int32} {r x : Nat} {v : Int32} (h : ∀ i, i < r → pA t pf i) (hx : 4 * r ≤ x) : ∀ i, i < r → pA t (upd pf x v) i := by
  intro i hi
  have g : ∀ y, y < 4 * r → upd pf x v y = pf y := fun y hy => if_neg (by omega)
  obtain ⟨h0, h1, h2, h3, h4⟩ := h i hi
  exact ⟨h0, (g _ (by omega)).trans h1, (g _ (by omega)).trans h2, fun h9 => (g _ (by omega)).trans (h3 h9), (g _ (by omega)).trans h4⟩
theorem up_ne {pf : Nat → Int32} {x y : Nat} {v z : Int32} (h : pf y = z) (hne : y ≠ x) : upd pf x v y = z := (if_neg hne).trans h
theorem up_eq (pf : Nat → Int32) (x : Nat) (v : Int32) : upd pf x v x = v := if_pos rfl
theorem pL_up {t : Txt} {pf : Nat → Int32} {s r x : Nat} {v : Int32} (h : pL t pf s r) (hx : 4 * r < x) : pL t (upd pf x v) s r := ⟨h.1, up_ne h.2 (by omega)⟩
theorem pS1_up {t : Txt} {pf : Nat → Int32} {s r x : Nat} {v : Int32} (h : pS1 t pf s r) (hx : 4 * r + 1 < x) : pS1 t (upd pf x v) s r := ⟨h.1, up_ne h.2 (by omega)⟩
theorem pS2_up {t : Txt} {pf : Nat → Int32} {s r x : Nat} {v : Int32} (h : pS2 t pf s r) (hx : 4 * r + 2 < x) : pS2 t (upd pf x v) s r := fun e => ⟨(h e).1, up_ne (h e).2 (by omega)⟩
theorem sl_v {t : Txt} {p : Nat} (h : isSl (cdA t p)) : nI (cdA t p) - nI 48 = nI (slA t p) := by
  rw [pk_sub h.1]
  exact congrArg nI (if_pos h).symm
theorem inS {a : Nat} (h : a ≤ 126) : inR (nI a) 48 53 ↔ isSl a := by
  unfold inR
  rw [nI_leI (by omega) (by omega), nI_leI (by omega) (by omega)]
  omega
theorem nI_inj {a b : Nat} (ha : a < 2 ^ 31) (hb : b < 2 ^ 31) : nI a = nI b ↔ a = b := by
  constructor
  · intro h
    have h2 := congrArg Int32.toInt h
    rw [nI_toInt ha, nI_toInt hb] at h2
    omega
  · intro h
    rw [h]
theorem fit_0 {t : Txt} {p s : Nat} (h : p - s = 0) : fitsB t p s = decide (0 < dgA t s) := by
  unfold fitsB
  rw [if_pos h]
theorem fit_gt {t : Txt} {p s : Nat} (h : p - s = dgA t s + 1) : fitsB t p s = decide (cdA t p = 62) := by
  unfold fitsB
  rw [if_neg (by omega), if_pos h]
theorem fit_se {t : Txt} {p s : Nat} (h : p - s = dgA t s + 3) : fitsB t p s = decide (cdA t p = 59) := by
  unfold fitsB
  rw [if_neg (by omega), if_neg (by omega), if_pos h]
theorem fit_sl {t : Txt} {p s : Nat} (h0 : p - s ≠ 0) (h1 : p - s ≠ dgA t s + 1) (h2 : p - s ≠ dgA t s + 3) : fitsB t p s = decide (isSl (cdA t p)) := by
  unfold fitsB
  rw [if_neg h0, if_neg h1, if_neg h2]
theorem ite_B {c : Prop} [Decidable c] {b : Bool} {p : Prop} [Decidable p] (h : c ↔ p) (hb : b = decide p) : (if c then nI 1 else nI 0) = (if b = true then nI 1 else nI 0) := by
  subst hb
  by_cases e : c
  · rw [if_pos e, if_pos (decide_eq_true (h.mp e))]
  · rw [if_neg e, if_neg (fun h9 => e (h.mpr (of_decide_eq_true h9)))]
theorem c_X6_takes (l : Launch) (G : Gl) (L : List Nat) (F : Nat → va_E) (b : Nat) (ma : Nat → Nat) (mi : Nat → Int32) (hh : Int64) (pf : Nat → Int32) (t : Txt) (r d s k : Nat) (mb : b ∈ L) (fb : F b = mO ma mi hh) (hma : ∀ i, i < 7 → ma i ∈ L) (fq : F (ma 6) = .inl (G.2 0, 52, .inl pf)) (h3 : mi 3 = nI r) (h4 : mi 4 = nI d) (hok : okT t) (h60 : t.1 ≤ 60) (hk : k < t.1) (hP : PS t pf r d s k) : CI l yX6_takes cX6_takes 2 (some .boolean) rm_X6_takes G L F [.ref b, .int (nI (t.2 k))] (fun rr F1 => rr = (if fitsB t k s = true then nI 1 else nI 0) ∧ (∃ (mi1 pf1 : Nat → Int32), F1 b = mO ma mi1 hh ∧ (mi1 0 = mi 0 ∧ mi1 1 = mi 1 ∧ mi1 2 = mi 2) ∧ F1 (ma 6) = .inl (G.2 0, 52, .inl pf1) ∧ (fitsB t k s = true → ∃ r1 d1, PS t pf1 r1 d1 (if t.2 k = 59 then k + 1 else s) (k + 1) ∧ mi1 3 = nI r1 ∧ mi1 4 = nI d1)) ∧ ∀ q, q ≠ b → q ≠ ma 6 → F1 q = F q) := by
  have hcd : cdA t k = t.2 k := if_pos hk
  have h126 : t.2 k ≤ 126 := (hok k hk).2
  obtain ⟨hs, h5, hsk, hpa, hpr, hJ⟩ := hP
  have hr9 : r ≤ 12 := by omega
  rcases hJ with ⟨rfl, hj⟩ | ⟨rfl, hj, hL⟩ | ⟨rfl, hj, hD, hL, hS1⟩ | ⟨rfl, hj, hL, hS1, hS2⟩ | ⟨rfl, hj, hL, hS1, hS2, hG⟩ | ⟨rfl, hj, hL, hS1, hS2, hG, hS3⟩
  · have e : k = s := by omega
    have hdg : dgA t s = digI (nI (t.2 k)) := by unfold dgA; rw [← e, hcd]
    have hf := fit_0 (t := t) hj
    refine CI_imp (fun rr F1 ⟨he, h1, h2, ho⟩ => ⟨he.trans (ite_B (by rw [hdg]) hf), ⟨_, _, h1, ⟨rfl, rfl, rfl⟩, h2, fun hft => ?_⟩, ho⟩) (c_X6_takes_0 l G L F b ma mi hh pf r (t.2 k) mb fb hma fq h3 h4 hr9)
    rw [hf] at hft
    have hft2 := of_decide_eq_true hft
    have hne : t.2 k ≠ 59 := by
      intro e9
      rw [hdg, e9] at hft2
      exact absurd hft2 (by decide)
    rw [if_neg hne]
    exact ⟨r, 1, ⟨hs, h5, by omega, pA_up hpa (Nat.le_refl _), hpr, Or.inr (Or.inl ⟨rfl, by omega, hft2, by rw [up_eq, ← e, hcd]⟩)⟩, rfl, rfl⟩
  · have h2 := dgA_le t s
    have hL2 := hL.1
    have hf := fit_sl (t := t) (p := k) (s := s) (by omega) (by omega) (by omega)
    have hks : k = s + 1 := by omega
    have hlt := hL.2
    by_cases hD : dgA t s = 1
    · refine CI_imp (fun rr F1 ⟨he, h1, h2, ho⟩ => ⟨he.trans (ite_B (by rw [hcd]; exact inS h126) hf), ⟨_, _, h1, ⟨rfl, rfl, rfl⟩, h2, fun hft => ?_⟩, ho⟩) (c_X6_takes_1_1 l G L F b ma mi hh pf r (t.2 k) (cdA t s) mb fb hma fq h3 h4 hr9 hlt hD)
      rw [hf] at hft
      have hft2 := of_decide_eq_true hft
      rw [if_neg (by rw [← hcd]; omega)]
      exact ⟨r, 3, ⟨hs, h5, by omega, pA_up hpa (by omega), hpr, Or.inr (Or.inr (Or.inr (Or.inl ⟨rfl, by omega, pL_up hL (by omega), ⟨by rw [← hks]; exact hft2, by rw [up_eq, ← hks, ← hcd]; exact sl_v hft2⟩, fun e9 => absurd e9 (by omega)⟩)))⟩, rfl, rfl⟩
    · have hD2 : dgA t s = 2 := by omega
      refine CI_imp (fun rr F1 ⟨he, h1, h2, ho⟩ => ⟨he.trans (ite_B (by rw [hcd]; exact inS h126) hf), ⟨_, _, h1, ⟨rfl, rfl, rfl⟩, h2, fun hft => ?_⟩, ho⟩) (c_X6_takes_1_2 l G L F b ma mi hh pf r (t.2 k) (cdA t s) mb fb hma fq h3 h4 hr9 hlt hD2)
      rw [hf] at hft
      have hft2 := of_decide_eq_true hft
      rw [if_neg (by rw [← hcd]; omega)]
      exact ⟨r, 2, ⟨hs, h5, by omega, pA_up hpa (by omega), hpr, Or.inr (Or.inr (Or.inl ⟨rfl, by omega, hD2, pL_up hL (by omega), ⟨by rw [← hks]; exact hft2, by rw [up_eq, ← hks, ← hcd]; exact sl_v hft2⟩⟩))⟩, rfl, rfl⟩
  · have hf := fit_sl (t := t) (p := k) (s := s) (by omega) (by omega) (by omega)
    have hks : k = s + 2 := by omega
    refine CI_imp (fun rr F1 ⟨he, h1, h2, ho⟩ => ⟨he.trans (ite_B (by rw [hcd]; exact inS h126) hf), ⟨_, _, h1, ⟨rfl, rfl, rfl⟩, h2, fun hft => ?_⟩, ho⟩) (c_X6_takes_2 l G L F b ma mi hh pf r (t.2 k) mb fb hma fq h3 h4 hr9)
    rw [hf] at hft
    have hft2 := of_decide_eq_true hft
    rw [if_neg (by rw [← hcd]; omega)]
    exact ⟨r, 3, ⟨hs, h5, by omega, pA_up hpa (by omega), hpr, Or.inr (Or.inr (Or.inr (Or.inl ⟨rfl, by omega, pL_up hL (by omega), pS1_up hS1 (by omega), fun _ => ⟨by rw [← hks]; exact hft2, by rw [up_eq, ← hks, ← hcd]; exact sl_v hft2⟩⟩)))⟩, rfl, rfl⟩
  · have hf := fit_gt (t := t) hj
    have hks : k = s + dgA t s + 1 := by omega
    refine CI_imp (fun rr F1 ⟨he, h1, h2, ho⟩ => ⟨he.trans (ite_B (by rw [hcd]; exact nI_inj (by omega) (by omega)) hf), ⟨_, _, h1, ⟨rfl, rfl, rfl⟩, h2, fun hft => ?_⟩, ho⟩) (c_X6_takes_3 l G L F b ma mi hh pf r (t.2 k) mb fb hma fq h3 h4 hr9)
    rw [hf] at hft
    have hft2 := of_decide_eq_true hft
    rw [if_neg (by rw [← hcd]; omega)]
    exact ⟨r, 4, ⟨hs, h5, by omega, hpa, hpr, Or.inr (Or.inr (Or.inr (Or.inr (Or.inl ⟨rfl, by omega, hL, hS1, hS2, by unfold pGt; rw [← hks]; exact hft2⟩))))⟩, rfl, rfl⟩
  · have hf := fit_sl (t := t) (p := k) (s := s) (by omega) (by omega) (by omega)
    have hks : k = s + dgA t s + 2 := by omega
    refine CI_imp (fun rr F1 ⟨he, h1, h2, ho⟩ => ⟨he.trans (ite_B (by rw [hcd]; exact inS h126) hf), ⟨_, _, h1, ⟨rfl, rfl, rfl⟩, h2, fun hft => ?_⟩, ho⟩) (c_X6_takes_4 l G L F b ma mi hh pf r (t.2 k) mb fb hma fq h3 h4 hr9)
    rw [hf] at hft
    have hft2 := of_decide_eq_true hft
    rw [if_neg (by rw [← hcd]; omega)]
    exact ⟨r, 5, ⟨hs, h5, by omega, pA_up hpa (by omega), hpr, Or.inr (Or.inr (Or.inr (Or.inr (Or.inr ⟨rfl, by omega, pL_up hL (by omega), pS1_up hS1 (by omega), pS2_up hS2 (by omega), hG, by rw [← hks]; exact hft2, by rw [up_eq, ← hks, ← hcd]; exact sl_v hft2⟩))))⟩, rfl, rfl⟩
  · have hf := fit_se (t := t) hj
    have hks : k = s + dgA t s + 3 := by omega
    refine CI_imp (fun rr F1 ⟨he, h1, h2, ho⟩ => ⟨he.trans (ite_B (by rw [hcd]; exact nI_inj (by omega) (by omega)) hf), ⟨_, _, h1, ⟨rfl, rfl, rfl⟩, h2, fun hft => ?_⟩, ho⟩) (c_X6_takes_5 l G L F b ma mi hh pf r (t.2 k) mb fb hma fq h3 h4 hr9)
    rw [hf] at hft
    have hft2 := of_decide_eq_true hft
    rw [if_pos (by rw [← hcd]; exact hft2)]
    have hL1 := hL.1
    refine ⟨r + 1, 0, ⟨by rw [stt, ← hs]; omega, by omega, Nat.le_refl _, fun i hi => ?_, fun _ => ⟨by omega, ?_, ?_⟩, Or.inl ⟨rfl, by omega⟩⟩, rfl, rfl⟩
    · by_cases e : i = r
      · subst e
        unfold pA
        rw [← hs]
        exact ⟨hL.1, hL.2, hS1.2, fun e9 => (hS2 e9).2, hS3.2⟩
      · exact hpa i (by omega)
    · rw [show k + 1 - 2 = s + dgA t s + 2 by omega]
      exact hS3.1
    · rw [show k + 1 - 1 = k by omega]
      exact hft2
theorem PS_pr {t : Txt} {pf : Nat → Int32} {r d s : Nat} (hP : PS t pf r d s t.1) (hfw : fwA t = t.1) : d = 5 ↔ isPr t := by
  obtain ⟨hs, h5, hsk, hpa, hpr, hJ⟩ := hP
  have hc : ∀ i, i < t.1 → cdA t i = t.2 i := fun i hi => if_pos hi
  constructor
  · intro e
    rcases hJ with ⟨rfl, hj⟩ | ⟨rfl, hj, hL⟩ | ⟨rfl, hj, hD, hL, hS1⟩ | ⟨rfl, hj, hL, hS1, hS2⟩ | ⟨rfl, hj, hL, hS1, hS2, hG⟩ | ⟨-, hj, hL, hS1, hS2, hG, hS3⟩
    all_goals try (exact absurd e (by decide))
    refine ⟨hfw, by omega, ?_⟩
    rw [← hc _ (by omega), show t.1 - 2 = s + dgA t s + 1 by omega]
    exact hG
  · rintro ⟨-, h2, h62⟩
    rw [← hc _ (by omega)] at h62
    rcases hJ with ⟨rfl, hj⟩ | ⟨rfl, hj, hL⟩ | ⟨rfl, hj, hD, hL, hS1⟩ | ⟨rfl, hj, hL, hS1, hS2⟩ | ⟨rfl, hj, hL, hS1, hS2, hG⟩ | ⟨rfl, hj, hL, hS1, hS2, hG, hS3⟩
    · exfalso
      have hr : 0 < r := by
        rcases Nat.eq_zero_or_pos r with e | e
        · subst e
          have e2 : s = 0 := hs
          omega
        · exact e
      obtain ⟨-, g1, -⟩ := hpr hr
      rw [show s - 2 = t.1 - 2 by omega] at g1
      omega
    · exfalso
      have hr : 0 < r := by
        rcases Nat.eq_zero_or_pos r with e | e
        · subst e
          have e2 : s = 0 := hs
          omega
        · exact e
      obtain ⟨-, -, g1⟩ := hpr hr
      rw [show s - 1 = t.1 - 2 by omega] at g1
      omega
    · exfalso
      have g := hL.1
      unfold dgA at g
      rw [show s = t.1 - 2 by omega, h62] at g
      exact absurd g (by decide)
    · exfalso
      have g := hL.1
      by_cases e1 : dgA t s = 1
      · have g2 := hL.1
        unfold dgA at g2
        rw [show s = t.1 - 2 by omega, h62] at g2
        exact absurd g2 (by decide)
      · have g3 := hS1.1
        have := dgA_le t s
        rw [show s + 1 = t.1 - 2 by omega] at g3
        omega
    · exfalso
      have g := hL.1
      by_cases e1 : dgA t s = 1
      · have g3 := hS1.1
        rw [show s + 1 = t.1 - 2 by omega] at g3
        omega
      · have := dgA_le t s
        have g3 := (hS2 (by omega)).1
        rw [show s + 2 = t.1 - 2 by omega] at g3
        omega
    · rfl
theorem PS_last {t : Txt} {pf : Nat → Int32} {r s : Nat} (hP : PS t pf r 5 s t.1) : (∀ i, i < r + 1 → pA t pf i) ∧ t.1 ≤ stt t (r + 1) ∧ r ≤ 12 + t.1 := by
  obtain ⟨hs, h5, hsk, hpa, hpr, hJ⟩ := hP
  rcases hJ with ⟨h, hj⟩ | ⟨h, hj, hL⟩ | ⟨h, hj, hD, hL, hS1⟩ | ⟨h, hj, hL, hS1, hS2⟩ | ⟨h, hj, hL, hS1, hS2, hG⟩ | ⟨-, hj, hL, hS1, hS2, hG, hS3⟩
  all_goals try (exact absurd h (by decide))
  refine ⟨fun i hi => ?_, by rw [stt, ← hs]; omega, by omega⟩
  by_cases e : i = r
  · subst e
    unfold pA
    rw [← hs]
    exact ⟨hL.1, hL.2, hS1.2, fun e9 => (hS2 e9).2, hS3.2⟩
  · exact hpa i (by omega)
