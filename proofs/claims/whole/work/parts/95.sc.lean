/-! each order of the script: the component and the model agree -/
theorem inR_n {x : Int32} {lo hi : Nat} (h : inR x lo hi) (h1 : lo < 2 ^ 30) (h2 : hi < 2 ^ 30) : ∃ n : Nat, x = nI n ∧ lo ≤ n ∧ n ≤ hi := by
  have a := Int32.le_iff_toInt_le.mp h.1
  have b := Int32.le_iff_toInt_le.mp h.2
  rw [nI_toInt (by omega)] at a b
  refine ⟨x.toInt.toNat, ?_, by omega, by omega⟩
  apply Int32.toInt_inj.mp
  rw [nI_toInt (by omega)]
  omega
theorem inR_o {x : Int32} {hi : Nat} (h2 : hi < 2 ^ 30) (h : ¬ inR x 0 hi) : x.toInt < 0 ∨ (hi : Int) < x.toInt := by
  by_cases a : x.toInt < 0
  · exact Or.inl a
  · refine Or.inr (Int.not_le.mp fun b => h ⟨?_, ?_⟩)
    · rw [Int32.le_iff_toInt_le, nI_toInt (by omega)]; omega
    · rw [Int32.le_iff_toInt_le, nI_toInt (by omega)]; exact b
theorem dig_c {x : Int32} (h : ¬ digI x = 0) : x = nI 98 ∨ x = nI 115 ∨ x = nI 99 ∨ x = nI 119 ∨ x = nI 112 ∨ x = nI 101 ∨ x = nI 108 ∨ x = nI 105 := by
  unfold digI at h
  split at h
  · rename_i g
    rcases g with g | g | g | g | g <;> simp [g]
  · split at h
    · rename_i g
      rcases g with g | g | g <;> simp [g]
    · exact absurd rfl h
/-- how the law's cells lie -/
def LST (L : List Nat) (ad : Nat → Nat) (o b : Nat) (ma : Nat → Nat) : Prop := (∀ i, i < 166 → ad i ∈ L) ∧ (∀ i j, i < 166 → j < 166 → i ≠ j → ad i ≠ ad j) ∧ b ∈ L ∧ (∀ i, i < 7 → ma i ∈ L) ∧ o ∈ L ∧ (∀ i, i < 166 → o ≠ ad i) ∧ (o ≠ b ∧ ∀ i, i < 7 → o ≠ ma i) ∧ (∀ j, j < 166 → ad j ≠ b ∧ ∀ i, i < 7 → ad j ≠ ma i)
def wPost (G : Gl) (F : Nat → va_E) (ad : Nat → Nat) (o : Nat) (A1 : AB) (kx : Nat) (v : Int64) : Int32 → (Nat → va_E) → Prop := fun r F1 => r = nI kx ∧ XW G F1 ad A1 ∧ (∃ f, F1 o = wO G f ∧ (kx = 0 → f 0 = v)) ∧ ∀ q, q ≠ o → (∀ i, i < 166 → q ≠ ad i) → F1 q = F q
def mPost (G : Gl) (F : Nat → va_E) (b : Nat) (ma : Nat → Nat) (A1 : AB) (kx : Nat) (v : Int32) : Int32 → (Nat → va_E) → Prop := fun r F1 => (kx = 0 → r = v) ∧ MW G F1 b ma A1 kx ∧ mFr F F1 b ma
theorem wpost_n {G : Gl} {F : Nat → va_E} {ad : Nat → Nat} {o : Nat} {A1 : AB} {v : Int32} (hoa : ∀ i, i < 166 → o ≠ ad i) : ∀ (r : Int32) (F1 F2 : Nat → va_E) (f2 : Nat → Int64), (r = v ∧ XW G F1 ad A1 ∧ ∀ q, (∀ i, (i < 166) → q ≠ ad i) → F1 q = F q) → F2 o = wO G f2 → f2 0 = r.toInt64 → (∀ q, q ≠ o → F2 q = F1 q) → wPost G F ad o A1 0 v.toInt64 (nI 0) F2 := fun r F1 F2 f2 hp h2 h3 h4 =>
  ⟨rfl, hp.2.1.keep (fun i hi => h4 _ (Ne.symm (hoa i hi))), ⟨f2, h2, fun _ => by rw [h3, hp.1]⟩, fun q h5 h6 => (h4 q h5).trans (hp.2.2 q h6)⟩
theorem wpost_r {G : Gl} {F : Nat → va_E} {ad : Nat → Nat} {o : Nat} {A : AB} {v : Int32} (hoa : ∀ i, i < 166 → o ≠ ad i) (hX : XW G F ad A) : ∀ (r : Int32) (F1 F2 : Nat → va_E) (f2 : Nat → Int64), (r = v ∧ ∀ q, F1 q = F q) → F2 o = wO G f2 → f2 0 = r.toInt64 → (∀ q, q ≠ o → F2 q = F1 q) → wPost G F ad o A 0 v.toInt64 (nI 0) F2 := fun r F1 F2 f2 hp h2 h3 h4 =>
  ⟨rfl, hX.keep (fun i hi => (h4 _ (Ne.symm (hoa i hi))).trans (hp.2 _)), ⟨f2, h2, fun _ => by rw [h3, hp.1]⟩, fun q h5 _ => (h4 q h5).trans (hp.2 q)⟩
theorem wpost_x {G : Gl} {F : Nat → va_E} {ad : Nat → Nat} {o : Nat} {A : AB} {v : Int64} {f : Nat → Int64} {k : Nat} (hk : k ≠ 0) (hX : XW G F ad A) (hO : F o = wO G f) : wPost G F ad o A k v (nI k) F := ⟨rfl, hX, ⟨f, hO, fun h => absurd h hk⟩, fun _ _ _ => rfl⟩
def SC (l : Launch) (G : Gl) (L : List Nat) (ad : Nat → Nat) (o b : Nat) (ma : Nat → Nat) (A : AB) (wy : MethodName) (wc : ByteArray) (wn : Nat) (hh : List (Nat × Nat × Nat × Nat)) (my : MethodName) (mc : ByteArray) (mn : Nat) (rm : Room) (as : List Value) : Prop :=
  ∃ (kx : Nat) (A1 : AB) (v : Int32), kx < 4 ∧ okA A1 ∧ okCA A1 ∧ (∀ (F : Nat → va_E) (f : Nat → Int64), XW G F ad A → F o = wO G f → CW l wy wc wn hh G L F (.ref (ad 0) :: (as ++ [.ref o])) (wPost G F ad o A1 kx v.toInt64)) ∧ (∀ (F : Nat → va_E) (th : Nat), MW G F b ma A th → CI l my mc mn (some .int) rm G L F (.ref b :: as) (mPost G F b ma A1 kx v))
theorem sc_cut (l : Launch) (hst : l.stackTraces = false) (G : Gl) (L : List Nat) (ad : Nat → Nat) (o b : Nat) (ma : Nat → Nat) (hS : LST L ad o b ma) (A : AB) (hA : okA A) (hC : okCA A) (x9 : Int32) : SC l G L ad o b ma A yL_cut cL_cut 4 hh_cut yX6_cut cX6_cut 4 rm_X6_cut [.int x9] := by
  obtain ⟨hL, hin, mb, hma, ho, hoa, -, -⟩ := hS
  have hL0 := hL 0 (by decide)
  have hc6 : A.1.1 ≤ 6 := hA.1.2.1
  have hc2 : 2 ≤ A.1.1 := hA.1.1
  by_cases h : inR x9 2 6
  ·
    obtain ⟨c9, rfl, hc91, hc92⟩ := inR_n h (by omega) (by omega)
    exact ⟨0, (aSave A (cutS c9 A.1)), nI A.1.1, by decide, okA_save hA (okS_cut hA.1 hc91 hc92), okCA_save hA hC (okC_cut), fun F f hX hO => w_cut_n l G L F ad o f _ hL0 ho hO hX.1 (c_X5_cut l G L F ad hL hin A c9 hc91 hc92 hX hA) (fun r F1 hp => (hp.2.2 o hoa).trans hO) (wpost_n hoa), fun F th hM => CI_imp (fun r F1 hp => ⟨fun _ => hp.1, hp.2⟩) (k_X6_cut l G L F b ma A th c9 mb hma hM hA (by omega) h)⟩
  ·
    exact ⟨1, A, 0, by decide, hA, hC, fun F f hX hO => w_cut_x1 l G L F ad o f _ hL0 ho hO hX.1 (x_X5_cut l G L F ad hL hin A x9 h hX hA hst) (wpost_x (by decide) hX hO), fun F th hM => CI_imp (fun r F1 hp => ⟨fun h => absurd h (by decide), hp⟩) (k_X6_cut_x l G L F b ma A th x9 mb hma hM hA h)⟩
theorem sc_setField (l : Launch) (hst : l.stackTraces = false) (G : Gl) (L : List Nat) (ad : Nat → Nat) (o b : Nat) (ma : Nat → Nat) (hS : LST L ad o b ma) (A : AB) (hA : okA A) (hC : okCA A) (x9 y9 z9 : Int32) : SC l G L ad o b ma A yL_setField cL_setField 6 hh_setField yX6_setField cX6_setField 4 rm_X6_setField [.int x9, .int y9, .int z9] := by
  obtain ⟨hL, hin, mb, hma, ho, hoa, -, -⟩ := hS
  have hL0 := hL 0 (by decide)
  have hc6 : A.1.1 ≤ 6 := hA.1.2.1
  have hc2 : 2 ≤ A.1.1 := hA.1.1
  by_cases h : inR x9 0 5
  ·
    obtain ⟨f9, rfl, hf91, hf92⟩ := inR_n h (by omega) (by omega)
    by_cases h8 : inR y9 2 A.1.1
    ·
      obtain ⟨p9, rfl, hp91, hp92⟩ := inR_n h8 (by omega) (by omega)
      exact ⟨0, (aSave A (rowS (f9) (va_up (A.1.2.2.2.2.2 (f9)) p9 (zi z9)) A.1)), nI (A.1.2.2.2.2.2 (f9) p9).val, by decide, okA_save hA (okS_row hA.1 (fun _ => ⟨(va_up_ne _ _ (by omega)).trans (hA.1.2.2.2 f9 (by omega)).1, (va_up_ne _ _ (by omega)).trans (hA.1.2.2.2 f9 (by omega)).2⟩)), okCA_save hA hC (okC_row hC.1 (fun _ k hk => (va_up_ne _ _ (by omega)).trans (hC.1 f9 (by omega) k hk))), fun F f hX hO => w_setField_n l G L F ad o f _ _ _ hL0 ho hO hX.1 (c_X5_setField l G L F ad hL hin A f9 p9 z9 (by omega) hp91 hp92 hX hA) (fun r F1 hp => (hp.2.2 o hoa).trans hO) (wpost_n hoa), fun F th hM => CI_imp (fun r F1 hp => ⟨fun _ => hp.1, hp.2⟩) (k_X6_setField l G L F b ma A th f9 p9 z9 mb hma hM hA (by omega) (by omega) h h8)⟩
    ·
      exact ⟨1, A, 0, by decide, hA, hC, fun F f hX hO => w_setField_x1 l G L F ad o f _ _ _ hL0 ho hO hX.1 (x_X5_setField_p l G L F ad hL hin A f9 (by omega) y9 z9 h8 hX hA hst) (wpost_x (by decide) hX hO), fun F th hM => CI_imp (fun r F1 hp => ⟨fun h => absurd h (by decide), hp⟩) (k_X6_setField_xp l G L F b ma A th f9 y9 z9 mb hma hM hA h h8)⟩
  ·
    exact ⟨1, A, 0, by decide, hA, hC, fun F f hX hO => w_setField_x1 l G L F ad o f _ _ _ hL0 ho hO hX.1 (x_X5_setField_s l G L F ad hL hin A x9 y9 z9 h hX hA hst) (wpost_x (by decide) hX hO), fun F th hM => CI_imp (fun r F1 hp => ⟨fun h => absurd h (by decide), hp⟩) (k_X6_setField_xs l G L F b ma A th x9 y9 z9 mb hma hM hA h)⟩
theorem sc_setFlow (l : Launch) (hst : l.stackTraces = false) (G : Gl) (L : List Nat) (ad : Nat → Nat) (o b : Nat) (ma : Nat → Nat) (hS : LST L ad o b ma) (A : AB) (hA : okA A) (hC : okCA A) (x9 y9 z9 : Int32) : SC l G L ad o b ma A yL_setFlow cL_setFlow 6 hh_setFlow yX6_setFlow cX6_setFlow 4 rm_X6_setFlow [.int x9, .int y9, .int z9] := by
  obtain ⟨hL, hin, mb, hma, ho, hoa, -, -⟩ := hS
  have hL0 := hL 0 (by decide)
  have hc6 : A.1.1 ≤ 6 := hA.1.2.1
  have hc2 : 2 ≤ A.1.1 := hA.1.1
  by_cases h : inR x9 0 5
  ·
    obtain ⟨f9, rfl, hf91, hf92⟩ := inR_n h (by omega) (by omega)
    by_cases h8 : inR y9 2 A.1.1
    ·
      obtain ⟨p9, rfl, hp91, hp92⟩ := inR_n h8 (by omega) (by omega)
      exact ⟨0, (aSave A (rowS (6 + f9) (va_up (A.1.2.2.2.2.2 (6 + f9)) p9 (zi z9)) A.1)), nI (A.1.2.2.2.2.2 (6 + f9) p9).val, by decide, okA_save hA (okS_row hA.1 (fun h => absurd h (by omega))), okCA_save hA hC (okC_row hC.1 (fun h => absurd h (by omega))), fun F f hX hO => w_setFlow_n l G L F ad o f _ _ _ hL0 ho hO hX.1 (c_X5_setFlow l G L F ad hL hin A f9 p9 z9 (by omega) hp91 hp92 hX hA) (fun r F1 hp => (hp.2.2 o hoa).trans hO) (wpost_n hoa), fun F th hM => CI_imp (fun r F1 hp => ⟨fun _ => hp.1, hp.2⟩) (k_X6_setFlow l G L F b ma A th f9 p9 z9 mb hma hM hA (by omega) (by omega) h h8)⟩
    ·
      exact ⟨1, A, 0, by decide, hA, hC, fun F f hX hO => w_setFlow_x1 l G L F ad o f _ _ _ hL0 ho hO hX.1 (x_X5_setFlow_p l G L F ad hL hin A f9 (by omega) y9 z9 h8 hX hA hst) (wpost_x (by decide) hX hO), fun F th hM => CI_imp (fun r F1 hp => ⟨fun h => absurd h (by decide), hp⟩) (k_X6_setFlow_xp l G L F b ma A th f9 y9 z9 mb hma hM hA h h8)⟩
  ·
    exact ⟨1, A, 0, by decide, hA, hC, fun F f hX hO => w_setFlow_x1 l G L F ad o f _ _ _ hL0 ho hO hX.1 (x_X5_setFlow_s l G L F ad hL hin A x9 y9 z9 h hX hA hst) (wpost_x (by decide) hX hO), fun F th hM => CI_imp (fun r F1 hp => ⟨fun h => absurd h (by decide), hp⟩) (k_X6_setFlow_xs l G L F b ma A th x9 y9 z9 mb hma hM hA h)⟩
theorem sc_earn (l : Launch) (hst : l.stackTraces = false) (G : Gl) (L : List Nat) (ad : Nat → Nat) (o b : Nat) (ma : Nat → Nat) (hS : LST L ad o b ma) (A : AB) (hA : okA A) (hC : okCA A) (x9 : Int32) : SC l G L ad o b ma A yL_earn cL_earn 4 hh_earn yX6_earn cX6_earn 2 rm_X6_earn [.int x9] := by
  obtain ⟨hL, hin, mb, hma, ho, hoa, -, -⟩ := hS
  have hL0 := hL 0 (by decide)
  have hc6 : A.1.1 ≤ 6 := hA.1.2.1
  have hc2 : 2 ≤ A.1.1 := hA.1.1
  by_cases h : inR x9 1 1000
  ·
    obtain ⟨m9, rfl, hm91, hm92⟩ := inR_n h (by omega) (by omega)
    by_cases h8 : A.1.2.1 + m9 ≤ 100000
    ·
      exact ⟨0, (aSave A (earnS m9 A.1)), nI (A.1.2.1 + m9), by decide, okA_save hA (okS_earn hA.1 h8), okCA_save hA hC (okC_earn hC.1), fun F f hX hO => w_earn_n l G L F ad o f _ hL0 ho hO hX.1 (c_X5_earn l G L F ad hL hin A m9 hm91 hm92 h8 hX hA) (fun r F1 hp => (hp.2.2 o hoa).trans hO) (wpost_n hoa), fun F th hM => CI_imp (fun r F1 hp => ⟨fun _ => hp.1, hp.2⟩) (k_X6_earn l G L F b ma A th m9 mb hma hM hA hm92 h h8)⟩
    ·
      exact ⟨2, A, 0, by decide, hA, hC, fun F f hX hO => w_earn_x2 l G L F ad o f _ hL0 ho hO hX.1 (x_X5_earn_b l G L F ad hL hin A m9 hm91 hm92 (by omega) hX hA hst) (wpost_x (by decide) hX hO), fun F th hM => CI_imp (fun r F1 hp => ⟨fun h => absurd h (by decide), hp⟩) (k_X6_earn_x2 l G L F b ma A th m9 mb hma hM hA hm92 h (by omega))⟩
  ·
    exact ⟨1, A, 0, by decide, hA, hC, fun F f hX hO => w_earn_x1 l G L F ad o f _ hL0 ho hO hX.1 (x_X5_earn_a l G L F ad hL hin A x9 h hX hA hst) (wpost_x (by decide) hX hO), fun F th hM => CI_imp (fun r F1 hp => ⟨fun h => absurd h (by decide), hp⟩) (k_X6_earn_x1 l G L F b ma A th x9 mb hma hM hA h)⟩
theorem sc_bracket (l : Launch) (hst : l.stackTraces = false) (G : Gl) (L : List Nat) (ad : Nat → Nat) (o b : Nat) (ma : Nat → Nat) (hS : LST L ad o b ma) (A : AB) (hA : okA A) (hC : okCA A) (x9 y9 z9 : Int32) : SC l G L ad o b ma A yL_bracket cL_bracket 6 hh_bracket yX6_bracket cX6_bracket 4 rm_X6_bracket [.int x9, .int y9, .int z9] := by
  obtain ⟨hL, hin, mb, hma, ho, hoa, -, -⟩ := hS
  have hL0 := hL 0 (by decide)
  have hc6 : A.1.1 ≤ 6 := hA.1.2.1
  have hc2 : 2 ≤ A.1.1 := hA.1.1
  by_cases h1 : inR x9 0 5
  ·
    obtain ⟨f9, rfl, hf91, hf92⟩ := inR_n h1 (by omega) (by omega)
    by_cases h2 : inR y9 0 5
    ·
      obtain ⟨g9, rfl, hg91, hg92⟩ := inR_n h2 (by omega) (by omega)
      by_cases h3 : inR z9 0 5
      ·
        obtain ⟨t9, rfl, ht91, ht92⟩ := inR_n h3 (by omega) (by omega)
        by_cases hm : 2 * A.1.1 ≤ A.1.2.1
        ·
          exact ⟨0, (aSave A (ordS 98 f9 g9 t9 A.1)), lowR (ordR 98 f9 g9 A.1.1 A.1.2.2.2.2.2), by decide, okA_save hA (okS_ord (Or.inl rfl) (by omega) (by omega) hA.1), okCA_save hA hC (okC_ord (Or.inl rfl) (by omega) (by omega) (by omega) hC.1), fun F f hX hO => w_bracket_n l G L F ad o f _ _ _ hL0 ho hO hX.1 (c_X5_bracket l G L F ad hL hin A f9 g9 t9 (by omega) (by omega) (by omega) hm hX hA) (fun r F1 hp => (hp.2.2 o hoa).trans hO) (wpost_n hoa), fun F th hM => CI_imp (fun r F1 hp => ⟨fun _ => hp.1, hp.2⟩) (k_X6_bracket l G L F b ma A th f9 g9 t9 mb hma hM hA (by omega) (by omega) (by omega) ⟨h1, h2⟩ h3 hm)⟩
        ·
          exact ⟨2, A, 0, by decide, hA, hC, fun F f hX hO => w_bracket_x2 l G L F ad o f _ _ _ hL0 ho hO hX.1 (x_X5_bracket_m l G L F ad hL hin A f9 g9 t9 (by omega) (by omega) (by omega) (by omega) hX hA hst) (wpost_x (by decide) hX hO), fun F th hM => CI_imp (fun r F1 hp => ⟨fun h => absurd h (by decide), hp⟩) (k_X6_bracket_x2 l G L F b ma A th (nI f9) (nI g9) (nI t9) mb hma hM hA ⟨h1, h2⟩ h3 (by omega))⟩
      ·
        exact ⟨1, A, 0, by decide, hA, hC, fun F f hX hO => w_bracket_x1 l G L F ad o f _ _ _ hL0 ho hO hX.1 (x_X5_bracket_3 l G L F ad hL hin A f9 g9 (by omega) (by omega) z9 h3 hX hA hst) (wpost_x (by decide) hX hO), fun F th hM => CI_imp (fun r F1 hp => ⟨fun h => absurd h (by decide), hp⟩) (k_X6_bracket_x1b l G L F b ma A th (nI f9) (nI g9) z9 mb hma hM hA ⟨h1, h2⟩ h3)⟩
    ·
      exact ⟨1, A, 0, by decide, hA, hC, fun F f hX hO => w_bracket_x1 l G L F ad o f _ _ _ hL0 ho hO hX.1 (x_X5_bracket_2 l G L F ad hL hin A f9 (by omega) y9 z9 h2 hX hA hst) (wpost_x (by decide) hX hO), fun F th hM => CI_imp (fun r F1 hp => ⟨fun h => absurd h (by decide), hp⟩) (k_X6_bracket_x1 l G L F b ma A th (nI f9) y9 z9 mb hma hM hA (fun h => h2 h.2))⟩
  ·
    exact ⟨1, A, 0, by decide, hA, hC, fun F f hX hO => w_bracket_x1 l G L F ad o f _ _ _ hL0 ho hO hX.1 (x_X5_bracket_1 l G L F ad hL hin A x9 y9 z9 h1 hX hA hst) (wpost_x (by decide) hX hO), fun F th hM => CI_imp (fun r F1 hp => ⟨fun h => absurd h (by decide), hp⟩) (k_X6_bracket_x1 l G L F b ma A th x9 y9 z9 mb hma hM hA (fun h => h1 h.1))⟩
theorem sc_sum (l : Launch) (hst : l.stackTraces = false) (G : Gl) (L : List Nat) (ad : Nat → Nat) (o b : Nat) (ma : Nat → Nat) (hS : LST L ad o b ma) (A : AB) (hA : okA A) (hC : okCA A) (x9 y9 z9 : Int32) : SC l G L ad o b ma A yL_sum cL_sum 6 hh_sum yX6_sum cX6_sum 4 rm_X6_sum [.int x9, .int y9, .int z9] := by
  obtain ⟨hL, hin, mb, hma, ho, hoa, -, -⟩ := hS
  have hL0 := hL 0 (by decide)
  have hc6 : A.1.1 ≤ 6 := hA.1.2.1
  have hc2 : 2 ≤ A.1.1 := hA.1.1
  by_cases h1 : inR x9 0 5
  ·
    obtain ⟨f9, rfl, hf91, hf92⟩ := inR_n h1 (by omega) (by omega)
    by_cases h2 : inR y9 0 5
    ·
      obtain ⟨g9, rfl, hg91, hg92⟩ := inR_n h2 (by omega) (by omega)
      by_cases h3 : inR z9 0 5
      ·
        obtain ⟨t9, rfl, ht91, ht92⟩ := inR_n h3 (by omega) (by omega)
        by_cases hm : 1 * A.1.1 ≤ A.1.2.1
        ·
          exact ⟨0, (aSave A (ordS 115 f9 g9 t9 A.1)), lowR (ordR 115 f9 g9 A.1.1 A.1.2.2.2.2.2), by decide, okA_save hA (okS_ord (Or.inr (Or.inl rfl)) (by omega) (by omega) hA.1), okCA_save hA hC (okC_ord (Or.inr (Or.inl rfl)) (by omega) (by omega) (by omega) hC.1), fun F f hX hO => w_sum_n l G L F ad o f _ _ _ hL0 ho hO hX.1 (c_X5_sum l G L F ad hL hin A f9 g9 t9 (by omega) (by omega) (by omega) hm hX hA) (fun r F1 hp => (hp.2.2 o hoa).trans hO) (wpost_n hoa), fun F th hM => CI_imp (fun r F1 hp => ⟨fun _ => hp.1, hp.2⟩) (k_X6_sum l G L F b ma A th f9 g9 t9 mb hma hM hA (by omega) (by omega) (by omega) ⟨h1, h2⟩ h3 hm)⟩
        ·
          exact ⟨2, A, 0, by decide, hA, hC, fun F f hX hO => w_sum_x2 l G L F ad o f _ _ _ hL0 ho hO hX.1 (x_X5_sum_m l G L F ad hL hin A f9 g9 t9 (by omega) (by omega) (by omega) (by omega) hX hA hst) (wpost_x (by decide) hX hO), fun F th hM => CI_imp (fun r F1 hp => ⟨fun h => absurd h (by decide), hp⟩) (k_X6_sum_x2 l G L F b ma A th (nI f9) (nI g9) (nI t9) mb hma hM hA ⟨h1, h2⟩ h3 (by omega))⟩
      ·
        exact ⟨1, A, 0, by decide, hA, hC, fun F f hX hO => w_sum_x1 l G L F ad o f _ _ _ hL0 ho hO hX.1 (x_X5_sum_3 l G L F ad hL hin A f9 g9 (by omega) (by omega) z9 h3 hX hA hst) (wpost_x (by decide) hX hO), fun F th hM => CI_imp (fun r F1 hp => ⟨fun h => absurd h (by decide), hp⟩) (k_X6_sum_x1b l G L F b ma A th (nI f9) (nI g9) z9 mb hma hM hA ⟨h1, h2⟩ h3)⟩
    ·
      exact ⟨1, A, 0, by decide, hA, hC, fun F f hX hO => w_sum_x1 l G L F ad o f _ _ _ hL0 ho hO hX.1 (x_X5_sum_2 l G L F ad hL hin A f9 (by omega) y9 z9 h2 hX hA hst) (wpost_x (by decide) hX hO), fun F th hM => CI_imp (fun r F1 hp => ⟨fun h => absurd h (by decide), hp⟩) (k_X6_sum_x1 l G L F b ma A th (nI f9) y9 z9 mb hma hM hA (fun h => h2 h.2))⟩
  ·
    exact ⟨1, A, 0, by decide, hA, hC, fun F f hX hO => w_sum_x1 l G L F ad o f _ _ _ hL0 ho hO hX.1 (x_X5_sum_1 l G L F ad hL hin A x9 y9 z9 h1 hX hA hst) (wpost_x (by decide) hX hO), fun F th hM => CI_imp (fun r F1 hp => ⟨fun h => absurd h (by decide), hp⟩) (k_X6_sum_x1 l G L F b ma A th x9 y9 z9 mb hma hM hA (fun h => h1 h.1))⟩
theorem sc_byBrackets (l : Launch) (hst : l.stackTraces = false) (G : Gl) (L : List Nat) (ad : Nat → Nat) (o b : Nat) (ma : Nat → Nat) (hS : LST L ad o b ma) (A : AB) (hA : okA A) (hC : okCA A) (x9 y9 z9 : Int32) : SC l G L ad o b ma A yL_byBrackets cL_byBrackets 6 hh_byBrackets yX6_byBrackets cX6_byBrackets 4 rm_X6_byBrackets [.int x9, .int y9, .int z9] := by
  obtain ⟨hL, hin, mb, hma, ho, hoa, -, -⟩ := hS
  have hL0 := hL 0 (by decide)
  have hc6 : A.1.1 ≤ 6 := hA.1.2.1
  have hc2 : 2 ≤ A.1.1 := hA.1.1
  by_cases h1 : inR x9 0 5
  ·
    obtain ⟨f9, rfl, hf91, hf92⟩ := inR_n h1 (by omega) (by omega)
    by_cases h2 : inR y9 0 5
    ·
      obtain ⟨g9, rfl, hg91, hg92⟩ := inR_n h2 (by omega) (by omega)
      by_cases h3 : inR z9 0 5
      ·
        obtain ⟨t9, rfl, ht91, ht92⟩ := inR_n h3 (by omega) (by omega)
        by_cases hm : 20 * A.1.1 ≤ A.1.2.1
        ·
          exact ⟨0, (aSave A (ordS 119 f9 g9 t9 A.1)), lowR (ordR 119 f9 g9 A.1.1 A.1.2.2.2.2.2), by decide, okA_save hA (okS_ord (Or.inr (Or.inr (Or.inl rfl))) (by omega) (by omega) hA.1), okCA_save hA hC (okC_ord (Or.inr (Or.inr (Or.inl rfl))) (by omega) (by omega) (by omega) hC.1), fun F f hX hO => w_byBrackets_n l G L F ad o f _ _ _ hL0 ho hO hX.1 (c_X5_byBrackets l G L F ad hL hin A f9 g9 t9 (by omega) (by omega) (by omega) hm hX hA) (fun r F1 hp => (hp.2.2 o hoa).trans hO) (wpost_n hoa), fun F th hM => CI_imp (fun r F1 hp => ⟨fun _ => hp.1, hp.2⟩) (k_X6_byBrackets l G L F b ma A th f9 g9 t9 mb hma hM hA (by omega) (by omega) (by omega) ⟨h1, h2⟩ h3 hm)⟩
        ·
          exact ⟨2, A, 0, by decide, hA, hC, fun F f hX hO => w_byBrackets_x2 l G L F ad o f _ _ _ hL0 ho hO hX.1 (x_X5_byBrackets_m l G L F ad hL hin A f9 g9 t9 (by omega) (by omega) (by omega) (by omega) hX hA hst) (wpost_x (by decide) hX hO), fun F th hM => CI_imp (fun r F1 hp => ⟨fun h => absurd h (by decide), hp⟩) (k_X6_byBrackets_x2 l G L F b ma A th (nI f9) (nI g9) (nI t9) mb hma hM hA ⟨h1, h2⟩ h3 (by omega))⟩
      ·
        exact ⟨1, A, 0, by decide, hA, hC, fun F f hX hO => w_byBrackets_x1 l G L F ad o f _ _ _ hL0 ho hO hX.1 (x_X5_byBrackets_3 l G L F ad hL hin A f9 g9 (by omega) (by omega) z9 h3 hX hA hst) (wpost_x (by decide) hX hO), fun F th hM => CI_imp (fun r F1 hp => ⟨fun h => absurd h (by decide), hp⟩) (k_X6_byBrackets_x1b l G L F b ma A th (nI f9) (nI g9) z9 mb hma hM hA ⟨h1, h2⟩ h3)⟩
    ·
      exact ⟨1, A, 0, by decide, hA, hC, fun F f hX hO => w_byBrackets_x1 l G L F ad o f _ _ _ hL0 ho hO hX.1 (x_X5_byBrackets_2 l G L F ad hL hin A f9 (by omega) y9 z9 h2 hX hA hst) (wpost_x (by decide) hX hO), fun F th hM => CI_imp (fun r F1 hp => ⟨fun h => absurd h (by decide), hp⟩) (k_X6_byBrackets_x1 l G L F b ma A th (nI f9) y9 z9 mb hma hM hA (fun h => h2 h.2))⟩
  ·
    exact ⟨1, A, 0, by decide, hA, hC, fun F f hX hO => w_byBrackets_x1 l G L F ad o f _ _ _ hL0 ho hO hX.1 (x_X5_byBrackets_1 l G L F ad hL hin A x9 y9 z9 h1 hX hA hst) (wpost_x (by decide) hX hO), fun F th hM => CI_imp (fun r F1 hp => ⟨fun h => absurd h (by decide), hp⟩) (k_X6_byBrackets_x1 l G L F b ma A th x9 y9 z9 mb hma hM hA (fun h => h1 h.1))⟩
theorem sc_push (l : Launch) (hst : l.stackTraces = false) (G : Gl) (L : List Nat) (ad : Nat → Nat) (o b : Nat) (ma : Nat → Nat) (hS : LST L ad o b ma) (A : AB) (hA : okA A) (hC : okCA A) (x9 y9 z9 : Int32) : SC l G L ad o b ma A yL_push cL_push 6 hh_push yX6_push cX6_push 4 rm_X6_push [.int x9, .int y9, .int z9] := by
  obtain ⟨hL, hin, mb, hma, ho, hoa, -, -⟩ := hS
  have hL0 := hL 0 (by decide)
  have hc6 : A.1.1 ≤ 6 := hA.1.2.1
  have hc2 : 2 ≤ A.1.1 := hA.1.1
  by_cases h1 : inR x9 0 5
  ·
    obtain ⟨f9, rfl, hf91, hf92⟩ := inR_n h1 (by omega) (by omega)
    by_cases h2 : inR y9 0 5
    ·
      obtain ⟨g9, rfl, hg91, hg92⟩ := inR_n h2 (by omega) (by omega)
      by_cases h3 : inR z9 0 5
      ·
        obtain ⟨t9, rfl, ht91, ht92⟩ := inR_n h3 (by omega) (by omega)
        by_cases hm : 6 * A.1.1 ≤ A.1.2.1
        ·
          exact ⟨0, (aSave A (ordS 112 f9 g9 t9 A.1)), lowR (ordR 112 f9 g9 A.1.1 A.1.2.2.2.2.2), by decide, okA_save hA (okS_ord (Or.inr (Or.inr (Or.inr (Or.inl rfl)))) (by omega) (by omega) hA.1), okCA_save hA hC (okC_ord (Or.inr (Or.inr (Or.inr (Or.inl rfl)))) (by omega) (by omega) (by omega) hC.1), fun F f hX hO => w_push_n l G L F ad o f _ _ _ hL0 ho hO hX.1 (c_X5_push l G L F ad hL hin A f9 g9 t9 (by omega) (by omega) (by omega) hm hX hA) (fun r F1 hp => (hp.2.2 o hoa).trans hO) (wpost_n hoa), fun F th hM => CI_imp (fun r F1 hp => ⟨fun _ => hp.1, hp.2⟩) (k_X6_push l G L F b ma A th f9 g9 t9 mb hma hM hA (by omega) (by omega) (by omega) ⟨h1, h2⟩ h3 hm)⟩
        ·
          exact ⟨2, A, 0, by decide, hA, hC, fun F f hX hO => w_push_x2 l G L F ad o f _ _ _ hL0 ho hO hX.1 (x_X5_push_m l G L F ad hL hin A f9 g9 t9 (by omega) (by omega) (by omega) (by omega) hX hA hst) (wpost_x (by decide) hX hO), fun F th hM => CI_imp (fun r F1 hp => ⟨fun h => absurd h (by decide), hp⟩) (k_X6_push_x2 l G L F b ma A th (nI f9) (nI g9) (nI t9) mb hma hM hA ⟨h1, h2⟩ h3 (by omega))⟩
      ·
        exact ⟨1, A, 0, by decide, hA, hC, fun F f hX hO => w_push_x1 l G L F ad o f _ _ _ hL0 ho hO hX.1 (x_X5_push_3 l G L F ad hL hin A f9 g9 (by omega) (by omega) z9 h3 hX hA hst) (wpost_x (by decide) hX hO), fun F th hM => CI_imp (fun r F1 hp => ⟨fun h => absurd h (by decide), hp⟩) (k_X6_push_x1b l G L F b ma A th (nI f9) (nI g9) z9 mb hma hM hA ⟨h1, h2⟩ h3)⟩
    ·
      exact ⟨1, A, 0, by decide, hA, hC, fun F f hX hO => w_push_x1 l G L F ad o f _ _ _ hL0 ho hO hX.1 (x_X5_push_2 l G L F ad hL hin A f9 (by omega) y9 z9 h2 hX hA hst) (wpost_x (by decide) hX hO), fun F th hM => CI_imp (fun r F1 hp => ⟨fun h => absurd h (by decide), hp⟩) (k_X6_push_x1 l G L F b ma A th (nI f9) y9 z9 mb hma hM hA (fun h => h2 h.2))⟩
  ·
    exact ⟨1, A, 0, by decide, hA, hC, fun F f hX hO => w_push_x1 l G L F ad o f _ _ _ hL0 ho hO hX.1 (x_X5_push_1 l G L F ad hL hin A x9 y9 z9 h1 hX hA hst) (wpost_x (by decide) hX hO), fun F th hM => CI_imp (fun r F1 hp => ⟨fun h => absurd h (by decide), hp⟩) (k_X6_push_x1 l G L F b ma A th x9 y9 z9 mb hma hM hA (fun h => h1 h.1))⟩
theorem sc_compose (l : Launch) (hst : l.stackTraces = false) (G : Gl) (L : List Nat) (ad : Nat → Nat) (o b : Nat) (ma : Nat → Nat) (hS : LST L ad o b ma) (A : AB) (hA : okA A) (hC : okCA A) (x9 y9 z9 : Int32) : SC l G L ad o b ma A yL_compose cL_compose 6 hh_compose yX6_compose cX6_compose 4 rm_X6_compose [.int x9, .int y9, .int z9] := by
  obtain ⟨hL, hin, mb, hma, ho, hoa, -, -⟩ := hS
  have hL0 := hL 0 (by decide)
  have hc6 : A.1.1 ≤ 6 := hA.1.2.1
  have hc2 : 2 ≤ A.1.1 := hA.1.1
  by_cases h1 : inR x9 0 5
  ·
    obtain ⟨f9, rfl, hf91, hf92⟩ := inR_n h1 (by omega) (by omega)
    by_cases h2 : inR y9 0 5
    ·
      obtain ⟨g9, rfl, hg91, hg92⟩ := inR_n h2 (by omega) (by omega)
      by_cases h3 : inR z9 0 5
      ·
        obtain ⟨t9, rfl, ht91, ht92⟩ := inR_n h3 (by omega) (by omega)
        by_cases hm : 4 * A.1.1 ≤ A.1.2.1
        ·
          exact ⟨0, (aSave A (ordS 99 f9 g9 t9 A.1)), lowR (ordR 99 f9 g9 A.1.1 A.1.2.2.2.2.2), by decide, okA_save hA (okS_ord (Or.inr (Or.inr (Or.inr (Or.inr (Or.inr (Or.inr (Or.inl rfl))))))) (by omega) (by omega) hA.1), okCA_save hA hC (okC_ord (Or.inr (Or.inr (Or.inr (Or.inr (Or.inr (Or.inr (Or.inl rfl))))))) (by omega) (by omega) (by omega) hC.1), fun F f hX hO => w_compose_n l G L F ad o f _ _ _ hL0 ho hO hX.1 (c_X5_compose l G L F ad hL hin A f9 g9 t9 (by omega) (by omega) (by omega) hm hX hA) (fun r F1 hp => (hp.2.2 o hoa).trans hO) (wpost_n hoa), fun F th hM => CI_imp (fun r F1 hp => ⟨fun _ => hp.1, hp.2⟩) (k_X6_compose l G L F b ma A th f9 g9 t9 mb hma hM hA (by omega) (by omega) (by omega) ⟨h1, h2⟩ h3 hm)⟩
        ·
          exact ⟨2, A, 0, by decide, hA, hC, fun F f hX hO => w_compose_x2 l G L F ad o f _ _ _ hL0 ho hO hX.1 (x_X5_compose_m l G L F ad hL hin A f9 g9 t9 (by omega) (by omega) (by omega) (by omega) hX hA hst) (wpost_x (by decide) hX hO), fun F th hM => CI_imp (fun r F1 hp => ⟨fun h => absurd h (by decide), hp⟩) (k_X6_compose_x2 l G L F b ma A th (nI f9) (nI g9) (nI t9) mb hma hM hA ⟨h1, h2⟩ h3 (by omega))⟩
      ·
        exact ⟨1, A, 0, by decide, hA, hC, fun F f hX hO => w_compose_x1 l G L F ad o f _ _ _ hL0 ho hO hX.1 (x_X5_compose_3 l G L F ad hL hin A f9 g9 (by omega) (by omega) z9 h3 hX hA hst) (wpost_x (by decide) hX hO), fun F th hM => CI_imp (fun r F1 hp => ⟨fun h => absurd h (by decide), hp⟩) (k_X6_compose_x1b l G L F b ma A th (nI f9) (nI g9) z9 mb hma hM hA ⟨h1, h2⟩ h3)⟩
    ·
      exact ⟨1, A, 0, by decide, hA, hC, fun F f hX hO => w_compose_x1 l G L F ad o f _ _ _ hL0 ho hO hX.1 (x_X5_compose_2 l G L F ad hL hin A f9 (by omega) y9 z9 h2 hX hA hst) (wpost_x (by decide) hX hO), fun F th hM => CI_imp (fun r F1 hp => ⟨fun h => absurd h (by decide), hp⟩) (k_X6_compose_x1 l G L F b ma A th (nI f9) y9 z9 mb hma hM hA (fun h => h2 h.2))⟩
  ·
    exact ⟨1, A, 0, by decide, hA, hC, fun F f hX hO => w_compose_x1 l G L F ad o f _ _ _ hL0 ho hO hX.1 (x_X5_compose_1 l G L F ad hL hin A x9 y9 z9 h1 hX hA hst) (wpost_x (by decide) hX hO), fun F th hM => CI_imp (fun r F1 hp => ⟨fun h => absurd h (by decide), hp⟩) (k_X6_compose_x1 l G L F b ma A th x9 y9 z9 mb hma hM hA (fun h => h1 h.1))⟩
theorem sc_log (l : Launch) (hst : l.stackTraces = false) (G : Gl) (L : List Nat) (ad : Nat → Nat) (o b : Nat) (ma : Nat → Nat) (hS : LST L ad o b ma) (A : AB) (hA : okA A) (hC : okCA A) (x9 y9 : Int32) : SC l G L ad o b ma A yL_log cL_log 5 hh_log yX6_log cX6_log 3 rm_X6_log [.int x9, .int y9] := by
  obtain ⟨hL, hin, mb, hma, ho, hoa, -, -⟩ := hS
  have hL0 := hL 0 (by decide)
  have hc6 : A.1.1 ≤ 6 := hA.1.2.1
  have hc2 : 2 ≤ A.1.1 := hA.1.1
  by_cases h1 : inR x9 0 5
  ·
    obtain ⟨f9, rfl, hf91, hf92⟩ := inR_n h1 (by omega) (by omega)
    by_cases h2 : inR y9 0 5
    ·
      obtain ⟨t9, rfl, ht91, ht92⟩ := inR_n h2 (by omega) (by omega)
      by_cases hm : 6 * A.1.1 ≤ A.1.2.1
      ·
        exact ⟨0, (aSave A (ordS 108 f9 f9 t9 A.1)), lowR (ordR 108 f9 f9 A.1.1 A.1.2.2.2.2.2), by decide, okA_save hA (okS_ord (Or.inr (Or.inr (Or.inr (Or.inr (Or.inl rfl))))) (by omega) (by omega) hA.1), okCA_save hA hC (okC_ord (Or.inr (Or.inr (Or.inr (Or.inr (Or.inl rfl))))) (by omega) (by omega) (by omega) hC.1), fun F f hX hO => w_log_n l G L F ad o f _ _ hL0 ho hO hX.1 (c_X5_log l G L F ad hL hin A f9 t9 (by omega) (by omega) hm hX hA) (fun r F1 hp => (hp.2.2 o hoa).trans hO) (wpost_n hoa), fun F th hM => CI_imp (fun r F1 hp => ⟨fun _ => hp.1, hp.2⟩) (k_X6_log l G L F b ma A th f9 t9 mb hma hM hA (by omega) (by omega) ⟨h1, h2⟩ hm)⟩
      ·
        exact ⟨2, A, 0, by decide, hA, hC, fun F f hX hO => w_log_x2 l G L F ad o f _ _ hL0 ho hO hX.1 (x_X5_log_m l G L F ad hL hin A f9 t9 (by omega) (by omega) (by omega) hX hA hst) (wpost_x (by decide) hX hO), fun F th hM => CI_imp (fun r F1 hp => ⟨fun h => absurd h (by decide), hp⟩) (k_X6_log_x2 l G L F b ma A th (nI f9) (nI t9) mb hma hM hA ⟨h1, h2⟩ (by omega))⟩
    ·
      exact ⟨1, A, 0, by decide, hA, hC, fun F f hX hO => w_log_x1 l G L F ad o f _ _ hL0 ho hO hX.1 (x_X5_log_3 l G L F ad hL hin A f9 (by omega) y9 h2 hX hA hst) (wpost_x (by decide) hX hO), fun F th hM => CI_imp (fun r F1 hp => ⟨fun h => absurd h (by decide), hp⟩) (k_X6_log_x1 l G L F b ma A th (nI f9) y9 mb hma hM hA (fun h => h2 h.2))⟩
  ·
    exact ⟨1, A, 0, by decide, hA, hC, fun F f hX hO => w_log_x1 l G L F ad o f _ _ hL0 ho hO hX.1 (x_X5_log_1 l G L F ad hL hin A x9 y9 h1 hX hA hst) (wpost_x (by decide) hX hO), fun F th hM => CI_imp (fun r F1 hp => ⟨fun h => absurd h (by decide), hp⟩) (k_X6_log_x1 l G L F b ma A th x9 y9 mb hma hM hA (fun h => h1 h.1))⟩
theorem sc_exp (l : Launch) (hst : l.stackTraces = false) (G : Gl) (L : List Nat) (ad : Nat → Nat) (o b : Nat) (ma : Nat → Nat) (hS : LST L ad o b ma) (A : AB) (hA : okA A) (hC : okCA A) (x9 y9 : Int32) : SC l G L ad o b ma A yL_exp cL_exp 5 hh_exp yX6_exp cX6_exp 3 rm_X6_exp [.int x9, .int y9] := by
  obtain ⟨hL, hin, mb, hma, ho, hoa, -, -⟩ := hS
  have hL0 := hL 0 (by decide)
  have hc6 : A.1.1 ≤ 6 := hA.1.2.1
  have hc2 : 2 ≤ A.1.1 := hA.1.1
  by_cases h1 : inR x9 0 5
  ·
    obtain ⟨f9, rfl, hf91, hf92⟩ := inR_n h1 (by omega) (by omega)
    by_cases h2 : inR y9 0 5
    ·
      obtain ⟨t9, rfl, ht91, ht92⟩ := inR_n h2 (by omega) (by omega)
      by_cases hm : 5 * A.1.1 ≤ A.1.2.1
      ·
        exact ⟨0, (aSave A (ordS 101 f9 f9 t9 A.1)), lowR (ordR 101 f9 f9 A.1.1 A.1.2.2.2.2.2), by decide, okA_save hA (okS_ord (Or.inr (Or.inr (Or.inr (Or.inr (Or.inr (Or.inl rfl)))))) (by omega) (by omega) hA.1), okCA_save hA hC (okC_ord (Or.inr (Or.inr (Or.inr (Or.inr (Or.inr (Or.inl rfl)))))) (by omega) (by omega) (by omega) hC.1), fun F f hX hO => w_exp_n l G L F ad o f _ _ hL0 ho hO hX.1 (c_X5_exp l G L F ad hL hin A f9 t9 (by omega) (by omega) hm hX hA) (fun r F1 hp => (hp.2.2 o hoa).trans hO) (wpost_n hoa), fun F th hM => CI_imp (fun r F1 hp => ⟨fun _ => hp.1, hp.2⟩) (k_X6_exp l G L F b ma A th f9 t9 mb hma hM hA (by omega) (by omega) ⟨h1, h2⟩ hm)⟩
      ·
        exact ⟨2, A, 0, by decide, hA, hC, fun F f hX hO => w_exp_x2 l G L F ad o f _ _ hL0 ho hO hX.1 (x_X5_exp_m l G L F ad hL hin A f9 t9 (by omega) (by omega) (by omega) hX hA hst) (wpost_x (by decide) hX hO), fun F th hM => CI_imp (fun r F1 hp => ⟨fun h => absurd h (by decide), hp⟩) (k_X6_exp_x2 l G L F b ma A th (nI f9) (nI t9) mb hma hM hA ⟨h1, h2⟩ (by omega))⟩
    ·
      exact ⟨1, A, 0, by decide, hA, hC, fun F f hX hO => w_exp_x1 l G L F ad o f _ _ hL0 ho hO hX.1 (x_X5_exp_3 l G L F ad hL hin A f9 (by omega) y9 h2 hX hA hst) (wpost_x (by decide) hX hO), fun F th hM => CI_imp (fun r F1 hp => ⟨fun h => absurd h (by decide), hp⟩) (k_X6_exp_x1 l G L F b ma A th (nI f9) y9 mb hma hM hA (fun h => h2 h.2))⟩
  ·
    exact ⟨1, A, 0, by decide, hA, hC, fun F f hX hO => w_exp_x1 l G L F ad o f _ _ hL0 ho hO hX.1 (x_X5_exp_1 l G L F ad hL hin A x9 y9 h1 hX hA hst) (wpost_x (by decide) hX hO), fun F th hM => CI_imp (fun r F1 hp => ⟨fun h => absurd h (by decide), hp⟩) (k_X6_exp_x1 l G L F b ma A th x9 y9 mb hma hM hA (fun h => h1 h.1))⟩
theorem sc_invert (l : Launch) (hst : l.stackTraces = false) (G : Gl) (L : List Nat) (ad : Nat → Nat) (o b : Nat) (ma : Nat → Nat) (hS : LST L ad o b ma) (A : AB) (hA : okA A) (hC : okCA A) (x9 y9 : Int32) : SC l G L ad o b ma A yL_invert cL_invert 5 hh_invert yX6_invert cX6_invert 3 rm_X6_invert [.int x9, .int y9] := by
  obtain ⟨hL, hin, mb, hma, ho, hoa, -, -⟩ := hS
  have hL0 := hL 0 (by decide)
  have hc6 : A.1.1 ≤ 6 := hA.1.2.1
  have hc2 : 2 ≤ A.1.1 := hA.1.1
  by_cases h1 : inR x9 0 5
  ·
    obtain ⟨f9, rfl, hf91, hf92⟩ := inR_n h1 (by omega) (by omega)
    by_cases h2 : inR y9 0 5
    ·
      obtain ⟨t9, rfl, ht91, ht92⟩ := inR_n h2 (by omega) (by omega)
      by_cases hm : 4 * A.1.1 ≤ A.1.2.1
      ·
        exact ⟨0, (aSave A (ordS 105 f9 f9 t9 A.1)), lowR (ordR 105 f9 f9 A.1.1 A.1.2.2.2.2.2), by decide, okA_save hA (okS_ord (Or.inr (Or.inr (Or.inr (Or.inr (Or.inr (Or.inr (Or.inr (rfl)))))))) (by omega) (by omega) hA.1), okCA_save hA hC (okC_ord (Or.inr (Or.inr (Or.inr (Or.inr (Or.inr (Or.inr (Or.inr (rfl)))))))) (by omega) (by omega) (by omega) hC.1), fun F f hX hO => w_invert_n l G L F ad o f _ _ hL0 ho hO hX.1 (c_X5_invert l G L F ad hL hin A f9 t9 (by omega) (by omega) hm hX hA) (fun r F1 hp => (hp.2.2 o hoa).trans hO) (wpost_n hoa), fun F th hM => CI_imp (fun r F1 hp => ⟨fun _ => hp.1, hp.2⟩) (k_X6_invert l G L F b ma A th f9 t9 mb hma hM hA (by omega) (by omega) ⟨h1, h2⟩ hm)⟩
      ·
        exact ⟨2, A, 0, by decide, hA, hC, fun F f hX hO => w_invert_x2 l G L F ad o f _ _ hL0 ho hO hX.1 (x_X5_invert_m l G L F ad hL hin A f9 t9 (by omega) (by omega) (by omega) hX hA hst) (wpost_x (by decide) hX hO), fun F th hM => CI_imp (fun r F1 hp => ⟨fun h => absurd h (by decide), hp⟩) (k_X6_invert_x2 l G L F b ma A th (nI f9) (nI t9) mb hma hM hA ⟨h1, h2⟩ (by omega))⟩
    ·
      exact ⟨1, A, 0, by decide, hA, hC, fun F f hX hO => w_invert_x1 l G L F ad o f _ _ hL0 ho hO hX.1 (x_X5_invert_3 l G L F ad hL hin A f9 (by omega) y9 h2 hX hA hst) (wpost_x (by decide) hX hO), fun F th hM => CI_imp (fun r F1 hp => ⟨fun h => absurd h (by decide), hp⟩) (k_X6_invert_x1 l G L F b ma A th (nI f9) y9 mb hma hM hA (fun h => h2 h.2))⟩
  ·
    exact ⟨1, A, 0, by decide, hA, hC, fun F f hX hO => w_invert_x1 l G L F ad o f _ _ hL0 ho hO hX.1 (x_X5_invert_1 l G L F ad hL hin A x9 y9 h1 hX hA hst) (wpost_x (by decide) hX hO), fun F th hM => CI_imp (fun r F1 hp => ⟨fun h => absurd h (by decide), hp⟩) (k_X6_invert_x1 l G L F b ma A th x9 y9 mb hma hM hA (fun h => h1 h.1))⟩
theorem sc_scale (l : Launch) (hst : l.stackTraces = false) (G : Gl) (L : List Nat) (ad : Nat → Nat) (o b : Nat) (ma : Nat → Nat) (hS : LST L ad o b ma) (A : AB) (hA : okA A) (hC : okCA A) (x9 y9 z9 : Int32) : SC l G L ad o b ma A yL_scale cL_scale 6 hh_scale yX6_scale cX6_scale 4 rm_X6_scale [.int x9, .int y9, .int z9] := by
  obtain ⟨hL, hin, mb, hma, ho, hoa, -, -⟩ := hS
  have hL0 := hL 0 (by decide)
  have hc6 : A.1.1 ≤ 6 := hA.1.2.1
  have hc2 : 2 ≤ A.1.1 := hA.1.1
  by_cases h1 : inR x9 0 5
  ·
    obtain ⟨f9, rfl, hf91, hf92⟩ := inR_n h1 (by omega) (by omega)
    by_cases h2 : inR z9 0 5
    ·
      obtain ⟨t9, rfl, ht91, ht92⟩ := inR_n h2 (by omega) (by omega)
      by_cases hm : 1 * A.1.1 ≤ A.1.2.1
      ·
        exact ⟨0, (aSave A (genS 1 t9 (m_scale (A.1.2.2.2.2.2 f9) (zi y9)) A.1)), lowR (m_scale (A.1.2.2.2.2.2 f9) (zi y9)), by decide, okA_save hA (okS_gen hA.1 (fun _ => ⟨scale_lo _ (hA.1.2.2.2 f9 (by omega)).1, scale_lo _ (hA.1.2.2.2 f9 (by omega)).2⟩)), okCA_save hA hC (okC_gen hC.1 (fun _ => hi_scale _ (hC.1 f9 (by omega)))), fun F f hX hO => w_scale_n l G L F ad o f _ _ _ hL0 ho hO hX.1 (c_X5_scale l G L F ad hL hin A f9 t9 y9 (by omega) (by omega) hm hX hA) (fun r F1 hp => (hp.2.2 o hoa).trans hO) (wpost_n hoa), fun F th hM => CI_imp (fun r F1 hp => ⟨fun _ => hp.1, hp.2⟩) (k_X6_scale l G L F b ma A th f9 t9 y9 mb hma hM hA (by omega) (by omega) ⟨h1, h2⟩ hm)⟩
      ·
        exact ⟨2, A, 0, by decide, hA, hC, fun F f hX hO => w_scale_x2 l G L F ad o f _ _ _ hL0 ho hO hX.1 (x_X5_scale_m l G L F ad hL hin A f9 t9 (by omega) (by omega) y9 (by omega) hX hA hst) (wpost_x (by decide) hX hO), fun F th hM => CI_imp (fun r F1 hp => ⟨fun h => absurd h (by decide), hp⟩) (k_X6_scale_x2 l G L F b ma A th (nI f9) y9 (nI t9) mb hma hM hA ⟨h1, h2⟩ (by omega))⟩
    ·
      exact ⟨1, A, 0, by decide, hA, hC, fun F f hX hO => w_scale_x1 l G L F ad o f _ _ _ hL0 ho hO hX.1 (x_X5_scale_2 l G L F ad hL hin A f9 (by omega) z9 y9 h2 hX hA hst) (wpost_x (by decide) hX hO), fun F th hM => CI_imp (fun r F1 hp => ⟨fun h => absurd h (by decide), hp⟩) (k_X6_scale_x1 l G L F b ma A th (nI f9) y9 z9 mb hma hM hA (fun h => h2 h.2))⟩
  ·
    exact ⟨1, A, 0, by decide, hA, hC, fun F f hX hO => w_scale_x1 l G L F ad o f _ _ _ hL0 ho hO hX.1 (x_X5_scale_1 l G L F ad hL hin A x9 y9 z9 h1 hX hA hst) (wpost_x (by decide) hX hO), fun F th hM => CI_imp (fun r F1 hp => ⟨fun h => absurd h (by decide), hp⟩) (k_X6_scale_x1 l G L F b ma A th x9 y9 z9 mb hma hM hA (fun h => h1 h.1))⟩
theorem sc_power (l : Launch) (hst : l.stackTraces = false) (G : Gl) (L : List Nat) (ad : Nat → Nat) (o b : Nat) (ma : Nat → Nat) (hS : LST L ad o b ma) (A : AB) (hA : okA A) (hC : okCA A) (x9 y9 z9 : Int32) : SC l G L ad o b ma A yL_power cL_power 6 hh_power yX6_power cX6_power 4 rm_X6_power [.int x9, .int y9, .int z9] := by
  obtain ⟨hL, hin, mb, hma, ho, hoa, -, -⟩ := hS
  have hL0 := hL 0 (by decide)
  have hc6 : A.1.1 ≤ 6 := hA.1.2.1
  have hc2 : 2 ≤ A.1.1 := hA.1.1
  by_cases h1 : inR x9 0 5
  ·
    obtain ⟨f9, rfl, hf91, hf92⟩ := inR_n h1 (by omega) (by omega)
    by_cases h2 : inR z9 0 5
    ·
      obtain ⟨t9, rfl, ht91, ht92⟩ := inR_n h2 (by omega) (by omega)
      by_cases h3 : (-5000) ≤ y9 ∧ y9 ≤ nI 5000
      ·
        by_cases hm : 8 * A.1.1 ≤ A.1.2.1
        ·
          exact ⟨0, (aSave A (genS 8 (6 + t9) (m_rep (A.1.2.2.2.2.2 (6 + f9)) (zi y9) A.1.1) A.1)), lowR (m_rep (A.1.2.2.2.2.2 (6 + f9)) (zi y9) A.1.1), by decide, okA_save hA (okS_gen hA.1 (fun h => absurd h (by omega))), okCA_save hA hC (okC_gen hC.1 (fun h => absurd h (by omega))), fun F f hX hO => w_power_n l G L F ad o f _ _ _ hL0 ho hO hX.1 (c_X5_power l G L F ad hL hin A f9 t9 y9 (by omega) (by omega) (Int32.not_lt.mpr h3.1) h3.2 hm hX hA) (fun r F1 hp => (hp.2.2 o hoa).trans hO) (wpost_n hoa), fun F th hM => CI_imp (fun r F1 hp => ⟨fun _ => hp.1, hp.2⟩) (k_X6_power l G L F b ma A th f9 t9 y9 mb hma hM hA (by omega) (by omega) ⟨h1, h2⟩ h3 hm)⟩
        ·
          exact ⟨3, A, 0, by decide, hA, hC, fun F f hX hO => w_power_x3 l G L F ad o f _ _ _ hL0 ho hO hX.1 (x_X5_power_m l G L F ad hL hin A f9 t9 y9 (by omega) (by omega) (Int32.not_lt.mpr h3.1) h3.2 (by omega) hX hA hst) (wpost_x (by decide) hX hO), fun F th hM => CI_imp (fun r F1 hp => ⟨fun h => absurd h (by decide), hp⟩) (k_X6_power_x3 l G L F b ma A th (nI f9) y9 (nI t9) mb hma hM hA ⟨h1, h2⟩ h3 (by omega))⟩
      ·
        exact ⟨2, A, 0, by decide, hA, hC, fun F f hX hO => w_power_x2 l G L F ad o f _ _ _ hL0 ho hO hX.1 (x_X5_power_n l G L F ad hL hin A f9 t9 (by omega) (by omega) y9 (fun h => h3 ⟨Int32.not_lt.mp h.1, h.2⟩) hX hA hst) (wpost_x (by decide) hX hO), fun F th hM => CI_imp (fun r F1 hp => ⟨fun h => absurd h (by decide), hp⟩) (k_X6_power_x2 l G L F b ma A th (nI f9) y9 (nI t9) mb hma hM hA ⟨h1, h2⟩ h3)⟩
    ·
      exact ⟨1, A, 0, by decide, hA, hC, fun F f hX hO => w_power_x1 l G L F ad o f _ _ _ hL0 ho hO hX.1 (x_X5_power_2 l G L F ad hL hin A f9 (by omega) z9 y9 h2 hX hA hst) (wpost_x (by decide) hX hO), fun F th hM => CI_imp (fun r F1 hp => ⟨fun h => absurd h (by decide), hp⟩) (k_X6_power_x1 l G L F b ma A th (nI f9) y9 z9 mb hma hM hA (fun h => h2 h.2))⟩
  ·
    exact ⟨1, A, 0, by decide, hA, hC, fun F f hX hO => w_power_x1 l G L F ad o f _ _ _ hL0 ho hO hX.1 (x_X5_power_1 l G L F ad hL hin A x9 y9 z9 h1 hX hA hst) (wpost_x (by decide) hX hO), fun F th hM => CI_imp (fun r F1 hp => ⟨fun h => absurd h (by decide), hp⟩) (k_X6_power_x1 l G L F b ma A th x9 y9 z9 mb hma hM hA (fun h => h1 h.1))⟩
theorem sc_root (l : Launch) (hst : l.stackTraces = false) (G : Gl) (L : List Nat) (ad : Nat → Nat) (o b : Nat) (ma : Nat → Nat) (hS : LST L ad o b ma) (A : AB) (hA : okA A) (hC : okCA A) (x9 y9 z9 : Int32) : SC l G L ad o b ma A yL_root cL_root 6 hh_root yX6_root cX6_root 4 rm_X6_root [.int x9, .int y9, .int z9] := by
  obtain ⟨hL, hin, mb, hma, ho, hoa, -, -⟩ := hS
  have hL0 := hL 0 (by decide)
  have hc6 : A.1.1 ≤ 6 := hA.1.2.1
  have hc2 : 2 ≤ A.1.1 := hA.1.1
  by_cases h1 : inR x9 0 5
  ·
    obtain ⟨f9, rfl, hf91, hf92⟩ := inR_n h1 (by omega) (by omega)
    by_cases h2 : inR z9 0 5
    ·
      obtain ⟨t9, rfl, ht91, ht92⟩ := inR_n h2 (by omega) (by omega)
      by_cases h3 : inR y9 1 5000
      ·
        obtain ⟨n9, rfl, hn91, hn92⟩ := inR_n h3 (by omega) (by omega)
        by_cases hm : 8 * A.1.1 ≤ A.1.2.1
        ·
          exact ⟨0, (aSave A (genS 8 (6 + t9) (m_rep (A.1.2.2.2.2.2 (6 + f9)) (m_finv (zc n9)) A.1.1) A.1)), lowR (m_rep (A.1.2.2.2.2.2 (6 + f9)) (m_finv (zc n9)) A.1.1), by decide, okA_save hA (okS_gen hA.1 (fun h => absurd h (by omega))), okCA_save hA hC (okC_gen hC.1 (fun h => absurd h (by omega))), fun F f hX hO => w_root_n l G L F ad o f _ _ _ hL0 ho hO hX.1 (c_X5_root l G L F ad hL hin A f9 t9 n9 (by omega) (by omega) hn91 hn92 hm hX hA) (fun r F1 hp => (hp.2.2 o hoa).trans hO) (wpost_n hoa), fun F th hM => CI_imp (fun r F1 hp => ⟨fun _ => hp.1, hp.2⟩) (k_X6_root l G L F b ma A th f9 t9 n9 mb hma hM hA (by omega) (by omega) hn91 hn92 ⟨h1, h2⟩ h3 hm)⟩
        ·
          exact ⟨3, A, 0, by decide, hA, hC, fun F f hX hO => w_root_x3 l G L F ad o f _ _ _ hL0 ho hO hX.1 (x_X5_root_m l G L F ad hL hin A f9 t9 n9 (by omega) (by omega) hn91 hn92 (by omega) hX hA hst) (wpost_x (by decide) hX hO), fun F th hM => CI_imp (fun r F1 hp => ⟨fun h => absurd h (by decide), hp⟩) (k_X6_root_x3 l G L F b ma A th (nI f9) (nI n9) (nI t9) mb hma hM hA ⟨h1, h2⟩ h3 (by omega))⟩
      ·
        exact ⟨2, A, 0, by decide, hA, hC, fun F f hX hO => w_root_x2 l G L F ad o f _ _ _ hL0 ho hO hX.1 (x_X5_root_n l G L F ad hL hin A f9 t9 (by omega) (by omega) y9 (fun h => h3 ⟨Int32.not_lt.mp h.1, h.2⟩) hX hA hst) (wpost_x (by decide) hX hO), fun F th hM => CI_imp (fun r F1 hp => ⟨fun h => absurd h (by decide), hp⟩) (k_X6_root_x2 l G L F b ma A th (nI f9) y9 (nI t9) mb hma hM hA ⟨h1, h2⟩ h3)⟩
    ·
      exact ⟨1, A, 0, by decide, hA, hC, fun F f hX hO => w_root_x1 l G L F ad o f _ _ _ hL0 ho hO hX.1 (x_X5_root_2 l G L F ad hL hin A f9 (by omega) z9 y9 h2 hX hA hst) (wpost_x (by decide) hX hO), fun F th hM => CI_imp (fun r F1 hp => ⟨fun h => absurd h (by decide), hp⟩) (k_X6_root_x1 l G L F b ma A th (nI f9) y9 z9 mb hma hM hA (fun h => h2 h.2))⟩
  ·
    exact ⟨1, A, 0, by decide, hA, hC, fun F f hX hO => w_root_x1 l G L F ad o f _ _ _ hL0 ho hO hX.1 (x_X5_root_1 l G L F ad hL hin A x9 y9 z9 h1 hX hA hst) (wpost_x (by decide) hX hO), fun F th hM => CI_imp (fun r F1 hp => ⟨fun h => absurd h (by decide), hp⟩) (k_X6_root_x1 l G L F b ma A th x9 y9 z9 mb hma hM hA (fun h => h1 h.1))⟩
theorem sc_append (l : Launch) (hst : l.stackTraces = false) (G : Gl) (L : List Nat) (ad : Nat → Nat) (o b : Nat) (ma : Nat → Nat) (hS : LST L ad o b ma) (A : AB) (hA : okA A) (hC : okCA A) (x9 : Int32) : SC l G L ad o b ma A yL_append cL_append 4 hh_append yX6_append cX6_append 2 rm_X6_append [.int x9] := by
  obtain ⟨hL, hin, mb, hma, ho, hoa, -, -⟩ := hS
  have hL0 := hL 0 (by decide)
  have hc6 : A.1.1 ≤ 6 := hA.1.2.1
  have hc2 : 2 ≤ A.1.1 := hA.1.1
  by_cases h : inR x9 33 126
  ·
    obtain ⟨n9, rfl, hn91, hn92⟩ := inR_n h (by omega) (by omega)
    by_cases h8 : A.2.2.2.1 = 60
    ·
      exact ⟨2, A, 0, by decide, hA, hC, fun F f hX hO => w_append_x2 l G L F ad o f _ hL0 ho hO hX.1 (x_X5_append_f l G L F ad hL hin A n9 hn91 hn92 h8 hX hA hst) (wpost_x (by decide) hX hO), fun F th hM => CI_imp (fun r F1 hp => ⟨fun h => absurd h (by decide), hp⟩) (k_X6_append_x2 l G L F b ma A th (nI n9) mb hma hM hA h h8)⟩
    ·
      have h7 : A.2.2.2.1 < 60 := by have := hA.2.2.2.1; omega
      exact ⟨0, (A.1, A.2.1, A.2.2.1, (A.2.2.2.1 + 1, va_up A.2.2.2.2 A.2.2.2.1 n9)), nI (A.2.2.2.1 + 1), by decide, okA_append hA h7 hn91 hn92, ⟨hC.1, hC.2.1, hC.2.2⟩, fun F f hX hO => w_append_n l G L F ad o f _ hL0 ho hO hX.1 (c_X5_append l G L F ad hL hin A n9 hn91 hn92 h7 hX hA) (fun r F1 hp => (hp.2.2 o hoa).trans hO) (wpost_n hoa), fun F th hM => CI_imp (fun r F1 hp => ⟨fun _ => hp.1, hp.2⟩) (k_X6_append l G L F b ma A th n9 mb hma hM hA hn91 hn92 h h7)⟩
  ·
    exact ⟨1, A, 0, by decide, hA, hC, fun F f hX hO => w_append_x1 l G L F ad o f _ hL0 ho hO hX.1 (x_X5_append_c l G L F ad hL hin A x9 h hX hA hst) (wpost_x (by decide) hX hO), fun F th hM => CI_imp (fun r F1 hp => ⟨fun h => absurd h (by decide), hp⟩) (k_X6_append_x1 l G L F b ma A th x9 mb hma hM hA h)⟩
theorem sc_run (l : Launch) (hst : l.stackTraces = false) (G : Gl) (L : List Nat) (ad : Nat → Nat) (o b : Nat) (ma : Nat → Nat) (hS : LST L ad o b ma) (A : AB) (hA : okA A) (hC : okCA A) : SC l G L ad o b ma A yL_run cL_run 3 hh_run yX6_run cX6_run 3 rm_X6_run [] := by
  obtain ⟨hL, hin, mb, hma, ho, hoa, -, -⟩ := hS
  have hL0 := hL 0 (by decide)
  have hc6 : A.1.1 ≤ 6 := hA.1.2.1
  have hc2 : 2 ≤ A.1.1 := hA.1.1
  by_cases h : isPr A.2.2.2
  ·
    exact ⟨0, ((runS A.2.2.2 61 0 0 A.1).2, saveH A.2.1 A.1, A.2.2.1, (0, A.2.2.2.2)), nI (runS A.2.2.2 61 0 0 A.1).1, by decide, okA_run hA h, okCA_run hA hC h, fun F f hX hO => w_run_n l G L F ad o f hL0 ho hO hX.1 (c_X5_run l G L F ad hL hin A h hX hA) (fun r F1 hp => (hp.2.2 o hoa).trans hO) (wpost_n hoa), fun F th hM => CI_imp (fun r F1 hp => ⟨fun _ => hp.1, hp.2⟩) (k_X6_run l G L F b ma A th  mb hma hM hA h)⟩
  ·
    exact ⟨1, A, 0, by decide, hA, hC, fun F f hX hO => w_run_x1 l G L F ad o f hL0 ho hO hX.1 (x_X5_run l G L F ad hL hin A h hX hA hst) (wpost_x (by decide) hX hO), fun F th hM => CI_imp (fun r F1 hp => ⟨fun h => absurd h (by decide), hp⟩) (k_X6_run_x1 l G L F b ma A th  mb hma hM hA h)⟩
theorem sc_take (l : Launch) (hst : l.stackTraces = false) (G : Gl) (L : List Nat) (ad : Nat → Nat) (o b : Nat) (ma : Nat → Nat) (hS : LST L ad o b ma) (A : AB) (hA : okA A) (hC : okCA A) (x9 : Int32) : SC l G L ad o b ma A yL_take cL_take 4 hh_take yX6_take cX6_take 3 rm_X6_take [.int x9] := by
  obtain ⟨hL, hin, mb, hma, ho, hoa, -, -⟩ := hS
  have hL0 := hL 0 (by decide)
  have hc6 : A.1.1 ≤ 6 := hA.1.2.1
  have hc2 : 2 ≤ A.1.1 := hA.1.1
  by_cases h : inR x9 0 1
  ·
    obtain ⟨j9, rfl, hj91, hj92⟩ := inR_n h (by omega) (by omega)
    have hj : j9 = 0 ∨ j9 = 1 := by omega
    rcases hj with rfl | rfl
    ·
      exact ⟨0, (A.1, A.2.1, takeN 0 A.1.1 A.1.2.2.2.2.2 A.2.2.1, A.2.2.2), nI (cntR (fun i => A.1.2.2.2.2.2 i) 6), by decide, okA_take 0 hA, okCA_take 0 hC, fun F f hX hO => w_take_n l G L F ad o f _ hL0 ho hO hX.1 (c_X5_take_0 l G L F ad hL hin A  hX hA) (fun r F1 hp => (hp.2.2 o hoa).trans hO) (wpost_n hoa), fun F th hM => CI_imp (fun r F1 hp => ⟨fun _ => hp.1, hp.2⟩) (k_X6_take l G L F b ma A th 0 mb hma hM hA (by decide) h)⟩
    ·
      exact ⟨0, (A.1, A.2.1, takeN 1 A.1.1 A.1.2.2.2.2.2 A.2.2.1, A.2.2.2), nI (cntR (fun i => A.1.2.2.2.2.2 i) 6), by decide, okA_take 1 hA, okCA_take 1 hC, fun F f hX hO => w_take_n l G L F ad o f _ hL0 ho hO hX.1 (c_X5_take_1 l G L F ad hL hin A  hX hA) (fun r F1 hp => (hp.2.2 o hoa).trans hO) (wpost_n hoa), fun F th hM => CI_imp (fun r F1 hp => ⟨fun _ => hp.1, hp.2⟩) (k_X6_take l G L F b ma A th 1 mb hma hM hA (by decide) h)⟩
  ·
    exact ⟨1, A, 0, by decide, hA, hC, fun F f hX hO => w_take_x1 l G L F ad o f _ hL0 ho hO hX.1 (x_X5_take l G L F ad hL hin A x9 h hX hA hst) (wpost_x (by decide) hX hO), fun F th hM => CI_imp (fun r F1 hp => ⟨fun h => absurd h (by decide), hp⟩) (k_X6_take_x l G L F b ma A th x9 mb hma hM hA h)⟩
theorem sc_restore (l : Launch) (hst : l.stackTraces = false) (G : Gl) (L : List Nat) (ad : Nat → Nat) (o b : Nat) (ma : Nat → Nat) (hS : LST L ad o b ma) (A : AB) (hA : okA A) (hC : okCA A) (x9 : Int32) : SC l G L ad o b ma A yL_restore cL_restore 4 hh_restore yX6_restore cX6_restore 3 rm_X6_restore [.int x9] := by
  obtain ⟨hL, hin, mb, hma, ho, hoa, -, -⟩ := hS
  have hL0 := hL 0 (by decide)
  have hc6 : A.1.1 ≤ 6 := hA.1.2.1
  have hc2 : 2 ≤ A.1.1 := hA.1.1
  by_cases h : inR x9 0 1
  ·
    obtain ⟨j9, rfl, hj91, hj92⟩ := inR_n h (by omega) (by omega)
    have hj : j9 = 0 ∨ j9 = 1 := by omega
    rcases hj with rfl | rfl
    ·
      by_cases ht : (A.2.2.1 0).1 = true
      ·
        exact ⟨0, (aSave A (shpS (A.2.2.1 0).2.1 (A.2.2.1 0).2.2 A.1)), nI (cntR (fun i => (A.2.2.1 0).2.2 i) 6), by decide, okA_restore (by decide) hA ht, okCA_restore (by decide) hA hC ht, fun F f hX hO => w_restore_n l G L F ad o f _ hL0 ho hO hX.1 (c_X5_restore_0 l G L F ad hL hin A ht hX hA) (fun r F1 hp => (hp.2.2 o hoa).trans hO) (wpost_n hoa), fun F th hM => CI_imp (fun r F1 hp => ⟨fun _ => hp.1, hp.2⟩) (k_X6_restore l G L F b ma A th 0 mb hma hM hA (by decide) h ht)⟩
      ·
        exact ⟨2, A, 0, by decide, hA, hC, fun F f hX hO => w_restore_x2 l G L F ad o f _ hL0 ho hO hX.1 (x_X5_restore_0 l G L F ad hL hin A (Bool.not_eq_true _ ▸ ht) hX hA hst) (wpost_x (by decide) hX hO), fun F th hM => CI_imp (fun r F1 hp => ⟨fun h => absurd h (by decide), hp⟩) (k_X6_restore_x2 l G L F b ma A th 0 mb hma hM hA (by decide) h ht)⟩
    ·
      by_cases ht : (A.2.2.1 1).1 = true
      ·
        exact ⟨0, (aSave A (shpS (A.2.2.1 1).2.1 (A.2.2.1 1).2.2 A.1)), nI (cntR (fun i => (A.2.2.1 1).2.2 i) 6), by decide, okA_restore (by decide) hA ht, okCA_restore (by decide) hA hC ht, fun F f hX hO => w_restore_n l G L F ad o f _ hL0 ho hO hX.1 (c_X5_restore_1 l G L F ad hL hin A ht hX hA) (fun r F1 hp => (hp.2.2 o hoa).trans hO) (wpost_n hoa), fun F th hM => CI_imp (fun r F1 hp => ⟨fun _ => hp.1, hp.2⟩) (k_X6_restore l G L F b ma A th 1 mb hma hM hA (by decide) h ht)⟩
      ·
        exact ⟨2, A, 0, by decide, hA, hC, fun F f hX hO => w_restore_x2 l G L F ad o f _ hL0 ho hO hX.1 (x_X5_restore_1 l G L F ad hL hin A (Bool.not_eq_true _ ▸ ht) hX hA hst) (wpost_x (by decide) hX hO), fun F th hM => CI_imp (fun r F1 hp => ⟨fun h => absurd h (by decide), hp⟩) (k_X6_restore_x2 l G L F b ma A th 1 mb hma hM hA (by decide) h ht)⟩
  ·
    exact ⟨1, A, 0, by decide, hA, hC, fun F f hX hO => w_restore_x1 l G L F ad o f _ hL0 ho hO hX.1 (x_X5_restore_s l G L F ad hL hin A x9 h hX hA hst) (wpost_x (by decide) hX hO), fun F th hM => CI_imp (fun r F1 hp => ⟨fun h => absurd h (by decide), hp⟩) (k_X6_restore_x1 l G L F b ma A th x9 mb hma hM hA h)⟩
theorem sc_undo (l : Launch) (hst : l.stackTraces = false) (G : Gl) (L : List Nat) (ad : Nat → Nat) (o b : Nat) (ma : Nat → Nat) (hS : LST L ad o b ma) (A : AB) (hA : okA A) (hC : okCA A) : SC l G L ad o b ma A yL_undo cL_undo 3 hh_undo yX6_undo cX6_undo 2 rm_X6_undo [] := by
  obtain ⟨hL, hin, mb, hma, ho, hoa, -, -⟩ := hS
  have hL0 := hL 0 (by decide)
  have hc6 : A.1.1 ≤ 6 := hA.1.2.1
  have hc2 : 2 ≤ A.1.1 := hA.1.1
  by_cases h : A.2.1.1 = 0
  ·
    exact ⟨1, A, 0, by decide, hA, hC, fun F f hX hO => w_undo_x1 l G L F ad o f hL0 ho hO hX.1 (x_X5_undo l G L F ad hL hin A h hX hA hst) (wpost_x (by decide) hX hO), fun F th hM => CI_imp (fun r F1 hp => ⟨fun h => absurd h (by decide), hp⟩) (k_X6_undo_x l G L F b ma A th  mb hma hM hA h)⟩
  ·
    obtain ⟨k9, hk⟩ : ∃ k, A.2.1.1 = k + 1 := ⟨A.2.1.1 - 1, by omega⟩
    exact ⟨0, (A.2.1.2 k9, (k9, A.2.1.2), A.2.2), nI k9, by decide, okA_undo hA hk, okCA_undo hC hk, fun F f hX hO => w_undo_n l G L F ad o f hL0 ho hO hX.1 (c_X5_undo l G L F ad hL hin A k9 hk hX hA) (fun r F1 hp => (hp.2.2 o hoa).trans hO) (wpost_n hoa), fun F th hM => CI_imp (fun r F1 hp => ⟨fun _ => hp.1, hp.2⟩) (k_X6_undo l G L F b ma A th k9 mb hma hM hA hk)⟩
theorem sc_field (l : Launch) (hst : l.stackTraces = false) (G : Gl) (L : List Nat) (ad : Nat → Nat) (o b : Nat) (ma : Nat → Nat) (hS : LST L ad o b ma) (A : AB) (hA : okA A) (hC : okCA A) (x9 y9 : Int32) : SC l G L ad o b ma A yL_field cL_field 5 hh_field yX6_field cX6_field 3 rm_X6_field [.int x9, .int y9] := by
  obtain ⟨hL, hin, mb, hma, ho, hoa, -, -⟩ := hS
  have hL0 := hL 0 (by decide)
  have hc6 : A.1.1 ≤ 6 := hA.1.2.1
  have hc2 : 2 ≤ A.1.1 := hA.1.1
  by_cases h1 : inR x9 0 5
  ·
    obtain ⟨f9, rfl, hf91, hf92⟩ := inR_n h1 (by omega) (by omega)
    by_cases h2 : inR y9 0 6
    ·
      obtain ⟨p9, rfl, hp91, hp92⟩ := inR_n h2 (by omega) (by omega)
      exact ⟨0, A, nI (A.1.2.2.2.2.2 f9 p9).val, by decide, hA, hC, fun F f hX hO => w_field_n l G L F ad o f _ _ hL0 ho hO hX.1 (c_X5_field l G L F ad hL hin A f9 p9 (by omega) hp92 hX hA) (fun r F1 hp => (hp.2.2 o hoa).trans hO) (wpost_n hoa), fun F th hM => CI_imp (fun r F1 hp => ⟨fun _ => hp.1, hp.2⟩) (k_X6_field l G L F b ma A th f9 p9 mb hma hM hA (by omega) hp92 ⟨h1, h2⟩)⟩
    ·
      exact ⟨1, A, 0, by decide, hA, hC, fun F f hX hO => w_field_x1 l G L F ad o f _ _ hL0 ho hO hX.1 (x_X5_field_p l G L F ad hL hin A f9 (by omega) y9 h2 hX hA hst) (wpost_x (by decide) hX hO), fun F th hM => CI_imp (fun r F1 hp => ⟨fun h => absurd h (by decide), hp⟩) (k_X6_field_x l G L F b ma A th (nI f9) y9 mb hma hM hA (fun h => h2 h.2))⟩
  ·
    exact ⟨1, A, 0, by decide, hA, hC, fun F f hX hO => w_field_x1 l G L F ad o f _ _ hL0 ho hO hX.1 (x_X5_field_s l G L F ad hL hin A x9 y9 h1 hX hA hst) (wpost_x (by decide) hX hO), fun F th hM => CI_imp (fun r F1 hp => ⟨fun h => absurd h (by decide), hp⟩) (k_X6_field_x l G L F b ma A th x9 y9 mb hma hM hA (fun h => h1 h.1))⟩
theorem sc_flow (l : Launch) (hst : l.stackTraces = false) (G : Gl) (L : List Nat) (ad : Nat → Nat) (o b : Nat) (ma : Nat → Nat) (hS : LST L ad o b ma) (A : AB) (hA : okA A) (hC : okCA A) (x9 y9 : Int32) : SC l G L ad o b ma A yL_flow cL_flow 5 hh_flow yX6_flow cX6_flow 3 rm_X6_flow [.int x9, .int y9] := by
  obtain ⟨hL, hin, mb, hma, ho, hoa, -, -⟩ := hS
  have hL0 := hL 0 (by decide)
  have hc6 : A.1.1 ≤ 6 := hA.1.2.1
  have hc2 : 2 ≤ A.1.1 := hA.1.1
  by_cases h1 : inR x9 0 5
  ·
    obtain ⟨f9, rfl, hf91, hf92⟩ := inR_n h1 (by omega) (by omega)
    by_cases h2 : inR y9 0 6
    ·
      obtain ⟨p9, rfl, hp91, hp92⟩ := inR_n h2 (by omega) (by omega)
      exact ⟨0, A, nI (A.1.2.2.2.2.2 (6 + f9) p9).val, by decide, hA, hC, fun F f hX hO => w_flow_n l G L F ad o f _ _ hL0 ho hO hX.1 (c_X5_flow l G L F ad hL hin A f9 p9 (by omega) hp92 hX hA) (fun r F1 hp => (hp.2.2 o hoa).trans hO) (wpost_n hoa), fun F th hM => CI_imp (fun r F1 hp => ⟨fun _ => hp.1, hp.2⟩) (k_X6_flow l G L F b ma A th f9 p9 mb hma hM hA (by omega) hp92 ⟨h1, h2⟩)⟩
    ·
      exact ⟨1, A, 0, by decide, hA, hC, fun F f hX hO => w_flow_x1 l G L F ad o f _ _ hL0 ho hO hX.1 (x_X5_flow_p l G L F ad hL hin A f9 (by omega) y9 h2 hX hA hst) (wpost_x (by decide) hX hO), fun F th hM => CI_imp (fun r F1 hp => ⟨fun h => absurd h (by decide), hp⟩) (k_X6_flow_x l G L F b ma A th (nI f9) y9 mb hma hM hA (fun h => h2 h.2))⟩
  ·
    exact ⟨1, A, 0, by decide, hA, hC, fun F f hX hO => w_flow_x1 l G L F ad o f _ _ hL0 ho hO hX.1 (x_X5_flow_s l G L F ad hL hin A x9 y9 h1 hX hA hst) (wpost_x (by decide) hX hO), fun F th hM => CI_imp (fun r F1 hp => ⟨fun h => absurd h (by decide), hp⟩) (k_X6_flow_x l G L F b ma A th x9 y9 mb hma hM hA (fun h => h1 h.1))⟩
theorem sc_value (l : Launch) (hst : l.stackTraces = false) (G : Gl) (L : List Nat) (ad : Nat → Nat) (o b : Nat) (ma : Nat → Nat) (hS : LST L ad o b ma) (A : AB) (hA : okA A) (hC : okCA A) (x9 y9 z9 : Int32) : SC l G L ad o b ma A yL_value cL_value 6 hh_value yX6_value cX6_value 4 rm_X6_value [.int x9, .int y9, .int z9] := by
  obtain ⟨hL, hin, mb, hma, ho, hoa, -, -⟩ := hS
  have hL0 := hL 0 (by decide)
  have hc6 : A.1.1 ≤ 6 := hA.1.2.1
  have hc2 : 2 ≤ A.1.1 := hA.1.1
  by_cases h1 : inR y9 0 5
  ·
    obtain ⟨f9, rfl, hf91, hf92⟩ := inR_n h1 (by omega) (by omega)
    by_cases h2 : inR x9 0 1
    ·
      obtain ⟨j9, rfl, hj91, hj92⟩ := inR_n h2 (by omega) (by omega)
      have hj : j9 = 0 ∨ j9 = 1 := by omega
      rcases hj with rfl | rfl
      ·
        exact ⟨0, A, nI (m_val (A.1.2.2.2.2.2 f9) (zi z9)).val, by decide, hA, hC, fun F f hX hO => w_value_n l G L F ad o f _ _ _ hL0 ho hO hX.1 (c_X5_value_0 l G L F ad hL hin A f9 z9 (by omega) hX hA) (fun r F1 hp => (hp.2.2 o hoa).trans hO) (wpost_n hoa), fun F th hM => CI_imp (fun r F1 hp => ⟨fun _ => hp.1, hp.2⟩) (k_X6_value_0 l G L F b ma A th f9 z9 mb hma hM hA (by omega) h1 h2)⟩
      ·
        exact ⟨0, A, nI (m_val (A.1.2.2.2.2.2 (6 + f9)) (zi z9)).val, by decide, hA, hC, fun F f hX hO => w_value_n l G L F ad o f _ _ _ hL0 ho hO hX.1 (c_X5_value_1 l G L F ad hL hin A f9 z9 (by omega) hX hA) (fun r F1 hp => (hp.2.2 o hoa).trans hO) (wpost_n hoa), fun F th hM => CI_imp (fun r F1 hp => ⟨fun _ => hp.1, hp.2⟩) (k_X6_value_1 l G L F b ma A th f9 z9 mb hma hM hA (by omega) h1 h2)⟩
    ·
      exact ⟨2, A, 0, by decide, hA, hC, fun F f hX hO => w_value_x2 l G L F ad o f _ _ _ hL0 ho hO hX.1 (x_X5_value_w l G L F ad hL hin A f9 (by omega) x9 z9 (fun h => h2 (by rw [h]; decide)) (fun h => h2 (by rw [h]; decide)) hX hA hst) (wpost_x (by decide) hX hO), fun F th hM => CI_imp (fun r F1 hp => ⟨fun h => absurd h (by decide), hp⟩) (k_X6_value_x2 l G L F b ma A th x9 (nI f9) z9 mb hma hM hA h1 h2)⟩
  ·
    exact ⟨1, A, 0, by decide, hA, hC, fun F f hX hO => w_value_x1 l G L F ad o f _ _ _ hL0 ho hO hX.1 (x_X5_value_1 l G L F ad hL hin A y9 x9 z9 h1 hX hA hst) (wpost_x (by decide) hX hO), fun F th hM => CI_imp (fun r F1 hp => ⟨fun h => absurd h (by decide), hp⟩) (k_X6_value_x1 l G L F b ma A th x9 y9 z9 mb hma hM hA h1)⟩
theorem sc_clash (l : Launch) (hst : l.stackTraces = false) (G : Gl) (L : List Nat) (ad : Nat → Nat) (o b : Nat) (ma : Nat → Nat) (hS : LST L ad o b ma) (A : AB) (hA : okA A) (hC : okCA A) (x9 y9 : Int32) : SC l G L ad o b ma A yL_clash cL_clash 5 hh_clash yX6_clash cX6_clash 3 rm_X6_clash [.int x9, .int y9] := by
  obtain ⟨hL, hin, mb, hma, ho, hoa, -, -⟩ := hS
  have hL0 := hL 0 (by decide)
  have hc6 : A.1.1 ≤ 6 := hA.1.2.1
  have hc2 : 2 ≤ A.1.1 := hA.1.1
  by_cases h1 : inR x9 0 5
  ·
    obtain ⟨f9, rfl, hf91, hf92⟩ := inR_n h1 (by omega) (by omega)
    by_cases h2 : inR y9 0 5
    ·
      obtain ⟨g9, rfl, hg91, hg92⟩ := inR_n h2 (by omega) (by omega)
      exact ⟨0, A, lowR (m_br (A.1.2.2.2.2.2 f9) (A.1.2.2.2.2.2 g9) A.1.1), by decide, hA, hC, fun F f hX hO => w_clash_n l G L F ad o f _ _ hL0 ho hO hX.1 (c_X5_clash l G L F ad hL hin A f9 g9 (by omega) (by omega) hX hA) (fun r F1 hp => (hp.2.2 o hoa).trans hO) (wpost_n hoa), fun F th hM => CI_imp (fun r F1 hp => ⟨fun _ => hp.1, hp.2⟩) (k_X6_clash l G L F b ma A th f9 g9 mb hma hM hA (by omega) (by omega) ⟨h1, h2⟩)⟩
    ·
      exact ⟨1, A, 0, by decide, hA, hC, fun F f hX hO => w_clash_x1 l G L F ad o f _ _ hL0 ho hO hX.1 (x_X5_clash_2 l G L F ad hL hin A f9 (by omega) y9 h2 hX hA hst) (wpost_x (by decide) hX hO), fun F th hM => CI_imp (fun r F1 hp => ⟨fun h => absurd h (by decide), hp⟩) (k_X6_clash_x l G L F b ma A th (nI f9) y9 mb hma hM hA (fun h => h2 h.2))⟩
  ·
    exact ⟨1, A, 0, by decide, hA, hC, fun F f hX hO => w_clash_x1 l G L F ad o f _ _ hL0 ho hO hX.1 (x_X5_clash_1 l G L F ad hL hin A x9 y9 h1 hX hA hst) (wpost_x (by decide) hX hO), fun F th hM => CI_imp (fun r F1 hp => ⟨fun h => absurd h (by decide), hp⟩) (k_X6_clash_x l G L F b ma A th x9 y9 mb hma hM hA (fun h => h1 h.1))⟩
theorem sc_apart (l : Launch) (hst : l.stackTraces = false) (G : Gl) (L : List Nat) (ad : Nat → Nat) (o b : Nat) (ma : Nat → Nat) (hS : LST L ad o b ma) (A : AB) (hA : okA A) (hC : okCA A) (x9 y9 : Int32) : SC l G L ad o b ma A yL_apart cL_apart 5 hh_apart yX6_apart cX6_apart 3 rm_X6_apart [.int x9, .int y9] := by
  obtain ⟨hL, hin, mb, hma, ho, hoa, -, -⟩ := hS
  have hL0 := hL 0 (by decide)
  have hc6 : A.1.1 ≤ 6 := hA.1.2.1
  have hc2 : 2 ≤ A.1.1 := hA.1.1
  by_cases h1 : inR x9 0 5
  ·
    obtain ⟨f9, rfl, hf91, hf92⟩ := inR_n h1 (by omega) (by omega)
    by_cases h2 : inR y9 0 5
    ·
      obtain ⟨g9, rfl, hg91, hg92⟩ := inR_n h2 (by omega) (by omega)
      exact ⟨0, A, m_low (fun k => decide ((m_sub (A.1.2.2.2.2.2 (6 + f9)) (A.1.2.2.2.2.2 (6 + g9)) A.1.1) k ≠ (m_sub (A.1.2.2.2.2.2 (6 + g9)) (A.1.2.2.2.2.2 (6 + f9)) A.1.1) k)), by decide, hA, hC, fun F f hX hO => w_apart_n l G L F ad o f _ _ hL0 ho hO hX.1 (c_X5_apart l G L F ad hL hin A f9 g9 (by omega) (by omega) hX hA) (fun r F1 hp => (hp.2.2 o hoa).trans hO) (wpost_n hoa), fun F th hM => CI_imp (fun r F1 hp => ⟨fun _ => hp.1, hp.2⟩) (k_X6_apart l G L F b ma A th f9 g9 mb hma hM hA (by omega) (by omega) ⟨h1, h2⟩)⟩
    ·
      exact ⟨1, A, 0, by decide, hA, hC, fun F f hX hO => w_apart_x1 l G L F ad o f _ _ hL0 ho hO hX.1 (x_X5_apart_2 l G L F ad hL hin A f9 (by omega) y9 h2 hX hA hst) (wpost_x (by decide) hX hO), fun F th hM => CI_imp (fun r F1 hp => ⟨fun h => absurd h (by decide), hp⟩) (k_X6_apart_x l G L F b ma A th (nI f9) y9 mb hma hM hA (fun h => h2 h.2))⟩
  ·
    exact ⟨1, A, 0, by decide, hA, hC, fun F f hX hO => w_apart_x1 l G L F ad o f _ _ hL0 ho hO hX.1 (x_X5_apart_1 l G L F ad hL hin A x9 y9 h1 hX hA hst) (wpost_x (by decide) hX hO), fun F th hM => CI_imp (fun r F1 hp => ⟨fun h => absurd h (by decide), hp⟩) (k_X6_apart_x l G L F b ma A th x9 y9 mb hma hM hA (fun h => h1 h.1))⟩
theorem sc_differs (l : Launch) (hst : l.stackTraces = false) (G : Gl) (L : List Nat) (ad : Nat → Nat) (o b : Nat) (ma : Nat → Nat) (hS : LST L ad o b ma) (A : AB) (hA : okA A) (hC : okCA A) (x9 y9 z9 : Int32) : SC l G L ad o b ma A yL_differs cL_differs 6 hh_differs yX6_differs cX6_differs 4 rm_X6_differs [.int x9, .int y9, .int z9] := by
  obtain ⟨hL, hin, mb, hma, ho, hoa, -, -⟩ := hS
  have hL0 := hL 0 (by decide)
  have hc6 : A.1.1 ≤ 6 := hA.1.2.1
  have hc2 : 2 ≤ A.1.1 := hA.1.1
  by_cases h1 : inR x9 0 5
  ·
    obtain ⟨f9, rfl, hf91, hf92⟩ := inR_n h1 (by omega) (by omega)
    by_cases h2 : inR y9 0 5
    ·
      obtain ⟨g9, rfl, hg91, hg92⟩ := inR_n h2 (by omega) (by omega)
      by_cases h3 : inR z9 2 5
      ·
        obtain ⟨n9, rfl, hn91, hn92⟩ := inR_n h3 (by omega) (by omega)
        exact ⟨0, A, m_low (fun k => decide ((m_way (A.1.2.2.2.2.2 f9) (A.1.2.2.2.2.2 g9) n9 A.1.1) k ≠ (m_cf (A.1.2.2.2.2.2 f9) (A.1.2.2.2.2.2 g9) A.1.1) k)), by decide, hA, hC, fun F f hX hO => w_differs_n l G L F ad o f _ _ _ hL0 ho hO hX.1 (c_X5_differs l G L F ad hL hin A f9 g9 n9 (by omega) (by omega) hn91 hn92 hX hA) (fun r F1 hp => (hp.2.2 o hoa).trans hO) (wpost_n hoa), fun F th hM => CI_imp (fun r F1 hp => ⟨fun _ => hp.1, hp.2⟩) (k_X6_differs l G L F b ma A th f9 g9 n9 mb hma hM hA (by omega) (by omega) hn91 hn92 ⟨h1, h2⟩ h3)⟩
      ·
        exact ⟨2, A, 0, by decide, hA, hC, fun F f hX hO => w_differs_x2 l G L F ad o f _ _ _ hL0 ho hO hX.1 (x_X5_differs_3 l G L F ad hL hin A f9 g9 (by omega) (by omega) z9 h3 hX hA hst) (wpost_x (by decide) hX hO), fun F th hM => CI_imp (fun r F1 hp => ⟨fun h => absurd h (by decide), hp⟩) (k_X6_differs_x2 l G L F b ma A th (nI f9) (nI g9) z9 mb hma hM hA ⟨h1, h2⟩ h3)⟩
    ·
      exact ⟨1, A, 0, by decide, hA, hC, fun F f hX hO => w_differs_x1 l G L F ad o f _ _ _ hL0 ho hO hX.1 (x_X5_differs_2 l G L F ad hL hin A f9 (by omega) y9 z9 h2 hX hA hst) (wpost_x (by decide) hX hO), fun F th hM => CI_imp (fun r F1 hp => ⟨fun h => absurd h (by decide), hp⟩) (k_X6_differs_x1 l G L F b ma A th (nI f9) y9 z9 mb hma hM hA (fun h => h2 h.2))⟩
  ·
    exact ⟨1, A, 0, by decide, hA, hC, fun F f hX hO => w_differs_x1 l G L F ad o f _ _ _ hL0 ho hO hX.1 (x_X5_differs_1 l G L F ad hL hin A x9 y9 z9 h1 hX hA hst) (wpost_x (by decide) hX hO), fun F th hM => CI_imp (fun r F1 hp => ⟨fun h => absurd h (by decide), hp⟩) (k_X6_differs_x1 l G L F b ma A th x9 y9 z9 mb hma hM hA (fun h => h1 h.1))⟩
theorem sc_lacks (l : Launch) (hst : l.stackTraces = false) (G : Gl) (L : List Nat) (ad : Nat → Nat) (o b : Nat) (ma : Nat → Nat) (hS : LST L ad o b ma) (A : AB) (hA : okA A) (hC : okCA A) (x9 : Int32) : SC l G L ad o b ma A yL_lacks cL_lacks 4 hh_lacks yX6_lacks cX6_lacks 2 rm_X6_lacks [.int x9] := by
  obtain ⟨hL, hin, mb, hma, ho, hoa, -, -⟩ := hS
  have hL0 := hL 0 (by decide)
  have hc6 : A.1.1 ≤ 6 := hA.1.2.1
  have hc2 : 2 ≤ A.1.1 := hA.1.1
  by_cases h : digI x9 = 0
  ·
    exact ⟨1, A, 0, by decide, hA, hC, fun F f hX hO => w_lacks_x1 l G L F ad o f _ hL0 ho hO hX.1 (x_X5_lacks l G L F ad hL hin A x9 h hX hA hst) (wpost_x (by decide) hX hO), fun F th hM => CI_imp (fun r F1 hp => ⟨fun h => absurd h (by decide), hp⟩) (k_X6_lacks_x l G L F b ma A th x9 mb hma hM hA h)⟩
  ·
    rcases dig_c h with rfl | rfl | rfl | rfl | rfl | rfl | rfl | rfl
    ·
      exact ⟨0, A, nI (2 * A.1.1 - A.1.2.1), by decide, hA, hC, fun F f hX hO => w_lacks_n l G L F ad o f _ hL0 ho hO hX.1 (c_X5_lacks_98 l G L F ad hL hin A  hX hA) (fun r F1 hp => (hp.2 o).trans hO) (wpost_r hoa hX), fun F th hM => CI_imp (fun r F1 hp => ⟨fun _ => hp.1, hp.2⟩) (k_X6_lacks_98 l G L F b ma A th  mb hma hM hA )⟩
    ·
      exact ⟨0, A, nI (1 * A.1.1 - A.1.2.1), by decide, hA, hC, fun F f hX hO => w_lacks_n l G L F ad o f _ hL0 ho hO hX.1 (c_X5_lacks_115 l G L F ad hL hin A  hX hA) (fun r F1 hp => (hp.2 o).trans hO) (wpost_r hoa hX), fun F th hM => CI_imp (fun r F1 hp => ⟨fun _ => hp.1, hp.2⟩) (k_X6_lacks_115 l G L F b ma A th  mb hma hM hA )⟩
    ·
      exact ⟨0, A, nI (4 * A.1.1 - A.1.2.1), by decide, hA, hC, fun F f hX hO => w_lacks_n l G L F ad o f _ hL0 ho hO hX.1 (c_X5_lacks_99 l G L F ad hL hin A  hX hA) (fun r F1 hp => (hp.2 o).trans hO) (wpost_r hoa hX), fun F th hM => CI_imp (fun r F1 hp => ⟨fun _ => hp.1, hp.2⟩) (k_X6_lacks_99 l G L F b ma A th  mb hma hM hA )⟩
    ·
      exact ⟨0, A, nI (20 * A.1.1 - A.1.2.1), by decide, hA, hC, fun F f hX hO => w_lacks_n l G L F ad o f _ hL0 ho hO hX.1 (c_X5_lacks_119 l G L F ad hL hin A  hX hA) (fun r F1 hp => (hp.2 o).trans hO) (wpost_r hoa hX), fun F th hM => CI_imp (fun r F1 hp => ⟨fun _ => hp.1, hp.2⟩) (k_X6_lacks_119 l G L F b ma A th  mb hma hM hA )⟩
    ·
      exact ⟨0, A, nI (6 * A.1.1 - A.1.2.1), by decide, hA, hC, fun F f hX hO => w_lacks_n l G L F ad o f _ hL0 ho hO hX.1 (c_X5_lacks_112 l G L F ad hL hin A  hX hA) (fun r F1 hp => (hp.2 o).trans hO) (wpost_r hoa hX), fun F th hM => CI_imp (fun r F1 hp => ⟨fun _ => hp.1, hp.2⟩) (k_X6_lacks_112 l G L F b ma A th  mb hma hM hA )⟩
    ·
      exact ⟨0, A, nI (5 * A.1.1 - A.1.2.1), by decide, hA, hC, fun F f hX hO => w_lacks_n l G L F ad o f _ hL0 ho hO hX.1 (c_X5_lacks_101 l G L F ad hL hin A  hX hA) (fun r F1 hp => (hp.2 o).trans hO) (wpost_r hoa hX), fun F th hM => CI_imp (fun r F1 hp => ⟨fun _ => hp.1, hp.2⟩) (k_X6_lacks_101 l G L F b ma A th  mb hma hM hA )⟩
    ·
      exact ⟨0, A, nI (6 * A.1.1 - A.1.2.1), by decide, hA, hC, fun F f hX hO => w_lacks_n l G L F ad o f _ hL0 ho hO hX.1 (c_X5_lacks_108 l G L F ad hL hin A  hX hA) (fun r F1 hp => (hp.2 o).trans hO) (wpost_r hoa hX), fun F th hM => CI_imp (fun r F1 hp => ⟨fun _ => hp.1, hp.2⟩) (k_X6_lacks_108 l G L F b ma A th  mb hma hM hA )⟩
    ·
      exact ⟨0, A, nI (4 * A.1.1 - A.1.2.1), by decide, hA, hC, fun F f hX hO => w_lacks_n l G L F ad o f _ hL0 ho hO hX.1 (c_X5_lacks_105 l G L F ad hL hin A  hX hA) (fun r F1 hp => (hp.2 o).trans hO) (wpost_r hoa hX), fun F th hM => CI_imp (fun r F1 hp => ⟨fun _ => hp.1, hp.2⟩) (k_X6_lacks_105 l G L F b ma A th  mb hma hM hA )⟩
theorem sc_count (l : Launch) (hst : l.stackTraces = false) (G : Gl) (L : List Nat) (ad : Nat → Nat) (o b : Nat) (ma : Nat → Nat) (hS : LST L ad o b ma) (A : AB) (hA : okA A) (hC : okCA A) (x9 : Int32) : SC l G L ad o b ma A yL_count cL_count 4 hh_count yX6_count cX6_count 2 rm_X6_count [.int x9] := by
  obtain ⟨hL, hin, mb, hma, ho, hoa, -, -⟩ := hS
  have hL0 := hL 0 (by decide)
  have hc6 : A.1.1 ≤ 6 := hA.1.2.1
  have hc2 : 2 ≤ A.1.1 := hA.1.1
  by_cases h : inR x9 0 8
  ·
    obtain ⟨n9, rfl, hn91, hn92⟩ := inR_n h (by omega) (by omega)
    have hn : n9 = 0 ∨ n9 = 1 ∨ n9 = 2 ∨ n9 = 3 ∨ n9 = 4 ∨ n9 = 5 ∨ n9 = 6 ∨ n9 = 7 ∨ n9 = 8 := by omega
    rcases hn with rfl | rfl | rfl | rfl | rfl | rfl | rfl | rfl | rfl
    ·
      exact ⟨0, A, nI (cntA A 0), by decide, hA, hC, fun F f hX hO => w_count_n l G L F ad o f _ hL0 ho hO hX.1 (c_X5_count_0 l G L F ad hL hin A  hX hA) (fun r F1 hp => (hp.2 o).trans hO) (wpost_r hoa hX), fun F th hM => CI_imp (fun r F1 hp => ⟨fun _ => hp.1, hp.2⟩) (k_X6_count_0 l G L F b ma A th  mb hma hM hA h)⟩
    ·
      exact ⟨0, A, nI (cntA A 1), by decide, hA, hC, fun F f hX hO => w_count_n l G L F ad o f _ hL0 ho hO hX.1 (c_X5_count_1 l G L F ad hL hin A  hX hA) (fun r F1 hp => (hp.2 o).trans hO) (wpost_r hoa hX), fun F th hM => CI_imp (fun r F1 hp => ⟨fun _ => hp.1, hp.2⟩) (k_X6_count_1 l G L F b ma A th  mb hma hM hA h)⟩
    ·
      exact ⟨0, A, nI (cntA A 2), by decide, hA, hC, fun F f hX hO => w_count_n l G L F ad o f _ hL0 ho hO hX.1 (c_X5_count_2 l G L F ad hL hin A  hX hA) (fun r F1 hp => (hp.2 o).trans hO) (wpost_r hoa hX), fun F th hM => CI_imp (fun r F1 hp => ⟨fun _ => hp.1, hp.2⟩) (k_X6_count_2 l G L F b ma A th  mb hma hM hA h)⟩
    ·
      exact ⟨0, A, nI (cntA A 3), by decide, hA, hC, fun F f hX hO => w_count_n l G L F ad o f _ hL0 ho hO hX.1 (c_X5_count_3 l G L F ad hL hin A  hX hA) (fun r F1 hp => (hp.2 o).trans hO) (wpost_r hoa hX), fun F th hM => CI_imp (fun r F1 hp => ⟨fun _ => hp.1, hp.2⟩) (k_X6_count_3 l G L F b ma A th  mb hma hM hA h)⟩
    ·
      exact ⟨0, A, nI (cntA A 4), by decide, hA, hC, fun F f hX hO => w_count_n l G L F ad o f _ hL0 ho hO hX.1 (c_X5_count_4 l G L F ad hL hin A  hX hA) (fun r F1 hp => (hp.2 o).trans hO) (wpost_r hoa hX), fun F th hM => CI_imp (fun r F1 hp => ⟨fun _ => hp.1, hp.2⟩) (k_X6_count_4 l G L F b ma A th  mb hma hM hA h)⟩
    ·
      exact ⟨0, A, nI (cntA A 5), by decide, hA, hC, fun F f hX hO => w_count_n l G L F ad o f _ hL0 ho hO hX.1 (c_X5_count_5 l G L F ad hL hin A  hX hA) (fun r F1 hp => (hp.2 o).trans hO) (wpost_r hoa hX), fun F th hM => CI_imp (fun r F1 hp => ⟨fun _ => hp.1, hp.2⟩) (k_X6_count_5 l G L F b ma A th  mb hma hM hA h)⟩
    ·
      exact ⟨0, A, nI (cntA A 6), by decide, hA, hC, fun F f hX hO => w_count_n l G L F ad o f _ hL0 ho hO hX.1 (c_X5_count_6 l G L F ad hL hin A  hX hA) (fun r F1 hp => (hp.2 o).trans hO) (wpost_r hoa hX), fun F th hM => CI_imp (fun r F1 hp => ⟨fun _ => hp.1, hp.2⟩) (k_X6_count_6 l G L F b ma A th  mb hma hM hA h)⟩
    ·
      exact ⟨0, A, nI (cntA A 7), by decide, hA, hC, fun F f hX hO => w_count_n l G L F ad o f _ hL0 ho hO hX.1 (c_X5_count_7 l G L F ad hL hin A  hX hA) (fun r F1 hp => (hp.2 o).trans hO) (wpost_r hoa hX), fun F th hM => CI_imp (fun r F1 hp => ⟨fun _ => hp.1, hp.2⟩) (k_X6_count_7 l G L F b ma A th  mb hma hM hA h)⟩
    ·
      exact ⟨0, A, nI (cntA A 8), by decide, hA, hC, fun F f hX hO => w_count_n l G L F ad o f _ hL0 ho hO hX.1 (c_X5_count_8 l G L F ad hL hin A  hX hA) (fun r F1 hp => (hp.2 o).trans hO) (wpost_r hoa hX), fun F th hM => CI_imp (fun r F1 hp => ⟨fun _ => hp.1, hp.2⟩) (k_X6_count_8 l G L F b ma A th  mb hma hM hA h)⟩
  ·
    exact ⟨1, A, 0, by decide, hA, hC, fun F f hX hO => w_count_x1 l G L F ad o f _ hL0 ho hO hX.1 (x_X5_count l G L F ad hL hin A x9 (inR_o (by decide) h) hX hA hst) (wpost_x (by decide) hX hO), fun F th hM => CI_imp (fun r F1 hp => ⟨fun h => absurd h (by decide), hp⟩) (k_X6_count_x l G L F b ma A th x9 mb hma hM hA h)⟩
