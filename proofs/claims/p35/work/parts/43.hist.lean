abbrev hE (G : Gl) (ad pi : Nat → Nat) : va_E := .inl (G.2 3, 6, .inr (.inr (.inr (.inr (fun i => some (ad (22 + 16 * pi i)))))))
abbrev hO (a k : Nat) : va_E := .inr (0, [.ref a, .int (nI k)])
def hisW (G : Gl) (F : Nat → va_E) (ad : Nat → Nat) (h : Nat × (Nat → Sta)) : Prop := ∃ (pi : Nat → Nat) (hx : Nat → Sta), F (ad 1) = hO (ad 2) h.1 ∧ F (ad 2) = hE G ad pi ∧ (∀ i, i < 6 → 1 ≤ pi i ∧ pi i ≤ 6) ∧ (∀ i j, i < 6 → j < 6 → i ≠ j → pi i ≠ pi j) ∧ (∀ i, i < 6 → sta G F ad (22 + 16 * pi i) (hx i)) ∧ (∀ i, i < h.1 → hx i = h.2 i) ∧ h.1 ≤ 6
theorem hisW.keep {G : Gl} {F F1 : Nat → va_E} {ad : Nat → Nat} {h : Nat × (Nat → Sta)} (hh : hisW G F ad h) (k : ∀ i, (i = 1 ∨ i = 2 ∨ (38 ≤ i ∧ i < 134)) → F1 (ad i) = F (ad i)) : hisW G F1 ad h := by
  obtain ⟨pi, hx, e1, e2, hp, hpj, hs, hv, h6⟩ := hh
  exact ⟨pi, hx, (k 1 (by omega)).trans e1, (k 2 (by omega)).trans e2, hp, hpj, fun i hi => (hs i hi).keep (fun j hj => k j (by have := hp i hi; omega)), hv, h6⟩
def saveH (h : Nat × (Nat → Sta)) (st : Sta) : Nat × (Nat → Sta) := if h.1 < 6 then (h.1 + 1, fun i => if i = h.1 then st else h.2 i) else (6, fun i => if i = 5 then st else h.2 (i + 1))
def piL (pi : Nat → Nat) (i : Nat) : Nat → Nat := fun j => if j + 1 < i then pi (j + 1) else pi j
def piR (pi : Nat → Nat) : Nat → Nat := fun j => if j = 5 then pi 0 else piL pi 6 j
theorem piL_1 (pi : Nat → Nat) : piL pi 1 = pi := by
  funext j
  have h : ¬ j + 1 < 1 := by omega
  simp only [piL, h, if_false]
theorem piL_s (ad pi : Nat → Nat) {i : Nat} (hi : 1 ≤ i) : va_up (fun j => some (ad (22 + 16 * piL pi i j))) (i - 1) (some (ad (22 + 16 * pi i))) = fun j => some (ad (22 + 16 * piL pi (i + 1) j)) := by
  funext j
  by_cases e : j = i - 1
  · have h : j + 1 < i + 1 := by omega
    rw [e, va_up_self]
    have h2 : i - 1 + 1 < i + 1 := by omega
    simp only [piL, h2, if_true]
    rw [show i - 1 + 1 = i by omega]
  · rw [va_up_ne _ _ e]
    have h : (j + 1 < i + 1) = (j + 1 < i) := by simp only [eq_iff_iff]; omega
    simp only [piL, h]
theorem piL_e (ad pi : Nat → Nat) : va_up (fun j => some (ad (22 + 16 * piL pi 6 j))) 5 (some (ad (22 + 16 * pi 0))) = fun j => some (ad (22 + 16 * piR pi j)) := by
  funext j
  by_cases e : j = 5
  · subst e
    rw [va_up_self]
    rfl
  · rw [va_up_ne _ _ e]
    simp only [piR, e, if_false]
theorem piR_b {pi : Nat → Nat} (hp : ∀ i, i < 6 → 1 ≤ pi i ∧ pi i ≤ 6) (i : Nat) (hi : i < 6) : 1 ≤ piR pi i ∧ piR pi i ≤ 6 := by
  unfold piR piL
  split
  · exact hp 0 (by omega)
  · split
    · exact hp (i + 1) (by omega)
    · exact hp i hi
def rot (i : Nat) : Nat := if i = 5 then 0 else i + 1
theorem piR_r (pi : Nat → Nat) {i : Nat} (hi : i < 6) : piR pi i = pi (rot i) := by
  unfold piR piL rot
  split
  · rfl
  · rw [if_pos (by omega)]
section AROWS
variable {p : Program} {l : Launch} {e : Env} {R : Room} {s : State} {m : MethodId} {args : Array Value} {below : List Frame} {meth : Method} {c : Code} {H : Heap} {locs : List Loc} {cells slots : Nat} {Q : State → Prop}
variable {cc : ByteArray} {nL : Nat} {own : String} {pc : Nat} {ls : Array Slot} {rest : List Value} {G : Gl} {L : List Nat} {F : Nat → va_E} {a : Nat}
theorem q_aast (C0 : Cx p s m args c cc nL own G L) (hw : wD G L F s H locs) (ha : a ∈ L) (t0 ci : Nat) {q9 : vw_C} (ht : (g_tys G)[t0]? = some (G.2 t0, .object q9.1)) (hc : vwCl[ci]? = some q9) {N : Nat} {f : Nat → Option Nat} (he : F a = .inl (G.2 t0, N, .inr (.inr (.inr (.inr f))))) (i : Nat) (hi : i < N) (hN : N < 2 ^ 31) {b : Nat} {vs : List Value} (hb : b ∈ L) (hbe : F b = .inr (ci, vs)) (hdg : decode cc pc = .ok (.aastore, 1))
    (kk : ∀ (F' : Nat → va_E) (H1 : Heap) (locs1 : List Loc), wD G L F' s H1 locs1 → F' a = .inl (G.2 t0, N, .inr (.inr (.inr (.inr (va_up f i (some b)))))) → (∀ q, q ≠ a → F' q = F q) → W p l e R s m args below meth c H1 locs1 cells slots Q (F0 m (pc + 1) ls rest)) : W p l e R s m args below meth c H locs cells slots Q (F0 m pc ls (.ref b :: .int (nI i) :: .ref a :: rest)) := by
  obtain ⟨k, hk⟩ := va_pl_get (X := []) (f := F) ha
  obtain ⟨k1, hk1⟩ := va_pl_get (X := []) (f := F) hb
  have hk2 := hk
  rw [he] at hk2
  rw [hbe] at hk1
  refine va_astq C0.x C0.b C0.K hw.1 hw.2.1 hw.2.2 k t0 k1 ci hk2 ht hk1 hc (vp_in_nI hi hN) hdg fun H1 locs1 hP hD hS => ?_
  rw [nI_clamp (Nat.lt_trans hi hN)] at hP
  exact hw.go (P := fun H1 locs1 => W p l e R s m args below meth c H1 locs1 cells slots Q (F0 m (pc + 1) ls rest)) ha hk hP hS kk
end AROWS

abbrev rm_X3_copyFrom : Room := { frames := 2, cells := 0, slots := 0, locals := 62 }
set_option maxHeartbeats 4000000 in
set_option maxRecDepth 100000 in
theorem c_X3_copyFrom (l : Launch) (G : Gl) (L : List Nat) (F : Nat → va_E) (ad : Nat → Nat) (hL : ∀ i, i < 166 → ad i ∈ L) (hin : ∀ i j, i < 166 → j < 166 → i ≠ j → ad i ≠ ad j) (tb ob : Nat) (s1 s2 : Sta) (hs1 : sta G F ad tb s1) (hs2 : sta G F ad ob s2) (htb : tb + 16 ≤ 166) (hob : ob + 16 ≤ 166) (hdis : tb + 16 ≤ ob ∨ ob + 16 ≤ tb) : CV l yX3_copyFrom cX3_copyFrom 2 none rm_X3_copyFrom G L F [.ref (ad tb), .ref (ad ob)] (fun F1 => sta G F1 ad tb s2 ∧ ∀ q, (∀ i, (i = tb ∨ i = tb + 1 ∨ (tb + 4 ≤ i ∧ i < tb + 16)) → q ≠ ad i) → F1 q = F q) := by
  refine CG_of (by decide) (Nat.le_of_ble_eq_true rfl) rfl ?_
  intro p e s m args below meth c Q C0 hr hlk hnm hQ hw ls hl
  have hx := C0.x
  have hb := C0.b
  refine lv_aload_n hx hb dX3_copyFrom_0 rfl (lv_at hl 0 rfl) ?_
  refine q_get C0 hw ((hL tb (by omega))) hs1.1 fw_X3_12 rfl dX3_copyFrom_1 ?_
  refine lv_aload_n hx hb dX3_copyFrom_4 rfl (lv_at hl 1 rfl) ?_
  refine q_get C0 hw ((hL ob (by omega))) hs2.1 fw_X3_12 rfl dX3_copyFrom_5 ?_
  refine q_callv hw (q_runV (As := [.ref (ad (ob + 1))]) (c_X2_copyFrom l G L F ad hL hin tb ob s1.1 s2.1 s1.2.2.2.2.2 s2.2.2.2.2.2 hs1.2 hs2.2 (by omega) (by omega) (by omega)) C0 hw vw_X3_22 ((hL (tb + 1) (by omega))) hs1.2.1 rfl rfl rfl hl.1 rfl (Nat.le_of_ble_eq_true rfl) dX3_copyFrom_8 ⟨by decide, by decide⟩ ⟨by decide, by decide⟩) rfl rfl (fun F_498 H locs hw hp_499 => ?_)
  refine lv_aload_n hx hb dX3_copyFrom_11 rfl (lv_at hl 0 rfl) ?_
  refine lv_aload_n hx hb dX3_copyFrom_12 rfl (lv_at hl 1 rfl) ?_
  have f_500 : F_498 (ad ob) = .inr (3, [.ref (ad (ob + 1)), .int (nI (s2.2.1)), .int (nI (s2.2.2.1)), .int (nI (s2.2.2.2.1)), .int (nI (s2.2.2.2.2.1))]) := (hp_499.2 (ad ob) (fun i hS => hin ob i (by omega) (by omega) (by omega))).trans hs2.1
  refine q_get C0 hw ((hL ob (by omega))) f_500 fw_X3_18 rfl dX3_copyFrom_13 ?_
  have f_501 : F_498 (ad tb) = .inr (3, [.ref (ad (tb + 1)), .int (nI (s1.2.1)), .int (nI (s1.2.2.1)), .int (nI (s1.2.2.2.1)), .int (nI (s1.2.2.2.2.1))]) := (hp_499.2 (ad tb) (fun i hS => hin tb i (by omega) (by omega) (by omega))).trans hs1.1
  refine q_put C0 hw ((hL tb (by omega))) f_501 fw_X3_18 pw_X3_1 rfl rfl rfl (Nat.le_of_ble_eq_true rfl) dX3_copyFrom_16 (fun F_502 H locs hw f_503 o_504 => ?_)
  have f_503 : F_502 (ad tb) = .inr (3, [.ref (ad (tb + 1)), .int (nI (s2.2.1)), .int (nI (s1.2.2.1)), .int (nI (s1.2.2.2.1)), .int (nI (s1.2.2.2.2.1))]) := f_503
  refine lv_aload_n hx hb dX3_copyFrom_19 rfl (lv_at hl 0 rfl) ?_
  refine lv_aload_n hx hb dX3_copyFrom_20 rfl (lv_at hl 1 rfl) ?_
  have f_505 : F_502 (ad ob) = .inr (3, [.ref (ad (ob + 1)), .int (nI (s2.2.1)), .int (nI (s2.2.2.1)), .int (nI (s2.2.2.2.1)), .int (nI (s2.2.2.2.2.1))]) := (o_504 (ad ob) (hin ob tb (by omega) (by omega) (by omega))).trans f_500
  refine q_get C0 hw ((hL ob (by omega))) f_505 fw_X3_26 rfl dX3_copyFrom_21 ?_
  refine q_put C0 hw ((hL tb (by omega))) f_503 fw_X3_26 pw_X3_2 rfl rfl rfl (Nat.le_of_ble_eq_true rfl) dX3_copyFrom_24 (fun F_506 H locs hw f_507 o_508 => ?_)
  have f_507 : F_506 (ad tb) = .inr (3, [.ref (ad (tb + 1)), .int (nI (s2.2.1)), .int (nI (s2.2.2.1)), .int (nI (s1.2.2.2.1)), .int (nI (s1.2.2.2.2.1))]) := f_507
  refine lv_aload_n hx hb dX3_copyFrom_27 rfl (lv_at hl 0 rfl) ?_
  refine lv_aload_n hx hb dX3_copyFrom_28 rfl (lv_at hl 1 rfl) ?_
  have f_509 : F_506 (ad ob) = .inr (3, [.ref (ad (ob + 1)), .int (nI (s2.2.1)), .int (nI (s2.2.2.1)), .int (nI (s2.2.2.2.1)), .int (nI (s2.2.2.2.2.1))]) := (o_508 (ad ob) (hin ob tb (by omega) (by omega) (by omega))).trans f_505
  refine q_get C0 hw ((hL ob (by omega))) f_509 fw_X3_29 rfl dX3_copyFrom_29 ?_
  refine q_put C0 hw ((hL tb (by omega))) f_507 fw_X3_29 pw_X3_3 rfl rfl rfl (Nat.le_of_ble_eq_true rfl) dX3_copyFrom_32 (fun F_510 H locs hw f_511 o_512 => ?_)
  have f_511 : F_510 (ad tb) = .inr (3, [.ref (ad (tb + 1)), .int (nI (s2.2.1)), .int (nI (s2.2.2.1)), .int (nI (s2.2.2.2.1)), .int (nI (s1.2.2.2.2.1))]) := f_511
  refine lv_aload_n hx hb dX3_copyFrom_35 rfl (lv_at hl 0 rfl) ?_
  refine lv_aload_n hx hb dX3_copyFrom_36 rfl (lv_at hl 1 rfl) ?_
  have f_513 : F_510 (ad ob) = .inr (3, [.ref (ad (ob + 1)), .int (nI (s2.2.1)), .int (nI (s2.2.2.1)), .int (nI (s2.2.2.2.1)), .int (nI (s2.2.2.2.2.1))]) := (o_512 (ad ob) (hin ob tb (by omega) (by omega) (by omega))).trans f_509
  refine q_get C0 hw ((hL ob (by omega))) f_513 fw_X3_32 rfl dX3_copyFrom_37 ?_
  refine q_put C0 hw ((hL tb (by omega))) f_511 fw_X3_32 pw_X3_4 rfl rfl rfl (Nat.le_of_ble_eq_true rfl) dX3_copyFrom_40 (fun F_514 H locs hw f_515 o_516 => ?_)
  have f_515 : F_514 (ad tb) = .inr (3, [.ref (ad (tb + 1)), .int (nI (s2.2.1)), .int (nI (s2.2.2.1)), .int (nI (s2.2.2.2.1)), .int (nI (s2.2.2.2.2.1))]) := f_515
  exact r_v C0 hr hlk hw ⟨⟨f_515, (hp_499.1.keep (fun i0 hi => ((o_516 (ad (i0)) (hin (i0) tb (by omega) (by omega) (by omega)))).trans (((o_512 (ad (i0)) (hin (i0) tb (by omega) (by omega) (by omega)))).trans (((o_508 (ad (i0)) (hin (i0) tb (by omega) (by omega) (by omega)))).trans ((o_504 (ad (i0)) (hin (i0) tb (by omega) (by omega) (by omega))))))))⟩, (fun q hq => ((o_516 q (hq tb (by omega))).trans ((o_512 q (hq tb (by omega))).trans ((o_508 q (hq tb (by omega))).trans ((o_504 q (hq tb (by omega))).trans (hp_499.2 q (fun i hS => hq i (by omega))))))))⟩ (Nat.le_refl _) (Nat.le_refl _) dX3_copyFrom_43 hQ
abbrev rm_X0_dropOldest : Room := { frames := 0, cells := 0, slots := 0, locals := 0 }
set_option maxHeartbeats 4000000 in
set_option maxRecDepth 100000 in
theorem c_X0_dropOldest (l : Launch) (G : Gl) (L : List Nat) (F : Nat → va_E) (ad : Nat → Nat) (hL : ∀ i, i < 166 → ad i ∈ L) (hin : ∀ i j, i < 166 → j < 166 → i ≠ j → ad i ≠ ad j) (pi : Nat → Nat) (k9 : Nat) (gx : Nat → Sta) (e1 : F (ad 1) = hO (ad 2) k9) (e2 : F (ad 2) = hE G ad pi) (hp : ∀ i, i < 6 → 1 ≤ pi i ∧ pi i ≤ 6) (hs : ∀ i, i < 6 → sta G F ad (22 + 16 * pi i) (gx i)) : CV l yX0_dropOldest cX0_dropOldest 3 none rm_X0_dropOldest G L F [.ref (ad 1)] (fun F1 => (F1 (ad 1) = hO (ad 2) 5 ∧ F1 (ad 2) = hE G ad (piR pi)) ∧ ∀ q, (∀ i, (i = 1 ∨ i = 2) → q ≠ ad i) → F1 q = F q) := by
  refine CG_of (by decide) (Nat.le_of_ble_eq_true rfl) rfl ?_
  intro p e s m args below meth c Q C0 hr hlk hnm hQ hw ls hl
  have hx := C0.x
  have hb := C0.b
  have hp0 := hp 0 (by omega)
  refine lv_aload_n hx hb dX0_dropOldest_0 rfl (lv_at hl 0 rfl) ?_
  refine q_get C0 hw ((hL 1 (by omega))) e1 fw_X0_11 rfl dX0_dropOldest_1 ?_
  refine lv_iconst (v := nI 0) hx hb dX0_dropOldest_4 (by decide) ?_
  refine q_aald C0 hw ((hL 2 (by omega))) 3 rfl e2 (0) (by omega) (by decide) (b := ad (22 + 16 * pi 0)) rfl dX0_dropOldest_5 ?_
  refine lv_astore_n (lv' := [(1, .ref (ad (22 + 16 * pi 0))), (0, .ref (ad 1))]) hx hb dX0_dropOldest_6 rfl hl (by decide) rfl (fun ls hl => ?_)
  refine lv_iconst (v := nI 1) hx hb dX0_dropOldest_7 (by decide) ?_
  refine lv_istore_n (lv' := [(2, .int (nI (1))), (1, .ref (ad (22 + 16 * pi 0))), (0, .ref (ad 1))]) hx hb dX0_dropOldest_8 rfl hl (by decide) rfl (fun ls hl => ?_)
  have lp9_n_517 : ∀ (n : Nat) (i9 : Nat), 1 ≤ i9 → i9 ≤ 6 → 7 - i9 < n → ∀ (F_518 : Nat → va_E) (H : Heap) (locs : List Loc), wD G L F_518 s H locs → F_518 (ad 2) = hE G ad ((piL pi i9)) → F_518 (ad 1) = hO (ad 2) (k9) → (∀ q, (∀ i, (i = 1 ∨ i = 2) → q ≠ ad i) → F_518 q = F q) → ∀ ls : Array Slot, lv_has ls 3 [(0, .ref (ad 1)), (1, .ref (ad (22 + 16 * pi 0))), (2, .int (nI (i9)))] → W p l e rm_X0_dropOldest s m args below meth c H locs 0 0 Q (F0 m 9 ls []) := by
    intro n
    induction n with
    | zero => intro i9 h1i hi6 hm; exact absurd hm (Nat.not_lt_zero _)
    | succ n ih_9_n_522 =>
      intro i9 h1i hi6 hm F_518 H locs hw f_519 f_520 fr_521 ls hl
      refine lv_iload_n hx hb dX0_dropOldest_9 rfl (lv_at hl 2 rfl) ?_
      refine lv_bipush (v := nI 6) hx hb dX0_dropOldest_10 (by decide) ?_
      refine n_icmp_ge (tgt := 35) hx hb dX0_dropOldest_12 (by decide) (by omega) (by decide) (fun c_12 => ?_) (fun c_12 => ?_)
      · skip
        obtain rfl : i9 = 6 := by omega
        refine lv_aload_n hx hb dX0_dropOldest_35 rfl (lv_at hl 0 rfl) ?_
        refine q_get C0 hw ((hL 1 (by omega))) f_520 fw_X0_11 rfl dX0_dropOldest_36 ?_
        refine lv_iconst (v := nI 5) hx hb dX0_dropOldest_39 (by decide) ?_
        refine lv_aload_n hx hb dX0_dropOldest_40 rfl (lv_at hl 1 rfl) ?_
        have f_523 : F_518 (ad (22 + 16 * pi 0)) = .inr (3, [.ref (ad (22 + 16 * pi 0 + 1)), .int (nI ((gx 0).2.1)), .int (nI ((gx 0).2.2.1)), .int (nI ((gx 0).2.2.2.1)), .int (nI ((gx 0).2.2.2.2.1))]) := (fr_521 (ad (22 + 16 * pi 0)) (fun i hS => hin (22 + 16 * pi 0) i (by omega) (by omega) (by omega))).trans ((hs 0 (by omega)).1)
        refine q_aast C0 hw ((hL 2 (by omega))) 3 3 rfl rfl f_519 (5) (by omega) (by decide) ((hL (22 + 16 * pi 0) (by omega))) f_523 dX0_dropOldest_41 (fun F_524 H locs hw f_525 o_526 => ?_)
        have f_525 : F_524 (ad 2) = hE G ad (piR pi) := by rw [f_525, piL_e]
        refine lv_aload_n hx hb dX0_dropOldest_42 rfl (lv_at hl 0 rfl) ?_
        refine lv_iconst (v := nI 5) hx hb dX0_dropOldest_43 (by decide) ?_
        have f_527 : F_524 (ad 1) = hO (ad 2) (k9) := (o_526 (ad 1) (hin 1 2 (by omega) (by omega) (by omega))).trans f_520
        refine q_put C0 hw ((hL 1 (by omega))) f_527 fw_X0_18 pw_X0_1 rfl rfl rfl (Nat.le_of_ble_eq_true rfl) dX0_dropOldest_44 (fun F_528 H locs hw f_529 o_530 => ?_)
        have f_529 : F_528 (ad 1) = .inr (0, [.ref (ad 2), .int (nI (5))]) := f_529
        have f_531 : F_528 (ad 2) = hE G ad ((piR pi)) := (o_530 (ad 2) (hin 2 1 (by omega) (by omega) (by omega))).trans f_525
        exact r_v C0 hr hlk hw ⟨⟨f_529, f_531⟩, (fun q hq => ((o_530 q (hq 1 (by omega))).trans ((o_526 q (hq 2 (by omega))).trans (fr_521 q (fun i hS => hq i (by omega))))))⟩ (Nat.le_refl _) (Nat.le_refl _) dX0_dropOldest_47 hQ
      · skip
        have hpi := hp i9 (by omega)
        refine lv_aload_n hx hb dX0_dropOldest_15 rfl (lv_at hl 0 rfl) ?_
        refine q_get C0 hw ((hL 1 (by omega))) f_520 fw_X0_11 rfl dX0_dropOldest_16 ?_
        refine lv_iload_n hx hb dX0_dropOldest_19 rfl (lv_at hl 2 rfl) ?_
        refine lv_iconst (v := nI 1) hx hb dX0_dropOldest_20 (by decide) ?_
        refine n_isub hx hb (by omega) dX0_dropOldest_21 ?_
        refine lv_aload_n hx hb dX0_dropOldest_22 rfl (lv_at hl 0 rfl) ?_
        refine q_get C0 hw ((hL 1 (by omega))) f_520 fw_X0_11 rfl dX0_dropOldest_23 ?_
        refine lv_iload_n hx hb dX0_dropOldest_26 rfl (lv_at hl 2 rfl) ?_
        refine q_aald C0 hw ((hL 2 (by omega))) 3 rfl f_519 (i9) (by omega) (by decide) (b := ad (22 + 16 * pi i9)) (congrArg (fun z => some (ad (22 + 16 * z))) (show piL pi i9 i9 = pi i9 from if_neg (by omega))) dX0_dropOldest_27 ?_
        have f_532 : F_518 (ad (22 + 16 * pi i9)) = .inr (3, [.ref (ad (22 + 16 * pi i9 + 1)), .int (nI ((gx i9).2.1)), .int (nI ((gx i9).2.2.1)), .int (nI ((gx i9).2.2.2.1)), .int (nI ((gx i9).2.2.2.2.1))]) := (fr_521 (ad (22 + 16 * pi i9)) (fun i hS => hin (22 + 16 * pi i9) i (by omega) (by omega) (by omega))).trans ((hs i9 (by omega)).1)
        refine q_aast C0 hw ((hL 2 (by omega))) 3 3 rfl rfl f_519 (i9 - 1) (by omega) (by decide) ((hL (22 + 16 * pi i9) (by omega))) f_532 dX0_dropOldest_28 (fun F_533 H locs hw f_534 o_535 => ?_)
        have f_534 : F_533 (ad 2) = hE G ad (piL pi (i9 + 1)) := by rw [f_534, piL_s _ _ (by omega)]
        refine lv_iinc (v := nI (i9 + 1)) (lv' := [(2, .int (nI (i9 + 1))), (0, .ref (ad 1)), (1, .ref (ad (22 + 16 * pi 0)))]) hx hb dX0_dropOldest_29 hl (k := 2) rfl (nI_add _ _) (by decide) rfl (fun ls hl => ?_)
        refine lv_goto (tgt := 9) hx hb dX0_dropOldest_32 (by decide) ?_
        have f_536 : F_533 (ad 1) = hO (ad 2) (k9) := (o_535 (ad 1) (hin 1 2 (by omega) (by omega) (by omega))).trans f_520
        exact ih_9_n_522 (i9 + 1) ((by omega)) ((by omega)) (by omega) F_533 _ _ hw (f_534) (f_536) (fun q hq => ((o_535 q (hq 2 (by omega))).trans (fr_521 q (fun i hS => hq i (by omega))))) ls (lv_sub hl [1, 2, 0] rfl)
  exact lp9_n_517 _ (1) ((by omega)) ((by omega)) (Nat.lt_succ_self _) F _ _ hw (by rw [piL_1]; exact e2) (e1) (fun q hq => rfl) ls (lv_sub hl [2, 1, 0] rfl)
