def cutP (c p : Nat) (u : Nat → ZP) : Nat → ZP := fun k => if c < k ∧ k < p then 0 else u k
theorem cutP_0 (c : Nat) (u : Nat → ZP) : cutP c (c + 1) u = u := by
  funext k
  have h : ¬ (c < k ∧ k < c + 1) := by omega
  simp only [cutP, h, if_false]
theorem cutP_s (c : Nat) {p : Nat} (u : Nat → ZP) (hp : c < p) : va_up (cutP c p u) p (zc 0) = cutP c (p + 1) u := by
  funext k
  by_cases e : k = p
  · subst e
    have h : c < k ∧ k < k + 1 := by omega
    simp only [va_up, cutP, h, if_true, and_self, zc_0]
  · have h : (c < k ∧ k < p + 1) = (c < k ∧ k < p) := by simp only [eq_iff_iff]; omega
    rw [va_up_ne _ _ e]
    simp only [cutP, h]
theorem cutP_e (c : Nat) (r : Rws) (i k : Nat) (hk : k < 7) : cutP c 7 (r i) k = cutR c r i k := by
  simp only [cutP, cutR, hk, and_true]
abbrev rm_X2_cutAt : Room := { frames := 0, cells := 0, slots := 0, locals := 0 }
theorem mixR_n1 (a b : Rws) {i : Nat} (h : i < 6) : mixR a b i i = a i := by
  have h : ¬ (i < i ∨ (6 ≤ i ∧ i < 6 + i)) := by omega
  simp only [mixR, h, if_false]
theorem mixR_n2 (a b : Rws) {i : Nat} (h : i < 6) : mixR a b i (6 + i) = a (6 + i) := by
  have h : ¬ (6 + i < i ∨ (6 ≤ 6 + i ∧ 6 + i < 6 + i)) := by omega
  simp only [mixR, h, if_false]
set_option maxHeartbeats 4000000 in
set_option maxRecDepth 100000 in
theorem c_X2_cutAt (l : Launch) (G : Gl) (L : List Nat) (F : Nat → va_E) (ad : Nat → Nat) (hL : ∀ i, i < 166 → ad i ∈ L) (hin : ∀ i j, i < 166 → j < 166 → i ≠ j → ad i ≠ ad j) (tb c1 c9 : Nat) (r1 : Rws) (hs1 : shp G F ad tb c1 r1) (htb : tb + 16 ≤ 166) (hc9 : c9 ≤ 6) : CV l yX2_cutAt cX2_cutAt 4 none rm_X2_cutAt G L F [.ref (ad (tb + 1)), .int (nI (c9))] (fun F1 => shp G F1 ad tb c9 (cutR c9 r1) ∧ ∀ q, (∀ i, (i = tb + 1 ∨ (tb + 4 ≤ i ∧ i < tb + 16)) → q ≠ ad i) → F1 q = F q) := by
  refine CG_of (by decide) (Nat.le_of_ble_eq_true rfl) rfl ?_
  intro p e s m args below meth c Q C0 hr hlk hnm hQ hw ls hl
  have hx := C0.x
  have hb := C0.b
  refine lv_aload_n hx hb dX2_cutAt_0 rfl (lv_at hl 0 rfl) ?_
  refine lv_iload_n hx hb dX2_cutAt_1 rfl (lv_at hl 1 rfl) ?_
  refine q_put C0 hw ((hL (tb + 1) (by omega))) hs1.1 fw_X2_9 pw_X2_0 rfl rfl rfl (Nat.le_of_ble_eq_true rfl) dX2_cutAt_2 (fun F_437 H locs hw f_438 o_439 => ?_)
  have f_438 : F_437 (ad (tb + 1)) = .inr (2, [.int (nI (c9)), .ref (ad (tb + 2)), .ref (ad (tb + 3))]) := f_438
  refine lv_iconst (v := nI 0) hx hb dX2_cutAt_5 (by decide) ?_
  refine lv_istore_n (lv' := [(2, .int (nI (0))), (0, .ref (ad (tb + 1))), (1, .int (nI (c9)))]) hx hb dX2_cutAt_6 rfl hl (by decide) rfl (fun ls hl => ?_)
  have lp7_n_440 : ∀ (n : Nat) (j9 : Nat), j9 ≤ 6 → 7 - j9 < n → ∀ (F_441 : Nat → va_E) (H : Heap) (locs : List Loc), wD G L F_441 s H locs → F_441 (ad (tb + 1)) = .inr (2, [.int (nI (c9)), .ref (ad (tb + 2)), .ref (ad (tb + 3))]) → (∀ j, j < 12 → F_441 (ad (tb + 4 + j)) = rw7 G (mixR r1 (cutR c9 r1) j9 j)) → (∀ q, (∀ i, (i = tb + 1 ∨ (tb + 4 ≤ i ∧ i < tb + 16)) → q ≠ ad i) → F_441 q = F q) → ∀ ls : Array Slot, lv_has ls 4 [(0, .ref (ad (tb + 1))), (1, .int (nI (c9))), (2, .int (nI (j9)))] → W p l e rm_X2_cutAt s m args below meth c H locs 0 0 Q (F0 m 7 ls []) := by
    intro n
    induction n with
    | zero => intro j9 hj9 hm; exact absurd hm (Nat.not_lt_zero _)
    | succ n ih_7_n_445 =>
      intro j9 hj9 hm F_441 H locs hw f_442 ff_443 fr_444 ls hl
      refine lv_iload_n hx hb dX2_cutAt_7 rfl (lv_at hl 2 rfl) ?_
      refine lv_bipush (v := nI 6) hx hb dX2_cutAt_8 (by decide) ?_
      refine n_icmp_ge (tgt := 53) hx hb dX2_cutAt_10 (by decide) (by omega) (by decide) (fun c_10 => ?_) (fun c_10 => ?_)
      · skip
        obtain rfl : j9 = 6 := by omega
        have f_446 : F_441 (ad (tb + 2)) = oE G (fun i => ad (tb + 4 + i)) := (fr_444 (ad (tb + 2)) (fun i hS => hin (tb + 2) i (by omega) (by omega) (by omega))).trans hs1.2.1
        have f_447 : F_441 (ad (tb + 3)) = oE G (fun i => ad (tb + 10 + i)) := (fr_444 (ad (tb + 3)) (fun i hS => hin (tb + 3) i (by omega) (by omega) (by omega))).trans hs1.2.2.1
        exact r_v C0 hr hlk hw ⟨⟨f_442, f_446, f_447, fun i hi => (ff_443 i hi).trans (congrArg (rw7 G) (mixR_6 r1 (cutR c9 r1) hi))⟩, (fun q hq => (fr_444 q (fun i hS => hq i (by omega))))⟩ (Nat.le_refl _) (Nat.le_refl _) dX2_cutAt_53 hQ
      · skip
        refine lv_iload_n hx hb dX2_cutAt_13 rfl (lv_at hl 1 rfl) ?_
        refine lv_iconst (v := nI 1) hx hb dX2_cutAt_14 (by decide) ?_
        refine n_iadd hx hb dX2_cutAt_15 ?_
        refine lv_istore_n (lv' := [(3, .int (nI (c9 + 1))), (0, .ref (ad (tb + 1))), (1, .int (nI (c9))), (2, .int (nI (j9)))]) hx hb dX2_cutAt_16 rfl hl (by decide) rfl (fun ls hl => ?_)
        have lp17_n_448 : ∀ (n : Nat) (p9 : Nat), c9 + 1 ≤ p9 → p9 ≤ 7 → 8 - p9 < n → ∀ (F_449 : Nat → va_E) (H : Heap) (locs : List Loc), wD G L F_449 s H locs → F_449 (ad (tb + 1)) = .inr (2, [.int (nI (c9)), .ref (ad (tb + 2)), .ref (ad (tb + 3))]) → F_449 (ad (tb + 4 + j9)) = rw7 G ((cutP c9 p9 (r1 j9))) → F_449 (ad (tb + 10 + j9)) = rw7 G ((cutP c9 p9 (r1 (6 + j9)))) → (∀ j, j < 12 → j ≠ j9 → j ≠ 6 + j9 → F_449 (ad (tb + 4 + j)) = rw7 G (mixR r1 (cutR c9 r1) j9 j)) → (∀ q, (∀ i, (i = tb + 1 ∨ (tb + 4 ≤ i ∧ i < tb + 16)) → q ≠ ad i) → F_449 q = F q) → ∀ ls : Array Slot, lv_has ls 4 [(0, .ref (ad (tb + 1))), (1, .int (nI (c9))), (2, .int (nI (j9))), (3, .int (nI (p9)))] → W p l e rm_X2_cutAt s m args below meth c H locs 0 0 Q (F0 m 17 ls []) := by
          intro n
          induction n with
          | zero => intro p9 hp1 hp2 hm; exact absurd hm (Nat.not_lt_zero _)
          | succ n ih_17_n_455 =>
            intro p9 hp1 hp2 hm F_449 H locs hw f_450 f_451 f_452 ff_453 fr_454 ls hl
            refine lv_iload_n hx hb dX2_cutAt_17 rfl (lv_at hl 3 rfl) ?_
            refine lv_bipush (v := nI 6) hx hb dX2_cutAt_18 (by decide) ?_
            refine n_icmp_gt (tgt := 47) hx hb dX2_cutAt_20 (by decide) (by omega) (by decide) (fun c_20 => ?_) (fun c_20 => ?_)
            · skip
              obtain rfl : p9 = 7 := by omega
              obtain ⟨F_456, hw, f_457, o_458⟩ := hw.rowE f_451 (v := (cutR c9 r1) j9) (cutP_e c9 r1 j9)
              have f_459 : F_456 (ad (tb + 10 + j9)) = rw7 G ((cutP c9 7 (r1 (6 + j9)))) := (o_458 (ad (tb + 10 + j9)) (hin (tb + 10 + j9) (tb + 4 + j9) (by omega) (by omega) (by omega))).trans f_452
              obtain ⟨F_460, hw, f_461, o_462⟩ := hw.rowE f_459 (v := (cutR c9 r1) (6 + j9)) (cutP_e c9 r1 (6 + j9))
              refine lv_iinc (v := nI (j9 + 1)) (lv' := [(2, .int (nI (j9 + 1))), (0, .ref (ad (tb + 1))), (1, .int (nI (c9))), (3, .int (nI (7)))]) hx hb dX2_cutAt_47 hl (k := 2) rfl (nI_add _ _) (by decide) rfl (fun ls hl => ?_)
              refine lv_goto (tgt := 7) hx hb dX2_cutAt_50 (by decide) ?_
              have f_463 : F_460 (ad (tb + 4 + j9)) = rw7 G ((cutR c9 r1) j9) := (o_462 (ad (tb + 4 + j9)) (hin (tb + 4 + j9) (tb + 10 + j9) (by omega) (by omega) (by omega))).trans f_457
              have f_464 : F_456 (ad (tb + 1)) = .inr (2, [.int (nI (c9)), .ref (ad (tb + 2)), .ref (ad (tb + 3))]) := (o_458 (ad (tb + 1)) (hin (tb + 1) (tb + 4 + j9) (by omega) (by omega) (by omega))).trans f_450
              have f_465 : F_460 (ad (tb + 1)) = .inr (2, [.int (nI (c9)), .ref (ad (tb + 2)), .ref (ad (tb + 3))]) := (o_462 (ad (tb + 1)) (hin (tb + 1) (tb + 10 + j9) (by omega) (by omega) (by omega))).trans f_464
              exact ih_7_n_445 (j9 + 1) ((by omega)) (by omega) F_460 _ _ hw (f_465) (fun j hj => by
        by_cases e1 : j = j9
        · subst e1
          rw [mixR_a]
          exact f_463
        · by_cases e2 : j = 6 + j9
          · subst e2
            rw [mixR_b, show tb + 4 + (6 + j9) = tb + 10 + j9 by omega]
            exact f_461
          · rw [mixR_o _ _ e1 e2]
            exact (((o_462 (ad (tb + 4 + j)) (hin (tb + 4 + j) (tb + 10 + j9) (by omega) (by omega) (by omega)))).trans ((o_458 (ad (tb + 4 + j)) (hin (tb + 4 + j) (tb + 4 + j9) (by omega) (by omega) (by omega))))).trans (ff_453 j hj e1 e2)) (fun q hq => ((o_462 q (hq (tb + 10 + j9) (by omega))).trans ((o_458 q (hq (tb + 4 + j9) (by omega))).trans (fr_454 q (fun i hS => hq i (by omega)))))) ls (lv_sub hl [1, 2, 0] rfl)
            · skip
              refine lv_aload_n hx hb dX2_cutAt_23 rfl (lv_at hl 0 rfl) ?_
              refine q_get C0 hw ((hL (tb + 1) (by omega))) f_450 fw_X2_17 rfl dX2_cutAt_24 ?_
              refine lv_iload_n hx hb dX2_cutAt_27 rfl (lv_at hl 2 rfl) ?_
              have f_466 : F_449 (ad (tb + 2)) = oE G (fun i => ad (tb + 4 + i)) := (fr_454 (ad (tb + 2)) (fun i hS => hin (tb + 2) i (by omega) (by omega) (by omega))).trans hs1.2.1
              refine q_aaldi C0 hw ((hL (tb + 2) (by omega))) f_466 (j9) (by omega) (by decide) (b := ad (tb + 4 + j9)) rfl dX2_cutAt_28 ?_
              refine lv_iload_n hx hb dX2_cutAt_29 rfl (lv_at hl 3 rfl) ?_
              refine lv_iconst (v := nI 0) hx hb dX2_cutAt_30 (by decide) ?_
              refine q_rst C0 hw ((hL (tb + 4 + j9) (by omega))) f_451 (p9) (by omega) (z := zc 0) dX2_cutAt_31 (fun F_467 H locs hw f_468 o_469 => ?_)
              refine lv_aload_n hx hb dX2_cutAt_32 rfl (lv_at hl 0 rfl) ?_
              have f_470 : F_467 (ad (tb + 1)) = .inr (2, [.int (nI (c9)), .ref (ad (tb + 2)), .ref (ad (tb + 3))]) := (o_469 (ad (tb + 1)) (hin (tb + 1) (tb + 4 + j9) (by omega) (by omega) (by omega))).trans f_450
              refine q_get C0 hw ((hL (tb + 1) (by omega))) f_470 fw_X2_20 rfl dX2_cutAt_33 ?_
              refine lv_iload_n hx hb dX2_cutAt_36 rfl (lv_at hl 2 rfl) ?_
              have f_471 : F_449 (ad (tb + 3)) = oE G (fun i => ad (tb + 10 + i)) := (fr_454 (ad (tb + 3)) (fun i hS => hin (tb + 3) i (by omega) (by omega) (by omega))).trans hs1.2.2.1
              have f_472 : F_467 (ad (tb + 3)) = oE G (fun i => ad (tb + 10 + i)) := (o_469 (ad (tb + 3)) (hin (tb + 3) (tb + 4 + j9) (by omega) (by omega) (by omega))).trans f_471
              refine q_aaldi C0 hw ((hL (tb + 3) (by omega))) f_472 (j9) (by omega) (by decide) (b := ad (tb + 10 + j9)) rfl dX2_cutAt_37 ?_
              refine lv_iload_n hx hb dX2_cutAt_38 rfl (lv_at hl 3 rfl) ?_
              refine lv_iconst (v := nI 0) hx hb dX2_cutAt_39 (by decide) ?_
              have f_473 : F_467 (ad (tb + 10 + j9)) = rw7 G ((cutP c9 p9 (r1 (6 + j9)))) := (o_469 (ad (tb + 10 + j9)) (hin (tb + 10 + j9) (tb + 4 + j9) (by omega) (by omega) (by omega))).trans f_452
              refine q_rst C0 hw ((hL (tb + 10 + j9) (by omega))) f_473 (p9) (by omega) (z := zc 0) dX2_cutAt_40 (fun F_474 H locs hw f_475 o_476 => ?_)
              refine lv_iinc (v := nI (p9 + 1)) (lv' := [(3, .int (nI (p9 + 1))), (0, .ref (ad (tb + 1))), (1, .int (nI (c9))), (2, .int (nI (j9)))]) hx hb dX2_cutAt_41 hl (k := 3) rfl (nI_add _ _) (by decide) rfl (fun ls hl => ?_)
              refine lv_goto (tgt := 17) hx hb dX2_cutAt_44 (by decide) ?_
              have f_477 : F_474 (ad (tb + 1)) = .inr (2, [.int (nI (c9)), .ref (ad (tb + 2)), .ref (ad (tb + 3))]) := (o_476 (ad (tb + 1)) (hin (tb + 1) (tb + 10 + j9) (by omega) (by omega) (by omega))).trans f_470
              have f_478 : F_474 (ad (tb + 4 + j9)) = rw7 G (va_up ((cutP c9 p9 (r1 j9))) (p9) (zc 0)) := (o_476 (ad (tb + 4 + j9)) (hin (tb + 4 + j9) (tb + 10 + j9) (by omega) (by omega) (by omega))).trans f_468
              exact ih_17_n_455 (p9 + 1) ((by omega)) ((by omega)) (by omega) F_474 _ _ hw (f_477) (f_478.trans (congrArg (rw7 G) (cutP_s c9 (r1 j9) (by omega)))) (f_475.trans (congrArg (rw7 G) (cutP_s c9 (r1 (6 + j9)) (by omega)))) (fun j hj n1 n2 => (((o_476 (ad (tb + 4 + j)) (hin (tb + 4 + j) (tb + 10 + j9) (by omega) (by omega) (by omega)))).trans ((o_469 (ad (tb + 4 + j)) (hin (tb + 4 + j) (tb + 4 + j9) (by omega) (by omega) (by omega))))).trans (ff_453 j hj n1 n2)) (fun q hq => ((o_476 q (hq (tb + 10 + j9) (by omega))).trans ((o_469 q (hq (tb + 4 + j9) (by omega))).trans (fr_454 q (fun i hS => hq i (by omega)))))) ls (lv_sub hl [1, 2, 3, 0] rfl)
        exact lp17_n_448 _ (c9 + 1) ((Nat.le_refl _)) ((by omega)) (Nat.lt_succ_self _) F_441 _ _ hw (f_442) ((ff_443 (j9) (by omega)).trans (congrArg (rw7 G) ((mixR_n1 r1 (cutR c9 r1) (by omega)).trans (cutP_0 c9 (r1 j9)).symm))) ((show F_441 (ad (tb + 10 + j9)) = _ from by have h9 := ff_443 (6 + j9) (by omega); rwa [show tb + 4 + (6 + j9) = tb + 10 + j9 by omega] at h9).trans (congrArg (rw7 G) ((mixR_n2 r1 (cutR c9 r1) (by omega)).trans (cutP_0 c9 (r1 (6 + j9))).symm))) (fun j hj n1 n2 => (rfl).trans (ff_443 j hj)) (fun q hq => (fr_444 q (fun i hS => hq i (by omega)))) ls (lv_sub hl [1, 2, 3, 0] rfl)
  exact lp7_n_440 _ (0) ((by omega)) (Nat.lt_succ_self _) F_437 _ _ hw (f_438) (fun j hj => ((o_439 (ad (tb + 4 + j)) (hin (tb + 4 + j) (tb + 1) (by omega) (by omega) (by omega)))).trans ((hs1.2.2.2 j hj).trans (congrArg (rw7 G) (congrFun (mixR_0 r1 (cutR c9 r1)) j).symm))) (fun q hq => (o_439 q (hq (tb + 1) (by omega)))) ls (lv_sub hl [1, 2, 0] rfl)
def cntR (r : Rws) : Nat → Nat
  | 0 => 0
  | i + 1 => cntR r i + (if m_low (fun k => decide (r i k ≠ 0)) = -1 then 0 else 1)
theorem cntR_le (r : Rws) : ∀ i, cntR r i ≤ i
  | 0 => Nat.le_refl 0
  | i + 1 => by
    rw [cntR]
    have := cntR_le r i
    split <;> omega
theorem cntR_a {r : Rws} {i : Nat} (h : m_low (fun k => decide (r i k ≠ 0)) = -1) : cntR r (i + 1) = cntR r i := by rw [cntR, if_pos h, Nat.add_zero]
theorem cntR_b {r : Rws} {i : Nat} (h : ¬ m_low (fun k => decide (r i k ≠ 0)) = -1) : cntR r (i + 1) = cntR r i + 1 := by rw [cntR, if_neg h]
def cfP (u : Nat → ZP) : Nat → Nat
  | 0 => 0
  | k + 1 => cfP u k + (if (u (k + 2)).val = 0 then 0 else 1)
def cfR (r : Rws) : Nat → Nat
  | 0 => 0
  | i + 1 => cfR r i + cfP (r i) 5
theorem cfP_le (u : Nat → ZP) : ∀ k, cfP u k ≤ k
  | 0 => Nat.le_refl 0
  | k + 1 => by
    rw [cfP]
    have := cfP_le u k
    split <;> omega
theorem cfR_le (r : Rws) : ∀ i, cfR r i ≤ 5 * i
  | 0 => Nat.le_refl 0
  | i + 1 => by
    rw [cfR]
    have := cfR_le r i
    have := cfP_le (r i) 5
    omega
theorem cfP_a {u : Nat → ZP} {k : Nat} (h : (u (k + 2)).val = 0) : cfP u (k + 1) = cfP u k := by rw [cfP, if_pos h, Nat.add_zero]
theorem cfP_b {u : Nat → ZP} {k : Nat} (h : ¬ (u (k + 2)).val = 0) : cfP u (k + 1) = cfP u k + 1 := by rw [cfP, if_neg h]
abbrev rm_X2_rowsWithPowers : Room := { frames := 1, cells := 0, slots := 0, locals := 21 }
set_option maxHeartbeats 4000000 in
set_option maxRecDepth 100000 in
theorem c_X2_rowsWithPowers (l : Launch) (G : Gl) (L : List Nat) (F : Nat → va_E) (ad : Nat → Nat) (hL : ∀ i, i < 166 → ad i ∈ L) (hin : ∀ i j, i < 166 → j < 166 → i ≠ j → ad i ≠ ad j) (aa bb : Nat) (r9 : Rws) (hbb : bb + 6 ≤ 166) (ma : aa ∈ L) (fa : F aa = oE G (fun i => ad (bb + i))) (hr9 : ∀ i, i < 6 → F (ad (bb + i)) = rw7 G (r9 i)) : CI l yX2_rowsWithPowers cX2_rowsWithPowers 3 (some .int) rm_X2_rowsWithPowers G L F [.ref aa] (fun r F1 => r = nI (cntR r9 6) ∧ ∀ q, F1 q = F q) := by
  refine CG_of (by decide) (Nat.le_of_ble_eq_true rfl) rfl ?_
  intro p e s m args below meth c Q C0 hr hlk hnm hQ hw ls hl
  have hx := C0.x
  have hb := C0.b
  refine lv_iconst (v := nI 0) hx hb dX2_rowsWithPowers_0 (by decide) ?_
  refine lv_istore_n (lv' := [(1, .int (nI (0))), (0, .ref aa)]) hx hb dX2_rowsWithPowers_1 rfl hl (by decide) rfl (fun ls hl => ?_)
  refine lv_iconst (v := nI 0) hx hb dX2_rowsWithPowers_2 (by decide) ?_
  refine lv_istore_n (lv' := [(2, .int (nI (0))), (1, .int (nI (0))), (0, .ref aa)]) hx hb dX2_rowsWithPowers_3 rfl hl (by decide) rfl (fun ls hl => ?_)
  have lp4 : ∀ (n : Nat) (i9 : Nat), 0 ≤ i9 → i9 ≤ 6 → 6 + 1 - i9 < n → ∀ (F_479 : Nat → va_E) (H : Heap) (locs : List Loc), wD G L F_479 s H locs → (∀ q, F_479 q = F q) → ∀ ls : Array Slot, lv_has ls 3 [(0, .ref aa), (1, .int (nI (cntR r9 i9))), (2, .int (nI (i9)))] → W p l e rm_X2_rowsWithPowers s m args below meth c H locs 0 0 Q (F0 m 4 ls []) := by
    intro n
    induction n with
    | zero => intro i9 hlo hhi hm; exact absurd hm (Nat.not_lt_zero _)
    | succ n ih_4 =>
      intro i9 hlo hhi hm F_479 H locs hw  fr_480 ls hl
      refine lv_iload_n hx hb dX2_rowsWithPowers_4 rfl (lv_at hl 2 rfl) ?_
      refine lv_bipush (v := nI 6) hx hb dX2_rowsWithPowers_5 (by decide) ?_
      refine n_icmp_ge (tgt := 29) hx hb dX2_rowsWithPowers_7 (by decide) (by omega) (by decide) (fun c_7 => ?_) (fun c_7 => ?_)
      · skip
        obtain rfl : i9 = 6 := by omega
        refine lv_iload_n hx hb dX2_rowsWithPowers_29 rfl (lv_at hl 1 rfl) ?_
        exact r_i C0 hr hlk hw (v := nI (cntR r9 6)) rfl ⟨rfl, (fun q  => (fr_480 q ))⟩ (Nat.le_refl _) (Nat.le_refl _) dX2_rowsWithPowers_30 hQ
      · skip
        refine lv_aload_n hx hb dX2_rowsWithPowers_10 rfl (lv_at hl 0 rfl) ?_
        refine lv_iload_n hx hb dX2_rowsWithPowers_11 rfl (lv_at hl 2 rfl) ?_
        have f_481 : F_479 aa = oE G (fun i => ad (bb + i)) := (fr_480 aa ).trans fa
        refine q_aaldi C0 hw ma f_481 (i9) (by omega) (by decide) (b := ad (bb + i9)) rfl dX2_rowsWithPowers_12 ?_
        have f_482 : F_479 (ad (bb + i9)) = rw7 G ((r9 i9)) := (fr_480 (ad (bb + i9)) ).trans ((hr9 (i9) (by omega)))
        refine q_calli hw (q_runS (As := [.ref (ad (bb + i9))]) (c_X1_lowestPower l G L F_479 (ad (bb + i9)) ((r9 i9)) ((hL (bb + i9) (by omega))) f_482) C0 hw sw_X2_33 rfl hl.1 rfl (Nat.le_of_ble_eq_true rfl) dX2_rowsWithPowers_13 ⟨by decide, by decide⟩ ⟨by decide, by decide⟩) rfl rfl (fun r_485 F_483 H locs hw hp_484 => ?_)
        obtain ⟨he_486, o_487⟩ := hp_484
        subst he_486
        refine lv_iconst (v := (-1)) hx hb dX2_rowsWithPowers_16 (by decide) ?_
        refine lv_icmp_eq (tgt := 23) hx hb dX2_rowsWithPowers_17 (by decide) (fun c_17 => ?_) (fun c_17 => ?_)
        · skip
          have hcl := cntR_le r9 i9
          refine lv_iinc (v := nI (i9 + 1)) (lv' := [(2, .int (nI (i9 + 1))), (0, .ref aa), (1, .int (nI (cntR r9 i9)))]) hx hb dX2_rowsWithPowers_23 hl (k := 2) rfl (nI_add _ _) (by decide) rfl (fun ls hl => ?_)
          refine lv_goto (tgt := 4) hx hb dX2_rowsWithPowers_26 (by decide) ?_
          have hl : lv_has ls 3 [(2, .int (nI (i9 + 1))), (0, .ref aa), (1, .int (nI (cntR r9 (i9 + 1))))] := (by rw [cntR_a c_17]; exact hl)
          exact ih_4 (i9 + 1) ((by omega)) ((by omega)) (by omega) F_483 _ _ hw  (fun q  => ((o_487 q ).trans (fr_480 q ))) ls (lv_sub hl [1, 2, 0] rfl)
        · skip
          have hcl := cntR_le r9 i9
          refine lv_iinc (v := nI (cntR r9 i9 + 1)) (lv' := [(1, .int (nI (cntR r9 i9 + 1))), (0, .ref aa), (2, .int (nI (i9)))]) hx hb dX2_rowsWithPowers_20 hl (k := 1) rfl (nI_add _ _) (by decide) rfl (fun ls hl => ?_)
          refine lv_iinc (v := nI (i9 + 1)) (lv' := [(2, .int (nI (i9 + 1))), (1, .int (nI (cntR r9 i9 + 1))), (0, .ref aa)]) hx hb dX2_rowsWithPowers_23 hl (k := 2) rfl (nI_add _ _) (by decide) rfl (fun ls hl => ?_)
          refine lv_goto (tgt := 4) hx hb dX2_rowsWithPowers_26 (by decide) ?_
          have hl : lv_has ls 3 [(2, .int (nI (i9 + 1))), (1, .int (nI (cntR r9 (i9 + 1)))), (0, .ref aa)] := (by rw [cntR_b c_17]; exact hl)
          exact ih_4 (i9 + 1) ((by omega)) ((by omega)) (by omega) F_483 _ _ hw  (fun q  => ((o_487 q ).trans (fr_480 q ))) ls (lv_sub hl [2, 1, 0] rfl)
  exact lp4 _ (0) ((by omega)) ((by omega)) (Nat.lt_succ_self _) F _ _ hw  (fun q  => rfl) ls (lv_sub hl [2, 1, 0] rfl)
abbrev rm_X2_fieldsThatAreNotZero : Room := { frames := 2, cells := 0, slots := 0, locals := 43 }
set_option maxHeartbeats 4000000 in
set_option maxRecDepth 100000 in
theorem c_X2_fieldsThatAreNotZero (l : Launch) (G : Gl) (L : List Nat) (F : Nat → va_E) (ad : Nat → Nat) (hL : ∀ i, i < 166 → ad i ∈ L) (hin : ∀ i j, i < 166 → j < 166 → i ≠ j → ad i ≠ ad j) (tb c1 : Nat) (r1 : Rws) (hs1 : shp G F ad tb c1 r1) (htb : tb + 16 ≤ 166) : CI l yX2_fieldsThatAreNotZero cX2_fieldsThatAreNotZero 1 (some .int) rm_X2_fieldsThatAreNotZero G L F [.ref (ad (tb + 1))] (fun r F1 => r = nI (cntR (fun i => r1 i) 6) ∧ ∀ q, F1 q = F q) := by
  refine CG_of (by decide) (Nat.le_of_ble_eq_true rfl) rfl ?_
  intro p e s m args below meth c Q C0 hr hlk hnm hQ hw ls hl
  have hx := C0.x
  have hb := C0.b
  refine lv_aload_n hx hb dX2_fieldsThatAreNotZero_0 rfl (lv_at hl 0 rfl) ?_
  refine q_get C0 hw ((hL (tb + 1) (by omega))) hs1.1 fw_X2_17 rfl dX2_fieldsThatAreNotZero_1 ?_
  refine q_calli hw (q_runS (As := [.ref (ad (tb + 2))]) (c_X2_rowsWithPowers l G L F ad hL hin (ad (tb + 2)) (tb + 4) (fun i => r1 i) (by omega) ((hL (tb + 2) (by omega))) hs1.2.1 (fun i hi => hs1.2.2.2 i (by omega))) C0 hw sw_X2_29 rfl hl.1 rfl (Nat.le_of_ble_eq_true rfl) dX2_fieldsThatAreNotZero_4 ⟨by decide, by decide⟩ ⟨by decide, by decide⟩) rfl rfl (fun r_490 F_488 H locs hw hp_489 => ?_)
  obtain ⟨he_491, o_492⟩ := hp_489
  subst he_491
  exact r_i C0 hr hlk hw (v := nI (cntR (fun i => r1 i) 6)) rfl ⟨rfl, (fun q  => (o_492 q ))⟩ (Nat.le_refl _) (Nat.le_refl _) dX2_fieldsThatAreNotZero_7 hQ
abbrev rm_X2_flowsThatAreNotX : Room := { frames := 2, cells := 0, slots := 0, locals := 43 }
set_option maxHeartbeats 4000000 in
set_option maxRecDepth 100000 in
theorem c_X2_flowsThatAreNotX (l : Launch) (G : Gl) (L : List Nat) (F : Nat → va_E) (ad : Nat → Nat) (hL : ∀ i, i < 166 → ad i ∈ L) (hin : ∀ i j, i < 166 → j < 166 → i ≠ j → ad i ≠ ad j) (tb c1 : Nat) (r1 : Rws) (hs1 : shp G F ad tb c1 r1) (htb : tb + 16 ≤ 166) : CI l yX2_flowsThatAreNotX cX2_flowsThatAreNotX 1 (some .int) rm_X2_flowsThatAreNotX G L F [.ref (ad (tb + 1))] (fun r F1 => r = nI (cntR (fun i => r1 (6 + i)) 6) ∧ ∀ q, F1 q = F q) := by
  refine CG_of (by decide) (Nat.le_of_ble_eq_true rfl) rfl ?_
  intro p e s m args below meth c Q C0 hr hlk hnm hQ hw ls hl
  have hx := C0.x
  have hb := C0.b
  refine lv_aload_n hx hb dX2_flowsThatAreNotX_0 rfl (lv_at hl 0 rfl) ?_
  refine q_get C0 hw ((hL (tb + 1) (by omega))) hs1.1 fw_X2_20 rfl dX2_flowsThatAreNotX_1 ?_
  refine q_calli hw (q_runS (As := [.ref (ad (tb + 3))]) (c_X2_rowsWithPowers l G L F ad hL hin (ad (tb + 3)) (tb + 10) (fun i => r1 (6 + i)) (by omega) ((hL (tb + 3) (by omega))) hs1.2.2.1 (fun i hi => by have h9 := hs1.2.2.2 (6 + i) (by omega); rwa [show tb + 4 + (6 + i) = tb + 10 + i by omega] at h9)) C0 hw sw_X2_29 rfl hl.1 rfl (Nat.le_of_ble_eq_true rfl) dX2_flowsThatAreNotX_4 ⟨by decide, by decide⟩ ⟨by decide, by decide⟩) rfl rfl (fun r_495 F_493 H locs hw hp_494 => ?_)
  obtain ⟨he_496, o_497⟩ := hp_494
  subst he_496
  exact r_i C0 hr hlk hw (v := nI (cntR (fun i => r1 (6 + i)) 6)) rfl ⟨rfl, (fun q  => (o_497 q ))⟩ (Nat.le_refl _) (Nat.le_refl _) dX2_flowsThatAreNotX_7 hQ
