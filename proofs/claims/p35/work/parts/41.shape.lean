theorem mixR_0 (a b : Rws) : mixR a b 0 = a := by
  funext j
  have h : ¬ (j < 0 ∨ (6 ≤ j ∧ j < 6 + 0)) := by omega
  simp only [mixR, h, if_false]
theorem mixR_6 (a b : Rws) {j : Nat} (h : j < 12) : mixR a b 6 j = b j := by
  have h2 : j < 6 ∨ (6 ≤ j ∧ j < 6 + 6) := by omega
  simp only [mixR, h2, if_true]
theorem mixR_o (a b : Rws) {i j : Nat} (h1 : j ≠ i) (h2 : j ≠ 6 + i) : mixR a b (i + 1) j = mixR a b i j := by
  have h3 : (j < i + 1 ∨ (6 ≤ j ∧ j < 6 + (i + 1))) = (j < i ∨ (6 ≤ j ∧ j < 6 + i)) := by simp only [eq_iff_iff]; omega
  simp only [mixR, h3]
theorem mixR_a (a b : Rws) (i : Nat) : mixR a b (i + 1) i = b i := by
  have h : i < i + 1 ∨ (6 ≤ i ∧ i < 6 + (i + 1)) := by omega
  simp only [mixR, h, if_true]
theorem mixR_b (a b : Rws) (i : Nat) : mixR a b (i + 1) (6 + i) = b (6 + i) := by
  have h : 6 + i < i + 1 ∨ (6 ≤ 6 + i ∧ 6 + i < 6 + (i + 1)) := by omega
  simp only [mixR, h, if_true]
abbrev rm_X2_copyFrom : Room := { frames := 1, cells := 0, slots := 0, locals := 40 }
set_option maxHeartbeats 4000000 in
set_option maxRecDepth 100000 in
theorem c_X2_copyFrom (l : Launch) (G : Gl) (L : List Nat) (F : Nat → va_E) (ad : Nat → Nat) (hL : ∀ i, i < 166 → ad i ∈ L) (hin : ∀ i j, i < 166 → j < 166 → i ≠ j → ad i ≠ ad j) (tb ob c1 c2 : Nat) (r1 r2 : Rws) (hs1 : shp G F ad tb c1 r1) (hs2 : shp G F ad ob c2 r2) (htb : tb + 16 ≤ 166) (hob : ob + 16 ≤ 166) (hdis : tb + 16 ≤ ob ∨ ob + 16 ≤ tb) : CV l yX2_copyFrom cX2_copyFrom 3 none rm_X2_copyFrom G L F [.ref (ad (tb + 1)), .ref (ad (ob + 1))] (fun F1 => shp G F1 ad tb c2 r2 ∧ ∀ q, (∀ i, (i = tb + 1 ∨ (tb + 4 ≤ i ∧ i < tb + 16)) → q ≠ ad i) → F1 q = F q) := by
  refine CG_of (by decide) (Nat.le_of_ble_eq_true rfl) rfl ?_
  intro p e s m args below meth c Q C0 hr hlk hnm hQ hw ls hl
  have hx := C0.x
  have hb := C0.b
  refine lv_aload_n hx hb dX2_copyFrom_0 rfl (lv_at hl 0 rfl) ?_
  refine lv_aload_n hx hb dX2_copyFrom_1 rfl (lv_at hl 1 rfl) ?_
  refine q_get C0 hw ((hL (ob + 1) (by omega))) hs2.1 fw_X2_9 rfl dX2_copyFrom_2 ?_
  refine q_put C0 hw ((hL (tb + 1) (by omega))) hs1.1 fw_X2_9 pw_X2_0 rfl rfl rfl (Nat.le_of_ble_eq_true rfl) dX2_copyFrom_5 (fun F_391 H locs hw f_392 o_393 => ?_)
  have f_392 : F_391 (ad (tb + 1)) = .inr (2, [.int (nI (c2)), .ref (ad (tb + 2)), .ref (ad (tb + 3))]) := f_392
  refine lv_iconst (v := nI 0) hx hb dX2_copyFrom_8 (by decide) ?_
  refine lv_istore_n (lv' := [(2, .int (nI (0))), (0, .ref (ad (tb + 1))), (1, .ref (ad (ob + 1)))]) hx hb dX2_copyFrom_9 rfl hl (by decide) rfl (fun ls hl => ?_)
  have lp10_n_394 : ∀ (n : Nat) (j9 : Nat), j9 ≤ 6 → 7 - j9 < n → ∀ (F_395 : Nat → va_E) (H : Heap) (locs : List Loc), wD G L F_395 s H locs → F_395 (ad (tb + 1)) = .inr (2, [.int (nI (c2)), .ref (ad (tb + 2)), .ref (ad (tb + 3))]) → (∀ j, j < 12 → F_395 (ad (tb + 4 + j)) = rw7 G (mixR r1 r2 j9 j)) → (∀ q, (∀ i, (i = tb + 1 ∨ (tb + 4 ≤ i ∧ i < tb + 16)) → q ≠ ad i) → F_395 q = F q) → ∀ ls : Array Slot, lv_has ls 3 [(0, .ref (ad (tb + 1))), (1, .ref (ad (ob + 1))), (2, .int (nI (j9)))] → W p l e rm_X2_copyFrom s m args below meth c H locs 0 0 Q (F0 m 10 ls []) := by
    intro n
    induction n with
    | zero => intro j9 hj9 hm; exact absurd hm (Nat.not_lt_zero _)
    | succ n ih_10_n_399 =>
      intro j9 hj9 hm F_395 H locs hw f_396 ff_397 fr_398 ls hl
      refine lv_iload_n hx hb dX2_copyFrom_10 rfl (lv_at hl 2 rfl) ?_
      refine lv_bipush (v := nI 6) hx hb dX2_copyFrom_11 (by decide) ?_
      refine n_icmp_ge (tgt := 60) hx hb dX2_copyFrom_13 (by decide) (by omega) (by decide) (fun c_13 => ?_) (fun c_13 => ?_)
      · skip
        obtain rfl : j9 = 6 := by omega
        have f_400 : F_395 (ad (tb + 2)) = oE G (fun i => ad (tb + 4 + i)) := (fr_398 (ad (tb + 2)) (fun i hS => hin (tb + 2) i (by omega) (by omega) (by omega))).trans hs1.2.1
        have f_401 : F_395 (ad (tb + 3)) = oE G (fun i => ad (tb + 10 + i)) := (fr_398 (ad (tb + 3)) (fun i hS => hin (tb + 3) i (by omega) (by omega) (by omega))).trans hs1.2.2.1
        exact r_v C0 hr hlk hw ⟨⟨f_396, f_400, f_401, fun i hi => (ff_397 i hi).trans (congrArg (rw7 G) (mixR_6 r1 r2 hi))⟩, (fun q hq => (fr_398 q (fun i hS => hq i (by omega))))⟩ (Nat.le_refl _) (Nat.le_refl _) dX2_copyFrom_60 hQ
      · skip
        refine lv_aload_n hx hb dX2_copyFrom_16 rfl (lv_at hl 1 rfl) ?_
        have f_402 : F_395 (ad (ob + 1)) = .inr (2, [.int (nI (c2)), .ref (ad (ob + 2)), .ref (ad (ob + 3))]) := (fr_398 (ad (ob + 1)) (fun i hS => hin (ob + 1) i (by omega) (by omega) (by omega))).trans hs2.1
        refine q_get C0 hw ((hL (ob + 1) (by omega))) f_402 fw_X2_17 rfl dX2_copyFrom_17 ?_
        refine lv_iload_n hx hb dX2_copyFrom_20 rfl (lv_at hl 2 rfl) ?_
        have f_403 : F_395 (ad (ob + 2)) = oE G (fun i => ad (ob + 4 + i)) := (fr_398 (ad (ob + 2)) (fun i hS => hin (ob + 2) i (by omega) (by omega) (by omega))).trans hs2.2.1
        refine q_aaldi C0 hw ((hL (ob + 2) (by omega))) f_403 (j9) (by omega) (by decide) (b := ad (ob + 4 + j9)) rfl dX2_copyFrom_21 ?_
        refine lv_iconst (v := nI 0) hx hb dX2_copyFrom_22 (by decide) ?_
        refine lv_aload_n hx hb dX2_copyFrom_23 rfl (lv_at hl 0 rfl) ?_
        refine q_get C0 hw ((hL (tb + 1) (by omega))) f_396 fw_X2_17 rfl dX2_copyFrom_24 ?_
        refine lv_iload_n hx hb dX2_copyFrom_27 rfl (lv_at hl 2 rfl) ?_
        have f_404 : F_395 (ad (tb + 2)) = oE G (fun i => ad (tb + 4 + i)) := (fr_398 (ad (tb + 2)) (fun i hS => hin (tb + 2) i (by omega) (by omega) (by omega))).trans hs1.2.1
        refine q_aaldi C0 hw ((hL (tb + 2) (by omega))) f_404 (j9) (by omega) (by decide) (b := ad (tb + 4 + j9)) rfl dX2_copyFrom_28 ?_
        refine lv_iconst (v := nI 0) hx hb dX2_copyFrom_29 (by decide) ?_
        refine lv_bipush (v := nI 7) hx hb dX2_copyFrom_30 (by decide) ?_
        have f_405 : F_395 (ad (ob + 4 + j9)) = rw7 G ((r2 j9)) := (fr_398 (ad (ob + 4 + j9)) (fun i hS => hin (ob + 4 + j9) i (by omega) (by omega) (by omega))).trans ((hs2.2.2.2 (j9) (by omega)))
        refine q_copy C0 hw hl.1 aw_X2_23 ((hL (ob + 4 + j9) (by omega))) ((hL (tb + 4 + j9) (by omega))) f_405 (ff_397 (j9) (by omega)) (n := 7) (by omega) (by decide) (by decide) dX2_copyFrom_32 (fun F_406 H locs hw f_407 o_408 => ?_)
        obtain ⟨F_409, hw, f_410, o_411⟩ := hw.rowE f_407 (v := r2 j9) (fun k hk => if_pos hk)
        refine lv_aload_n hx hb dX2_copyFrom_35 rfl (lv_at hl 1 rfl) ?_
        have f_412 : F_406 (ad (ob + 1)) = .inr (2, [.int (nI (c2)), .ref (ad (ob + 2)), .ref (ad (ob + 3))]) := (o_408 (ad (ob + 1)) (hin (ob + 1) (tb + 4 + j9) (by omega) (by omega) (by omega))).trans f_402
        have f_413 : F_409 (ad (ob + 1)) = .inr (2, [.int (nI (c2)), .ref (ad (ob + 2)), .ref (ad (ob + 3))]) := (o_411 (ad (ob + 1)) (hin (ob + 1) (tb + 4 + j9) (by omega) (by omega) (by omega))).trans f_412
        refine q_get C0 hw ((hL (ob + 1) (by omega))) f_413 fw_X2_20 rfl dX2_copyFrom_36 ?_
        refine lv_iload_n hx hb dX2_copyFrom_39 rfl (lv_at hl 2 rfl) ?_
        have f_414 : F_395 (ad (ob + 3)) = oE G (fun i => ad (ob + 10 + i)) := (fr_398 (ad (ob + 3)) (fun i hS => hin (ob + 3) i (by omega) (by omega) (by omega))).trans hs2.2.2.1
        have f_415 : F_406 (ad (ob + 3)) = oE G (fun i => ad (ob + 10 + i)) := (o_408 (ad (ob + 3)) (hin (ob + 3) (tb + 4 + j9) (by omega) (by omega) (by omega))).trans f_414
        have f_416 : F_409 (ad (ob + 3)) = oE G (fun i => ad (ob + 10 + i)) := (o_411 (ad (ob + 3)) (hin (ob + 3) (tb + 4 + j9) (by omega) (by omega) (by omega))).trans f_415
        refine q_aaldi C0 hw ((hL (ob + 3) (by omega))) f_416 (j9) (by omega) (by decide) (b := ad (ob + 10 + j9)) rfl dX2_copyFrom_40 ?_
        refine lv_iconst (v := nI 0) hx hb dX2_copyFrom_41 (by decide) ?_
        refine lv_aload_n hx hb dX2_copyFrom_42 rfl (lv_at hl 0 rfl) ?_
        have f_417 : F_406 (ad (tb + 1)) = .inr (2, [.int (nI (c2)), .ref (ad (tb + 2)), .ref (ad (tb + 3))]) := (o_408 (ad (tb + 1)) (hin (tb + 1) (tb + 4 + j9) (by omega) (by omega) (by omega))).trans f_396
        have f_418 : F_409 (ad (tb + 1)) = .inr (2, [.int (nI (c2)), .ref (ad (tb + 2)), .ref (ad (tb + 3))]) := (o_411 (ad (tb + 1)) (hin (tb + 1) (tb + 4 + j9) (by omega) (by omega) (by omega))).trans f_417
        refine q_get C0 hw ((hL (tb + 1) (by omega))) f_418 fw_X2_20 rfl dX2_copyFrom_43 ?_
        refine lv_iload_n hx hb dX2_copyFrom_46 rfl (lv_at hl 2 rfl) ?_
        have f_419 : F_395 (ad (tb + 3)) = oE G (fun i => ad (tb + 10 + i)) := (fr_398 (ad (tb + 3)) (fun i hS => hin (tb + 3) i (by omega) (by omega) (by omega))).trans hs1.2.2.1
        have f_420 : F_406 (ad (tb + 3)) = oE G (fun i => ad (tb + 10 + i)) := (o_408 (ad (tb + 3)) (hin (tb + 3) (tb + 4 + j9) (by omega) (by omega) (by omega))).trans f_419
        have f_421 : F_409 (ad (tb + 3)) = oE G (fun i => ad (tb + 10 + i)) := (o_411 (ad (tb + 3)) (hin (tb + 3) (tb + 4 + j9) (by omega) (by omega) (by omega))).trans f_420
        refine q_aaldi C0 hw ((hL (tb + 3) (by omega))) f_421 (j9) (by omega) (by decide) (b := ad (tb + 10 + j9)) rfl dX2_copyFrom_47 ?_
        refine lv_iconst (v := nI 0) hx hb dX2_copyFrom_48 (by decide) ?_
        refine lv_bipush (v := nI 7) hx hb dX2_copyFrom_49 (by decide) ?_
        have f_422 : F_395 (ad (ob + 10 + j9)) = rw7 G ((r2 (6 + j9))) := (fr_398 (ad (ob + 10 + j9)) (fun i hS => hin (ob + 10 + j9) i (by omega) (by omega) (by omega))).trans ((show F (ad (ob + 10 + j9)) = _ from by have h9 := hs2.2.2.2 (6 + j9) (by omega); rwa [show ob + 4 + (6 + j9) = ob + 10 + j9 by omega] at h9))
        have f_423 : F_406 (ad (ob + 10 + j9)) = rw7 G ((r2 (6 + j9))) := (o_408 (ad (ob + 10 + j9)) (hin (ob + 10 + j9) (tb + 4 + j9) (by omega) (by omega) (by omega))).trans f_422
        have f_424 : F_409 (ad (ob + 10 + j9)) = rw7 G ((r2 (6 + j9))) := (o_411 (ad (ob + 10 + j9)) (hin (ob + 10 + j9) (tb + 4 + j9) (by omega) (by omega) (by omega))).trans f_423
        have f_425 : F_406 (ad (tb + 10 + j9)) = rw7 G ((mixR r1 r2 j9 (6 + j9))) := (o_408 (ad (tb + 10 + j9)) (hin (tb + 10 + j9) (tb + 4 + j9) (by omega) (by omega) (by omega))).trans ((show F_395 (ad (tb + 10 + j9)) = _ from by have h9 := ff_397 (6 + j9) (by omega); rwa [show tb + 4 + (6 + j9) = tb + 10 + j9 by omega] at h9))
        have f_426 : F_409 (ad (tb + 10 + j9)) = rw7 G ((mixR r1 r2 j9 (6 + j9))) := (o_411 (ad (tb + 10 + j9)) (hin (tb + 10 + j9) (tb + 4 + j9) (by omega) (by omega) (by omega))).trans f_425
        refine q_copy C0 hw hl.1 aw_X2_23 ((hL (ob + 10 + j9) (by omega))) ((hL (tb + 10 + j9) (by omega))) f_424 f_426 (n := 7) (by omega) (by decide) (by decide) dX2_copyFrom_51 (fun F_427 H locs hw f_428 o_429 => ?_)
        obtain ⟨F_430, hw, f_431, o_432⟩ := hw.rowE f_428 (v := r2 (6 + j9)) (fun k hk => if_pos hk)
        refine lv_iinc (v := nI (j9 + 1)) (lv' := [(2, .int (nI (j9 + 1))), (0, .ref (ad (tb + 1))), (1, .ref (ad (ob + 1)))]) hx hb dX2_copyFrom_54 hl (k := 2) rfl (nI_add _ _) (by decide) rfl (fun ls hl => ?_)
        refine lv_goto (tgt := 10) hx hb dX2_copyFrom_57 (by decide) ?_
        have f_433 : F_427 (ad (tb + 4 + j9)) = rw7 G (r2 j9) := (o_429 (ad (tb + 4 + j9)) (hin (tb + 4 + j9) (tb + 10 + j9) (by omega) (by omega) (by omega))).trans f_410
        have f_434 : F_430 (ad (tb + 4 + j9)) = rw7 G (r2 j9) := (o_432 (ad (tb + 4 + j9)) (hin (tb + 4 + j9) (tb + 10 + j9) (by omega) (by omega) (by omega))).trans f_433
        have f_435 : F_427 (ad (tb + 1)) = .inr (2, [.int (nI (c2)), .ref (ad (tb + 2)), .ref (ad (tb + 3))]) := (o_429 (ad (tb + 1)) (hin (tb + 1) (tb + 10 + j9) (by omega) (by omega) (by omega))).trans f_418
        have f_436 : F_430 (ad (tb + 1)) = .inr (2, [.int (nI (c2)), .ref (ad (tb + 2)), .ref (ad (tb + 3))]) := (o_432 (ad (tb + 1)) (hin (tb + 1) (tb + 10 + j9) (by omega) (by omega) (by omega))).trans f_435
        exact ih_10_n_399 (j9 + 1) ((by omega)) (by omega) F_430 _ _ hw (f_436) (fun j hj => by
        by_cases e1 : j = j9
        · subst e1
          rw [mixR_a]
          exact f_434
        · by_cases e2 : j = 6 + j9
          · subst e2
            rw [mixR_b, show tb + 4 + (6 + j9) = tb + 10 + j9 by omega]
            exact f_431
          · rw [mixR_o _ _ e1 e2]
            exact (((o_432 (ad (tb + 4 + j)) (hin (tb + 4 + j) (tb + 10 + j9) (by omega) (by omega) (by omega)))).trans (((o_429 (ad (tb + 4 + j)) (hin (tb + 4 + j) (tb + 10 + j9) (by omega) (by omega) (by omega)))).trans (((o_411 (ad (tb + 4 + j)) (hin (tb + 4 + j) (tb + 4 + j9) (by omega) (by omega) (by omega)))).trans ((o_408 (ad (tb + 4 + j)) (hin (tb + 4 + j) (tb + 4 + j9) (by omega) (by omega) (by omega))))))).trans (ff_397 j hj)) (fun q hq => ((o_432 q (hq (tb + 10 + j9) (by omega))).trans ((o_429 q (hq (tb + 10 + j9) (by omega))).trans ((o_411 q (hq (tb + 4 + j9) (by omega))).trans ((o_408 q (hq (tb + 4 + j9) (by omega))).trans (fr_398 q (fun i hS => hq i (by omega)))))))) ls (lv_sub hl [1, 2, 0] rfl)
  exact lp10_n_394 _ (0) ((by omega)) (Nat.lt_succ_self _) F_391 _ _ hw (f_392) (fun j hj => ((o_393 (ad (tb + 4 + j)) (hin (tb + 4 + j) (tb + 1) (by omega) (by omega) (by omega)))).trans ((hs1.2.2.2 j hj).trans (congrArg (rw7 G) (congrFun (mixR_0 r1 r2) j).symm))) (fun q hq => (o_393 q (hq (tb + 1) (by omega)))) ls (lv_sub hl [1, 2, 0] rfl)
