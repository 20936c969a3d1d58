theorem rot_lt {i : Nat} (h : i < 6) : rot i < 6 := by unfold rot; split <;> omega
theorem rot_inj {i j : Nat} (h1 : i < 6) (h2 : j < 6) (h : i ≠ j) : rot i ≠ rot j := by unfold rot; split <;> split <;> omega
theorem his_push {G : Gl} {F F1 : Nat → va_E} {ad pi : Nat → Nat} {gx : Nat → Sta} {h : Nat × (Nat → Sta)} {st : Sta} (hlt : h.1 < 6) (e1 : F1 (ad 1) = hO (ad 2) (h.1 + 1)) (e2 : F1 (ad 2) = hE G ad pi) (hp : ∀ i, i < 6 → 1 ≤ pi i ∧ pi i ≤ 6) (hpj : ∀ i j, i < 6 → j < 6 → i ≠ j → pi i ≠ pi j) (hs : ∀ i, i < 6 → sta G F ad (22 + 16 * pi i) (gx i)) (hv : ∀ i, i < h.1 → gx i = h.2 i) (hn : sta G F1 ad (22 + 16 * pi h.1) st)
    (fr : ∀ j, (38 ≤ j ∧ j < 134) → ¬ (22 + 16 * pi h.1 ≤ j ∧ j < 22 + 16 * pi h.1 + 16) → F1 (ad j) = F (ad j)) : hisW G F1 ad (saveH h st) := by
  unfold saveH
  rw [if_pos hlt]
  refine ⟨pi, fun i => if i = h.1 then st else gx i, e1, e2, hp, hpj, fun i hi => ?_, fun i hi => ?_, by show h.1 + 1 ≤ 6; omega⟩
  · by_cases e : i = h.1
    · subst e
      simp only [if_true]
      exact hn
    · simp only [e, if_false]
      exact (hs i hi).keep (fun j hj => by
        have a1 := hp i hi
        have a2 := hp h.1 hlt
        have a3 := hpj i h.1 hi hlt e
        exact fr j (by omega) (by omega))
  · show (if i = h.1 then st else gx i) = (if i = h.1 then st else h.2 i)
    by_cases e : i = h.1
    · rw [if_pos e, if_pos e]
    · rw [if_neg e, if_neg e]
      exact hv i (by have : i < h.1 + 1 := hi; omega)
theorem his_rot {G : Gl} {F F1 : Nat → va_E} {ad pi : Nat → Nat} {gx : Nat → Sta} {h : Nat × (Nat → Sta)} {st : Sta} (hlt : ¬ h.1 < 6) (h6 : h.1 ≤ 6) (e1 : F1 (ad 1) = hO (ad 2) 6) (e2 : F1 (ad 2) = hE G ad (piR pi)) (hp : ∀ i, i < 6 → 1 ≤ pi i ∧ pi i ≤ 6) (hpj : ∀ i j, i < 6 → j < 6 → i ≠ j → pi i ≠ pi j) (hs : ∀ i, i < 6 → sta G F ad (22 + 16 * pi i) (gx i)) (hv : ∀ i, i < h.1 → gx i = h.2 i) (hn : sta G F1 ad (22 + 16 * piR pi 5) st)
    (fr : ∀ j, (38 ≤ j ∧ j < 134) → ¬ (22 + 16 * piR pi 5 ≤ j ∧ j < 22 + 16 * piR pi 5 + 16) → F1 (ad j) = F (ad j)) : hisW G F1 ad (saveH h st) := by
  unfold saveH
  rw [if_neg hlt]
  refine ⟨piR pi, fun i => if i = 5 then st else gx (i + 1), e1, e2, piR_b hp, fun i j hi hj hij => ?_, fun i hi => ?_, fun i hi => ?_, Nat.le_refl _⟩
  · rw [piR_r pi hi, piR_r pi hj]
    exact hpj _ _ (rot_lt hi) (rot_lt hj) (rot_inj hi hj hij)
  · by_cases e : i = 5
    · subst e
      simp only [if_true]
      exact hn
    · simp only [e, if_false]
      have e3 : rot i = i + 1 := if_neg e
      have k := hs (rot i) (rot_lt hi)
      rw [← piR_r pi hi, e3] at k
      exact k.keep (fun j hj => by
        have a1 := piR_b hp i hi
        have a2 := piR_b hp 5 (by omega)
        have a3 : piR pi i ≠ piR pi 5 := by
          rw [piR_r pi hi, piR_r pi (show 5 < 6 by omega)]
          exact hpj _ _ (rot_lt hi) (rot_lt (by omega)) (rot_inj hi (by omega) e)
        exact fr j (by omega) (by omega))
  · show (if i = 5 then st else gx (i + 1)) = (if i = 5 then st else h.2 (i + 1))
    by_cases e : i = 5
    · rw [if_pos e, if_pos e]
    · rw [if_neg e, if_neg e]
      exact hv (i + 1) (by have : i < 6 := hi; omega)
theorem his_pop {G : Gl} {F F1 : Nat → va_E} {ad : Nat → Nat} {h : Nat × (Nat → Sta)} {k : Nat} (hh : ∃ (pi : Nat → Nat) (hx : Nat → Sta), F1 (ad 1) = hO (ad 2) k ∧ F1 (ad 2) = hE G ad pi ∧ (∀ i, i < 6 → 1 ≤ pi i ∧ pi i ≤ 6) ∧ (∀ i j, i < 6 → j < 6 → i ≠ j → pi i ≠ pi j) ∧ (∀ i, i < 6 → sta G F ad (22 + 16 * pi i) (hx i)) ∧ (∀ i, i < h.1 → hx i = h.2 i)) (hk : h.1 = k + 1) (h6 : h.1 ≤ 6) (fr : ∀ j, (38 ≤ j ∧ j < 134) → F1 (ad j) = F (ad j)) : hisW G F1 ad (k, h.2) := by
  obtain ⟨pi, hx, e1, e2, hp, hpj, hs, hv⟩ := hh
  exact ⟨pi, hx, e1, e2, hp, hpj, fun i hi => (hs i hi).keep (fun j hj => fr j (by have := hp i hi; omega)), fun i hi => hv i (by have : i < k := hi; omega), by show k ≤ 6; omega⟩
abbrev rm_X0_save : Room := { frames := 3, cells := 0, slots := 0, locals := 83 }
set_option maxHeartbeats 4000000 in
set_option maxRecDepth 100000 in
theorem c_X0_save (l : Launch) (G : Gl) (L : List Nat) (F : Nat → va_E) (ad : Nat → Nat) (hL : ∀ i, i < 166 → ad i ∈ L) (hin : ∀ i j, i < 166 → j < 166 → i ≠ j → ad i ≠ ad j) (h9 : Nat × (Nat → Sta)) (st : Sta) (hh : hisW G F ad h9) (hn : sta G F ad 22 st) : CV l yX0_save cX0_save 2 none rm_X0_save G L F [.ref (ad 1), .ref (ad 22)] (fun F1 => hisW G F1 ad (saveH h9 st) ∧ ∀ q, (∀ i, (i = 1 ∨ i = 2 ∨ (38 ≤ i ∧ i < 134)) → q ≠ ad i) → F1 q = F q) := by
  obtain ⟨pi, gx, e1, e2, hp, hpj, hs, hv, h6⟩ := hh
  refine CG_of (by decide) (Nat.le_of_ble_eq_true rfl) rfl ?_
  intro p e s m args below meth c Q C0 hr hlk hnm hQ hw ls hl
  have hx := C0.x
  have hb := C0.b
  refine lv_aload_n hx hb dX0_save_0 rfl (lv_at hl 0 rfl) ?_
  refine q_get C0 hw ((hL 1 (by omega))) e1 fw_X0_18 rfl dX0_save_1 ?_
  refine lv_bipush (v := nI 6) hx hb dX0_save_4 (by decide) ?_
  refine n_icmp_lt (tgt := 13) hx hb dX0_save_6 (by decide) (by omega) (by decide) (fun c_6 => ?_) (fun c_6 => ?_)
  · skip
    have hpk := hp h9.1 (by omega)
    refine lv_aload_n hx hb dX0_save_13 rfl (lv_at hl 0 rfl) ?_
    refine q_get C0 hw ((hL 1 (by omega))) e1 fw_X0_11 rfl dX0_save_14 ?_
    refine lv_aload_n hx hb dX0_save_17 rfl (lv_at hl 0 rfl) ?_
    refine q_get C0 hw ((hL 1 (by omega))) e1 fw_X0_18 rfl dX0_save_18 ?_
    refine q_aald C0 hw ((hL 2 (by omega))) 3 rfl e2 (h9.1) (by omega) (by decide) (b := ad (22 + 16 * pi h9.1)) rfl dX0_save_21 ?_
    refine lv_aload_n hx hb dX0_save_22 rfl (lv_at hl 1 rfl) ?_
    refine q_callv hw (q_runV (As := [.ref (ad 22)]) (c_X3_copyFrom l G L F ad hL hin (22 + 16 * pi h9.1) 22 (gx h9.1) st (hs h9.1 (by omega)) hn (by omega) (by omega) (by omega)) C0 hw vw_X0_25 ((hL (22 + 16 * pi h9.1) (by omega))) (hs h9.1 (by omega)).1 rfl rfl rfl hl.1 rfl (Nat.le_of_ble_eq_true rfl) dX0_save_23 ⟨by decide, by decide⟩ ⟨by decide, by decide⟩) rfl rfl (fun F_537 H locs hw hp_538 => ?_)
    refine lv_aload_n hx hb dX0_save_26 rfl (lv_at hl 0 rfl) ?_
    refine lv_dup hx hb dX0_save_27 rfl ?_
    have f_539 : F_537 (ad 1) = hO (ad 2) (h9.1) := (hp_538.2 (ad 1) (fun i hS => hin 1 i (by omega) (by omega) (by omega))).trans e1
    refine q_get C0 hw ((hL 1 (by omega))) f_539 fw_X0_18 rfl dX0_save_28 ?_
    refine lv_iconst (v := nI 1) hx hb dX0_save_31 (by decide) ?_
    refine n_iadd hx hb dX0_save_32 ?_
    refine q_put C0 hw ((hL 1 (by omega))) f_539 fw_X0_18 pw_X0_1 rfl rfl rfl (Nat.le_of_ble_eq_true rfl) dX0_save_33 (fun F_540 H locs hw f_541 o_542 => ?_)
    have f_541 : F_540 (ad 1) = .inr (0, [.ref (ad 2), .int (nI (h9.1 + 1))]) := f_541
    have f_543 : F_537 (ad 2) = hE G ad pi := (hp_538.2 (ad 2) (fun i hS => hin 2 i (by omega) (by omega) (by omega))).trans e2
    have f_544 : F_540 (ad 2) = hE G ad pi := (o_542 (ad 2) (hin 2 1 (by omega) (by omega) (by omega))).trans f_543
    exact r_v C0 hr hlk hw ⟨his_push c_6 f_541 f_544 hp hpj hs hv (hp_538.1.keep (fun i0 hi => (o_542 (ad (i0)) (hin (i0) 1 (by omega) (by omega) (by omega))))) (fun j hj hnj => ((o_542 (ad (j)) (hin (j) 1 (by omega) (by omega) (by omega)))).trans ((hp_538.2 (ad (j)) (fun i hS => hin (j) i (by omega) (by omega) (by omega))))), (fun q hq => ((o_542 q (hq 1 (by omega))).trans (hp_538.2 q (fun i hS => hq i (by omega)))))⟩ (Nat.le_refl _) (Nat.le_refl _) dX0_save_36 hQ
  · skip
    have hpk := piR_b hp 5 (by omega)
    have e65 : h9.1 = 6 := by omega
    have hs5 : sta G F ad (22 + 16 * piR pi 5) (gx 0) := hs 0 (by omega)
    refine lv_aload_n hx hb dX0_save_9 rfl (lv_at hl 0 rfl) ?_
    refine q_callv hw (q_runV (As := []) (c_X0_dropOldest l G L F ad hL hin pi h9.1 gx e1 e2 hp hs) C0 hw vw_X0_22 ((hL 1 (by omega))) e1 rfl rfl rfl hl.1 rfl (Nat.le_of_ble_eq_true rfl) dX0_save_10 ⟨by decide, by decide⟩ ⟨by decide, by decide⟩) rfl rfl (fun F_545 H locs hw hp_546 => ?_)
    refine lv_aload_n hx hb dX0_save_13 rfl (lv_at hl 0 rfl) ?_
    refine q_get C0 hw ((hL 1 (by omega))) hp_546.1.1 fw_X0_11 rfl dX0_save_14 ?_
    refine lv_aload_n hx hb dX0_save_17 rfl (lv_at hl 0 rfl) ?_
    refine q_get C0 hw ((hL 1 (by omega))) hp_546.1.1 fw_X0_18 rfl dX0_save_18 ?_
    refine q_aald C0 hw ((hL 2 (by omega))) 3 rfl hp_546.1.2 (5) (by omega) (by decide) (b := ad (22 + 16 * (piR pi) 5)) rfl dX0_save_21 ?_
    refine lv_aload_n hx hb dX0_save_22 rfl (lv_at hl 1 rfl) ?_
    have f_547 : F_545 (ad (22 + 16 * (piR pi) 5)) = .inr (3, [.ref (ad (22 + 16 * piR pi 5 + 1)), .int (nI ((gx 0).2.1)), .int (nI ((gx 0).2.2.1)), .int (nI ((gx 0).2.2.2.1)), .int (nI ((gx 0).2.2.2.2.1))]) := (hp_546.2 (ad (22 + 16 * (piR pi) 5)) (fun i hS => hin ((22 + 16 * (piR pi) 5)) i (by omega) (by omega) (by omega))).trans hs5.1
    refine q_callv hw (q_runV (As := [.ref (ad 22)]) (c_X3_copyFrom l G L F_545 ad hL hin (22 + 16 * (piR pi) 5) 22 (gx 0) st (hs5.keep (fun i0 hi => (hp_546.2 (ad (i0)) (fun i hS => hin (i0) i (by omega) (by omega) (by omega))))) (hn.keep (fun i0 hi => (hp_546.2 (ad (i0)) (fun i hS => hin (i0) i (by omega) (by omega) (by omega))))) (by omega) (by omega) (by omega)) C0 hw vw_X0_25 ((hL ((22 + 16 * (piR pi) 5)) (by omega))) f_547 rfl rfl rfl hl.1 rfl (Nat.le_of_ble_eq_true rfl) dX0_save_23 ⟨by decide, by decide⟩ ⟨by decide, by decide⟩) rfl rfl (fun F_548 H locs hw hp_549 => ?_)
    refine lv_aload_n hx hb dX0_save_26 rfl (lv_at hl 0 rfl) ?_
    refine lv_dup hx hb dX0_save_27 rfl ?_
    have f_550 : F_548 (ad 1) = hO (ad 2) (5) := (hp_549.2 (ad 1) (fun i hS => hin 1 i (by omega) (by omega) (by omega))).trans hp_546.1.1
    refine q_get C0 hw ((hL 1 (by omega))) f_550 fw_X0_18 rfl dX0_save_28 ?_
    refine lv_iconst (v := nI 1) hx hb dX0_save_31 (by decide) ?_
    refine n_iadd hx hb dX0_save_32 ?_
    refine q_put C0 hw ((hL 1 (by omega))) f_550 fw_X0_18 pw_X0_1 rfl rfl rfl (Nat.le_of_ble_eq_true rfl) dX0_save_33 (fun F_551 H locs hw f_552 o_553 => ?_)
    have f_552 : F_551 (ad 1) = .inr (0, [.ref (ad 2), .int (nI (5 + 1))]) := f_552
    have f_554 : F_548 (ad 2) = hE G ad ((piR pi)) := (hp_549.2 (ad 2) (fun i hS => hin 2 i (by omega) (by omega) (by omega))).trans hp_546.1.2
    have f_555 : F_551 (ad 2) = hE G ad ((piR pi)) := (o_553 (ad 2) (hin 2 1 (by omega) (by omega) (by omega))).trans f_554
    exact r_v C0 hr hlk hw ⟨his_rot c_6 h6 f_552 f_555 hp hpj hs hv (hp_549.1.keep (fun i0 hi => (o_553 (ad (i0)) (hin (i0) 1 (by omega) (by omega) (by omega))))) (fun j hj hnj => ((o_553 (ad (j)) (hin (j) 1 (by omega) (by omega) (by omega)))).trans (((hp_549.2 (ad (j)) (fun i hS => hin (j) i (by omega) (by omega) (by omega)))).trans ((hp_546.2 (ad (j)) (fun i hS => hin (j) i (by omega) (by omega) (by omega)))))), (fun q hq => ((o_553 q (hq 1 (by omega))).trans ((hp_549.2 q (fun i hS => hq i (by omega))).trans (hp_546.2 q (fun i hS => hq i (by omega))))))⟩ (Nat.le_refl _) (Nat.le_refl _) dX0_save_36 hQ
