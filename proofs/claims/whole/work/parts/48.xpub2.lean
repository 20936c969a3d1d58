def takeN (j cu : Nat) (r : Rws) (sn : Nat → Bool × Nat × Rws) : Nat → Bool × Nat × Rws := fun i => if i = j then (true, cu, r) else sn i
theorem tk_up (sn : Nat → Bool × Nat × Rws) (j cu : Nat) (r : Rws) : upd (fun j => if (sn j).1 then nI 1 else nI 0) j (vp_nar .boolean (nI 1)) = (fun i => if (takeN j cu r sn i).1 then nI 1 else nI 0) := by
  funext i
  by_cases e : i = j
  · subst e
    simp [upd, takeN]
    decide
  · simp [upd, takeN, e]
theorem snp_take {G : Gl} {F F1 : Nat → va_E} {ad : Nat → Nat} {sn : Nat → Bool × Nat × Rws} {j cu : Nat} {r : Rws} (hj : j < 2) (h3 : F1 (ad 3) = sE G ad) (h4 : F1 (ad 4) = tkE G (fun i => (takeN j cu r sn i).1)) (hs : shp G F1 ad (134 + 16 * j) cu r) (h : snpW G F ad sn) (k : ∀ i, ((135 ≤ i ∧ i < 150) ∨ (151 ≤ i ∧ i < 166)) → ¬ (134 + 16 * j < i ∧ i < 150 + 16 * j) → F1 (ad i) = F (ad i)) : snpW G F1 ad (takeN j cu r sn) := by
  refine ⟨h3, h4, fun i hi => ?_⟩
  by_cases e : i = j
  · subst e
    refine ⟨cu, r, hs, fun _ => ?_⟩
    simp [takeN]
  · obtain ⟨c2, r2, h1, h2⟩ := h.2.2 i hi
    refine ⟨c2, r2, h1.keep (fun a ha => k a (by omega) (by omega)), ?_⟩
    simp only [takeN, e, if_false]
    exact h2
theorem lk_A {a b : Nat} (h : a ≤ b) (hb : b < 2 ^ 30) : (if nI 0 < nI a - nI b then nI a - nI b else nI 0) = nI 0 := by
  have h1 : ¬ nI 0 < nI a - nI b := by
    rw [Int32.lt_iff_toInt_lt, pk_sub_toInt (by omega) hb]
    have h0 : (nI 0).toInt = 0 := rfl
    omega
  rw [if_neg h1]
theorem lk_B {a b : Nat} (h : b < a) (ha : a < 2 ^ 30) : (if nI 0 < nI a - nI b then nI a - nI b else nI 0) = nI (a - b) := by
  have h1 : nI 0 < nI a - nI b := by
    rw [Int32.lt_iff_toInt_lt, pk_sub_toInt ha (by omega)]
    have h0 : (nI 0).toInt = 0 := rfl
    omega
  rw [if_pos h1, pk_sub (by omega)]
abbrev rm_X5_needSnapshot : Room := { frames := 0, cells := 0, slots := 0, locals := 0 }
set_option maxHeartbeats 4000000 in
set_option maxRecDepth 100000 in
theorem c_X5_needSnapshot (l : Launch) (G : Gl) (L : List Nat) (F : Nat → va_E) (j9 : Nat) (hj9 : j9 < 2) : CV l yX5_needSnapshot cX5_needSnapshot 1 none rm_X5_needSnapshot G L F [.int (nI (j9))] (fun F1 => ∀ q, F1 q = F q) := by
  refine CG_of (by decide) (Nat.le_of_ble_eq_true rfl) rfl ?_
  intro p e s m args below meth c Q C0 hr hlk hnm hQ hw ls hl
  have hx := C0.x
  have hb := C0.b
  refine lv_iload_n hx hb dX5_needSnapshot_0 rfl (lv_at hl 0 rfl) ?_
  refine n_if_lt (tgt := 9) hx hb dX5_needSnapshot_1 (by decide) (by omega) ?_
  refine lv_iload_n hx hb dX5_needSnapshot_4 rfl (lv_at hl 0 rfl) ?_
  refine lv_iconst (v := nI 2) hx hb dX5_needSnapshot_5 (by decide) ?_
  refine n_icmp_lt (tgt := 20) hx hb dX5_needSnapshot_6 (by decide) (by omega) (by decide) (fun c_6 => ?_) (fun c_6 => ?_)
  · skip
    exact r_v C0 hr hlk hw (fun q  => rfl) (Nat.le_refl _) (Nat.le_refl _) dX5_needSnapshot_20 hQ
  · skip
    exact absurd c_6 (by omega)
abbrev rm_X5_take : Room := { frames := 3, cells := 0, slots := 0, locals := 63 }
set_option maxHeartbeats 4000000 in
set_option maxRecDepth 100000 in
theorem c_X5_take_0 (l : Launch) (G : Gl) (L : List Nat) (F : Nat → va_E) (ad : Nat → Nat) (hL : ∀ i, i < 166 → ad i ∈ L) (hin : ∀ i j, i < 166 → j < 166 → i ≠ j → ad i ≠ ad j) (A : AB) (hX : XW G F ad A) (hA : okA A) : CI l yX5_take cX5_take 2 (some .int) rm_X5_take G L F [.ref (ad 0), .int (nI (0))] (fun r F1 => r = nI (cntR (fun i => A.1.2.2.2.2.2 i) 6) ∧ XW G F1 ad (A.1, A.2.1, takeN 0 A.1.1 A.1.2.2.2.2.2 A.2.2.1, A.2.2.2) ∧ ∀ q, (∀ i, (i < 166) → q ≠ ad i) → F1 q = F q) := by
  obtain ⟨fx, hn, hh, hsn, htx, hrk, ⟨u9, h134⟩, ⟨v9, h150⟩⟩ := hX
  obtain ⟨⟨hc2, hc, hpu, hok⟩, ⟨hh6, hho⟩, hso, hl60, hco⟩ := id hA
  obtain ⟨cj, rj, hj, hj2⟩ := hsn.2.2 0 (by decide)
  refine CG_of (by decide) (Nat.le_of_ble_eq_true rfl) rfl ?_
  intro p e s m args below meth c Q C0 hr hlk hnm hQ hw ls hl
  have hx := C0.x
  have hb := C0.b
  refine lv_iload_n hx hb dX5_take_0 rfl (lv_at hl 1 rfl) ?_
  refine q_callv hw (q_runS (As := [.int (nI (0))]) (c_X5_needSnapshot l G L F 0 (by omega)) C0 hw sw_X5_172 rfl hl.1 rfl (Nat.le_of_ble_eq_true rfl) dX5_take_1 ⟨by decide, by decide⟩ ⟨by decide, by decide⟩) rfl rfl (fun F_2969 H locs hw hp_2970 => ?_)
  refine lv_aload_n hx hb dX5_take_4 rfl (lv_at hl 0 rfl) ?_
  have f_2971 : F_2969 (ad 0) = xO ad := (hp_2970 (ad 0) ).trans fx
  refine q_get C0 hw ((hL 0 (by omega))) f_2971 fw_X5_25 rfl dX5_take_5 ?_
  refine lv_iload_n hx hb dX5_take_8 rfl (lv_at hl 1 rfl) ?_
  have f_2972 : F_2969 (ad 3) = sE G ad := (hp_2970 (ad 3) ).trans hsn.1
  refine q_aald C0 hw ((hL 3 (by omega))) 2 rfl f_2972 (0) (by omega) (by decide) (b := ad 135) rfl dX5_take_9 ?_
  refine lv_aload_n hx hb dX5_take_10 rfl (lv_at hl 0 rfl) ?_
  refine q_get C0 hw ((hL 0 (by omega))) f_2971 fw_X5_12 rfl dX5_take_11 ?_
  have f_2973 : F_2969 (ad 22) = .inr (3, [.ref (ad 23), .int (nI (A.1.2.1)), .int (nI (A.1.2.2.1)), .int (nI (A.1.2.2.2.1)), .int (nI (A.1.2.2.2.2.1))]) := (hp_2970 (ad 22) ).trans hn.1
  refine q_get C0 hw ((hL 22 (by omega))) f_2973 fw_X5_66 rfl dX5_take_14 ?_
  have f_2974 : F_2969 (ad 135) = .inr (2, [.int (nI (cj)), .ref (ad 136), .ref (ad 137)]) := (hp_2970 (ad 135) ).trans hj.1
  refine q_callv hw (q_runV (As := [.ref (ad 23)]) (c_X2_copyFrom l G L F_2969 ad hL hin 134 22 cj A.1.1 rj A.1.2.2.2.2.2 (hj.keep (fun i0 hi => (hp_2970 (ad (i0)) ))) (hn.2.keep (fun i0 hi => (hp_2970 (ad (i0)) ))) (by omega) (by omega) (by omega)) C0 hw vw_X5_175 ((hL 135 (by omega))) f_2974 rfl rfl rfl hl.1 rfl (Nat.le_of_ble_eq_true rfl) dX5_take_17 ⟨by decide, by decide⟩ ⟨by decide, by decide⟩) rfl rfl (fun F_2975 H locs hw hp_2976 => ?_)
  refine lv_aload_n hx hb dX5_take_20 rfl (lv_at hl 0 rfl) ?_
  have f_2977 : F_2975 (ad 0) = xO ad := (hp_2976.2 (ad 0) (fun i hS => hin 0 i (by omega) (by omega) (by omega))).trans f_2971
  refine q_get C0 hw ((hL 0 (by omega))) f_2977 fw_X5_30 rfl dX5_take_21 ?_
  refine lv_iload_n hx hb dX5_take_24 rfl (lv_at hl 1 rfl) ?_
  refine lv_iconst (v := nI 1) hx hb dX5_take_25 (by decide) ?_
  have f_2978 : F_2969 (ad 4) = tkE G (fun j => (A.2.2.1 j).1) := (hp_2970 (ad 4) ).trans hsn.2.1
  have f_2979 : F_2975 (ad 4) = tkE G (fun j => (A.2.2.1 j).1) := (hp_2976.2 (ad 4) (fun i hS => hin 4 i (by omega) (by omega) (by omega))).trans f_2978
  refine q_zast C0 hw ((hL 4 (by omega))) f_2979 (0) (by omega) (by decide) dX5_take_26 (fun F_2980 H locs hw f_2981 o_2982 => ?_)
  rw [tk_up A.2.2.1 0 A.1.1 A.1.2.2.2.2.2] at f_2981
  refine lv_aload_n hx hb dX5_take_27 rfl (lv_at hl 0 rfl) ?_
  have f_2983 : F_2980 (ad 0) = xO ad := (o_2982 (ad 0) (hin 0 4 (by omega) (by omega) (by omega))).trans f_2977
  refine q_get C0 hw ((hL 0 (by omega))) f_2983 fw_X5_12 rfl dX5_take_28 ?_
  have f_2984 : F_2975 (ad 22) = .inr (3, [.ref (ad 23), .int (nI (A.1.2.1)), .int (nI (A.1.2.2.1)), .int (nI (A.1.2.2.2.1)), .int (nI (A.1.2.2.2.2.1))]) := (hp_2976.2 (ad 22) (fun i hS => hin 22 i (by omega) (by omega) (by omega))).trans f_2973
  have f_2985 : F_2980 (ad 22) = .inr (3, [.ref (ad 23), .int (nI (A.1.2.1)), .int (nI (A.1.2.2.1)), .int (nI (A.1.2.2.2.1)), .int (nI (A.1.2.2.2.2.1))]) := (o_2982 (ad 22) (hin 22 4 (by omega) (by omega) (by omega))).trans f_2984
  refine q_get C0 hw ((hL 22 (by omega))) f_2985 fw_X5_66 rfl dX5_take_31 ?_
  have f_2986 : F_2969 (ad 23) = .inr (2, [.int (nI (A.1.1)), .ref (ad 24), .ref (ad 25)]) := (hp_2970 (ad 23) ).trans hn.2.1
  have f_2987 : F_2975 (ad 23) = .inr (2, [.int (nI (A.1.1)), .ref (ad 24), .ref (ad 25)]) := (hp_2976.2 (ad 23) (fun i hS => hin 23 i (by omega) (by omega) (by omega))).trans f_2986
  have f_2988 : F_2980 (ad 23) = .inr (2, [.int (nI (A.1.1)), .ref (ad 24), .ref (ad 25)]) := (o_2982 (ad 23) (hin 23 4 (by omega) (by omega) (by omega))).trans f_2987
  refine q_calli hw (q_runV (As := []) (c_X2_fieldsThatAreNotZero l G L F_2980 ad hL hin 22 A.1.1 A.1.2.2.2.2.2 (hn.keep (fun i0 hi => ((o_2982 (ad (i0)) (hin (i0) 4 (by omega) (by omega) (by omega)))).trans (((hp_2976.2 (ad (i0)) (fun i hS => hin (i0) i (by omega) (by omega) (by omega)))).trans ((hp_2970 (ad (i0)) ))))).2 (by decide)) C0 hw vw_X5_179 ((hL 23 (by omega))) f_2988 rfl rfl rfl hl.1 rfl (Nat.le_of_ble_eq_true rfl) dX5_take_34 ⟨by decide, by decide⟩ ⟨by decide, by decide⟩) rfl rfl (fun r_2991 F_2989 H locs hw hp_2990 => ?_)
  obtain ⟨he_2992, o_2993⟩ := hp_2990
  subst he_2992
  have f_2994 : F_2975 (ad 3) = sE G ad := (hp_2976.2 (ad 3) (fun i hS => hin 3 i (by omega) (by omega) (by omega))).trans f_2972
  have f_2995 : F_2980 (ad 3) = sE G ad := (o_2982 (ad 3) (hin 3 4 (by omega) (by omega) (by omega))).trans f_2994
  have f_2996 : F_2989 (ad 3) = sE G ad := (o_2993 (ad 3) ).trans f_2995
  have f_2997 : F_2989 (ad 4) = tkE G (fun j => (takeN 0 A.1.1 A.1.2.2.2.2.2 A.2.2.1 j).1) := (o_2993 (ad 4) ).trans f_2981
  have f_2998 : F_2989 (ad 0) = xO ad := (o_2993 (ad 0) ).trans f_2983
  have f_2999 : F_2969 (ad 134) = rw7 G u9 := (hp_2970 (ad 134) ).trans h134
  have f_3000 : F_2975 (ad 134) = rw7 G u9 := (hp_2976.2 (ad 134) (fun i hS => hin 134 i (by omega) (by omega) (by omega))).trans f_2999
  have f_3001 : F_2980 (ad 134) = rw7 G u9 := (o_2982 (ad 134) (hin 134 4 (by omega) (by omega) (by omega))).trans f_3000
  have f_3002 : F_2989 (ad 134) = rw7 G u9 := (o_2993 (ad 134) ).trans f_3001
  have f_3003 : F_2969 (ad 150) = rw7 G v9 := (hp_2970 (ad 150) ).trans h150
  have f_3004 : F_2975 (ad 150) = rw7 G v9 := (hp_2976.2 (ad 150) (fun i hS => hin 150 i (by omega) (by omega) (by omega))).trans f_3003
  have f_3005 : F_2980 (ad 150) = rw7 G v9 := (o_2982 (ad 150) (hin 150 4 (by omega) (by omega) (by omega))).trans f_3004
  have f_3006 : F_2989 (ad 150) = rw7 G v9 := (o_2993 (ad 150) ).trans f_3005
  exact r_i C0 hr hlk hw (v := nI (cntR (fun i => A.1.2.2.2.2.2 i) 6)) rfl ⟨rfl, ⟨f_2998, (hn.keep (fun i0 hi => ((o_2993 (ad (i0)) )).trans (((o_2982 (ad (i0)) (hin (i0) 4 (by omega) (by omega) (by omega)))).trans (((hp_2976.2 (ad (i0)) (fun i hS => hin (i0) i (by omega) (by omega) (by omega)))).trans ((hp_2970 (ad (i0)) )))))), (hh.keep (fun i0 hi => ((o_2993 (ad (i0)) )).trans (((o_2982 (ad (i0)) (hin (i0) 4 (by omega) (by omega) (by omega)))).trans (((hp_2976.2 (ad (i0)) (fun i hS => hin (i0) i (by omega) (by omega) (by omega)))).trans ((hp_2970 (ad (i0)) )))))), (snp_take (j := 0) (by decide) f_2996 f_2997 (hp_2976.1.keep (fun i0 hi => ((o_2993 (ad (i0)) )).trans ((o_2982 (ad (i0)) (hin (i0) 4 (by omega) (by omega) (by omega)))))) hsn (fun i0 hi hn0 => ((o_2993 (ad (i0)) )).trans (((o_2982 (ad (i0)) (hin (i0) 4 (by omega) (by omega) (by omega)))).trans (((hp_2976.2 (ad (i0)) (fun i hS => hin (i0) i (by omega) (by omega) (by omega)))).trans ((hp_2970 (ad (i0)) )))))), (htx.keep (fun i0 hi => ((o_2993 (ad (i0)) )).trans (((o_2982 (ad (i0)) (hin (i0) 4 (by omega) (by omega) (by omega)))).trans (((hp_2976.2 (ad (i0)) (fun i hS => hin (i0) i (by omega) (by omega) (by omega)))).trans ((hp_2970 (ad (i0)) )))))), (hrk.keep (fun i0 hi => ((o_2993 (ad (i0)) )).trans (((o_2982 (ad (i0)) (hin (i0) 4 (by omega) (by omega) (by omega)))).trans (((hp_2976.2 (ad (i0)) (fun i hS => hin (i0) i (by omega) (by omega) (by omega)))).trans ((hp_2970 (ad (i0)) )))))), ⟨_, f_3002⟩, ⟨_, f_3006⟩⟩, (fun q hq => ((o_2993 q ).trans ((o_2982 q (hq 4 (by omega))).trans ((hp_2976.2 q (fun i hS => hq i (by omega))).trans (hp_2970 q )))))⟩ (Nat.le_refl _) (Nat.le_refl _) dX5_take_37 hQ
set_option maxHeartbeats 4000000 in
set_option maxRecDepth 100000 in
theorem c_X5_take_1 (l : Launch) (G : Gl) (L : List Nat) (F : Nat → va_E) (ad : Nat → Nat) (hL : ∀ i, i < 166 → ad i ∈ L) (hin : ∀ i j, i < 166 → j < 166 → i ≠ j → ad i ≠ ad j) (A : AB) (hX : XW G F ad A) (hA : okA A) : CI l yX5_take cX5_take 2 (some .int) rm_X5_take G L F [.ref (ad 0), .int (nI (1))] (fun r F1 => r = nI (cntR (fun i => A.1.2.2.2.2.2 i) 6) ∧ XW G F1 ad (A.1, A.2.1, takeN 1 A.1.1 A.1.2.2.2.2.2 A.2.2.1, A.2.2.2) ∧ ∀ q, (∀ i, (i < 166) → q ≠ ad i) → F1 q = F q) := by
  obtain ⟨fx, hn, hh, hsn, htx, hrk, ⟨u9, h134⟩, ⟨v9, h150⟩⟩ := hX
  obtain ⟨⟨hc2, hc, hpu, hok⟩, ⟨hh6, hho⟩, hso, hl60, hco⟩ := id hA
  obtain ⟨cj, rj, hj, hj2⟩ := hsn.2.2 1 (by decide)
  refine CG_of (by decide) (Nat.le_of_ble_eq_true rfl) rfl ?_
  intro p e s m args below meth c Q C0 hr hlk hnm hQ hw ls hl
  have hx := C0.x
  have hb := C0.b
  refine lv_iload_n hx hb dX5_take_0 rfl (lv_at hl 1 rfl) ?_
  refine q_callv hw (q_runS (As := [.int (nI (1))]) (c_X5_needSnapshot l G L F 1 (by omega)) C0 hw sw_X5_172 rfl hl.1 rfl (Nat.le_of_ble_eq_true rfl) dX5_take_1 ⟨by decide, by decide⟩ ⟨by decide, by decide⟩) rfl rfl (fun F_3007 H locs hw hp_3008 => ?_)
  refine lv_aload_n hx hb dX5_take_4 rfl (lv_at hl 0 rfl) ?_
  have f_3009 : F_3007 (ad 0) = xO ad := (hp_3008 (ad 0) ).trans fx
  refine q_get C0 hw ((hL 0 (by omega))) f_3009 fw_X5_25 rfl dX5_take_5 ?_
  refine lv_iload_n hx hb dX5_take_8 rfl (lv_at hl 1 rfl) ?_
  have f_3010 : F_3007 (ad 3) = sE G ad := (hp_3008 (ad 3) ).trans hsn.1
  refine q_aald C0 hw ((hL 3 (by omega))) 2 rfl f_3010 (1) (by omega) (by decide) (b := ad 151) rfl dX5_take_9 ?_
  refine lv_aload_n hx hb dX5_take_10 rfl (lv_at hl 0 rfl) ?_
  refine q_get C0 hw ((hL 0 (by omega))) f_3009 fw_X5_12 rfl dX5_take_11 ?_
  have f_3011 : F_3007 (ad 22) = .inr (3, [.ref (ad 23), .int (nI (A.1.2.1)), .int (nI (A.1.2.2.1)), .int (nI (A.1.2.2.2.1)), .int (nI (A.1.2.2.2.2.1))]) := (hp_3008 (ad 22) ).trans hn.1
  refine q_get C0 hw ((hL 22 (by omega))) f_3011 fw_X5_66 rfl dX5_take_14 ?_
  have f_3012 : F_3007 (ad 151) = .inr (2, [.int (nI (cj)), .ref (ad 152), .ref (ad 153)]) := (hp_3008 (ad 151) ).trans hj.1
  refine q_callv hw (q_runV (As := [.ref (ad 23)]) (c_X2_copyFrom l G L F_3007 ad hL hin 150 22 cj A.1.1 rj A.1.2.2.2.2.2 (hj.keep (fun i0 hi => (hp_3008 (ad (i0)) ))) (hn.2.keep (fun i0 hi => (hp_3008 (ad (i0)) ))) (by omega) (by omega) (by omega)) C0 hw vw_X5_175 ((hL 151 (by omega))) f_3012 rfl rfl rfl hl.1 rfl (Nat.le_of_ble_eq_true rfl) dX5_take_17 ⟨by decide, by decide⟩ ⟨by decide, by decide⟩) rfl rfl (fun F_3013 H locs hw hp_3014 => ?_)
  refine lv_aload_n hx hb dX5_take_20 rfl (lv_at hl 0 rfl) ?_
  have f_3015 : F_3013 (ad 0) = xO ad := (hp_3014.2 (ad 0) (fun i hS => hin 0 i (by omega) (by omega) (by omega))).trans f_3009
  refine q_get C0 hw ((hL 0 (by omega))) f_3015 fw_X5_30 rfl dX5_take_21 ?_
  refine lv_iload_n hx hb dX5_take_24 rfl (lv_at hl 1 rfl) ?_
  refine lv_iconst (v := nI 1) hx hb dX5_take_25 (by decide) ?_
  have f_3016 : F_3007 (ad 4) = tkE G (fun j => (A.2.2.1 j).1) := (hp_3008 (ad 4) ).trans hsn.2.1
  have f_3017 : F_3013 (ad 4) = tkE G (fun j => (A.2.2.1 j).1) := (hp_3014.2 (ad 4) (fun i hS => hin 4 i (by omega) (by omega) (by omega))).trans f_3016
  refine q_zast C0 hw ((hL 4 (by omega))) f_3017 (1) (by omega) (by decide) dX5_take_26 (fun F_3018 H locs hw f_3019 o_3020 => ?_)
  rw [tk_up A.2.2.1 1 A.1.1 A.1.2.2.2.2.2] at f_3019
  refine lv_aload_n hx hb dX5_take_27 rfl (lv_at hl 0 rfl) ?_
  have f_3021 : F_3018 (ad 0) = xO ad := (o_3020 (ad 0) (hin 0 4 (by omega) (by omega) (by omega))).trans f_3015
  refine q_get C0 hw ((hL 0 (by omega))) f_3021 fw_X5_12 rfl dX5_take_28 ?_
  have f_3022 : F_3013 (ad 22) = .inr (3, [.ref (ad 23), .int (nI (A.1.2.1)), .int (nI (A.1.2.2.1)), .int (nI (A.1.2.2.2.1)), .int (nI (A.1.2.2.2.2.1))]) := (hp_3014.2 (ad 22) (fun i hS => hin 22 i (by omega) (by omega) (by omega))).trans f_3011
  have f_3023 : F_3018 (ad 22) = .inr (3, [.ref (ad 23), .int (nI (A.1.2.1)), .int (nI (A.1.2.2.1)), .int (nI (A.1.2.2.2.1)), .int (nI (A.1.2.2.2.2.1))]) := (o_3020 (ad 22) (hin 22 4 (by omega) (by omega) (by omega))).trans f_3022
  refine q_get C0 hw ((hL 22 (by omega))) f_3023 fw_X5_66 rfl dX5_take_31 ?_
  have f_3024 : F_3007 (ad 23) = .inr (2, [.int (nI (A.1.1)), .ref (ad 24), .ref (ad 25)]) := (hp_3008 (ad 23) ).trans hn.2.1
  have f_3025 : F_3013 (ad 23) = .inr (2, [.int (nI (A.1.1)), .ref (ad 24), .ref (ad 25)]) := (hp_3014.2 (ad 23) (fun i hS => hin 23 i (by omega) (by omega) (by omega))).trans f_3024
  have f_3026 : F_3018 (ad 23) = .inr (2, [.int (nI (A.1.1)), .ref (ad 24), .ref (ad 25)]) := (o_3020 (ad 23) (hin 23 4 (by omega) (by omega) (by omega))).trans f_3025
  refine q_calli hw (q_runV (As := []) (c_X2_fieldsThatAreNotZero l G L F_3018 ad hL hin 22 A.1.1 A.1.2.2.2.2.2 (hn.keep (fun i0 hi => ((o_3020 (ad (i0)) (hin (i0) 4 (by omega) (by omega) (by omega)))).trans (((hp_3014.2 (ad (i0)) (fun i hS => hin (i0) i (by omega) (by omega) (by omega)))).trans ((hp_3008 (ad (i0)) ))))).2 (by decide)) C0 hw vw_X5_179 ((hL 23 (by omega))) f_3026 rfl rfl rfl hl.1 rfl (Nat.le_of_ble_eq_true rfl) dX5_take_34 ⟨by decide, by decide⟩ ⟨by decide, by decide⟩) rfl rfl (fun r_3029 F_3027 H locs hw hp_3028 => ?_)
  obtain ⟨he_3030, o_3031⟩ := hp_3028
  subst he_3030
  have f_3032 : F_3013 (ad 3) = sE G ad := (hp_3014.2 (ad 3) (fun i hS => hin 3 i (by omega) (by omega) (by omega))).trans f_3010
  have f_3033 : F_3018 (ad 3) = sE G ad := (o_3020 (ad 3) (hin 3 4 (by omega) (by omega) (by omega))).trans f_3032
  have f_3034 : F_3027 (ad 3) = sE G ad := (o_3031 (ad 3) ).trans f_3033
  have f_3035 : F_3027 (ad 4) = tkE G (fun j => (takeN 1 A.1.1 A.1.2.2.2.2.2 A.2.2.1 j).1) := (o_3031 (ad 4) ).trans f_3019
  have f_3036 : F_3027 (ad 0) = xO ad := (o_3031 (ad 0) ).trans f_3021
  have f_3037 : F_3007 (ad 134) = rw7 G u9 := (hp_3008 (ad 134) ).trans h134
  have f_3038 : F_3013 (ad 134) = rw7 G u9 := (hp_3014.2 (ad 134) (fun i hS => hin 134 i (by omega) (by omega) (by omega))).trans f_3037
  have f_3039 : F_3018 (ad 134) = rw7 G u9 := (o_3020 (ad 134) (hin 134 4 (by omega) (by omega) (by omega))).trans f_3038
  have f_3040 : F_3027 (ad 134) = rw7 G u9 := (o_3031 (ad 134) ).trans f_3039
  have f_3041 : F_3007 (ad 150) = rw7 G v9 := (hp_3008 (ad 150) ).trans h150
  have f_3042 : F_3013 (ad 150) = rw7 G v9 := (hp_3014.2 (ad 150) (fun i hS => hin 150 i (by omega) (by omega) (by omega))).trans f_3041
  have f_3043 : F_3018 (ad 150) = rw7 G v9 := (o_3020 (ad 150) (hin 150 4 (by omega) (by omega) (by omega))).trans f_3042
  have f_3044 : F_3027 (ad 150) = rw7 G v9 := (o_3031 (ad 150) ).trans f_3043
  exact r_i C0 hr hlk hw (v := nI (cntR (fun i => A.1.2.2.2.2.2 i) 6)) rfl ⟨rfl, ⟨f_3036, (hn.keep (fun i0 hi => ((o_3031 (ad (i0)) )).trans (((o_3020 (ad (i0)) (hin (i0) 4 (by omega) (by omega) (by omega)))).trans (((hp_3014.2 (ad (i0)) (fun i hS => hin (i0) i (by omega) (by omega) (by omega)))).trans ((hp_3008 (ad (i0)) )))))), (hh.keep (fun i0 hi => ((o_3031 (ad (i0)) )).trans (((o_3020 (ad (i0)) (hin (i0) 4 (by omega) (by omega) (by omega)))).trans (((hp_3014.2 (ad (i0)) (fun i hS => hin (i0) i (by omega) (by omega) (by omega)))).trans ((hp_3008 (ad (i0)) )))))), (snp_take (j := 1) (by decide) f_3034 f_3035 (hp_3014.1.keep (fun i0 hi => ((o_3031 (ad (i0)) )).trans ((o_3020 (ad (i0)) (hin (i0) 4 (by omega) (by omega) (by omega)))))) hsn (fun i0 hi hn0 => ((o_3031 (ad (i0)) )).trans (((o_3020 (ad (i0)) (hin (i0) 4 (by omega) (by omega) (by omega)))).trans (((hp_3014.2 (ad (i0)) (fun i hS => hin (i0) i (by omega) (by omega) (by omega)))).trans ((hp_3008 (ad (i0)) )))))), (htx.keep (fun i0 hi => ((o_3031 (ad (i0)) )).trans (((o_3020 (ad (i0)) (hin (i0) 4 (by omega) (by omega) (by omega)))).trans (((hp_3014.2 (ad (i0)) (fun i hS => hin (i0) i (by omega) (by omega) (by omega)))).trans ((hp_3008 (ad (i0)) )))))), (hrk.keep (fun i0 hi => ((o_3031 (ad (i0)) )).trans (((o_3020 (ad (i0)) (hin (i0) 4 (by omega) (by omega) (by omega)))).trans (((hp_3014.2 (ad (i0)) (fun i hS => hin (i0) i (by omega) (by omega) (by omega)))).trans ((hp_3008 (ad (i0)) )))))), ⟨_, f_3040⟩, ⟨_, f_3044⟩⟩, (fun q hq => ((o_3031 q ).trans ((o_3020 q (hq 4 (by omega))).trans ((hp_3014.2 q (fun i hS => hq i (by omega))).trans (hp_3008 q )))))⟩ (Nat.le_refl _) (Nat.le_refl _) dX5_take_37 hQ
abbrev rm_X5_restore : Room := { frames := 4, cells := 0, slots := 0, locals := 104 }
set_option maxHeartbeats 4000000 in
set_option maxRecDepth 100000 in
theorem c_X5_restore_0 (l : Launch) (G : Gl) (L : List Nat) (F : Nat → va_E) (ad : Nat → Nat) (hL : ∀ i, i < 166 → ad i ∈ L) (hin : ∀ i j, i < 166 → j < 166 → i ≠ j → ad i ≠ ad j) (A : AB) (ht9 : (A.2.2.1 0).1 = true) (hX : XW G F ad A) (hA : okA A) : CI l yX5_restore cX5_restore 2 (some .int) rm_X5_restore G L F [.ref (ad 0), .int (nI (0))] (fun r F1 => r = nI (cntR (fun i => (A.2.2.1 0).2.2 i) 6) ∧ XW G F1 ad (aSave A (shpS (A.2.2.1 0).2.1 (A.2.2.1 0).2.2 A.1)) ∧ ∀ q, (∀ i, (i < 166) → q ≠ ad i) → F1 q = F q) := by
  obtain ⟨fx, hn, hh, hsn, htx, hrk, ⟨u9, h134⟩, ⟨v9, h150⟩⟩ := hX
  obtain ⟨⟨hc2, hc, hpu, hok⟩, ⟨hh6, hho⟩, hso, hl60, hco⟩ := id hA
  obtain ⟨cj, rj, hj, hj2⟩ := hsn.2.2 0 (by decide)
  obtain ⟨rfl, rfl⟩ := hj2 ht9
  refine CG_of (by decide) (Nat.le_of_ble_eq_true rfl) rfl ?_
  intro p e s m args below meth c Q C0 hr hlk hnm hQ hw ls hl
  have hx := C0.x
  have hb := C0.b
  refine lv_iload_n hx hb dX5_restore_0 rfl (lv_at hl 1 rfl) ?_
  refine q_callv hw (q_runS (As := [.int (nI (0))]) (c_X5_needSnapshot l G L F 0 (by omega)) C0 hw sw_X5_172 rfl hl.1 rfl (Nat.le_of_ble_eq_true rfl) dX5_restore_1 ⟨by decide, by decide⟩ ⟨by decide, by decide⟩) rfl rfl (fun F_3045 H locs hw hp_3046 => ?_)
  refine lv_aload_n hx hb dX5_restore_4 rfl (lv_at hl 0 rfl) ?_
  have f_3047 : F_3045 (ad 0) = xO ad := (hp_3046 (ad 0) ).trans fx
  refine q_get C0 hw ((hL 0 (by omega))) f_3047 fw_X5_30 rfl dX5_restore_5 ?_
  refine lv_iload_n hx hb dX5_restore_8 rfl (lv_at hl 1 rfl) ?_
  have f_3048 : F_3045 (ad 4) = tkE G (fun j => (A.2.2.1 j).1) := (hp_3046 (ad 4) ).trans hsn.2.1
  refine q_zald C0 hw ((hL 4 (by omega))) f_3048 (0) (by omega) (by decide) (v := nI 1) (if_pos ht9) dX5_restore_9 ?_
  refine n_if_ne (tgt := 23) hx hb dX5_restore_10 (by decide) (by decide) (fun c_10 => ?_) (fun c_10 => ?_)
  · skip
    refine lv_aload_n hx hb dX5_restore_23 rfl (lv_at hl 0 rfl) ?_
    refine q_get C0 hw ((hL 0 (by omega))) f_3047 fw_X5_19 rfl dX5_restore_24 ?_
    refine lv_aload_n hx hb dX5_restore_27 rfl (lv_at hl 0 rfl) ?_
    refine q_get C0 hw ((hL 0 (by omega))) f_3047 fw_X5_12 rfl dX5_restore_28 ?_
    obtain ⟨_, _, hf_3049, _⟩ := id (hh.keep (fun i0 hi => (hp_3046 (ad (i0)) )))
    refine q_callv hw (q_runV (As := [.ref (ad 22)]) (c_X0_save l G L F_3045 ad hL hin A.2.1 A.1 (hh.keep (fun i0 hi => (hp_3046 (ad (i0)) ))) (hn.keep (fun i0 hi => (hp_3046 (ad (i0)) )))) C0 hw vw_X5_62 ((hL 1 (by omega))) hf_3049 rfl rfl rfl hl.1 rfl (Nat.le_of_ble_eq_true rfl) dX5_restore_31 ⟨by decide, by decide⟩ ⟨by decide, by decide⟩) rfl rfl (fun F_3050 H locs hw hp_3051 => ?_)
    refine lv_aload_n hx hb dX5_restore_34 rfl (lv_at hl 0 rfl) ?_
    have f_3052 : F_3050 (ad 0) = xO ad := (hp_3051.2 (ad 0) (fun i hS => hin 0 i (by omega) (by omega) (by omega))).trans f_3047
    refine q_get C0 hw ((hL 0 (by omega))) f_3052 fw_X5_12 rfl dX5_restore_35 ?_
    have f_3053 : F_3045 (ad 22) = .inr (3, [.ref (ad 23), .int (nI (A.1.2.1)), .int (nI (A.1.2.2.1)), .int (nI (A.1.2.2.2.1)), .int (nI (A.1.2.2.2.2.1))]) := (hp_3046 (ad 22) ).trans hn.1
    have f_3054 : F_3050 (ad 22) = .inr (3, [.ref (ad 23), .int (nI (A.1.2.1)), .int (nI (A.1.2.2.1)), .int (nI (A.1.2.2.2.1)), .int (nI (A.1.2.2.2.2.1))]) := (hp_3051.2 (ad 22) (fun i hS => hin 22 i (by omega) (by omega) (by omega))).trans f_3053
    refine q_get C0 hw ((hL 22 (by omega))) f_3054 fw_X5_66 rfl dX5_restore_38 ?_
    refine lv_aload_n hx hb dX5_restore_41 rfl (lv_at hl 0 rfl) ?_
    refine q_get C0 hw ((hL 0 (by omega))) f_3052 fw_X5_25 rfl dX5_restore_42 ?_
    refine lv_iload_n hx hb dX5_restore_45 rfl (lv_at hl 1 rfl) ?_
    have f_3055 : F_3045 (ad 3) = sE G ad := (hp_3046 (ad 3) ).trans hsn.1
    have f_3056 : F_3050 (ad 3) = sE G ad := (hp_3051.2 (ad 3) (fun i hS => hin 3 i (by omega) (by omega) (by omega))).trans f_3055
    refine q_aald C0 hw ((hL 3 (by omega))) 2 rfl f_3056 (0) (by omega) (by decide) (b := ad 135) rfl dX5_restore_46 ?_
    have f_3057 : F_3045 (ad 23) = .inr (2, [.int (nI (A.1.1)), .ref (ad 24), .ref (ad 25)]) := (hp_3046 (ad 23) ).trans hn.2.1
    have f_3058 : F_3050 (ad 23) = .inr (2, [.int (nI (A.1.1)), .ref (ad 24), .ref (ad 25)]) := (hp_3051.2 (ad 23) (fun i hS => hin 23 i (by omega) (by omega) (by omega))).trans f_3057
    refine q_callv hw (q_runV (As := [.ref (ad 135)]) (c_X2_copyFrom l G L F_3050 ad hL hin 22 134 A.1.1 ((A.2.2.1 0).2.1) A.1.2.2.2.2.2 ((A.2.2.1 0).2.2) (hn.2.keep (fun i0 hi => ((hp_3051.2 (ad (i0)) (fun i hS => hin (i0) i (by omega) (by omega) (by omega)))).trans ((hp_3046 (ad (i0)) )))) (hj.keep (fun i0 hi => ((hp_3051.2 (ad (i0)) (fun i hS => hin (i0) i (by omega) (by omega) (by omega)))).trans ((hp_3046 (ad (i0)) )))) (by omega) (by omega) (by omega)) C0 hw vw_X5_175 ((hL 23 (by omega))) f_3058 rfl rfl rfl hl.1 rfl (Nat.le_of_ble_eq_true rfl) dX5_restore_47 ⟨by decide, by decide⟩ ⟨by decide, by decide⟩) rfl rfl (fun F_3059 H locs hw hp_3060 => ?_)
    have f_3061 : F_3059 (ad 22) = .inr (3, [.ref (ad 23), .int (nI (A.1.2.1)), .int (nI (A.1.2.2.1)), .int (nI (A.1.2.2.2.1)), .int (nI (A.1.2.2.2.2.1))]) := (hp_3060.2 (ad 22) (fun i hS => hin 22 i (by omega) (by omega) (by omega))).trans f_3054
    refine lv_aload_n hx hb dX5_restore_50 rfl (lv_at hl 0 rfl) ?_
    have f_3062 : F_3059 (ad 0) = xO ad := (hp_3060.2 (ad 0) (fun i hS => hin 0 i (by omega) (by omega) (by omega))).trans f_3052
    refine q_get C0 hw ((hL 0 (by omega))) f_3062 fw_X5_12 rfl dX5_restore_51 ?_
    refine q_get C0 hw ((hL 22 (by omega))) f_3061 fw_X5_66 rfl dX5_restore_54 ?_
    refine q_calli hw (q_runV (As := []) (c_X2_fieldsThatAreNotZero l G L F_3059 ad hL hin 22 ((shpS (A.2.2.1 0).2.1 (A.2.2.1 0).2.2 A.1)).1 ((shpS (A.2.2.1 0).2.1 (A.2.2.1 0).2.2 A.1)).2.2.2.2.2 (show sta G F_3059 ad 22 (shpS (A.2.2.1 0).2.1 (A.2.2.1 0).2.2 A.1) from ⟨f_3061, hp_3060.1⟩).2 (by decide)) C0 hw vw_X5_179 ((hL 23 (by omega))) hp_3060.1.1 rfl rfl rfl hl.1 rfl (Nat.le_of_ble_eq_true rfl) dX5_restore_57 ⟨by decide, by decide⟩ ⟨by decide, by decide⟩) rfl rfl (fun r_3065 F_3063 H locs hw hp_3064 => ?_)
    obtain ⟨he_3066, o_3067⟩ := hp_3064
    subst he_3066
    have f_3068 : F_3063 (ad 0) = xO ad := (o_3067 (ad 0) ).trans f_3062
    have f_3069 : F_3045 (ad 134) = rw7 G u9 := (hp_3046 (ad 134) ).trans h134
    have f_3070 : F_3050 (ad 134) = rw7 G u9 := (hp_3051.2 (ad 134) (fun i hS => hin 134 i (by omega) (by omega) (by omega))).trans f_3069
    have f_3071 : F_3059 (ad 134) = rw7 G u9 := (hp_3060.2 (ad 134) (fun i hS => hin 134 i (by omega) (by omega) (by omega))).trans f_3070
    have f_3072 : F_3063 (ad 134) = rw7 G u9 := (o_3067 (ad 134) ).trans f_3071
    have f_3073 : F_3045 (ad 150) = rw7 G v9 := (hp_3046 (ad 150) ).trans h150
    have f_3074 : F_3050 (ad 150) = rw7 G v9 := (hp_3051.2 (ad 150) (fun i hS => hin 150 i (by omega) (by omega) (by omega))).trans f_3073
    have f_3075 : F_3059 (ad 150) = rw7 G v9 := (hp_3060.2 (ad 150) (fun i hS => hin 150 i (by omega) (by omega) (by omega))).trans f_3074
    have f_3076 : F_3063 (ad 150) = rw7 G v9 := (o_3067 (ad 150) ).trans f_3075
    exact r_i C0 hr hlk hw (v := nI (cntR (fun i => (((shpS (A.2.2.1 0).2.1 (A.2.2.1 0).2.2 A.1)).2.2.2.2.2) i) 6)) rfl ⟨rfl, ⟨f_3068, ((show sta G F_3059 ad 22 (shpS (A.2.2.1 0).2.1 (A.2.2.1 0).2.2 A.1) from ⟨f_3061, hp_3060.1⟩).keep (fun i0 hi => (o_3067 (ad (i0)) ))), (hp_3051.1.keep (fun i0 hi => ((o_3067 (ad (i0)) )).trans ((hp_3060.2 (ad (i0)) (fun i hS => hin (i0) i (by omega) (by omega) (by omega)))))), (hsn.keep (fun i0 hi => ((o_3067 (ad (i0)) )).trans (((hp_3060.2 (ad (i0)) (fun i hS => hin (i0) i (by omega) (by omega) (by omega)))).trans (((hp_3051.2 (ad (i0)) (fun i hS => hin (i0) i (by omega) (by omega) (by omega)))).trans ((hp_3046 (ad (i0)) )))))), (htx.keep (fun i0 hi => ((o_3067 (ad (i0)) )).trans (((hp_3060.2 (ad (i0)) (fun i hS => hin (i0) i (by omega) (by omega) (by omega)))).trans (((hp_3051.2 (ad (i0)) (fun i hS => hin (i0) i (by omega) (by omega) (by omega)))).trans ((hp_3046 (ad (i0)) )))))), (hrk.keep (fun i0 hi => ((o_3067 (ad (i0)) )).trans (((hp_3060.2 (ad (i0)) (fun i hS => hin (i0) i (by omega) (by omega) (by omega)))).trans (((hp_3051.2 (ad (i0)) (fun i hS => hin (i0) i (by omega) (by omega) (by omega)))).trans ((hp_3046 (ad (i0)) )))))), ⟨_, f_3072⟩, ⟨_, f_3076⟩⟩, (fun q hq => ((o_3067 q ).trans ((hp_3060.2 q (fun i hS => hq i (by omega))).trans ((hp_3051.2 q (fun i hS => hq i (by omega))).trans (hp_3046 q )))))⟩ (Nat.le_refl _) (Nat.le_refl _) dX5_restore_60 hQ
  · skip
    exact absurd c_10 (by omega)
set_option maxHeartbeats 4000000 in
set_option maxRecDepth 100000 in
theorem c_X5_restore_1 (l : Launch) (G : Gl) (L : List Nat) (F : Nat → va_E) (ad : Nat → Nat) (hL : ∀ i, i < 166 → ad i ∈ L) (hin : ∀ i j, i < 166 → j < 166 → i ≠ j → ad i ≠ ad j) (A : AB) (ht9 : (A.2.2.1 1).1 = true) (hX : XW G F ad A) (hA : okA A) : CI l yX5_restore cX5_restore 2 (some .int) rm_X5_restore G L F [.ref (ad 0), .int (nI (1))] (fun r F1 => r = nI (cntR (fun i => (A.2.2.1 1).2.2 i) 6) ∧ XW G F1 ad (aSave A (shpS (A.2.2.1 1).2.1 (A.2.2.1 1).2.2 A.1)) ∧ ∀ q, (∀ i, (i < 166) → q ≠ ad i) → F1 q = F q) := by
  obtain ⟨fx, hn, hh, hsn, htx, hrk, ⟨u9, h134⟩, ⟨v9, h150⟩⟩ := hX
  obtain ⟨⟨hc2, hc, hpu, hok⟩, ⟨hh6, hho⟩, hso, hl60, hco⟩ := id hA
  obtain ⟨cj, rj, hj, hj2⟩ := hsn.2.2 1 (by decide)
  obtain ⟨rfl, rfl⟩ := hj2 ht9
  refine CG_of (by decide) (Nat.le_of_ble_eq_true rfl) rfl ?_
  intro p e s m args below meth c Q C0 hr hlk hnm hQ hw ls hl
  have hx := C0.x
  have hb := C0.b
  refine lv_iload_n hx hb dX5_restore_0 rfl (lv_at hl 1 rfl) ?_
  refine q_callv hw (q_runS (As := [.int (nI (1))]) (c_X5_needSnapshot l G L F 1 (by omega)) C0 hw sw_X5_172 rfl hl.1 rfl (Nat.le_of_ble_eq_true rfl) dX5_restore_1 ⟨by decide, by decide⟩ ⟨by decide, by decide⟩) rfl rfl (fun F_3077 H locs hw hp_3078 => ?_)
  refine lv_aload_n hx hb dX5_restore_4 rfl (lv_at hl 0 rfl) ?_
  have f_3079 : F_3077 (ad 0) = xO ad := (hp_3078 (ad 0) ).trans fx
  refine q_get C0 hw ((hL 0 (by omega))) f_3079 fw_X5_30 rfl dX5_restore_5 ?_
  refine lv_iload_n hx hb dX5_restore_8 rfl (lv_at hl 1 rfl) ?_
  have f_3080 : F_3077 (ad 4) = tkE G (fun j => (A.2.2.1 j).1) := (hp_3078 (ad 4) ).trans hsn.2.1
  refine q_zald C0 hw ((hL 4 (by omega))) f_3080 (1) (by omega) (by decide) (v := nI 1) (if_pos ht9) dX5_restore_9 ?_
  refine n_if_ne (tgt := 23) hx hb dX5_restore_10 (by decide) (by decide) (fun c_10 => ?_) (fun c_10 => ?_)
  · skip
    refine lv_aload_n hx hb dX5_restore_23 rfl (lv_at hl 0 rfl) ?_
    refine q_get C0 hw ((hL 0 (by omega))) f_3079 fw_X5_19 rfl dX5_restore_24 ?_
    refine lv_aload_n hx hb dX5_restore_27 rfl (lv_at hl 0 rfl) ?_
    refine q_get C0 hw ((hL 0 (by omega))) f_3079 fw_X5_12 rfl dX5_restore_28 ?_
    obtain ⟨_, _, hf_3081, _⟩ := id (hh.keep (fun i0 hi => (hp_3078 (ad (i0)) )))
    refine q_callv hw (q_runV (As := [.ref (ad 22)]) (c_X0_save l G L F_3077 ad hL hin A.2.1 A.1 (hh.keep (fun i0 hi => (hp_3078 (ad (i0)) ))) (hn.keep (fun i0 hi => (hp_3078 (ad (i0)) )))) C0 hw vw_X5_62 ((hL 1 (by omega))) hf_3081 rfl rfl rfl hl.1 rfl (Nat.le_of_ble_eq_true rfl) dX5_restore_31 ⟨by decide, by decide⟩ ⟨by decide, by decide⟩) rfl rfl (fun F_3082 H locs hw hp_3083 => ?_)
    refine lv_aload_n hx hb dX5_restore_34 rfl (lv_at hl 0 rfl) ?_
    have f_3084 : F_3082 (ad 0) = xO ad := (hp_3083.2 (ad 0) (fun i hS => hin 0 i (by omega) (by omega) (by omega))).trans f_3079
    refine q_get C0 hw ((hL 0 (by omega))) f_3084 fw_X5_12 rfl dX5_restore_35 ?_
    have f_3085 : F_3077 (ad 22) = .inr (3, [.ref (ad 23), .int (nI (A.1.2.1)), .int (nI (A.1.2.2.1)), .int (nI (A.1.2.2.2.1)), .int (nI (A.1.2.2.2.2.1))]) := (hp_3078 (ad 22) ).trans hn.1
    have f_3086 : F_3082 (ad 22) = .inr (3, [.ref (ad 23), .int (nI (A.1.2.1)), .int (nI (A.1.2.2.1)), .int (nI (A.1.2.2.2.1)), .int (nI (A.1.2.2.2.2.1))]) := (hp_3083.2 (ad 22) (fun i hS => hin 22 i (by omega) (by omega) (by omega))).trans f_3085
    refine q_get C0 hw ((hL 22 (by omega))) f_3086 fw_X5_66 rfl dX5_restore_38 ?_
    refine lv_aload_n hx hb dX5_restore_41 rfl (lv_at hl 0 rfl) ?_
    refine q_get C0 hw ((hL 0 (by omega))) f_3084 fw_X5_25 rfl dX5_restore_42 ?_
    refine lv_iload_n hx hb dX5_restore_45 rfl (lv_at hl 1 rfl) ?_
    have f_3087 : F_3077 (ad 3) = sE G ad := (hp_3078 (ad 3) ).trans hsn.1
    have f_3088 : F_3082 (ad 3) = sE G ad := (hp_3083.2 (ad 3) (fun i hS => hin 3 i (by omega) (by omega) (by omega))).trans f_3087
    refine q_aald C0 hw ((hL 3 (by omega))) 2 rfl f_3088 (1) (by omega) (by decide) (b := ad 151) rfl dX5_restore_46 ?_
    have f_3089 : F_3077 (ad 23) = .inr (2, [.int (nI (A.1.1)), .ref (ad 24), .ref (ad 25)]) := (hp_3078 (ad 23) ).trans hn.2.1
    have f_3090 : F_3082 (ad 23) = .inr (2, [.int (nI (A.1.1)), .ref (ad 24), .ref (ad 25)]) := (hp_3083.2 (ad 23) (fun i hS => hin 23 i (by omega) (by omega) (by omega))).trans f_3089
    refine q_callv hw (q_runV (As := [.ref (ad 151)]) (c_X2_copyFrom l G L F_3082 ad hL hin 22 150 A.1.1 ((A.2.2.1 1).2.1) A.1.2.2.2.2.2 ((A.2.2.1 1).2.2) (hn.2.keep (fun i0 hi => ((hp_3083.2 (ad (i0)) (fun i hS => hin (i0) i (by omega) (by omega) (by omega)))).trans ((hp_3078 (ad (i0)) )))) (hj.keep (fun i0 hi => ((hp_3083.2 (ad (i0)) (fun i hS => hin (i0) i (by omega) (by omega) (by omega)))).trans ((hp_3078 (ad (i0)) )))) (by omega) (by omega) (by omega)) C0 hw vw_X5_175 ((hL 23 (by omega))) f_3090 rfl rfl rfl hl.1 rfl (Nat.le_of_ble_eq_true rfl) dX5_restore_47 ⟨by decide, by decide⟩ ⟨by decide, by decide⟩) rfl rfl (fun F_3091 H locs hw hp_3092 => ?_)
    have f_3093 : F_3091 (ad 22) = .inr (3, [.ref (ad 23), .int (nI (A.1.2.1)), .int (nI (A.1.2.2.1)), .int (nI (A.1.2.2.2.1)), .int (nI (A.1.2.2.2.2.1))]) := (hp_3092.2 (ad 22) (fun i hS => hin 22 i (by omega) (by omega) (by omega))).trans f_3086
    refine lv_aload_n hx hb dX5_restore_50 rfl (lv_at hl 0 rfl) ?_
    have f_3094 : F_3091 (ad 0) = xO ad := (hp_3092.2 (ad 0) (fun i hS => hin 0 i (by omega) (by omega) (by omega))).trans f_3084
    refine q_get C0 hw ((hL 0 (by omega))) f_3094 fw_X5_12 rfl dX5_restore_51 ?_
    refine q_get C0 hw ((hL 22 (by omega))) f_3093 fw_X5_66 rfl dX5_restore_54 ?_
    refine q_calli hw (q_runV (As := []) (c_X2_fieldsThatAreNotZero l G L F_3091 ad hL hin 22 ((shpS (A.2.2.1 1).2.1 (A.2.2.1 1).2.2 A.1)).1 ((shpS (A.2.2.1 1).2.1 (A.2.2.1 1).2.2 A.1)).2.2.2.2.2 (show sta G F_3091 ad 22 (shpS (A.2.2.1 1).2.1 (A.2.2.1 1).2.2 A.1) from ⟨f_3093, hp_3092.1⟩).2 (by decide)) C0 hw vw_X5_179 ((hL 23 (by omega))) hp_3092.1.1 rfl rfl rfl hl.1 rfl (Nat.le_of_ble_eq_true rfl) dX5_restore_57 ⟨by decide, by decide⟩ ⟨by decide, by decide⟩) rfl rfl (fun r_3097 F_3095 H locs hw hp_3096 => ?_)
    obtain ⟨he_3098, o_3099⟩ := hp_3096
    subst he_3098
    have f_3100 : F_3095 (ad 0) = xO ad := (o_3099 (ad 0) ).trans f_3094
    have f_3101 : F_3077 (ad 134) = rw7 G u9 := (hp_3078 (ad 134) ).trans h134
    have f_3102 : F_3082 (ad 134) = rw7 G u9 := (hp_3083.2 (ad 134) (fun i hS => hin 134 i (by omega) (by omega) (by omega))).trans f_3101
    have f_3103 : F_3091 (ad 134) = rw7 G u9 := (hp_3092.2 (ad 134) (fun i hS => hin 134 i (by omega) (by omega) (by omega))).trans f_3102
    have f_3104 : F_3095 (ad 134) = rw7 G u9 := (o_3099 (ad 134) ).trans f_3103
    have f_3105 : F_3077 (ad 150) = rw7 G v9 := (hp_3078 (ad 150) ).trans h150
    have f_3106 : F_3082 (ad 150) = rw7 G v9 := (hp_3083.2 (ad 150) (fun i hS => hin 150 i (by omega) (by omega) (by omega))).trans f_3105
    have f_3107 : F_3091 (ad 150) = rw7 G v9 := (hp_3092.2 (ad 150) (fun i hS => hin 150 i (by omega) (by omega) (by omega))).trans f_3106
    have f_3108 : F_3095 (ad 150) = rw7 G v9 := (o_3099 (ad 150) ).trans f_3107
    exact r_i C0 hr hlk hw (v := nI (cntR (fun i => (((shpS (A.2.2.1 1).2.1 (A.2.2.1 1).2.2 A.1)).2.2.2.2.2) i) 6)) rfl ⟨rfl, ⟨f_3100, ((show sta G F_3091 ad 22 (shpS (A.2.2.1 1).2.1 (A.2.2.1 1).2.2 A.1) from ⟨f_3093, hp_3092.1⟩).keep (fun i0 hi => (o_3099 (ad (i0)) ))), (hp_3083.1.keep (fun i0 hi => ((o_3099 (ad (i0)) )).trans ((hp_3092.2 (ad (i0)) (fun i hS => hin (i0) i (by omega) (by omega) (by omega)))))), (hsn.keep (fun i0 hi => ((o_3099 (ad (i0)) )).trans (((hp_3092.2 (ad (i0)) (fun i hS => hin (i0) i (by omega) (by omega) (by omega)))).trans (((hp_3083.2 (ad (i0)) (fun i hS => hin (i0) i (by omega) (by omega) (by omega)))).trans ((hp_3078 (ad (i0)) )))))), (htx.keep (fun i0 hi => ((o_3099 (ad (i0)) )).trans (((hp_3092.2 (ad (i0)) (fun i hS => hin (i0) i (by omega) (by omega) (by omega)))).trans (((hp_3083.2 (ad (i0)) (fun i hS => hin (i0) i (by omega) (by omega) (by omega)))).trans ((hp_3078 (ad (i0)) )))))), (hrk.keep (fun i0 hi => ((o_3099 (ad (i0)) )).trans (((hp_3092.2 (ad (i0)) (fun i hS => hin (i0) i (by omega) (by omega) (by omega)))).trans (((hp_3083.2 (ad (i0)) (fun i hS => hin (i0) i (by omega) (by omega) (by omega)))).trans ((hp_3078 (ad (i0)) )))))), ⟨_, f_3104⟩, ⟨_, f_3108⟩⟩, (fun q hq => ((o_3099 q ).trans ((hp_3092.2 q (fun i hS => hq i (by omega))).trans ((hp_3083.2 q (fun i hS => hq i (by omega))).trans (hp_3078 q )))))⟩ (Nat.le_refl _) (Nat.le_refl _) dX5_restore_60 hQ
  · skip
    exact absurd c_10 (by omega)
abbrev rm_X5_undo : Room := { frames := 4, cells := 0, slots := 0, locals := 104 }
set_option maxHeartbeats 4000000 in
set_option maxRecDepth 100000 in
theorem c_X5_undo (l : Launch) (G : Gl) (L : List Nat) (F : Nat → va_E) (ad : Nat → Nat) (hL : ∀ i, i < 166 → ad i ∈ L) (hin : ∀ i j, i < 166 → j < 166 → i ≠ j → ad i ≠ ad j) (A : AB) (k9 : Nat) (hk9 : A.2.1.1 = k9 + 1) (hX : XW G F ad A) (hA : okA A) : CI l yX5_undo cX5_undo 1 (some .int) rm_X5_undo G L F [.ref (ad 0)] (fun r F1 => r = nI k9 ∧ XW G F1 ad (A.2.1.2 k9, (k9, A.2.1.2), A.2.2) ∧ ∀ q, (∀ i, (i < 166) → q ≠ ad i) → F1 q = F q) := by
  obtain ⟨fx, hn, hh, hsn, htx, hrk, ⟨u9, h134⟩, ⟨v9, h150⟩⟩ := hX
  obtain ⟨⟨hc2, hc, hpu, hok⟩, ⟨hh6, hho⟩, hso, hl60, hco⟩ := id hA
  refine CG_of (by decide) (Nat.le_of_ble_eq_true rfl) rfl ?_
  intro p e s m args below meth c Q C0 hr hlk hnm hQ hw ls hl
  have hx := C0.x
  have hb := C0.b
  refine lv_aload_n hx hb dX5_undo_0 rfl (lv_at hl 0 rfl) ?_
  refine q_get C0 hw ((hL 0 (by omega))) fx fw_X5_19 rfl dX5_undo_1 ?_
  obtain ⟨_, _, hf_3109, _⟩ := id hh
  refine q_get C0 hw ((hL 1 (by omega))) hf_3109 fw_X5_184 rfl dX5_undo_4 ?_
  refine n_if_ne (tgt := 20) hx hb dX5_undo_7 (by decide) (by omega) (fun c_7 => ?_) (fun c_7 => ?_)
  · skip
    refine lv_aload_n hx hb dX5_undo_20 rfl (lv_at hl 0 rfl) ?_
    refine q_get C0 hw ((hL 0 (by omega))) fx fw_X5_19 rfl dX5_undo_21 ?_
    refine lv_aload_n hx hb dX5_undo_24 rfl (lv_at hl 0 rfl) ?_
    refine q_get C0 hw ((hL 0 (by omega))) fx fw_X5_12 rfl dX5_undo_25 ?_
    refine q_callv hw (q_runV (As := [.ref (ad 22)]) (c_X0_bringBack l G L F ad hL hin A.2.1 k9 A.1 hh hn hk9) C0 hw vw_X5_189 ((hL 1 (by omega))) hf_3109 rfl rfl rfl hl.1 rfl (Nat.le_of_ble_eq_true rfl) dX5_undo_28 ⟨by decide, by decide⟩ ⟨by decide, by decide⟩) rfl rfl (fun F_3110 H locs hw hp_3111 => ?_)
    obtain ⟨_, _, hf_3112, _⟩ := id hp_3111.1.1
    refine lv_aload_n hx hb dX5_undo_31 rfl (lv_at hl 0 rfl) ?_
    have f_3113 : F_3110 (ad 0) = xO ad := (hp_3111.2 (ad 0) (fun i hS => hin 0 i (by omega) (by omega) (by omega))).trans fx
    refine q_get C0 hw ((hL 0 (by omega))) f_3113 fw_X5_19 rfl dX5_undo_32 ?_
    refine q_get C0 hw ((hL 1 (by omega))) hf_3112 fw_X5_184 rfl dX5_undo_35 ?_
    have f_3114 : F_3110 (ad 134) = rw7 G u9 := (hp_3111.2 (ad 134) (fun i hS => hin 134 i (by omega) (by omega) (by omega))).trans h134
    have f_3115 : F_3110 (ad 150) = rw7 G v9 := (hp_3111.2 (ad 150) (fun i hS => hin 150 i (by omega) (by omega) (by omega))).trans h150
    exact r_i C0 hr hlk hw (v := nI (k9)) rfl ⟨rfl, ⟨f_3113, hp_3111.1.2, hp_3111.1.1, (hsn.keep (fun i0 hi => (hp_3111.2 (ad (i0)) (fun i hS => hin (i0) i (by omega) (by omega) (by omega))))), (htx.keep (fun i0 hi => (hp_3111.2 (ad (i0)) (fun i hS => hin (i0) i (by omega) (by omega) (by omega))))), (hrk.keep (fun i0 hi => (hp_3111.2 (ad (i0)) (fun i hS => hin (i0) i (by omega) (by omega) (by omega))))), ⟨_, f_3114⟩, ⟨_, f_3115⟩⟩, (fun q hq => (hp_3111.2 q (fun i hS => hq i (by omega))))⟩ (Nat.le_refl _) (Nat.le_refl _) dX5_undo_38 hQ
  · skip
    exact absurd c_7 (by omega)
abbrev rm_X5_field : Room := { frames := 1, cells := 0, slots := 0, locals := 22 }
set_option maxHeartbeats 4000000 in
set_option maxRecDepth 100000 in
theorem c_X5_field (l : Launch) (G : Gl) (L : List Nat) (F : Nat → va_E) (ad : Nat → Nat) (hL : ∀ i, i < 166 → ad i ∈ L) (hin : ∀ i j, i < 166 → j < 166 → i ≠ j → ad i ≠ ad j) (A : AB) (f9 p9 : Nat) (hf9 : f9 < 6) (hp9 : p9 ≤ 6) (hX : XW G F ad A) (hA : okA A) : CI l yX5_field cX5_field 3 (some .int) rm_X5_field G L F [.ref (ad 0), .int (nI (f9)), .int (nI (p9))] (fun r F1 => r = nI (A.1.2.2.2.2.2 f9 p9).val ∧ XW G F1 ad A ∧ ∀ q, (∀ i, (i < 166) → q ≠ ad i) → F1 q = F q) := by
  obtain ⟨fx, hn, hh, hsn, htx, hrk, ⟨u9, h134⟩, ⟨v9, h150⟩⟩ := hX
  obtain ⟨⟨hc2, hc, hpu, hok⟩, ⟨hh6, hho⟩, hso, hl60, hco⟩ := id hA
  refine CG_of (by decide) (Nat.le_of_ble_eq_true rfl) rfl ?_
  intro p e s m args below meth c Q C0 hr hlk hnm hQ hw ls hl
  have hx := C0.x
  have hb := C0.b
  refine lv_iload_n hx hb dX5_field_0 rfl (lv_at hl 1 rfl) ?_
  refine q_callv hw (q_runS (As := [.int (nI (f9))]) (c_X5_needSlot l G L F f9 (by omega)) C0 hw sw_X5_78 rfl hl.1 rfl (Nat.le_of_ble_eq_true rfl) dX5_field_1 ⟨by decide, by decide⟩ ⟨by decide, by decide⟩) rfl rfl (fun F_3116 H locs hw hp_3117 => ?_)
  refine lv_iload_n hx hb dX5_field_4 rfl (lv_at hl 2 rfl) ?_
  refine lv_iconst (v := nI 0) hx hb dX5_field_5 (by decide) ?_
  refine lv_bipush (v := nI 6) hx hb dX5_field_6 (by decide) ?_
  refine q_callv hw (q_runS (As := [.int (nI (p9)), .int (nI (0)), .int (nI (6))]) (c_X5_needPower l G L F_3116 p9 0 6 (by omega) (by omega) (by omega)) C0 hw sw_X5_81 rfl hl.1 rfl (Nat.le_of_ble_eq_true rfl) dX5_field_8 ⟨by decide, by decide⟩ ⟨by decide, by decide⟩) rfl rfl (fun F_3118 H locs hw hp_3119 => ?_)
  refine lv_aload_n hx hb dX5_field_11 rfl (lv_at hl 0 rfl) ?_
  have f_3120 : F_3116 (ad 0) = xO ad := (hp_3117 (ad 0) ).trans fx
  have f_3121 : F_3118 (ad 0) = xO ad := (hp_3119 (ad 0) ).trans f_3120
  refine q_get C0 hw ((hL 0 (by omega))) f_3121 fw_X5_12 rfl dX5_field_12 ?_
  have f_3122 : F_3116 (ad 22) = .inr (3, [.ref (ad 23), .int (nI (A.1.2.1)), .int (nI (A.1.2.2.1)), .int (nI (A.1.2.2.2.1)), .int (nI (A.1.2.2.2.2.1))]) := (hp_3117 (ad 22) ).trans hn.1
  have f_3123 : F_3118 (ad 22) = .inr (3, [.ref (ad 23), .int (nI (A.1.2.1)), .int (nI (A.1.2.2.1)), .int (nI (A.1.2.2.2.1)), .int (nI (A.1.2.2.2.2.1))]) := (hp_3119 (ad 22) ).trans f_3122
  refine q_get C0 hw ((hL 22 (by omega))) f_3123 fw_X5_66 rfl dX5_field_15 ?_
  have f_3124 : F_3116 (ad 23) = .inr (2, [.int (nI (A.1.1)), .ref (ad 24), .ref (ad 25)]) := (hp_3117 (ad 23) ).trans hn.2.1
  have f_3125 : F_3118 (ad 23) = .inr (2, [.int (nI (A.1.1)), .ref (ad 24), .ref (ad 25)]) := (hp_3119 (ad 23) ).trans f_3124
  refine q_get C0 hw ((hL 23 (by omega))) f_3125 fw_X5_85 rfl dX5_field_18 ?_
  refine lv_iload_n hx hb dX5_field_21 rfl (lv_at hl 1 rfl) ?_
  have f_3126 : F_3116 (ad 24) = oE G (fun i => ad (26 + i)) := (hp_3117 (ad 24) ).trans hn.2.2.1
  have f_3127 : F_3118 (ad 24) = oE G (fun i => ad (26 + i)) := (hp_3119 (ad 24) ).trans f_3126
  refine q_aaldi C0 hw ((hL 24 (by omega))) f_3127 (f9) (by omega) (by decide) (b := ad (26 + f9)) rfl dX5_field_22 ?_
  refine lv_iload_n hx hb dX5_field_23 rfl (lv_at hl 2 rfl) ?_
  have f_3128 : F_3116 (ad (26 + f9)) = rw7 G ((A.1.2.2.2.2.2 f9)) := (hp_3117 (ad (26 + f9)) ).trans ((hn.2.2.2.2 f9 (by omega)))
  have f_3129 : F_3118 (ad (26 + f9)) = rw7 G ((A.1.2.2.2.2.2 f9)) := (hp_3119 (ad (26 + f9)) ).trans f_3128
  refine q_rld C0 hw ((hL (26 + f9) (by omega))) f_3129 (p9) (by omega) dX5_field_24 (fun z_3130 => ?_)
  have f_3131 : F_3116 (ad 134) = rw7 G u9 := (hp_3117 (ad 134) ).trans h134
  have f_3132 : F_3118 (ad 134) = rw7 G u9 := (hp_3119 (ad 134) ).trans f_3131
  have f_3133 : F_3116 (ad 150) = rw7 G v9 := (hp_3117 (ad 150) ).trans h150
  have f_3134 : F_3118 (ad 150) = rw7 G v9 := (hp_3119 (ad 150) ).trans f_3133
  exact r_i C0 hr hlk hw (v := nI ((((A.1.2.2.2.2.2 f9)) (p9)).val)) rfl ⟨rfl, ⟨f_3121, (hn.keep (fun i0 hi => ((hp_3119 (ad (i0)) )).trans ((hp_3117 (ad (i0)) )))), (hh.keep (fun i0 hi => ((hp_3119 (ad (i0)) )).trans ((hp_3117 (ad (i0)) )))), (hsn.keep (fun i0 hi => ((hp_3119 (ad (i0)) )).trans ((hp_3117 (ad (i0)) )))), (htx.keep (fun i0 hi => ((hp_3119 (ad (i0)) )).trans ((hp_3117 (ad (i0)) )))), (hrk.keep (fun i0 hi => ((hp_3119 (ad (i0)) )).trans ((hp_3117 (ad (i0)) )))), ⟨_, f_3132⟩, ⟨_, f_3134⟩⟩, (fun q hq => ((hp_3119 q ).trans (hp_3117 q )))⟩ (Nat.le_refl _) (Nat.le_refl _) dX5_field_25 hQ
abbrev rm_X5_flow : Room := { frames := 1, cells := 0, slots := 0, locals := 22 }
set_option maxHeartbeats 4000000 in
set_option maxRecDepth 100000 in
theorem c_X5_flow (l : Launch) (G : Gl) (L : List Nat) (F : Nat → va_E) (ad : Nat → Nat) (hL : ∀ i, i < 166 → ad i ∈ L) (hin : ∀ i j, i < 166 → j < 166 → i ≠ j → ad i ≠ ad j) (A : AB) (f9 p9 : Nat) (hf9 : f9 < 6) (hp9 : p9 ≤ 6) (hX : XW G F ad A) (hA : okA A) : CI l yX5_flow cX5_flow 3 (some .int) rm_X5_flow G L F [.ref (ad 0), .int (nI (f9)), .int (nI (p9))] (fun r F1 => r = nI (A.1.2.2.2.2.2 (6 + f9) p9).val ∧ XW G F1 ad A ∧ ∀ q, (∀ i, (i < 166) → q ≠ ad i) → F1 q = F q) := by
  obtain ⟨fx, hn, hh, hsn, htx, hrk, ⟨u9, h134⟩, ⟨v9, h150⟩⟩ := hX
  obtain ⟨⟨hc2, hc, hpu, hok⟩, ⟨hh6, hho⟩, hso, hl60, hco⟩ := id hA
  refine CG_of (by decide) (Nat.le_of_ble_eq_true rfl) rfl ?_
  intro p e s m args below meth c Q C0 hr hlk hnm hQ hw ls hl
  have hx := C0.x
  have hb := C0.b
  refine lv_iload_n hx hb dX5_flow_0 rfl (lv_at hl 1 rfl) ?_
  refine q_callv hw (q_runS (As := [.int (nI (f9))]) (c_X5_needSlot l G L F f9 (by omega)) C0 hw sw_X5_78 rfl hl.1 rfl (Nat.le_of_ble_eq_true rfl) dX5_flow_1 ⟨by decide, by decide⟩ ⟨by decide, by decide⟩) rfl rfl (fun F_3135 H locs hw hp_3136 => ?_)
  refine lv_iload_n hx hb dX5_flow_4 rfl (lv_at hl 2 rfl) ?_
  refine lv_iconst (v := nI 0) hx hb dX5_flow_5 (by decide) ?_
  refine lv_bipush (v := nI 6) hx hb dX5_flow_6 (by decide) ?_
  refine q_callv hw (q_runS (As := [.int (nI (p9)), .int (nI (0)), .int (nI (6))]) (c_X5_needPower l G L F_3135 p9 0 6 (by omega) (by omega) (by omega)) C0 hw sw_X5_81 rfl hl.1 rfl (Nat.le_of_ble_eq_true rfl) dX5_flow_8 ⟨by decide, by decide⟩ ⟨by decide, by decide⟩) rfl rfl (fun F_3137 H locs hw hp_3138 => ?_)
  refine lv_aload_n hx hb dX5_flow_11 rfl (lv_at hl 0 rfl) ?_
  have f_3139 : F_3135 (ad 0) = xO ad := (hp_3136 (ad 0) ).trans fx
  have f_3140 : F_3137 (ad 0) = xO ad := (hp_3138 (ad 0) ).trans f_3139
  refine q_get C0 hw ((hL 0 (by omega))) f_3140 fw_X5_12 rfl dX5_flow_12 ?_
  have f_3141 : F_3135 (ad 22) = .inr (3, [.ref (ad 23), .int (nI (A.1.2.1)), .int (nI (A.1.2.2.1)), .int (nI (A.1.2.2.2.1)), .int (nI (A.1.2.2.2.2.1))]) := (hp_3136 (ad 22) ).trans hn.1
  have f_3142 : F_3137 (ad 22) = .inr (3, [.ref (ad 23), .int (nI (A.1.2.1)), .int (nI (A.1.2.2.1)), .int (nI (A.1.2.2.2.1)), .int (nI (A.1.2.2.2.2.1))]) := (hp_3138 (ad 22) ).trans f_3141
  refine q_get C0 hw ((hL 22 (by omega))) f_3142 fw_X5_66 rfl dX5_flow_15 ?_
  have f_3143 : F_3135 (ad 23) = .inr (2, [.int (nI (A.1.1)), .ref (ad 24), .ref (ad 25)]) := (hp_3136 (ad 23) ).trans hn.2.1
  have f_3144 : F_3137 (ad 23) = .inr (2, [.int (nI (A.1.1)), .ref (ad 24), .ref (ad 25)]) := (hp_3138 (ad 23) ).trans f_3143
  refine q_get C0 hw ((hL 23 (by omega))) f_3144 fw_X5_93 rfl dX5_flow_18 ?_
  refine lv_iload_n hx hb dX5_flow_21 rfl (lv_at hl 1 rfl) ?_
  have f_3145 : F_3135 (ad 25) = oE G (fun i => ad (32 + i)) := (hp_3136 (ad 25) ).trans hn.2.2.2.1
  have f_3146 : F_3137 (ad 25) = oE G (fun i => ad (32 + i)) := (hp_3138 (ad 25) ).trans f_3145
  refine q_aaldi C0 hw ((hL 25 (by omega))) f_3146 (f9) (by omega) (by decide) (b := ad (32 + f9)) rfl dX5_flow_22 ?_
  refine lv_iload_n hx hb dX5_flow_23 rfl (lv_at hl 2 rfl) ?_
  have f_3147 : F_3135 (ad (32 + f9)) = rw7 G ((A.1.2.2.2.2.2 (6 + f9))) := (hp_3136 (ad (32 + f9)) ).trans ((show F (ad (32 + f9)) = _ from by have h9 := hn.2.2.2.2 (6 + f9) (by omega); rwa [show 22 + 4 + (6 + f9) = 32 + f9 by omega] at h9))
  have f_3148 : F_3137 (ad (32 + f9)) = rw7 G ((A.1.2.2.2.2.2 (6 + f9))) := (hp_3138 (ad (32 + f9)) ).trans f_3147
  refine q_rld C0 hw ((hL (32 + f9) (by omega))) f_3148 (p9) (by omega) dX5_flow_24 (fun z_3149 => ?_)
  have f_3150 : F_3135 (ad 134) = rw7 G u9 := (hp_3136 (ad 134) ).trans h134
  have f_3151 : F_3137 (ad 134) = rw7 G u9 := (hp_3138 (ad 134) ).trans f_3150
  have f_3152 : F_3135 (ad 150) = rw7 G v9 := (hp_3136 (ad 150) ).trans h150
  have f_3153 : F_3137 (ad 150) = rw7 G v9 := (hp_3138 (ad 150) ).trans f_3152
  exact r_i C0 hr hlk hw (v := nI ((((A.1.2.2.2.2.2 (6 + f9))) (p9)).val)) rfl ⟨rfl, ⟨f_3140, (hn.keep (fun i0 hi => ((hp_3138 (ad (i0)) )).trans ((hp_3136 (ad (i0)) )))), (hh.keep (fun i0 hi => ((hp_3138 (ad (i0)) )).trans ((hp_3136 (ad (i0)) )))), (hsn.keep (fun i0 hi => ((hp_3138 (ad (i0)) )).trans ((hp_3136 (ad (i0)) )))), (htx.keep (fun i0 hi => ((hp_3138 (ad (i0)) )).trans ((hp_3136 (ad (i0)) )))), (hrk.keep (fun i0 hi => ((hp_3138 (ad (i0)) )).trans ((hp_3136 (ad (i0)) )))), ⟨_, f_3151⟩, ⟨_, f_3153⟩⟩, (fun q hq => ((hp_3138 q ).trans (hp_3136 q )))⟩ (Nat.le_refl _) (Nat.le_refl _) dX5_flow_25 hQ
abbrev rm_X5_value : Room := { frames := 1, cells := 0, slots := 0, locals := 24 }
set_option maxHeartbeats 4000000 in
set_option maxRecDepth 100000 in
theorem c_X5_value_0 (l : Launch) (G : Gl) (L : List Nat) (F : Nat → va_E) (ad : Nat → Nat) (hL : ∀ i, i < 166 → ad i ∈ L) (hin : ∀ i j, i < 166 → j < 166 → i ≠ j → ad i ≠ ad j) (A : AB) (f9 : Nat) (y9 : Int32) (hf9 : f9 < 6) (hX : XW G F ad A) (hA : okA A) : CI l yX5_value cX5_value 5 (some .int) rm_X5_value G L F [.ref (ad 0), .int (nI (0)), .int (nI (f9)), .int (y9)] (fun r F1 => r = nI (m_val (A.1.2.2.2.2.2 f9) (zi y9)).val ∧ XW G F1 ad A ∧ ∀ q, (∀ i, (i < 166) → q ≠ ad i) → F1 q = F q) := by
  obtain ⟨fx, hn, hh, hsn, htx, hrk, ⟨u9, h134⟩, ⟨v9, h150⟩⟩ := hX
  obtain ⟨⟨hc2, hc, hpu, hok⟩, ⟨hh6, hho⟩, hso, hl60, hco⟩ := id hA
  refine CG_of (by decide) (Nat.le_of_ble_eq_true rfl) rfl ?_
  intro p e s m args below meth c Q C0 hr hlk hnm hQ hw ls hl
  have hx := C0.x
  have hb := C0.b
  refine lv_iload_n hx hb dX5_value_0 rfl (lv_at hl 2 rfl) ?_
  refine q_callv hw (q_runS (As := [.int (nI (f9))]) (c_X5_needSlot l G L F f9 (by omega)) C0 hw sw_X5_78 rfl hl.1 rfl (Nat.le_of_ble_eq_true rfl) dX5_value_1 ⟨by decide, by decide⟩ ⟨by decide, by decide⟩) rfl rfl (fun F_3154 H locs hw hp_3155 => ?_)
  refine lv_iload_n hx hb dX5_value_4 rfl (lv_at hl 1 rfl) ?_
  refine n_if_eq (tgt := 23) hx hb dX5_value_5 (by decide) (by decide) (fun c_5 => ?_) (fun c_5 => ?_)
  · skip
    refine lv_iload_n hx hb dX5_value_23 rfl (lv_at hl 1 rfl) ?_
    refine n_if_ne (tgt := 42) hx hb dX5_value_24 (by decide) (by decide) (fun c_24 => ?_) (fun c_24 => ?_)
    · skip
      exact absurd c_24 (by omega)
    · skip
      refine lv_aload_n hx hb dX5_value_27 rfl (lv_at hl 0 rfl) ?_
      have f_3156 : F_3154 (ad 0) = xO ad := (hp_3155 (ad 0) ).trans fx
      refine q_get C0 hw ((hL 0 (by omega))) f_3156 fw_X5_12 rfl dX5_value_28 ?_
      have f_3157 : F_3154 (ad 22) = .inr (3, [.ref (ad 23), .int (nI (A.1.2.1)), .int (nI (A.1.2.2.1)), .int (nI (A.1.2.2.2.1)), .int (nI (A.1.2.2.2.2.1))]) := (hp_3155 (ad 22) ).trans hn.1
      refine q_get C0 hw ((hL 22 (by omega))) f_3157 fw_X5_66 rfl dX5_value_31 ?_
      have f_3158 : F_3154 (ad 23) = .inr (2, [.int (nI (A.1.1)), .ref (ad 24), .ref (ad 25)]) := (hp_3155 (ad 23) ).trans hn.2.1
      refine q_get C0 hw ((hL 23 (by omega))) f_3158 fw_X5_85 rfl dX5_value_34 ?_
      refine lv_iload_n hx hb dX5_value_37 rfl (lv_at hl 2 rfl) ?_
      have f_3159 : F_3154 (ad 24) = oE G (fun i => ad (26 + i)) := (hp_3155 (ad 24) ).trans hn.2.2.1
      refine q_aaldi C0 hw ((hL 24 (by omega))) f_3159 (f9) (by omega) (by decide) (b := ad (26 + f9)) rfl dX5_value_38 ?_
      refine lv_goto (tgt := 54) hx hb dX5_value_39 (by decide) ?_
      refine lv_astore (lv' := [(4, .ref (ad (26 + f9))), (0, .ref (ad 0)), (1, .int (nI (0))), (2, .int (nI (f9))), (3, .int (y9))]) hx hb dX5_value_54 hl (by decide) rfl (fun ls hl => ?_)
      refine lv_aload hx hb dX5_value_56 (lv_at hl 0 rfl) ?_
      refine lv_iload_n hx hb dX5_value_58 rfl (lv_at hl 4 rfl) ?_
      refine lv_sipush (v := nI 10007) hx hb dX5_value_59 (by decide) ?_
      refine q_calli hw (q_runS (As := [.int (y9), .int (nI (10007))]) (c_J9_floorMod_7cf53 l G L F_3154 y9) C0 hw sw_X5_117 rfl hl.1 rfl (Nat.le_of_ble_eq_true rfl) dX5_value_62 ⟨by decide, by decide⟩ ⟨by decide, by decide⟩) rfl rfl (fun r_3162 F_3160 H locs hw hp_3161 => ?_)
      obtain ⟨he_3163, o_3164⟩ := hp_3161
      subst he_3163
      have f_3165 : F_3154 (ad (26 + f9)) = rw7 G ((A.1.2.2.2.2.2 f9)) := (hp_3155 (ad (26 + f9)) ).trans ((hn.2.2.2.2 f9 (by omega)))
      have f_3166 : F_3160 (ad (26 + f9)) = rw7 G ((A.1.2.2.2.2.2 f9)) := (o_3164 (ad (26 + f9)) ).trans f_3165
      refine q_calli hw (q_runS (As := [.ref (ad (26 + f9)), .int (nI ((zi y9).val))]) (c_X1_valueAt l G L F_3160 (ad (26 + f9)) ((A.1.2.2.2.2.2 f9)) (zi y9) ((hL (26 + f9) (by omega))) f_3166) C0 hw sw_X5_194 rfl hl.1 rfl (Nat.le_of_ble_eq_true rfl) dX5_value_65 ⟨by decide, by decide⟩ ⟨by decide, by decide⟩) rfl rfl (fun r_3169 F_3167 H locs hw hp_3168 => ?_)
      obtain ⟨he_3170, o_3171⟩ := hp_3168
      subst he_3170
      have f_3172 : F_3160 (ad 0) = xO ad := (o_3164 (ad 0) ).trans f_3156
      have f_3173 : F_3167 (ad 0) = xO ad := (o_3171 (ad 0) ).trans f_3172
      have f_3174 : F_3154 (ad 134) = rw7 G u9 := (hp_3155 (ad 134) ).trans h134
      have f_3175 : F_3160 (ad 134) = rw7 G u9 := (o_3164 (ad 134) ).trans f_3174
      have f_3176 : F_3167 (ad 134) = rw7 G u9 := (o_3171 (ad 134) ).trans f_3175
      have f_3177 : F_3154 (ad 150) = rw7 G v9 := (hp_3155 (ad 150) ).trans h150
      have f_3178 : F_3160 (ad 150) = rw7 G v9 := (o_3164 (ad 150) ).trans f_3177
      have f_3179 : F_3167 (ad 150) = rw7 G v9 := (o_3171 (ad 150) ).trans f_3178
      exact r_i C0 hr hlk hw (v := nI ((m_val ((A.1.2.2.2.2.2 f9)) (zi y9)).val)) rfl ⟨rfl, ⟨f_3173, (hn.keep (fun i0 hi => ((o_3171 (ad (i0)) )).trans (((o_3164 (ad (i0)) )).trans ((hp_3155 (ad (i0)) ))))), (hh.keep (fun i0 hi => ((o_3171 (ad (i0)) )).trans (((o_3164 (ad (i0)) )).trans ((hp_3155 (ad (i0)) ))))), (hsn.keep (fun i0 hi => ((o_3171 (ad (i0)) )).trans (((o_3164 (ad (i0)) )).trans ((hp_3155 (ad (i0)) ))))), (htx.keep (fun i0 hi => ((o_3171 (ad (i0)) )).trans (((o_3164 (ad (i0)) )).trans ((hp_3155 (ad (i0)) ))))), (hrk.keep (fun i0 hi => ((o_3171 (ad (i0)) )).trans (((o_3164 (ad (i0)) )).trans ((hp_3155 (ad (i0)) ))))), ⟨_, f_3176⟩, ⟨_, f_3179⟩⟩, (fun q hq => ((o_3171 q ).trans ((o_3164 q ).trans (hp_3155 q ))))⟩ (Nat.le_refl _) (Nat.le_refl _) dX5_value_68 hQ
  · skip
    exact absurd c_5 (by omega)
set_option maxHeartbeats 4000000 in
set_option maxRecDepth 100000 in
theorem c_X5_value_1 (l : Launch) (G : Gl) (L : List Nat) (F : Nat → va_E) (ad : Nat → Nat) (hL : ∀ i, i < 166 → ad i ∈ L) (hin : ∀ i j, i < 166 → j < 166 → i ≠ j → ad i ≠ ad j) (A : AB) (f9 : Nat) (y9 : Int32) (hf9 : f9 < 6) (hX : XW G F ad A) (hA : okA A) : CI l yX5_value cX5_value 5 (some .int) rm_X5_value G L F [.ref (ad 0), .int (nI (1)), .int (nI (f9)), .int (y9)] (fun r F1 => r = nI (m_val (A.1.2.2.2.2.2 (6 + f9)) (zi y9)).val ∧ XW G F1 ad A ∧ ∀ q, (∀ i, (i < 166) → q ≠ ad i) → F1 q = F q) := by
  obtain ⟨fx, hn, hh, hsn, htx, hrk, ⟨u9, h134⟩, ⟨v9, h150⟩⟩ := hX
  obtain ⟨⟨hc2, hc, hpu, hok⟩, ⟨hh6, hho⟩, hso, hl60, hco⟩ := id hA
  refine CG_of (by decide) (Nat.le_of_ble_eq_true rfl) rfl ?_
  intro p e s m args below meth c Q C0 hr hlk hnm hQ hw ls hl
  have hx := C0.x
  have hb := C0.b
  refine lv_iload_n hx hb dX5_value_0 rfl (lv_at hl 2 rfl) ?_
  refine q_callv hw (q_runS (As := [.int (nI (f9))]) (c_X5_needSlot l G L F f9 (by omega)) C0 hw sw_X5_78 rfl hl.1 rfl (Nat.le_of_ble_eq_true rfl) dX5_value_1 ⟨by decide, by decide⟩ ⟨by decide, by decide⟩) rfl rfl (fun F_3180 H locs hw hp_3181 => ?_)
  refine lv_iload_n hx hb dX5_value_4 rfl (lv_at hl 1 rfl) ?_
  refine n_if_eq (tgt := 23) hx hb dX5_value_5 (by decide) (by decide) (fun c_5 => ?_) (fun c_5 => ?_)
  · skip
    exact absurd c_5 (by omega)
  · skip
    refine lv_iload_n hx hb dX5_value_8 rfl (lv_at hl 1 rfl) ?_
    refine lv_iconst (v := nI 1) hx hb dX5_value_9 (by decide) ?_
    refine n_icmp_eq (tgt := 23) hx hb dX5_value_10 (by decide) (by decide) (by decide) (fun c_10 => ?_) (fun c_10 => ?_)
    · skip
      refine lv_iload_n hx hb dX5_value_23 rfl (lv_at hl 1 rfl) ?_
      refine n_if_ne (tgt := 42) hx hb dX5_value_24 (by decide) (by decide) (fun c_24 => ?_) (fun c_24 => ?_)
      · skip
        refine lv_aload_n hx hb dX5_value_42 rfl (lv_at hl 0 rfl) ?_
        have f_3182 : F_3180 (ad 0) = xO ad := (hp_3181 (ad 0) ).trans fx
        refine q_get C0 hw ((hL 0 (by omega))) f_3182 fw_X5_12 rfl dX5_value_43 ?_
        have f_3183 : F_3180 (ad 22) = .inr (3, [.ref (ad 23), .int (nI (A.1.2.1)), .int (nI (A.1.2.2.1)), .int (nI (A.1.2.2.2.1)), .int (nI (A.1.2.2.2.2.1))]) := (hp_3181 (ad 22) ).trans hn.1
        refine q_get C0 hw ((hL 22 (by omega))) f_3183 fw_X5_66 rfl dX5_value_46 ?_
        have f_3184 : F_3180 (ad 23) = .inr (2, [.int (nI (A.1.1)), .ref (ad 24), .ref (ad 25)]) := (hp_3181 (ad 23) ).trans hn.2.1
        refine q_get C0 hw ((hL 23 (by omega))) f_3184 fw_X5_93 rfl dX5_value_49 ?_
        refine lv_iload_n hx hb dX5_value_52 rfl (lv_at hl 2 rfl) ?_
        have f_3185 : F_3180 (ad 25) = oE G (fun i => ad (32 + i)) := (hp_3181 (ad 25) ).trans hn.2.2.2.1
        refine q_aaldi C0 hw ((hL 25 (by omega))) f_3185 (f9) (by omega) (by decide) (b := ad (32 + f9)) rfl dX5_value_53 ?_
        refine lv_astore (lv' := [(4, .ref (ad (32 + f9))), (0, .ref (ad 0)), (1, .int (nI (1))), (2, .int (nI (f9))), (3, .int (y9))]) hx hb dX5_value_54 hl (by decide) rfl (fun ls hl => ?_)
        refine lv_aload hx hb dX5_value_56 (lv_at hl 0 rfl) ?_
        refine lv_iload_n hx hb dX5_value_58 rfl (lv_at hl 4 rfl) ?_
        refine lv_sipush (v := nI 10007) hx hb dX5_value_59 (by decide) ?_
        refine q_calli hw (q_runS (As := [.int (y9), .int (nI (10007))]) (c_J9_floorMod_7cf53 l G L F_3180 y9) C0 hw sw_X5_117 rfl hl.1 rfl (Nat.le_of_ble_eq_true rfl) dX5_value_62 ⟨by decide, by decide⟩ ⟨by decide, by decide⟩) rfl rfl (fun r_3188 F_3186 H locs hw hp_3187 => ?_)
        obtain ⟨he_3189, o_3190⟩ := hp_3187
        subst he_3189
        have f_3191 : F_3180 (ad (32 + f9)) = rw7 G ((A.1.2.2.2.2.2 (6 + f9))) := (hp_3181 (ad (32 + f9)) ).trans ((show F (ad (32 + f9)) = _ from by have h9 := hn.2.2.2.2 (6 + f9) (by omega); rwa [show 22 + 4 + (6 + f9) = 32 + f9 by omega] at h9))
        have f_3192 : F_3186 (ad (32 + f9)) = rw7 G ((A.1.2.2.2.2.2 (6 + f9))) := (o_3190 (ad (32 + f9)) ).trans f_3191
        refine q_calli hw (q_runS (As := [.ref (ad (32 + f9)), .int (nI ((zi y9).val))]) (c_X1_valueAt l G L F_3186 (ad (32 + f9)) ((A.1.2.2.2.2.2 (6 + f9))) (zi y9) ((hL (32 + f9) (by omega))) f_3192) C0 hw sw_X5_194 rfl hl.1 rfl (Nat.le_of_ble_eq_true rfl) dX5_value_65 ⟨by decide, by decide⟩ ⟨by decide, by decide⟩) rfl rfl (fun r_3195 F_3193 H locs hw hp_3194 => ?_)
        obtain ⟨he_3196, o_3197⟩ := hp_3194
        subst he_3196
        have f_3198 : F_3186 (ad 0) = xO ad := (o_3190 (ad 0) ).trans f_3182
        have f_3199 : F_3193 (ad 0) = xO ad := (o_3197 (ad 0) ).trans f_3198
        have f_3200 : F_3180 (ad 134) = rw7 G u9 := (hp_3181 (ad 134) ).trans h134
        have f_3201 : F_3186 (ad 134) = rw7 G u9 := (o_3190 (ad 134) ).trans f_3200
        have f_3202 : F_3193 (ad 134) = rw7 G u9 := (o_3197 (ad 134) ).trans f_3201
        have f_3203 : F_3180 (ad 150) = rw7 G v9 := (hp_3181 (ad 150) ).trans h150
        have f_3204 : F_3186 (ad 150) = rw7 G v9 := (o_3190 (ad 150) ).trans f_3203
        have f_3205 : F_3193 (ad 150) = rw7 G v9 := (o_3197 (ad 150) ).trans f_3204
        exact r_i C0 hr hlk hw (v := nI ((m_val ((A.1.2.2.2.2.2 (6 + f9))) (zi y9)).val)) rfl ⟨rfl, ⟨f_3199, (hn.keep (fun i0 hi => ((o_3197 (ad (i0)) )).trans (((o_3190 (ad (i0)) )).trans ((hp_3181 (ad (i0)) ))))), (hh.keep (fun i0 hi => ((o_3197 (ad (i0)) )).trans (((o_3190 (ad (i0)) )).trans ((hp_3181 (ad (i0)) ))))), (hsn.keep (fun i0 hi => ((o_3197 (ad (i0)) )).trans (((o_3190 (ad (i0)) )).trans ((hp_3181 (ad (i0)) ))))), (htx.keep (fun i0 hi => ((o_3197 (ad (i0)) )).trans (((o_3190 (ad (i0)) )).trans ((hp_3181 (ad (i0)) ))))), (hrk.keep (fun i0 hi => ((o_3197 (ad (i0)) )).trans (((o_3190 (ad (i0)) )).trans ((hp_3181 (ad (i0)) ))))), ⟨_, f_3202⟩, ⟨_, f_3205⟩⟩, (fun q hq => ((o_3197 q ).trans ((o_3190 q ).trans (hp_3181 q ))))⟩ (Nat.le_refl _) (Nat.le_refl _) dX5_value_68 hQ
      · skip
        exact absurd c_24 (by omega)
    · skip
      exact absurd c_10 (by omega)
abbrev rm_X5_clash : Room := { frames := 3, cells := 0, slots := 0, locals := 75 }
set_option maxHeartbeats 4000000 in
set_option maxRecDepth 100000 in
theorem c_X5_clash (l : Launch) (G : Gl) (L : List Nat) (F : Nat → va_E) (ad : Nat → Nat) (hL : ∀ i, i < 166 → ad i ∈ L) (hin : ∀ i j, i < 166 → j < 166 → i ≠ j → ad i ≠ ad j) (A : AB) (f9 g9 : Nat) (hf9 : f9 < 6) (hg9 : g9 < 6) (hX : XW G F ad A) (hA : okA A) : CI l yX5_clash cX5_clash 3 (some .int) rm_X5_clash G L F [.ref (ad 0), .int (nI (f9)), .int (nI (g9))] (fun r F1 => r = lowR (m_br (A.1.2.2.2.2.2 f9) (A.1.2.2.2.2.2 g9) A.1.1) ∧ XW G F1 ad A ∧ ∀ q, (∀ i, (i < 166) → q ≠ ad i) → F1 q = F q) := by
  obtain ⟨fx, hn, hh, hsn, htx, hrk, ⟨u9, h134⟩, ⟨v9, h150⟩⟩ := hX
  obtain ⟨⟨hc2, hc, hpu, hok⟩, ⟨hh6, hho⟩, hso, hl60, hco⟩ := id hA
  obtain ⟨s_13, hs_13⟩ := hrk.2 13 (by decide)
  obtain ⟨s_12, hs_12⟩ := hrk.2 12 (by decide)
  obtain ⟨s_11, hs_11⟩ := hrk.2 11 (by decide)
  obtain ⟨s_10, hs_10⟩ := hrk.2 10 (by decide)
  obtain ⟨s_9, hs_9⟩ := hrk.2 9 (by decide)
  obtain ⟨s_8, hs_8⟩ := hrk.2 8 (by decide)
  obtain ⟨s_7, hs_7⟩ := hrk.2 7 (by decide)
  obtain ⟨s_6, hs_6⟩ := hrk.2 6 (by decide)
  obtain ⟨s_5, hs_5⟩ := hrk.2 5 (by decide)
  obtain ⟨s_4, hs_4⟩ := hrk.2 4 (by decide)
  obtain ⟨s_3, hs_3⟩ := hrk.2 3 (by decide)
  obtain ⟨s_2, hs_2⟩ := hrk.2 2 (by decide)
  obtain ⟨s_1, hs_1⟩ := hrk.2 1 (by decide)
  obtain ⟨s_0, hs_0⟩ := hrk.2 0 (by decide)
  refine CG_of (by decide) (Nat.le_of_ble_eq_true rfl) rfl ?_
  intro p e s m args below meth c Q C0 hr hlk hnm hQ hw ls hl
  have hx := C0.x
  have hb := C0.b
  refine lv_iload_n hx hb dX5_clash_0 rfl (lv_at hl 1 rfl) ?_
  refine q_callv hw (q_runS (As := [.int (nI (f9))]) (c_X5_needSlot l G L F f9 (by omega)) C0 hw sw_X5_78 rfl hl.1 rfl (Nat.le_of_ble_eq_true rfl) dX5_clash_1 ⟨by decide, by decide⟩ ⟨by decide, by decide⟩) rfl rfl (fun F_3206 H locs hw hp_3207 => ?_)
  refine lv_iload_n hx hb dX5_clash_4 rfl (lv_at hl 2 rfl) ?_
  refine q_callv hw (q_runS (As := [.int (nI (g9))]) (c_X5_needSlot l G L F_3206 g9 (by omega)) C0 hw sw_X5_78 rfl hl.1 rfl (Nat.le_of_ble_eq_true rfl) dX5_clash_5 ⟨by decide, by decide⟩ ⟨by decide, by decide⟩) rfl rfl (fun F_3208 H locs hw hp_3209 => ?_)
  refine lv_aload_n hx hb dX5_clash_8 rfl (lv_at hl 0 rfl) ?_
  have f_3210 : F_3206 (ad 0) = xO ad := (hp_3207 (ad 0) ).trans fx
  have f_3211 : F_3208 (ad 0) = xO ad := (hp_3209 (ad 0) ).trans f_3210
  refine q_get C0 hw ((hL 0 (by omega))) f_3211 fw_X5_44 rfl dX5_clash_9 ?_
  refine lv_aload_n hx hb dX5_clash_12 rfl (lv_at hl 0 rfl) ?_
  refine q_get C0 hw ((hL 0 (by omega))) f_3211 fw_X5_12 rfl dX5_clash_13 ?_
  have f_3212 : F_3206 (ad 22) = .inr (3, [.ref (ad 23), .int (nI (A.1.2.1)), .int (nI (A.1.2.2.1)), .int (nI (A.1.2.2.2.1)), .int (nI (A.1.2.2.2.2.1))]) := (hp_3207 (ad 22) ).trans hn.1
  have f_3213 : F_3208 (ad 22) = .inr (3, [.ref (ad 23), .int (nI (A.1.2.1)), .int (nI (A.1.2.2.1)), .int (nI (A.1.2.2.2.1)), .int (nI (A.1.2.2.2.2.1))]) := (hp_3209 (ad 22) ).trans f_3212
  refine q_get C0 hw ((hL 22 (by omega))) f_3213 fw_X5_66 rfl dX5_clash_16 ?_
  have f_3214 : F_3206 (ad 23) = .inr (2, [.int (nI (A.1.1)), .ref (ad 24), .ref (ad 25)]) := (hp_3207 (ad 23) ).trans hn.2.1
  have f_3215 : F_3208 (ad 23) = .inr (2, [.int (nI (A.1.1)), .ref (ad 24), .ref (ad 25)]) := (hp_3209 (ad 23) ).trans f_3214
  refine q_get C0 hw ((hL 23 (by omega))) f_3215 fw_X5_85 rfl dX5_clash_19 ?_
  refine lv_iload_n hx hb dX5_clash_22 rfl (lv_at hl 1 rfl) ?_
  have f_3216 : F_3206 (ad 24) = oE G (fun i => ad (26 + i)) := (hp_3207 (ad 24) ).trans hn.2.2.1
  have f_3217 : F_3208 (ad 24) = oE G (fun i => ad (26 + i)) := (hp_3209 (ad 24) ).trans f_3216
  refine q_aaldi C0 hw ((hL 24 (by omega))) f_3217 (f9) (by omega) (by decide) (b := ad (26 + f9)) rfl dX5_clash_23 ?_
  refine lv_aload_n hx hb dX5_clash_24 rfl (lv_at hl 0 rfl) ?_
  refine q_get C0 hw ((hL 0 (by omega))) f_3211 fw_X5_12 rfl dX5_clash_25 ?_
  refine q_get C0 hw ((hL 22 (by omega))) f_3213 fw_X5_66 rfl dX5_clash_28 ?_
  refine q_get C0 hw ((hL 23 (by omega))) f_3215 fw_X5_85 rfl dX5_clash_31 ?_
  refine lv_iload_n hx hb dX5_clash_34 rfl (lv_at hl 2 rfl) ?_
  refine q_aaldi C0 hw ((hL 24 (by omega))) f_3217 (g9) (by omega) (by decide) (b := ad (26 + g9)) rfl dX5_clash_35 ?_
  refine lv_aload_n hx hb dX5_clash_36 rfl (lv_at hl 0 rfl) ?_
  refine q_get C0 hw ((hL 0 (by omega))) f_3211 fw_X5_12 rfl dX5_clash_37 ?_
  refine q_get C0 hw ((hL 22 (by omega))) f_3213 fw_X5_66 rfl dX5_clash_40 ?_
  refine q_get C0 hw ((hL 23 (by omega))) f_3215 fw_X5_70 rfl dX5_clash_43 ?_
  refine lv_aload_n hx hb dX5_clash_46 rfl (lv_at hl 0 rfl) ?_
  refine q_get C0 hw ((hL 0 (by omega))) f_3211 fw_X5_48 rfl dX5_clash_47 ?_
  have f_3218 : F_3206 (ad (26 + f9)) = rw7 G ((A.1.2.2.2.2.2 f9)) := (hp_3207 (ad (26 + f9)) ).trans ((hn.2.2.2.2 f9 (by omega)))
  have f_3219 : F_3208 (ad (26 + f9)) = rw7 G ((A.1.2.2.2.2.2 f9)) := (hp_3209 (ad (26 + f9)) ).trans f_3218
  have f_3220 : F_3206 (ad (26 + g9)) = rw7 G ((A.1.2.2.2.2.2 g9)) := (hp_3207 (ad (26 + g9)) ).trans ((hn.2.2.2.2 g9 (by omega)))
  have f_3221 : F_3208 (ad (26 + g9)) = rw7 G ((A.1.2.2.2.2.2 g9)) := (hp_3209 (ad (26 + g9)) ).trans f_3220
  have f_3222 : F_3206 (ad 134) = rw7 G u9 := (hp_3207 (ad 134) ).trans h134
  have f_3223 : F_3208 (ad 134) = rw7 G u9 := (hp_3209 (ad 134) ).trans f_3222
  have f_3224 : F_3206 (ad 8) = rw7 G s_0 := (hp_3207 (ad 8) ).trans hs_0
  have f_3225 : F_3208 (ad 8) = rw7 G s_0 := (hp_3209 (ad 8) ).trans f_3224
  have f_3226 : F_3206 (ad 7) = rkO (fun i => ad (8 + i)) := (hp_3207 (ad 7) ).trans hrk.1
  have f_3227 : F_3208 (ad 7) = rkO (fun i => ad (8 + i)) := (hp_3209 (ad 7) ).trans f_3226
  refine q_callv hw (q_runV (As := [.ref (ad (26 + f9)), .ref (ad (26 + g9)), .int (nI (A.1.1)), .ref (ad 134)]) (c_X1_takeBracket l G L F_3208 (ad 7) (fun i => ad (8 + i)) (ad (26 + f9)) (ad (26 + g9)) (ad 134) (A.1.1) ((A.1.2.2.2.2.2 f9)) ((A.1.2.2.2.2.2 g9)) u9 s_0  ((hL 7 (by omega))) f_3227 (fun i hi => hL (8 + i) (by omega)) (ra_inj hin) ((hL (26 + f9) (by omega))) f_3219 ((hL (26 + g9) (by omega))) f_3221 ((hL 134 (by omega))) f_3223 f_3225 (hin (26 + f9) 134 (by omega) (by omega) (by omega)) (hin (26 + g9) 134 (by omega) (by omega) (by omega)) (hin (26 + f9) 8 (by omega) (by omega) (by omega)) (hin (26 + g9) 8 (by omega) (by omega) (by omega)) (hin 134 8 (by omega) (by omega) (by omega)) (by omega) (by omega) ) C0 hw vw_X5_198 ((hL 7 (by omega))) f_3227 rfl rfl rfl hl.1 rfl (Nat.le_of_ble_eq_true rfl) dX5_clash_50 ⟨by decide, by decide⟩ ⟨by decide, by decide⟩) rfl rfl (fun F_3228 H locs hw hp_3229 => ?_)
  obtain ⟨f_3230, ⟨t_3232, f_3231⟩, o_3233⟩ := hp_3229
  refine lv_aload_n hx hb dX5_clash_53 rfl (lv_at hl 0 rfl) ?_
  have f_3234 : F_3228 (ad 0) = xO ad := (o_3233 (ad 0) (hin 0 134 (by omega) (by omega) (by omega)) (hin 0 8 (by omega) (by omega) (by omega))).trans f_3211
  refine q_get C0 hw ((hL 0 (by omega))) f_3234 fw_X5_48 rfl dX5_clash_54 ?_
  refine q_calli hw (q_runS (As := [.ref (ad 134)]) (c_X1_lowestPower l G L F_3228 (ad 134) ((m_br ((A.1.2.2.2.2.2 f9)) ((A.1.2.2.2.2.2 g9)) (A.1.1))) ((hL 134 (by omega))) f_3230) C0 hw sw_X5_202 rfl hl.1 rfl (Nat.le_of_ble_eq_true rfl) dX5_clash_57 ⟨by decide, by decide⟩ ⟨by decide, by decide⟩) rfl rfl (fun r_3237 F_3235 H locs hw hp_3236 => ?_)
  obtain ⟨he_3238, o_3239⟩ := hp_3236
  subst he_3238
  have f_3240 : F_3228 (ad 7) = rkO (fun i => ad (8 + i)) := (o_3233 (ad 7) (hin 7 134 (by omega) (by omega) (by omega)) (hin 7 8 (by omega) (by omega) (by omega))).trans f_3227
  have f_3241 : F_3235 (ad 7) = rkO (fun i => ad (8 + i)) := (o_3239 (ad 7) ).trans f_3240
  have f_3242 : F_3235 (ad 8) = rw7 G t_3232 := (o_3239 (ad 8) ).trans f_3231
  have f_3243 : F_3206 (ad 9) = rw7 G s_1 := (hp_3207 (ad 9) ).trans hs_1
  have f_3244 : F_3208 (ad 9) = rw7 G s_1 := (hp_3209 (ad 9) ).trans f_3243
  have f_3245 : F_3228 (ad 9) = rw7 G s_1 := (o_3233 (ad 9) (hin 9 134 (by omega) (by omega) (by omega)) (hin 9 8 (by omega) (by omega) (by omega))).trans f_3244
  have f_3246 : F_3235 (ad 9) = rw7 G s_1 := (o_3239 (ad 9) ).trans f_3245
  have f_3247 : F_3206 (ad 10) = rw7 G s_2 := (hp_3207 (ad 10) ).trans hs_2
  have f_3248 : F_3208 (ad 10) = rw7 G s_2 := (hp_3209 (ad 10) ).trans f_3247
  have f_3249 : F_3228 (ad 10) = rw7 G s_2 := (o_3233 (ad 10) (hin 10 134 (by omega) (by omega) (by omega)) (hin 10 8 (by omega) (by omega) (by omega))).trans f_3248
  have f_3250 : F_3235 (ad 10) = rw7 G s_2 := (o_3239 (ad 10) ).trans f_3249
  have f_3251 : F_3206 (ad 11) = rw7 G s_3 := (hp_3207 (ad 11) ).trans hs_3
  have f_3252 : F_3208 (ad 11) = rw7 G s_3 := (hp_3209 (ad 11) ).trans f_3251
  have f_3253 : F_3228 (ad 11) = rw7 G s_3 := (o_3233 (ad 11) (hin 11 134 (by omega) (by omega) (by omega)) (hin 11 8 (by omega) (by omega) (by omega))).trans f_3252
  have f_3254 : F_3235 (ad 11) = rw7 G s_3 := (o_3239 (ad 11) ).trans f_3253
  have f_3255 : F_3206 (ad 12) = rw7 G s_4 := (hp_3207 (ad 12) ).trans hs_4
  have f_3256 : F_3208 (ad 12) = rw7 G s_4 := (hp_3209 (ad 12) ).trans f_3255
  have f_3257 : F_3228 (ad 12) = rw7 G s_4 := (o_3233 (ad 12) (hin 12 134 (by omega) (by omega) (by omega)) (hin 12 8 (by omega) (by omega) (by omega))).trans f_3256
  have f_3258 : F_3235 (ad 12) = rw7 G s_4 := (o_3239 (ad 12) ).trans f_3257
  have f_3259 : F_3206 (ad 13) = rw7 G s_5 := (hp_3207 (ad 13) ).trans hs_5
  have f_3260 : F_3208 (ad 13) = rw7 G s_5 := (hp_3209 (ad 13) ).trans f_3259
  have f_3261 : F_3228 (ad 13) = rw7 G s_5 := (o_3233 (ad 13) (hin 13 134 (by omega) (by omega) (by omega)) (hin 13 8 (by omega) (by omega) (by omega))).trans f_3260
  have f_3262 : F_3235 (ad 13) = rw7 G s_5 := (o_3239 (ad 13) ).trans f_3261
  have f_3263 : F_3206 (ad 14) = rw7 G s_6 := (hp_3207 (ad 14) ).trans hs_6
  have f_3264 : F_3208 (ad 14) = rw7 G s_6 := (hp_3209 (ad 14) ).trans f_3263
  have f_3265 : F_3228 (ad 14) = rw7 G s_6 := (o_3233 (ad 14) (hin 14 134 (by omega) (by omega) (by omega)) (hin 14 8 (by omega) (by omega) (by omega))).trans f_3264
  have f_3266 : F_3235 (ad 14) = rw7 G s_6 := (o_3239 (ad 14) ).trans f_3265
  have f_3267 : F_3206 (ad 15) = rw7 G s_7 := (hp_3207 (ad 15) ).trans hs_7
  have f_3268 : F_3208 (ad 15) = rw7 G s_7 := (hp_3209 (ad 15) ).trans f_3267
  have f_3269 : F_3228 (ad 15) = rw7 G s_7 := (o_3233 (ad 15) (hin 15 134 (by omega) (by omega) (by omega)) (hin 15 8 (by omega) (by omega) (by omega))).trans f_3268
  have f_3270 : F_3235 (ad 15) = rw7 G s_7 := (o_3239 (ad 15) ).trans f_3269
  have f_3271 : F_3206 (ad 16) = rw7 G s_8 := (hp_3207 (ad 16) ).trans hs_8
  have f_3272 : F_3208 (ad 16) = rw7 G s_8 := (hp_3209 (ad 16) ).trans f_3271
  have f_3273 : F_3228 (ad 16) = rw7 G s_8 := (o_3233 (ad 16) (hin 16 134 (by omega) (by omega) (by omega)) (hin 16 8 (by omega) (by omega) (by omega))).trans f_3272
  have f_3274 : F_3235 (ad 16) = rw7 G s_8 := (o_3239 (ad 16) ).trans f_3273
  have f_3275 : F_3206 (ad 17) = rw7 G s_9 := (hp_3207 (ad 17) ).trans hs_9
  have f_3276 : F_3208 (ad 17) = rw7 G s_9 := (hp_3209 (ad 17) ).trans f_3275
  have f_3277 : F_3228 (ad 17) = rw7 G s_9 := (o_3233 (ad 17) (hin 17 134 (by omega) (by omega) (by omega)) (hin 17 8 (by omega) (by omega) (by omega))).trans f_3276
  have f_3278 : F_3235 (ad 17) = rw7 G s_9 := (o_3239 (ad 17) ).trans f_3277
  have f_3279 : F_3206 (ad 18) = rw7 G s_10 := (hp_3207 (ad 18) ).trans hs_10
  have f_3280 : F_3208 (ad 18) = rw7 G s_10 := (hp_3209 (ad 18) ).trans f_3279
  have f_3281 : F_3228 (ad 18) = rw7 G s_10 := (o_3233 (ad 18) (hin 18 134 (by omega) (by omega) (by omega)) (hin 18 8 (by omega) (by omega) (by omega))).trans f_3280
  have f_3282 : F_3235 (ad 18) = rw7 G s_10 := (o_3239 (ad 18) ).trans f_3281
  have f_3283 : F_3206 (ad 19) = rw7 G s_11 := (hp_3207 (ad 19) ).trans hs_11
  have f_3284 : F_3208 (ad 19) = rw7 G s_11 := (hp_3209 (ad 19) ).trans f_3283
  have f_3285 : F_3228 (ad 19) = rw7 G s_11 := (o_3233 (ad 19) (hin 19 134 (by omega) (by omega) (by omega)) (hin 19 8 (by omega) (by omega) (by omega))).trans f_3284
  have f_3286 : F_3235 (ad 19) = rw7 G s_11 := (o_3239 (ad 19) ).trans f_3285
  have f_3287 : F_3206 (ad 20) = rw7 G s_12 := (hp_3207 (ad 20) ).trans hs_12
  have f_3288 : F_3208 (ad 20) = rw7 G s_12 := (hp_3209 (ad 20) ).trans f_3287
  have f_3289 : F_3228 (ad 20) = rw7 G s_12 := (o_3233 (ad 20) (hin 20 134 (by omega) (by omega) (by omega)) (hin 20 8 (by omega) (by omega) (by omega))).trans f_3288
  have f_3290 : F_3235 (ad 20) = rw7 G s_12 := (o_3239 (ad 20) ).trans f_3289
  have f_3291 : F_3206 (ad 21) = rw7 G s_13 := (hp_3207 (ad 21) ).trans hs_13
  have f_3292 : F_3208 (ad 21) = rw7 G s_13 := (hp_3209 (ad 21) ).trans f_3291
  have f_3293 : F_3228 (ad 21) = rw7 G s_13 := (o_3233 (ad 21) (hin 21 134 (by omega) (by omega) (by omega)) (hin 21 8 (by omega) (by omega) (by omega))).trans f_3292
  have f_3294 : F_3235 (ad 21) = rw7 G s_13 := (o_3239 (ad 21) ).trans f_3293
  have f_3295 : F_3235 (ad 0) = xO ad := (o_3239 (ad 0) ).trans f_3234
  have f_3296 : F_3235 (ad 134) = rw7 G ((m_br ((A.1.2.2.2.2.2 f9)) ((A.1.2.2.2.2.2 g9)) (A.1.1))) := (o_3239 (ad 134) ).trans f_3230
  have f_3297 : F_3206 (ad 150) = rw7 G v9 := (hp_3207 (ad 150) ).trans h150
  have f_3298 : F_3208 (ad 150) = rw7 G v9 := (hp_3209 (ad 150) ).trans f_3297
  have f_3299 : F_3228 (ad 150) = rw7 G v9 := (o_3233 (ad 150) (hin 150 134 (by omega) (by omega) (by omega)) (hin 150 8 (by omega) (by omega) (by omega))).trans f_3298
  have f_3300 : F_3235 (ad 150) = rw7 G v9 := (o_3239 (ad 150) ).trans f_3299
  exact r_i C0 hr hlk hw (v := (m_low (fun k => decide (((m_br ((A.1.2.2.2.2.2 f9)) ((A.1.2.2.2.2.2 g9)) (A.1.1))) k ≠ 0)))) rfl ⟨rfl, ⟨f_3295, (hn.keep (fun i0 hi => ((o_3239 (ad (i0)) )).trans (((o_3233 (ad (i0)) (hin (i0) 134 (by omega) (by omega) (by omega)) (hin (i0) 8 (by omega) (by omega) (by omega)))).trans (((hp_3209 (ad (i0)) )).trans ((hp_3207 (ad (i0)) )))))), (hh.keep (fun i0 hi => ((o_3239 (ad (i0)) )).trans (((o_3233 (ad (i0)) (hin (i0) 134 (by omega) (by omega) (by omega)) (hin (i0) 8 (by omega) (by omega) (by omega)))).trans (((hp_3209 (ad (i0)) )).trans ((hp_3207 (ad (i0)) )))))), (hsn.keep (fun i0 hi => ((o_3239 (ad (i0)) )).trans (((o_3233 (ad (i0)) (hin (i0) 134 (by omega) (by omega) (by omega)) (hin (i0) 8 (by omega) (by omega) (by omega)))).trans (((hp_3209 (ad (i0)) )).trans ((hp_3207 (ad (i0)) )))))), (htx.keep (fun i0 hi => ((o_3239 (ad (i0)) )).trans (((o_3233 (ad (i0)) (hin (i0) 134 (by omega) (by omega) (by omega)) (hin (i0) 8 (by omega) (by omega) (by omega)))).trans (((hp_3209 (ad (i0)) )).trans ((hp_3207 (ad (i0)) )))))), ⟨f_3241, lt14 ⟨_, f_3242⟩ ⟨_, f_3246⟩ ⟨_, f_3250⟩ ⟨_, f_3254⟩ ⟨_, f_3258⟩ ⟨_, f_3262⟩ ⟨_, f_3266⟩ ⟨_, f_3270⟩ ⟨_, f_3274⟩ ⟨_, f_3278⟩ ⟨_, f_3282⟩ ⟨_, f_3286⟩ ⟨_, f_3290⟩ ⟨_, f_3294⟩⟩, ⟨_, f_3296⟩, ⟨_, f_3300⟩⟩, (fun q hq => ((o_3239 q ).trans ((o_3233 q (hq 134 (by omega)) (hq 8 (by omega))).trans ((hp_3209 q ).trans (hp_3207 q )))))⟩ (Nat.le_refl _) (Nat.le_refl _) dX5_clash_60 hQ
abbrev rm_X5_apart : Room := { frames := 2, cells := 0, slots := 0, locals := 65 }
set_option maxHeartbeats 4000000 in
set_option maxRecDepth 100000 in
theorem c_X5_apart (l : Launch) (G : Gl) (L : List Nat) (F : Nat → va_E) (ad : Nat → Nat) (hL : ∀ i, i < 166 → ad i ∈ L) (hin : ∀ i j, i < 166 → j < 166 → i ≠ j → ad i ≠ ad j) (A : AB) (f9 g9 : Nat) (hf9 : f9 < 6) (hg9 : g9 < 6) (hX : XW G F ad A) (hA : okA A) : CI l yX5_apart cX5_apart 3 (some .int) rm_X5_apart G L F [.ref (ad 0), .int (nI (f9)), .int (nI (g9))] (fun r F1 => r = m_low (fun k => decide ((m_sub (A.1.2.2.2.2.2 (6 + f9)) (A.1.2.2.2.2.2 (6 + g9)) A.1.1) k ≠ (m_sub (A.1.2.2.2.2.2 (6 + g9)) (A.1.2.2.2.2.2 (6 + f9)) A.1.1) k)) ∧ XW G F1 ad A ∧ ∀ q, (∀ i, (i < 166) → q ≠ ad i) → F1 q = F q) := by
  obtain ⟨fx, hn, hh, hsn, htx, hrk, ⟨u9, h134⟩, ⟨v9, h150⟩⟩ := hX
  obtain ⟨⟨hc2, hc, hpu, hok⟩, ⟨hh6, hho⟩, hso, hl60, hco⟩ := id hA
  obtain ⟨s_13, hs_13⟩ := hrk.2 13 (by decide)
  obtain ⟨s_12, hs_12⟩ := hrk.2 12 (by decide)
  obtain ⟨s_11, hs_11⟩ := hrk.2 11 (by decide)
  obtain ⟨s_10, hs_10⟩ := hrk.2 10 (by decide)
  obtain ⟨s_9, hs_9⟩ := hrk.2 9 (by decide)
  obtain ⟨s_8, hs_8⟩ := hrk.2 8 (by decide)
  obtain ⟨s_7, hs_7⟩ := hrk.2 7 (by decide)
  obtain ⟨s_6, hs_6⟩ := hrk.2 6 (by decide)
  obtain ⟨s_5, hs_5⟩ := hrk.2 5 (by decide)
  obtain ⟨s_4, hs_4⟩ := hrk.2 4 (by decide)
  obtain ⟨s_3, hs_3⟩ := hrk.2 3 (by decide)
  obtain ⟨s_2, hs_2⟩ := hrk.2 2 (by decide)
  obtain ⟨s_1, hs_1⟩ := hrk.2 1 (by decide)
  obtain ⟨s_0, hs_0⟩ := hrk.2 0 (by decide)
  refine CG_of (by decide) (Nat.le_of_ble_eq_true rfl) rfl ?_
  intro p e s m args below meth c Q C0 hr hlk hnm hQ hw ls hl
  have hx := C0.x
  have hb := C0.b
  refine lv_iload_n hx hb dX5_apart_0 rfl (lv_at hl 1 rfl) ?_
  refine q_callv hw (q_runS (As := [.int (nI (f9))]) (c_X5_needSlot l G L F f9 (by omega)) C0 hw sw_X5_78 rfl hl.1 rfl (Nat.le_of_ble_eq_true rfl) dX5_apart_1 ⟨by decide, by decide⟩ ⟨by decide, by decide⟩) rfl rfl (fun F_3301 H locs hw hp_3302 => ?_)
  refine lv_iload_n hx hb dX5_apart_4 rfl (lv_at hl 2 rfl) ?_
  refine q_callv hw (q_runS (As := [.int (nI (g9))]) (c_X5_needSlot l G L F_3301 g9 (by omega)) C0 hw sw_X5_78 rfl hl.1 rfl (Nat.le_of_ble_eq_true rfl) dX5_apart_5 ⟨by decide, by decide⟩ ⟨by decide, by decide⟩) rfl rfl (fun F_3303 H locs hw hp_3304 => ?_)
  refine lv_aload_n hx hb dX5_apart_8 rfl (lv_at hl 0 rfl) ?_
  have f_3305 : F_3301 (ad 0) = xO ad := (hp_3302 (ad 0) ).trans fx
  have f_3306 : F_3303 (ad 0) = xO ad := (hp_3304 (ad 0) ).trans f_3305
  refine q_get C0 hw ((hL 0 (by omega))) f_3306 fw_X5_44 rfl dX5_apart_9 ?_
  refine lv_aload_n hx hb dX5_apart_12 rfl (lv_at hl 0 rfl) ?_
  refine q_get C0 hw ((hL 0 (by omega))) f_3306 fw_X5_12 rfl dX5_apart_13 ?_
  have f_3307 : F_3301 (ad 22) = .inr (3, [.ref (ad 23), .int (nI (A.1.2.1)), .int (nI (A.1.2.2.1)), .int (nI (A.1.2.2.2.1)), .int (nI (A.1.2.2.2.2.1))]) := (hp_3302 (ad 22) ).trans hn.1
  have f_3308 : F_3303 (ad 22) = .inr (3, [.ref (ad 23), .int (nI (A.1.2.1)), .int (nI (A.1.2.2.1)), .int (nI (A.1.2.2.2.1)), .int (nI (A.1.2.2.2.2.1))]) := (hp_3304 (ad 22) ).trans f_3307
  refine q_get C0 hw ((hL 22 (by omega))) f_3308 fw_X5_66 rfl dX5_apart_16 ?_
  have f_3309 : F_3301 (ad 23) = .inr (2, [.int (nI (A.1.1)), .ref (ad 24), .ref (ad 25)]) := (hp_3302 (ad 23) ).trans hn.2.1
  have f_3310 : F_3303 (ad 23) = .inr (2, [.int (nI (A.1.1)), .ref (ad 24), .ref (ad 25)]) := (hp_3304 (ad 23) ).trans f_3309
  refine q_get C0 hw ((hL 23 (by omega))) f_3310 fw_X5_93 rfl dX5_apart_19 ?_
  refine lv_iload_n hx hb dX5_apart_22 rfl (lv_at hl 1 rfl) ?_
  have f_3311 : F_3301 (ad 25) = oE G (fun i => ad (32 + i)) := (hp_3302 (ad 25) ).trans hn.2.2.2.1
  have f_3312 : F_3303 (ad 25) = oE G (fun i => ad (32 + i)) := (hp_3304 (ad 25) ).trans f_3311
  refine q_aaldi C0 hw ((hL 25 (by omega))) f_3312 (f9) (by omega) (by decide) (b := ad (32 + f9)) rfl dX5_apart_23 ?_
  refine lv_aload_n hx hb dX5_apart_24 rfl (lv_at hl 0 rfl) ?_
  refine q_get C0 hw ((hL 0 (by omega))) f_3306 fw_X5_12 rfl dX5_apart_25 ?_
  refine q_get C0 hw ((hL 22 (by omega))) f_3308 fw_X5_66 rfl dX5_apart_28 ?_
  refine q_get C0 hw ((hL 23 (by omega))) f_3310 fw_X5_93 rfl dX5_apart_31 ?_
  refine lv_iload_n hx hb dX5_apart_34 rfl (lv_at hl 2 rfl) ?_
  refine q_aaldi C0 hw ((hL 25 (by omega))) f_3312 (g9) (by omega) (by decide) (b := ad (32 + g9)) rfl dX5_apart_35 ?_
  refine lv_aload_n hx hb dX5_apart_36 rfl (lv_at hl 0 rfl) ?_
  refine q_get C0 hw ((hL 0 (by omega))) f_3306 fw_X5_12 rfl dX5_apart_37 ?_
  refine q_get C0 hw ((hL 22 (by omega))) f_3308 fw_X5_66 rfl dX5_apart_40 ?_
  refine q_get C0 hw ((hL 23 (by omega))) f_3310 fw_X5_70 rfl dX5_apart_43 ?_
  refine lv_aload_n hx hb dX5_apart_46 rfl (lv_at hl 0 rfl) ?_
  refine q_get C0 hw ((hL 0 (by omega))) f_3306 fw_X5_48 rfl dX5_apart_47 ?_
  have f_3313 : F_3301 (ad (32 + f9)) = rw7 G ((A.1.2.2.2.2.2 (6 + f9))) := (hp_3302 (ad (32 + f9)) ).trans ((show F (ad (32 + f9)) = _ from by have h9 := hn.2.2.2.2 (6 + f9) (by omega); rwa [show 22 + 4 + (6 + f9) = 32 + f9 by omega] at h9))
  have f_3314 : F_3303 (ad (32 + f9)) = rw7 G ((A.1.2.2.2.2.2 (6 + f9))) := (hp_3304 (ad (32 + f9)) ).trans f_3313
  have f_3315 : F_3301 (ad (32 + g9)) = rw7 G ((A.1.2.2.2.2.2 (6 + g9))) := (hp_3302 (ad (32 + g9)) ).trans ((show F (ad (32 + g9)) = _ from by have h9 := hn.2.2.2.2 (6 + g9) (by omega); rwa [show 22 + 4 + (6 + g9) = 32 + g9 by omega] at h9))
  have f_3316 : F_3303 (ad (32 + g9)) = rw7 G ((A.1.2.2.2.2.2 (6 + g9))) := (hp_3304 (ad (32 + g9)) ).trans f_3315
  have f_3317 : F_3301 (ad 134) = rw7 G u9 := (hp_3302 (ad 134) ).trans h134
  have f_3318 : F_3303 (ad 134) = rw7 G u9 := (hp_3304 (ad 134) ).trans f_3317
  have f_3319 : F_3301 (ad 11) = rw7 G s_3 := (hp_3302 (ad 11) ).trans hs_3
  have f_3320 : F_3303 (ad 11) = rw7 G s_3 := (hp_3304 (ad 11) ).trans f_3319
  have f_3321 : F_3301 (ad 7) = rkO (fun i => ad (8 + i)) := (hp_3302 (ad 7) ).trans hrk.1
  have f_3322 : F_3303 (ad 7) = rkO (fun i => ad (8 + i)) := (hp_3304 (ad 7) ).trans f_3321
  refine q_callv hw (q_runV (As := [.ref (ad (32 + f9)), .ref (ad (32 + g9)), .int (nI (A.1.1)), .ref (ad 134)]) (c_X1_substitute l G L F_3303 (ad 7) (fun i => ad (8 + i)) (ad (32 + f9)) (ad (32 + g9)) (ad 134) (A.1.1) ((A.1.2.2.2.2.2 (6 + f9))) ((A.1.2.2.2.2.2 (6 + g9))) u9 s_3  ((hL 7 (by omega))) f_3322 (fun i hi => hL (8 + i) (by omega)) (ra_inj hin) ((hL (32 + f9) (by omega))) f_3314 ((hL (32 + g9) (by omega))) f_3316 ((hL 134 (by omega))) f_3318 f_3320 (hin (32 + f9) 134 (by omega) (by omega) (by omega)) (hin (32 + g9) 134 (by omega) (by omega) (by omega)) (hin (32 + f9) 11 (by omega) (by omega) (by omega)) (hin (32 + g9) 11 (by omega) (by omega) (by omega)) (hin 134 11 (by omega) (by omega) (by omega)) (by omega) (by omega) ) C0 hw vw_X5_205 ((hL 7 (by omega))) f_3322 rfl rfl rfl hl.1 rfl (Nat.le_of_ble_eq_true rfl) dX5_apart_50 ⟨by decide, by decide⟩ ⟨by decide, by decide⟩) rfl rfl (fun F_3323 H locs hw hp_3324 => ?_)
  obtain ⟨f_3325, ⟨t_3327, f_3326⟩, o_3328⟩ := hp_3324
  refine lv_aload_n hx hb dX5_apart_53 rfl (lv_at hl 0 rfl) ?_
  have f_3329 : F_3323 (ad 0) = xO ad := (o_3328 (ad 0) (hin 0 134 (by omega) (by omega) (by omega)) (hin 0 11 (by omega) (by omega) (by omega))).trans f_3306
  refine q_get C0 hw ((hL 0 (by omega))) f_3329 fw_X5_44 rfl dX5_apart_54 ?_
  refine lv_aload_n hx hb dX5_apart_57 rfl (lv_at hl 0 rfl) ?_
  refine q_get C0 hw ((hL 0 (by omega))) f_3329 fw_X5_12 rfl dX5_apart_58 ?_
  have f_3330 : F_3323 (ad 22) = .inr (3, [.ref (ad 23), .int (nI (A.1.2.1)), .int (nI (A.1.2.2.1)), .int (nI (A.1.2.2.2.1)), .int (nI (A.1.2.2.2.2.1))]) := (o_3328 (ad 22) (hin 22 134 (by omega) (by omega) (by omega)) (hin 22 11 (by omega) (by omega) (by omega))).trans f_3308
  refine q_get C0 hw ((hL 22 (by omega))) f_3330 fw_X5_66 rfl dX5_apart_61 ?_
  have f_3331 : F_3323 (ad 23) = .inr (2, [.int (nI (A.1.1)), .ref (ad 24), .ref (ad 25)]) := (o_3328 (ad 23) (hin 23 134 (by omega) (by omega) (by omega)) (hin 23 11 (by omega) (by omega) (by omega))).trans f_3310
  refine q_get C0 hw ((hL 23 (by omega))) f_3331 fw_X5_93 rfl dX5_apart_64 ?_
  refine lv_iload_n hx hb dX5_apart_67 rfl (lv_at hl 2 rfl) ?_
  have f_3332 : F_3323 (ad 25) = oE G (fun i => ad (32 + i)) := (o_3328 (ad 25) (hin 25 134 (by omega) (by omega) (by omega)) (hin 25 11 (by omega) (by omega) (by omega))).trans f_3312
  refine q_aaldi C0 hw ((hL 25 (by omega))) f_3332 (g9) (by omega) (by decide) (b := ad (32 + g9)) rfl dX5_apart_68 ?_
  refine lv_aload_n hx hb dX5_apart_69 rfl (lv_at hl 0 rfl) ?_
  refine q_get C0 hw ((hL 0 (by omega))) f_3329 fw_X5_12 rfl dX5_apart_70 ?_
  refine q_get C0 hw ((hL 22 (by omega))) f_3330 fw_X5_66 rfl dX5_apart_73 ?_
  refine q_get C0 hw ((hL 23 (by omega))) f_3331 fw_X5_93 rfl dX5_apart_76 ?_
  refine lv_iload_n hx hb dX5_apart_79 rfl (lv_at hl 1 rfl) ?_
  refine q_aaldi C0 hw ((hL 25 (by omega))) f_3332 (f9) (by omega) (by decide) (b := ad (32 + f9)) rfl dX5_apart_80 ?_
  refine lv_aload_n hx hb dX5_apart_81 rfl (lv_at hl 0 rfl) ?_
  refine q_get C0 hw ((hL 0 (by omega))) f_3329 fw_X5_12 rfl dX5_apart_82 ?_
  refine q_get C0 hw ((hL 22 (by omega))) f_3330 fw_X5_66 rfl dX5_apart_85 ?_
  refine q_get C0 hw ((hL 23 (by omega))) f_3331 fw_X5_70 rfl dX5_apart_88 ?_
  refine lv_aload_n hx hb dX5_apart_91 rfl (lv_at hl 0 rfl) ?_
  refine q_get C0 hw ((hL 0 (by omega))) f_3329 fw_X5_52 rfl dX5_apart_92 ?_
  have f_3333 : F_3323 (ad (32 + g9)) = rw7 G ((A.1.2.2.2.2.2 (6 + g9))) := (o_3328 (ad (32 + g9)) (hin (32 + g9) 134 (by omega) (by omega) (by omega)) (hin (32 + g9) 11 (by omega) (by omega) (by omega))).trans f_3316
  have f_3334 : F_3323 (ad (32 + f9)) = rw7 G ((A.1.2.2.2.2.2 (6 + f9))) := (o_3328 (ad (32 + f9)) (hin (32 + f9) 134 (by omega) (by omega) (by omega)) (hin (32 + f9) 11 (by omega) (by omega) (by omega))).trans f_3314
  have f_3335 : F_3301 (ad 150) = rw7 G v9 := (hp_3302 (ad 150) ).trans h150
  have f_3336 : F_3303 (ad 150) = rw7 G v9 := (hp_3304 (ad 150) ).trans f_3335
  have f_3337 : F_3323 (ad 150) = rw7 G v9 := (o_3328 (ad 150) (hin 150 134 (by omega) (by omega) (by omega)) (hin 150 11 (by omega) (by omega) (by omega))).trans f_3336
  have f_3338 : F_3323 (ad 7) = rkO (fun i => ad (8 + i)) := (o_3328 (ad 7) (hin 7 134 (by omega) (by omega) (by omega)) (hin 7 11 (by omega) (by omega) (by omega))).trans f_3322
  refine q_callv hw (q_runV (As := [.ref (ad (32 + g9)), .ref (ad (32 + f9)), .int (nI (A.1.1)), .ref (ad 150)]) (c_X1_substitute l G L F_3323 (ad 7) (fun i => ad (8 + i)) (ad (32 + g9)) (ad (32 + f9)) (ad 150) (A.1.1) ((A.1.2.2.2.2.2 (6 + g9))) ((A.1.2.2.2.2.2 (6 + f9))) v9 t_3327  ((hL 7 (by omega))) f_3338 (fun i hi => hL (8 + i) (by omega)) (ra_inj hin) ((hL (32 + g9) (by omega))) f_3333 ((hL (32 + f9) (by omega))) f_3334 ((hL 150 (by omega))) f_3337 f_3326 (hin (32 + g9) 150 (by omega) (by omega) (by omega)) (hin (32 + f9) 150 (by omega) (by omega) (by omega)) (hin (32 + g9) 11 (by omega) (by omega) (by omega)) (hin (32 + f9) 11 (by omega) (by omega) (by omega)) (hin 150 11 (by omega) (by omega) (by omega)) (by omega) (by omega) ) C0 hw vw_X5_205 ((hL 7 (by omega))) f_3338 rfl rfl rfl hl.1 rfl (Nat.le_of_ble_eq_true rfl) dX5_apart_95 ⟨by decide, by decide⟩ ⟨by decide, by decide⟩) rfl rfl (fun F_3339 H locs hw hp_3340 => ?_)
  obtain ⟨f_3341, ⟨t_3343, f_3342⟩, o_3344⟩ := hp_3340
  refine lv_aload_n hx hb dX5_apart_98 rfl (lv_at hl 0 rfl) ?_
  have f_3345 : F_3339 (ad 0) = xO ad := (o_3344 (ad 0) (hin 0 150 (by omega) (by omega) (by omega)) (hin 0 11 (by omega) (by omega) (by omega))).trans f_3329
  refine q_get C0 hw ((hL 0 (by omega))) f_3345 fw_X5_48 rfl dX5_apart_99 ?_
  refine lv_aload_n hx hb dX5_apart_102 rfl (lv_at hl 0 rfl) ?_
  refine q_get C0 hw ((hL 0 (by omega))) f_3345 fw_X5_52 rfl dX5_apart_103 ?_
  have f_3346 : F_3339 (ad 134) = rw7 G ((m_sub ((A.1.2.2.2.2.2 (6 + f9))) ((A.1.2.2.2.2.2 (6 + g9))) (A.1.1))) := (o_3344 (ad 134) (hin 134 150 (by omega) (by omega) (by omega)) (hin 134 11 (by omega) (by omega) (by omega))).trans f_3325
  refine q_calli hw (q_runS (As := [.ref (ad 134), .ref (ad 150)]) (c_X1_lowestDifference l G L F_3339 (ad 134) (ad 150) ((m_sub ((A.1.2.2.2.2.2 (6 + f9))) ((A.1.2.2.2.2.2 (6 + g9))) (A.1.1))) ((m_sub ((A.1.2.2.2.2.2 (6 + g9))) ((A.1.2.2.2.2.2 (6 + f9))) (A.1.1))) ((hL 134 (by omega))) f_3346 ((hL 150 (by omega))) f_3341) C0 hw sw_X5_208 rfl hl.1 rfl (Nat.le_of_ble_eq_true rfl) dX5_apart_106 ⟨by decide, by decide⟩ ⟨by decide, by decide⟩) rfl rfl (fun r_3349 F_3347 H locs hw hp_3348 => ?_)
  obtain ⟨he_3350, o_3351⟩ := hp_3348
  subst he_3350
  have f_3352 : F_3339 (ad 7) = rkO (fun i => ad (8 + i)) := (o_3344 (ad 7) (hin 7 150 (by omega) (by omega) (by omega)) (hin 7 11 (by omega) (by omega) (by omega))).trans f_3338
  have f_3353 : F_3347 (ad 7) = rkO (fun i => ad (8 + i)) := (o_3351 (ad 7) ).trans f_3352
  have f_3354 : F_3301 (ad 8) = rw7 G s_0 := (hp_3302 (ad 8) ).trans hs_0
  have f_3355 : F_3303 (ad 8) = rw7 G s_0 := (hp_3304 (ad 8) ).trans f_3354
  have f_3356 : F_3323 (ad 8) = rw7 G s_0 := (o_3328 (ad 8) (hin 8 134 (by omega) (by omega) (by omega)) (hin 8 11 (by omega) (by omega) (by omega))).trans f_3355
  have f_3357 : F_3339 (ad 8) = rw7 G s_0 := (o_3344 (ad 8) (hin 8 150 (by omega) (by omega) (by omega)) (hin 8 11 (by omega) (by omega) (by omega))).trans f_3356
  have f_3358 : F_3347 (ad 8) = rw7 G s_0 := (o_3351 (ad 8) ).trans f_3357
  have f_3359 : F_3301 (ad 9) = rw7 G s_1 := (hp_3302 (ad 9) ).trans hs_1
  have f_3360 : F_3303 (ad 9) = rw7 G s_1 := (hp_3304 (ad 9) ).trans f_3359
  have f_3361 : F_3323 (ad 9) = rw7 G s_1 := (o_3328 (ad 9) (hin 9 134 (by omega) (by omega) (by omega)) (hin 9 11 (by omega) (by omega) (by omega))).trans f_3360
  have f_3362 : F_3339 (ad 9) = rw7 G s_1 := (o_3344 (ad 9) (hin 9 150 (by omega) (by omega) (by omega)) (hin 9 11 (by omega) (by omega) (by omega))).trans f_3361
  have f_3363 : F_3347 (ad 9) = rw7 G s_1 := (o_3351 (ad 9) ).trans f_3362
  have f_3364 : F_3301 (ad 10) = rw7 G s_2 := (hp_3302 (ad 10) ).trans hs_2
  have f_3365 : F_3303 (ad 10) = rw7 G s_2 := (hp_3304 (ad 10) ).trans f_3364
  have f_3366 : F_3323 (ad 10) = rw7 G s_2 := (o_3328 (ad 10) (hin 10 134 (by omega) (by omega) (by omega)) (hin 10 11 (by omega) (by omega) (by omega))).trans f_3365
  have f_3367 : F_3339 (ad 10) = rw7 G s_2 := (o_3344 (ad 10) (hin 10 150 (by omega) (by omega) (by omega)) (hin 10 11 (by omega) (by omega) (by omega))).trans f_3366
  have f_3368 : F_3347 (ad 10) = rw7 G s_2 := (o_3351 (ad 10) ).trans f_3367
  have f_3369 : F_3347 (ad 11) = rw7 G t_3343 := (o_3351 (ad 11) ).trans f_3342
  have f_3370 : F_3301 (ad 12) = rw7 G s_4 := (hp_3302 (ad 12) ).trans hs_4
  have f_3371 : F_3303 (ad 12) = rw7 G s_4 := (hp_3304 (ad 12) ).trans f_3370
  have f_3372 : F_3323 (ad 12) = rw7 G s_4 := (o_3328 (ad 12) (hin 12 134 (by omega) (by omega) (by omega)) (hin 12 11 (by omega) (by omega) (by omega))).trans f_3371
  have f_3373 : F_3339 (ad 12) = rw7 G s_4 := (o_3344 (ad 12) (hin 12 150 (by omega) (by omega) (by omega)) (hin 12 11 (by omega) (by omega) (by omega))).trans f_3372
  have f_3374 : F_3347 (ad 12) = rw7 G s_4 := (o_3351 (ad 12) ).trans f_3373
  have f_3375 : F_3301 (ad 13) = rw7 G s_5 := (hp_3302 (ad 13) ).trans hs_5
  have f_3376 : F_3303 (ad 13) = rw7 G s_5 := (hp_3304 (ad 13) ).trans f_3375
  have f_3377 : F_3323 (ad 13) = rw7 G s_5 := (o_3328 (ad 13) (hin 13 134 (by omega) (by omega) (by omega)) (hin 13 11 (by omega) (by omega) (by omega))).trans f_3376
  have f_3378 : F_3339 (ad 13) = rw7 G s_5 := (o_3344 (ad 13) (hin 13 150 (by omega) (by omega) (by omega)) (hin 13 11 (by omega) (by omega) (by omega))).trans f_3377
  have f_3379 : F_3347 (ad 13) = rw7 G s_5 := (o_3351 (ad 13) ).trans f_3378
  have f_3380 : F_3301 (ad 14) = rw7 G s_6 := (hp_3302 (ad 14) ).trans hs_6
  have f_3381 : F_3303 (ad 14) = rw7 G s_6 := (hp_3304 (ad 14) ).trans f_3380
  have f_3382 : F_3323 (ad 14) = rw7 G s_6 := (o_3328 (ad 14) (hin 14 134 (by omega) (by omega) (by omega)) (hin 14 11 (by omega) (by omega) (by omega))).trans f_3381
  have f_3383 : F_3339 (ad 14) = rw7 G s_6 := (o_3344 (ad 14) (hin 14 150 (by omega) (by omega) (by omega)) (hin 14 11 (by omega) (by omega) (by omega))).trans f_3382
  have f_3384 : F_3347 (ad 14) = rw7 G s_6 := (o_3351 (ad 14) ).trans f_3383
  have f_3385 : F_3301 (ad 15) = rw7 G s_7 := (hp_3302 (ad 15) ).trans hs_7
  have f_3386 : F_3303 (ad 15) = rw7 G s_7 := (hp_3304 (ad 15) ).trans f_3385
  have f_3387 : F_3323 (ad 15) = rw7 G s_7 := (o_3328 (ad 15) (hin 15 134 (by omega) (by omega) (by omega)) (hin 15 11 (by omega) (by omega) (by omega))).trans f_3386
  have f_3388 : F_3339 (ad 15) = rw7 G s_7 := (o_3344 (ad 15) (hin 15 150 (by omega) (by omega) (by omega)) (hin 15 11 (by omega) (by omega) (by omega))).trans f_3387
  have f_3389 : F_3347 (ad 15) = rw7 G s_7 := (o_3351 (ad 15) ).trans f_3388
  have f_3390 : F_3301 (ad 16) = rw7 G s_8 := (hp_3302 (ad 16) ).trans hs_8
  have f_3391 : F_3303 (ad 16) = rw7 G s_8 := (hp_3304 (ad 16) ).trans f_3390
  have f_3392 : F_3323 (ad 16) = rw7 G s_8 := (o_3328 (ad 16) (hin 16 134 (by omega) (by omega) (by omega)) (hin 16 11 (by omega) (by omega) (by omega))).trans f_3391
  have f_3393 : F_3339 (ad 16) = rw7 G s_8 := (o_3344 (ad 16) (hin 16 150 (by omega) (by omega) (by omega)) (hin 16 11 (by omega) (by omega) (by omega))).trans f_3392
  have f_3394 : F_3347 (ad 16) = rw7 G s_8 := (o_3351 (ad 16) ).trans f_3393
  have f_3395 : F_3301 (ad 17) = rw7 G s_9 := (hp_3302 (ad 17) ).trans hs_9
  have f_3396 : F_3303 (ad 17) = rw7 G s_9 := (hp_3304 (ad 17) ).trans f_3395
  have f_3397 : F_3323 (ad 17) = rw7 G s_9 := (o_3328 (ad 17) (hin 17 134 (by omega) (by omega) (by omega)) (hin 17 11 (by omega) (by omega) (by omega))).trans f_3396
  have f_3398 : F_3339 (ad 17) = rw7 G s_9 := (o_3344 (ad 17) (hin 17 150 (by omega) (by omega) (by omega)) (hin 17 11 (by omega) (by omega) (by omega))).trans f_3397
  have f_3399 : F_3347 (ad 17) = rw7 G s_9 := (o_3351 (ad 17) ).trans f_3398
  have f_3400 : F_3301 (ad 18) = rw7 G s_10 := (hp_3302 (ad 18) ).trans hs_10
  have f_3401 : F_3303 (ad 18) = rw7 G s_10 := (hp_3304 (ad 18) ).trans f_3400
  have f_3402 : F_3323 (ad 18) = rw7 G s_10 := (o_3328 (ad 18) (hin 18 134 (by omega) (by omega) (by omega)) (hin 18 11 (by omega) (by omega) (by omega))).trans f_3401
  have f_3403 : F_3339 (ad 18) = rw7 G s_10 := (o_3344 (ad 18) (hin 18 150 (by omega) (by omega) (by omega)) (hin 18 11 (by omega) (by omega) (by omega))).trans f_3402
  have f_3404 : F_3347 (ad 18) = rw7 G s_10 := (o_3351 (ad 18) ).trans f_3403
  have f_3405 : F_3301 (ad 19) = rw7 G s_11 := (hp_3302 (ad 19) ).trans hs_11
  have f_3406 : F_3303 (ad 19) = rw7 G s_11 := (hp_3304 (ad 19) ).trans f_3405
  have f_3407 : F_3323 (ad 19) = rw7 G s_11 := (o_3328 (ad 19) (hin 19 134 (by omega) (by omega) (by omega)) (hin 19 11 (by omega) (by omega) (by omega))).trans f_3406
  have f_3408 : F_3339 (ad 19) = rw7 G s_11 := (o_3344 (ad 19) (hin 19 150 (by omega) (by omega) (by omega)) (hin 19 11 (by omega) (by omega) (by omega))).trans f_3407
  have f_3409 : F_3347 (ad 19) = rw7 G s_11 := (o_3351 (ad 19) ).trans f_3408
  have f_3410 : F_3301 (ad 20) = rw7 G s_12 := (hp_3302 (ad 20) ).trans hs_12
  have f_3411 : F_3303 (ad 20) = rw7 G s_12 := (hp_3304 (ad 20) ).trans f_3410
  have f_3412 : F_3323 (ad 20) = rw7 G s_12 := (o_3328 (ad 20) (hin 20 134 (by omega) (by omega) (by omega)) (hin 20 11 (by omega) (by omega) (by omega))).trans f_3411
  have f_3413 : F_3339 (ad 20) = rw7 G s_12 := (o_3344 (ad 20) (hin 20 150 (by omega) (by omega) (by omega)) (hin 20 11 (by omega) (by omega) (by omega))).trans f_3412
  have f_3414 : F_3347 (ad 20) = rw7 G s_12 := (o_3351 (ad 20) ).trans f_3413
  have f_3415 : F_3301 (ad 21) = rw7 G s_13 := (hp_3302 (ad 21) ).trans hs_13
  have f_3416 : F_3303 (ad 21) = rw7 G s_13 := (hp_3304 (ad 21) ).trans f_3415
  have f_3417 : F_3323 (ad 21) = rw7 G s_13 := (o_3328 (ad 21) (hin 21 134 (by omega) (by omega) (by omega)) (hin 21 11 (by omega) (by omega) (by omega))).trans f_3416
  have f_3418 : F_3339 (ad 21) = rw7 G s_13 := (o_3344 (ad 21) (hin 21 150 (by omega) (by omega) (by omega)) (hin 21 11 (by omega) (by omega) (by omega))).trans f_3417
  have f_3419 : F_3347 (ad 21) = rw7 G s_13 := (o_3351 (ad 21) ).trans f_3418
  have f_3420 : F_3347 (ad 0) = xO ad := (o_3351 (ad 0) ).trans f_3345
  have f_3421 : F_3347 (ad 134) = rw7 G ((m_sub ((A.1.2.2.2.2.2 (6 + f9))) ((A.1.2.2.2.2.2 (6 + g9))) (A.1.1))) := (o_3351 (ad 134) ).trans f_3346
  have f_3422 : F_3347 (ad 150) = rw7 G ((m_sub ((A.1.2.2.2.2.2 (6 + g9))) ((A.1.2.2.2.2.2 (6 + f9))) (A.1.1))) := (o_3351 (ad 150) ).trans f_3341
  exact r_i C0 hr hlk hw (v := (m_low (fun k => decide (((m_sub ((A.1.2.2.2.2.2 (6 + f9))) ((A.1.2.2.2.2.2 (6 + g9))) (A.1.1))) k ≠ ((m_sub ((A.1.2.2.2.2.2 (6 + g9))) ((A.1.2.2.2.2.2 (6 + f9))) (A.1.1))) k)))) rfl ⟨rfl, ⟨f_3420, (hn.keep (fun i0 hi => ((o_3351 (ad (i0)) )).trans (((o_3344 (ad (i0)) (hin (i0) 150 (by omega) (by omega) (by omega)) (hin (i0) 11 (by omega) (by omega) (by omega)))).trans (((o_3328 (ad (i0)) (hin (i0) 134 (by omega) (by omega) (by omega)) (hin (i0) 11 (by omega) (by omega) (by omega)))).trans (((hp_3304 (ad (i0)) )).trans ((hp_3302 (ad (i0)) ))))))), (hh.keep (fun i0 hi => ((o_3351 (ad (i0)) )).trans (((o_3344 (ad (i0)) (hin (i0) 150 (by omega) (by omega) (by omega)) (hin (i0) 11 (by omega) (by omega) (by omega)))).trans (((o_3328 (ad (i0)) (hin (i0) 134 (by omega) (by omega) (by omega)) (hin (i0) 11 (by omega) (by omega) (by omega)))).trans (((hp_3304 (ad (i0)) )).trans ((hp_3302 (ad (i0)) ))))))), (hsn.keep (fun i0 hi => ((o_3351 (ad (i0)) )).trans (((o_3344 (ad (i0)) (hin (i0) 150 (by omega) (by omega) (by omega)) (hin (i0) 11 (by omega) (by omega) (by omega)))).trans (((o_3328 (ad (i0)) (hin (i0) 134 (by omega) (by omega) (by omega)) (hin (i0) 11 (by omega) (by omega) (by omega)))).trans (((hp_3304 (ad (i0)) )).trans ((hp_3302 (ad (i0)) ))))))), (htx.keep (fun i0 hi => ((o_3351 (ad (i0)) )).trans (((o_3344 (ad (i0)) (hin (i0) 150 (by omega) (by omega) (by omega)) (hin (i0) 11 (by omega) (by omega) (by omega)))).trans (((o_3328 (ad (i0)) (hin (i0) 134 (by omega) (by omega) (by omega)) (hin (i0) 11 (by omega) (by omega) (by omega)))).trans (((hp_3304 (ad (i0)) )).trans ((hp_3302 (ad (i0)) ))))))), ⟨f_3353, lt14 ⟨_, f_3358⟩ ⟨_, f_3363⟩ ⟨_, f_3368⟩ ⟨_, f_3369⟩ ⟨_, f_3374⟩ ⟨_, f_3379⟩ ⟨_, f_3384⟩ ⟨_, f_3389⟩ ⟨_, f_3394⟩ ⟨_, f_3399⟩ ⟨_, f_3404⟩ ⟨_, f_3409⟩ ⟨_, f_3414⟩ ⟨_, f_3419⟩⟩, ⟨_, f_3421⟩, ⟨_, f_3422⟩⟩, (fun q hq => ((o_3351 q ).trans ((o_3344 q (hq 150 (by omega)) (hq 11 (by omega))).trans ((o_3328 q (hq 134 (by omega)) (hq 11 (by omega))).trans ((hp_3304 q ).trans (hp_3302 q ))))))⟩ (Nat.le_refl _) (Nat.le_refl _) dX5_apart_109 hQ
abbrev rm_X5_wayDiffers : Room := { frames := 4, cells := 0, slots := 0, locals := 100 }
set_option maxHeartbeats 4000000 in
set_option maxRecDepth 100000 in
theorem c_X5_wayDiffers (l : Launch) (G : Gl) (L : List Nat) (F : Nat → va_E) (ad : Nat → Nat) (hL : ∀ i, i < 166 → ad i ∈ L) (hin : ∀ i j, i < 166 → j < 166 → i ≠ j → ad i ≠ ad j) (A : AB) (f9 g9 y9 : Nat) (c9 : Nat → ZP) (hf9 : f9 < 6) (hg9 : g9 < 6) (hy1 : 2 ≤ y9) (hy2 : y9 ≤ 5) (h150c : F (ad 150) = rw7 G c9) (hX : XW G F ad A) (hA : okA A) : CI l yX5_wayDiffers cX5_wayDiffers 4 (some .int) rm_X5_wayDiffers G L F [.ref (ad 0), .int (nI (f9)), .int (nI (g9)), .int (nI (y9))] (fun r F1 => r = m_low (fun k => decide ((m_way (A.1.2.2.2.2.2 f9) (A.1.2.2.2.2.2 g9) y9 A.1.1) k ≠ c9 k)) ∧ XW G F1 ad A ∧ F1 (ad 150) = rw7 G c9 ∧ ∀ q, (∀ i, (i < 166) → q ≠ ad i) → F1 q = F q) := by
  obtain ⟨fx, hn, hh, hsn, htx, hrk, ⟨u9, h134⟩, ⟨v9, h150⟩⟩ := hX
  obtain ⟨⟨hc2, hc, hpu, hok⟩, ⟨hh6, hho⟩, hso, hl60, hco⟩ := id hA
  obtain ⟨s_13, hs_13⟩ := hrk.2 13 (by decide)
  obtain ⟨s_12, hs_12⟩ := hrk.2 12 (by decide)
  obtain ⟨s_11, hs_11⟩ := hrk.2 11 (by decide)
  obtain ⟨s_10, hs_10⟩ := hrk.2 10 (by decide)
  obtain ⟨s_9, hs_9⟩ := hrk.2 9 (by decide)
  obtain ⟨s_8, hs_8⟩ := hrk.2 8 (by decide)
  obtain ⟨s_7, hs_7⟩ := hrk.2 7 (by decide)
  obtain ⟨s_6, hs_6⟩ := hrk.2 6 (by decide)
  obtain ⟨s_5, hs_5⟩ := hrk.2 5 (by decide)
  obtain ⟨s_4, hs_4⟩ := hrk.2 4 (by decide)
  obtain ⟨s_3, hs_3⟩ := hrk.2 3 (by decide)
  obtain ⟨s_2, hs_2⟩ := hrk.2 2 (by decide)
  obtain ⟨s_1, hs_1⟩ := hrk.2 1 (by decide)
  obtain ⟨s_0, hs_0⟩ := hrk.2 0 (by decide)
  refine CG_of (by decide) (Nat.le_of_ble_eq_true rfl) rfl ?_
  intro p e s m args below meth c Q C0 hr hlk hnm hQ hw ls hl
  have hx := C0.x
  have hb := C0.b
  refine lv_aload_n hx hb dX5_wayDiffers_0 rfl (lv_at hl 0 rfl) ?_
  refine q_get C0 hw ((hL 0 (by omega))) fx fw_X5_44 rfl dX5_wayDiffers_1 ?_
  refine lv_aload_n hx hb dX5_wayDiffers_4 rfl (lv_at hl 0 rfl) ?_
  refine q_get C0 hw ((hL 0 (by omega))) fx fw_X5_12 rfl dX5_wayDiffers_5 ?_
  refine q_get C0 hw ((hL 22 (by omega))) hn.1 fw_X5_66 rfl dX5_wayDiffers_8 ?_
  refine q_get C0 hw ((hL 23 (by omega))) hn.2.1 fw_X5_85 rfl dX5_wayDiffers_11 ?_
  refine lv_iload_n hx hb dX5_wayDiffers_14 rfl (lv_at hl 1 rfl) ?_
  refine q_aaldi C0 hw ((hL 24 (by omega))) hn.2.2.1 (f9) (by omega) (by decide) (b := ad (26 + f9)) rfl dX5_wayDiffers_15 ?_
  refine lv_aload_n hx hb dX5_wayDiffers_16 rfl (lv_at hl 0 rfl) ?_
  refine q_get C0 hw ((hL 0 (by omega))) fx fw_X5_12 rfl dX5_wayDiffers_17 ?_
  refine q_get C0 hw ((hL 22 (by omega))) hn.1 fw_X5_66 rfl dX5_wayDiffers_20 ?_
  refine q_get C0 hw ((hL 23 (by omega))) hn.2.1 fw_X5_85 rfl dX5_wayDiffers_23 ?_
  refine lv_iload_n hx hb dX5_wayDiffers_26 rfl (lv_at hl 2 rfl) ?_
  refine q_aaldi C0 hw ((hL 24 (by omega))) hn.2.2.1 (g9) (by omega) (by decide) (b := ad (26 + g9)) rfl dX5_wayDiffers_27 ?_
  refine lv_iload_n hx hb dX5_wayDiffers_28 rfl (lv_at hl 3 rfl) ?_
  refine lv_aload_n hx hb dX5_wayDiffers_29 rfl (lv_at hl 0 rfl) ?_
  refine q_get C0 hw ((hL 0 (by omega))) fx fw_X5_12 rfl dX5_wayDiffers_30 ?_
  refine q_get C0 hw ((hL 22 (by omega))) hn.1 fw_X5_66 rfl dX5_wayDiffers_33 ?_
  refine q_get C0 hw ((hL 23 (by omega))) hn.2.1 fw_X5_70 rfl dX5_wayDiffers_36 ?_
  refine lv_aload_n hx hb dX5_wayDiffers_39 rfl (lv_at hl 0 rfl) ?_
  refine q_get C0 hw ((hL 0 (by omega))) fx fw_X5_48 rfl dX5_wayDiffers_40 ?_
  refine q_callv hw (q_runV (As := [.ref (ad (26 + f9)), .ref (ad (26 + g9)), .int (nI (y9)), .int (nI (A.1.1)), .ref (ad 134)]) (c_X1_secondWay l G L F (ad 7) (fun i => ad (8 + i)) (ad (26 + f9)) (ad (26 + g9)) (ad 134) (A.1.1) ((A.1.2.2.2.2.2 f9)) ((A.1.2.2.2.2.2 g9)) u9 s_8 s_9 s_10 s_0 y9 ((hL 7 (by omega))) hrk.1 (fun i hi => hL (8 + i) (by omega)) (ra_inj hin) ((hL (26 + f9) (by omega))) ((hn.2.2.2.2 f9 (by omega))) ((hL (26 + g9) (by omega))) ((hn.2.2.2.2 g9 (by omega))) ((hL 134 (by omega))) h134 hs_8 hs_9 hs_10 hs_0 (hin (26 + f9) 134 (by omega) (by omega) (by omega)) (hin (26 + g9) 134 (by omega) (by omega) (by omega)) (hin (26 + f9) 16 (by omega) (by omega) (by omega)) (hin (26 + g9) 16 (by omega) (by omega) (by omega)) (hin 134 16 (by omega) (by omega) (by omega)) (hin (26 + f9) 17 (by omega) (by omega) (by omega)) (hin (26 + g9) 17 (by omega) (by omega) (by omega)) (hin 134 17 (by omega) (by omega) (by omega)) (hin (26 + f9) 18 (by omega) (by omega) (by omega)) (hin (26 + g9) 18 (by omega) (by omega) (by omega)) (hin 134 18 (by omega) (by omega) (by omega)) (hin (26 + f9) 8 (by omega) (by omega) (by omega)) (hin (26 + g9) 8 (by omega) (by omega) (by omega)) (hin 134 8 (by omega) (by omega) (by omega)) (by omega) (by omega) (by omega) (by omega)) C0 hw vw_X5_312 ((hL 7 (by omega))) hrk.1 rfl rfl rfl hl.1 rfl (Nat.le_of_ble_eq_true rfl) dX5_wayDiffers_43 ⟨by decide, by decide⟩ ⟨by decide, by decide⟩) rfl rfl (fun F_3423 H locs hw hp_3424 => ?_)
  obtain ⟨f_3425, ⟨t_3430, f_3426⟩, ⟨t_3431, f_3427⟩, ⟨t_3432, f_3428⟩, ⟨t_3433, f_3429⟩, o_3434⟩ := hp_3424
  refine lv_aload_n hx hb dX5_wayDiffers_46 rfl (lv_at hl 0 rfl) ?_
  have f_3435 : F_3423 (ad 0) = xO ad := (o_3434 (ad 0) (hin 0 134 (by omega) (by omega) (by omega)) (hin 0 16 (by omega) (by omega) (by omega)) (hin 0 17 (by omega) (by omega) (by omega)) (hin 0 18 (by omega) (by omega) (by omega)) (hin 0 8 (by omega) (by omega) (by omega))).trans fx
  refine q_get C0 hw ((hL 0 (by omega))) f_3435 fw_X5_48 rfl dX5_wayDiffers_47 ?_
  refine lv_aload_n hx hb dX5_wayDiffers_50 rfl (lv_at hl 0 rfl) ?_
  refine q_get C0 hw ((hL 0 (by omega))) f_3435 fw_X5_52 rfl dX5_wayDiffers_51 ?_
  have f_3436 : F_3423 (ad 150) = rw7 G c9 := (o_3434 (ad 150) (hin 150 134 (by omega) (by omega) (by omega)) (hin 150 16 (by omega) (by omega) (by omega)) (hin 150 17 (by omega) (by omega) (by omega)) (hin 150 18 (by omega) (by omega) (by omega)) (hin 150 8 (by omega) (by omega) (by omega))).trans h150c
  refine q_calli hw (q_runS (As := [.ref (ad 134), .ref (ad 150)]) (c_X1_lowestDifference l G L F_3423 (ad 134) (ad 150) ((m_way ((A.1.2.2.2.2.2 f9)) ((A.1.2.2.2.2.2 g9)) y9 (A.1.1))) c9 ((hL 134 (by omega))) f_3425 ((hL 150 (by omega))) f_3436) C0 hw sw_X5_208 rfl hl.1 rfl (Nat.le_of_ble_eq_true rfl) dX5_wayDiffers_54 ⟨by decide, by decide⟩ ⟨by decide, by decide⟩) rfl rfl (fun r_3439 F_3437 H locs hw hp_3438 => ?_)
  obtain ⟨he_3440, o_3441⟩ := hp_3438
  subst he_3440
  have f_3442 : F_3423 (ad 7) = rkO (fun i => ad (8 + i)) := (o_3434 (ad 7) (hin 7 134 (by omega) (by omega) (by omega)) (hin 7 16 (by omega) (by omega) (by omega)) (hin 7 17 (by omega) (by omega) (by omega)) (hin 7 18 (by omega) (by omega) (by omega)) (hin 7 8 (by omega) (by omega) (by omega))).trans hrk.1
  have f_3443 : F_3437 (ad 7) = rkO (fun i => ad (8 + i)) := (o_3441 (ad 7) ).trans f_3442
  have f_3444 : F_3437 (ad 8) = rw7 G t_3433 := (o_3441 (ad 8) ).trans f_3429
  have f_3445 : F_3423 (ad 9) = rw7 G s_1 := (o_3434 (ad 9) (hin 9 134 (by omega) (by omega) (by omega)) (hin 9 16 (by omega) (by omega) (by omega)) (hin 9 17 (by omega) (by omega) (by omega)) (hin 9 18 (by omega) (by omega) (by omega)) (hin 9 8 (by omega) (by omega) (by omega))).trans hs_1
  have f_3446 : F_3437 (ad 9) = rw7 G s_1 := (o_3441 (ad 9) ).trans f_3445
  have f_3447 : F_3423 (ad 10) = rw7 G s_2 := (o_3434 (ad 10) (hin 10 134 (by omega) (by omega) (by omega)) (hin 10 16 (by omega) (by omega) (by omega)) (hin 10 17 (by omega) (by omega) (by omega)) (hin 10 18 (by omega) (by omega) (by omega)) (hin 10 8 (by omega) (by omega) (by omega))).trans hs_2
  have f_3448 : F_3437 (ad 10) = rw7 G s_2 := (o_3441 (ad 10) ).trans f_3447
  have f_3449 : F_3423 (ad 11) = rw7 G s_3 := (o_3434 (ad 11) (hin 11 134 (by omega) (by omega) (by omega)) (hin 11 16 (by omega) (by omega) (by omega)) (hin 11 17 (by omega) (by omega) (by omega)) (hin 11 18 (by omega) (by omega) (by omega)) (hin 11 8 (by omega) (by omega) (by omega))).trans hs_3
  have f_3450 : F_3437 (ad 11) = rw7 G s_3 := (o_3441 (ad 11) ).trans f_3449
  have f_3451 : F_3423 (ad 12) = rw7 G s_4 := (o_3434 (ad 12) (hin 12 134 (by omega) (by omega) (by omega)) (hin 12 16 (by omega) (by omega) (by omega)) (hin 12 17 (by omega) (by omega) (by omega)) (hin 12 18 (by omega) (by omega) (by omega)) (hin 12 8 (by omega) (by omega) (by omega))).trans hs_4
  have f_3452 : F_3437 (ad 12) = rw7 G s_4 := (o_3441 (ad 12) ).trans f_3451
  have f_3453 : F_3423 (ad 13) = rw7 G s_5 := (o_3434 (ad 13) (hin 13 134 (by omega) (by omega) (by omega)) (hin 13 16 (by omega) (by omega) (by omega)) (hin 13 17 (by omega) (by omega) (by omega)) (hin 13 18 (by omega) (by omega) (by omega)) (hin 13 8 (by omega) (by omega) (by omega))).trans hs_5
  have f_3454 : F_3437 (ad 13) = rw7 G s_5 := (o_3441 (ad 13) ).trans f_3453
  have f_3455 : F_3423 (ad 14) = rw7 G s_6 := (o_3434 (ad 14) (hin 14 134 (by omega) (by omega) (by omega)) (hin 14 16 (by omega) (by omega) (by omega)) (hin 14 17 (by omega) (by omega) (by omega)) (hin 14 18 (by omega) (by omega) (by omega)) (hin 14 8 (by omega) (by omega) (by omega))).trans hs_6
  have f_3456 : F_3437 (ad 14) = rw7 G s_6 := (o_3441 (ad 14) ).trans f_3455
  have f_3457 : F_3423 (ad 15) = rw7 G s_7 := (o_3434 (ad 15) (hin 15 134 (by omega) (by omega) (by omega)) (hin 15 16 (by omega) (by omega) (by omega)) (hin 15 17 (by omega) (by omega) (by omega)) (hin 15 18 (by omega) (by omega) (by omega)) (hin 15 8 (by omega) (by omega) (by omega))).trans hs_7
  have f_3458 : F_3437 (ad 15) = rw7 G s_7 := (o_3441 (ad 15) ).trans f_3457
  have f_3459 : F_3437 (ad 16) = rw7 G t_3430 := (o_3441 (ad 16) ).trans f_3426
  have f_3460 : F_3437 (ad 17) = rw7 G t_3431 := (o_3441 (ad 17) ).trans f_3427
  have f_3461 : F_3437 (ad 18) = rw7 G t_3432 := (o_3441 (ad 18) ).trans f_3428
  have f_3462 : F_3423 (ad 19) = rw7 G s_11 := (o_3434 (ad 19) (hin 19 134 (by omega) (by omega) (by omega)) (hin 19 16 (by omega) (by omega) (by omega)) (hin 19 17 (by omega) (by omega) (by omega)) (hin 19 18 (by omega) (by omega) (by omega)) (hin 19 8 (by omega) (by omega) (by omega))).trans hs_11
  have f_3463 : F_3437 (ad 19) = rw7 G s_11 := (o_3441 (ad 19) ).trans f_3462
  have f_3464 : F_3423 (ad 20) = rw7 G s_12 := (o_3434 (ad 20) (hin 20 134 (by omega) (by omega) (by omega)) (hin 20 16 (by omega) (by omega) (by omega)) (hin 20 17 (by omega) (by omega) (by omega)) (hin 20 18 (by omega) (by omega) (by omega)) (hin 20 8 (by omega) (by omega) (by omega))).trans hs_12
  have f_3465 : F_3437 (ad 20) = rw7 G s_12 := (o_3441 (ad 20) ).trans f_3464
  have f_3466 : F_3423 (ad 21) = rw7 G s_13 := (o_3434 (ad 21) (hin 21 134 (by omega) (by omega) (by omega)) (hin 21 16 (by omega) (by omega) (by omega)) (hin 21 17 (by omega) (by omega) (by omega)) (hin 21 18 (by omega) (by omega) (by omega)) (hin 21 8 (by omega) (by omega) (by omega))).trans hs_13
  have f_3467 : F_3437 (ad 21) = rw7 G s_13 := (o_3441 (ad 21) ).trans f_3466
  have f_3468 : F_3437 (ad 0) = xO ad := (o_3441 (ad 0) ).trans f_3435
  have f_3469 : F_3437 (ad 134) = rw7 G ((m_way ((A.1.2.2.2.2.2 f9)) ((A.1.2.2.2.2.2 g9)) y9 (A.1.1))) := (o_3441 (ad 134) ).trans f_3425
  have f_3470 : F_3437 (ad 150) = rw7 G c9 := (o_3441 (ad 150) ).trans f_3436
  exact r_i C0 hr hlk hw (v := (m_low (fun k => decide (((m_way ((A.1.2.2.2.2.2 f9)) ((A.1.2.2.2.2.2 g9)) y9 (A.1.1))) k ≠ c9 k)))) rfl ⟨rfl, ⟨f_3468, (hn.keep (fun i0 hi => ((o_3441 (ad (i0)) )).trans ((o_3434 (ad (i0)) (hin (i0) 134 (by omega) (by omega) (by omega)) (hin (i0) 16 (by omega) (by omega) (by omega)) (hin (i0) 17 (by omega) (by omega) (by omega)) (hin (i0) 18 (by omega) (by omega) (by omega)) (hin (i0) 8 (by omega) (by omega) (by omega)))))), (hh.keep (fun i0 hi => ((o_3441 (ad (i0)) )).trans ((o_3434 (ad (i0)) (hin (i0) 134 (by omega) (by omega) (by omega)) (hin (i0) 16 (by omega) (by omega) (by omega)) (hin (i0) 17 (by omega) (by omega) (by omega)) (hin (i0) 18 (by omega) (by omega) (by omega)) (hin (i0) 8 (by omega) (by omega) (by omega)))))), (hsn.keep (fun i0 hi => ((o_3441 (ad (i0)) )).trans ((o_3434 (ad (i0)) (hin (i0) 134 (by omega) (by omega) (by omega)) (hin (i0) 16 (by omega) (by omega) (by omega)) (hin (i0) 17 (by omega) (by omega) (by omega)) (hin (i0) 18 (by omega) (by omega) (by omega)) (hin (i0) 8 (by omega) (by omega) (by omega)))))), (htx.keep (fun i0 hi => ((o_3441 (ad (i0)) )).trans ((o_3434 (ad (i0)) (hin (i0) 134 (by omega) (by omega) (by omega)) (hin (i0) 16 (by omega) (by omega) (by omega)) (hin (i0) 17 (by omega) (by omega) (by omega)) (hin (i0) 18 (by omega) (by omega) (by omega)) (hin (i0) 8 (by omega) (by omega) (by omega)))))), ⟨f_3443, lt14 ⟨_, f_3444⟩ ⟨_, f_3446⟩ ⟨_, f_3448⟩ ⟨_, f_3450⟩ ⟨_, f_3452⟩ ⟨_, f_3454⟩ ⟨_, f_3456⟩ ⟨_, f_3458⟩ ⟨_, f_3459⟩ ⟨_, f_3460⟩ ⟨_, f_3461⟩ ⟨_, f_3463⟩ ⟨_, f_3465⟩ ⟨_, f_3467⟩⟩, ⟨_, f_3469⟩, ⟨_, f_3470⟩⟩, f_3470, (fun q hq => ((o_3441 q ).trans (o_3434 q (hq 134 (by omega)) (hq 16 (by omega)) (hq 17 (by omega)) (hq 18 (by omega)) (hq 8 (by omega)))))⟩ (Nat.le_refl _) (Nat.le_refl _) dX5_wayDiffers_57 hQ
abbrev rm_X5_differs : Room := { frames := 5, cells := 0, slots := 0, locals := 123 }
set_option maxHeartbeats 4000000 in
set_option maxRecDepth 100000 in
theorem c_X5_differs (l : Launch) (G : Gl) (L : List Nat) (F : Nat → va_E) (ad : Nat → Nat) (hL : ∀ i, i < 166 → ad i ∈ L) (hin : ∀ i j, i < 166 → j < 166 → i ≠ j → ad i ≠ ad j) (A : AB) (f9 g9 y9 : Nat) (hf9 : f9 < 6) (hg9 : g9 < 6) (hy1 : 2 ≤ y9) (hy2 : y9 ≤ 5) (hX : XW G F ad A) (hA : okA A) : CI l yX5_differs cX5_differs 4 (some .int) rm_X5_differs G L F [.ref (ad 0), .int (nI (f9)), .int (nI (g9)), .int (nI (y9))] (fun r F1 => r = m_low (fun k => decide ((m_way (A.1.2.2.2.2.2 f9) (A.1.2.2.2.2.2 g9) y9 A.1.1) k ≠ (m_cf (A.1.2.2.2.2.2 f9) (A.1.2.2.2.2.2 g9) A.1.1) k)) ∧ XW G F1 ad A ∧ ∀ q, (∀ i, (i < 166) → q ≠ ad i) → F1 q = F q) := by
  obtain ⟨fx, hn, hh, hsn, htx, hrk, ⟨u9, h134⟩, ⟨v9, h150⟩⟩ := hX
  obtain ⟨⟨hc2, hc, hpu, hok⟩, ⟨hh6, hho⟩, hso, hl60, hco⟩ := id hA
  obtain ⟨s_13, hs_13⟩ := hrk.2 13 (by decide)
  obtain ⟨s_12, hs_12⟩ := hrk.2 12 (by decide)
  obtain ⟨s_11, hs_11⟩ := hrk.2 11 (by decide)
  obtain ⟨s_10, hs_10⟩ := hrk.2 10 (by decide)
  obtain ⟨s_9, hs_9⟩ := hrk.2 9 (by decide)
  obtain ⟨s_8, hs_8⟩ := hrk.2 8 (by decide)
  obtain ⟨s_7, hs_7⟩ := hrk.2 7 (by decide)
  obtain ⟨s_6, hs_6⟩ := hrk.2 6 (by decide)
  obtain ⟨s_5, hs_5⟩ := hrk.2 5 (by decide)
  obtain ⟨s_4, hs_4⟩ := hrk.2 4 (by decide)
  obtain ⟨s_3, hs_3⟩ := hrk.2 3 (by decide)
  obtain ⟨s_2, hs_2⟩ := hrk.2 2 (by decide)
  obtain ⟨s_1, hs_1⟩ := hrk.2 1 (by decide)
  obtain ⟨s_0, hs_0⟩ := hrk.2 0 (by decide)
  refine CG_of (by decide) (Nat.le_of_ble_eq_true rfl) rfl ?_
  intro p e s m args below meth c Q C0 hr hlk hnm hQ hw ls hl
  have hx := C0.x
  have hb := C0.b
  refine lv_iload_n hx hb dX5_differs_0 rfl (lv_at hl 1 rfl) ?_
  refine q_callv hw (q_runS (As := [.int (nI (f9))]) (c_X5_needSlot l G L F f9 (by omega)) C0 hw sw_X5_78 rfl hl.1 rfl (Nat.le_of_ble_eq_true rfl) dX5_differs_1 ⟨by decide, by decide⟩ ⟨by decide, by decide⟩) rfl rfl (fun F_3471 H locs hw hp_3472 => ?_)
  refine lv_iload_n hx hb dX5_differs_4 rfl (lv_at hl 2 rfl) ?_
  refine q_callv hw (q_runS (As := [.int (nI (g9))]) (c_X5_needSlot l G L F_3471 g9 (by omega)) C0 hw sw_X5_78 rfl hl.1 rfl (Nat.le_of_ble_eq_true rfl) dX5_differs_5 ⟨by decide, by decide⟩ ⟨by decide, by decide⟩) rfl rfl (fun F_3473 H locs hw hp_3474 => ?_)
  refine lv_iload_n hx hb dX5_differs_8 rfl (lv_at hl 3 rfl) ?_
  refine lv_iconst (v := nI 2) hx hb dX5_differs_9 (by decide) ?_
  refine n_icmp_lt (tgt := 18) hx hb dX5_differs_10 (by decide) (by omega) (by decide) (fun c_10 => ?_) (fun c_10 => ?_)
  · skip
    exact absurd c_10 (by omega)
  · skip
    refine lv_iload_n hx hb dX5_differs_13 rfl (lv_at hl 3 rfl) ?_
    refine lv_iconst (v := nI 5) hx hb dX5_differs_14 (by decide) ?_
    refine n_icmp_le (tgt := 28) hx hb dX5_differs_15 (by decide) (by omega) (by decide) (fun c_15 => ?_) (fun c_15 => ?_)
    · skip
      refine lv_aload_n hx hb dX5_differs_28 rfl (lv_at hl 0 rfl) ?_
      have f_3475 : F_3471 (ad 0) = xO ad := (hp_3472 (ad 0) ).trans fx
      have f_3476 : F_3473 (ad 0) = xO ad := (hp_3474 (ad 0) ).trans f_3475
      refine q_get C0 hw ((hL 0 (by omega))) f_3476 fw_X5_44 rfl dX5_differs_29 ?_
      refine lv_aload_n hx hb dX5_differs_32 rfl (lv_at hl 0 rfl) ?_
      refine q_get C0 hw ((hL 0 (by omega))) f_3476 fw_X5_12 rfl dX5_differs_33 ?_
      have f_3477 : F_3471 (ad 22) = .inr (3, [.ref (ad 23), .int (nI (A.1.2.1)), .int (nI (A.1.2.2.1)), .int (nI (A.1.2.2.2.1)), .int (nI (A.1.2.2.2.2.1))]) := (hp_3472 (ad 22) ).trans hn.1
      have f_3478 : F_3473 (ad 22) = .inr (3, [.ref (ad 23), .int (nI (A.1.2.1)), .int (nI (A.1.2.2.1)), .int (nI (A.1.2.2.2.1)), .int (nI (A.1.2.2.2.2.1))]) := (hp_3474 (ad 22) ).trans f_3477
      refine q_get C0 hw ((hL 22 (by omega))) f_3478 fw_X5_66 rfl dX5_differs_36 ?_
      have f_3479 : F_3471 (ad 23) = .inr (2, [.int (nI (A.1.1)), .ref (ad 24), .ref (ad 25)]) := (hp_3472 (ad 23) ).trans hn.2.1
      have f_3480 : F_3473 (ad 23) = .inr (2, [.int (nI (A.1.1)), .ref (ad 24), .ref (ad 25)]) := (hp_3474 (ad 23) ).trans f_3479
      refine q_get C0 hw ((hL 23 (by omega))) f_3480 fw_X5_85 rfl dX5_differs_39 ?_
      refine lv_iload_n hx hb dX5_differs_42 rfl (lv_at hl 1 rfl) ?_
      have f_3481 : F_3471 (ad 24) = oE G (fun i => ad (26 + i)) := (hp_3472 (ad 24) ).trans hn.2.2.1
      have f_3482 : F_3473 (ad 24) = oE G (fun i => ad (26 + i)) := (hp_3474 (ad 24) ).trans f_3481
      refine q_aaldi C0 hw ((hL 24 (by omega))) f_3482 (f9) (by omega) (by decide) (b := ad (26 + f9)) rfl dX5_differs_43 ?_
      refine lv_aload_n hx hb dX5_differs_44 rfl (lv_at hl 0 rfl) ?_
      refine q_get C0 hw ((hL 0 (by omega))) f_3476 fw_X5_12 rfl dX5_differs_45 ?_
      refine q_get C0 hw ((hL 22 (by omega))) f_3478 fw_X5_66 rfl dX5_differs_48 ?_
      refine q_get C0 hw ((hL 23 (by omega))) f_3480 fw_X5_85 rfl dX5_differs_51 ?_
      refine lv_iload_n hx hb dX5_differs_54 rfl (lv_at hl 2 rfl) ?_
      refine q_aaldi C0 hw ((hL 24 (by omega))) f_3482 (g9) (by omega) (by decide) (b := ad (26 + g9)) rfl dX5_differs_55 ?_
      refine lv_aload_n hx hb dX5_differs_56 rfl (lv_at hl 0 rfl) ?_
      refine q_get C0 hw ((hL 0 (by omega))) f_3476 fw_X5_12 rfl dX5_differs_57 ?_
      refine q_get C0 hw ((hL 22 (by omega))) f_3478 fw_X5_66 rfl dX5_differs_60 ?_
      refine q_get C0 hw ((hL 23 (by omega))) f_3480 fw_X5_70 rfl dX5_differs_63 ?_
      refine lv_aload_n hx hb dX5_differs_66 rfl (lv_at hl 0 rfl) ?_
      refine q_get C0 hw ((hL 0 (by omega))) f_3476 fw_X5_52 rfl dX5_differs_67 ?_
      have f_3483 : F_3471 (ad (26 + f9)) = rw7 G ((A.1.2.2.2.2.2 f9)) := (hp_3472 (ad (26 + f9)) ).trans ((hn.2.2.2.2 f9 (by omega)))
      have f_3484 : F_3473 (ad (26 + f9)) = rw7 G ((A.1.2.2.2.2.2 f9)) := (hp_3474 (ad (26 + f9)) ).trans f_3483
      have f_3485 : F_3471 (ad (26 + g9)) = rw7 G ((A.1.2.2.2.2.2 g9)) := (hp_3472 (ad (26 + g9)) ).trans ((hn.2.2.2.2 g9 (by omega)))
      have f_3486 : F_3473 (ad (26 + g9)) = rw7 G ((A.1.2.2.2.2.2 g9)) := (hp_3474 (ad (26 + g9)) ).trans f_3485
      have f_3487 : F_3471 (ad 150) = rw7 G v9 := (hp_3472 (ad 150) ).trans h150
      have f_3488 : F_3473 (ad 150) = rw7 G v9 := (hp_3474 (ad 150) ).trans f_3487
      have f_3489 : F_3471 (ad 19) = rw7 G s_11 := (hp_3472 (ad 19) ).trans hs_11
      have f_3490 : F_3473 (ad 19) = rw7 G s_11 := (hp_3474 (ad 19) ).trans f_3489
      have f_3491 : F_3471 (ad 20) = rw7 G s_12 := (hp_3472 (ad 20) ).trans hs_12
      have f_3492 : F_3473 (ad 20) = rw7 G s_12 := (hp_3474 (ad 20) ).trans f_3491
      have f_3493 : F_3471 (ad 21) = rw7 G s_13 := (hp_3472 (ad 21) ).trans hs_13
      have f_3494 : F_3473 (ad 21) = rw7 G s_13 := (hp_3474 (ad 21) ).trans f_3493
      have f_3495 : F_3471 (ad 12) = rw7 G s_4 := (hp_3472 (ad 12) ).trans hs_4
      have f_3496 : F_3473 (ad 12) = rw7 G s_4 := (hp_3474 (ad 12) ).trans f_3495
      have f_3497 : F_3471 (ad 11) = rw7 G s_3 := (hp_3472 (ad 11) ).trans hs_3
      have f_3498 : F_3473 (ad 11) = rw7 G s_3 := (hp_3474 (ad 11) ).trans f_3497
      have f_3499 : F_3471 (ad 10) = rw7 G s_2 := (hp_3472 (ad 10) ).trans hs_2
      have f_3500 : F_3473 (ad 10) = rw7 G s_2 := (hp_3474 (ad 10) ).trans f_3499
      have f_3501 : F_3471 (ad 9) = rw7 G s_1 := (hp_3472 (ad 9) ).trans hs_1
      have f_3502 : F_3473 (ad 9) = rw7 G s_1 := (hp_3474 (ad 9) ).trans f_3501
      have f_3503 : F_3471 (ad 7) = rkO (fun i => ad (8 + i)) := (hp_3472 (ad 7) ).trans hrk.1
      have f_3504 : F_3473 (ad 7) = rkO (fun i => ad (8 + i)) := (hp_3474 (ad 7) ).trans f_3503
      refine q_callv hw (q_runV (As := [.ref (ad (26 + f9)), .ref (ad (26 + g9)), .int (nI (A.1.1)), .ref (ad 150)]) (c_X1_composedField l G L F_3473 (ad 7) (fun i => ad (8 + i)) (ad (26 + f9)) (ad (26 + g9)) (ad 150) (A.1.1) ((A.1.2.2.2.2.2 f9)) ((A.1.2.2.2.2.2 g9)) v9 s_11 s_12 s_13 s_4 s_3 s_2 s_1  ((hL 7 (by omega))) f_3504 (fun i hi => hL (8 + i) (by omega)) (ra_inj hin) ((hL (26 + f9) (by omega))) f_3484 ((hL (26 + g9) (by omega))) f_3486 ((hL 150 (by omega))) f_3488 f_3490 f_3492 f_3494 f_3496 f_3498 f_3500 f_3502 (hin (26 + f9) 150 (by omega) (by omega) (by omega)) (hin (26 + g9) 150 (by omega) (by omega) (by omega)) (hin (26 + f9) 19 (by omega) (by omega) (by omega)) (hin (26 + g9) 19 (by omega) (by omega) (by omega)) (hin 150 19 (by omega) (by omega) (by omega)) (hin (26 + f9) 20 (by omega) (by omega) (by omega)) (hin (26 + g9) 20 (by omega) (by omega) (by omega)) (hin 150 20 (by omega) (by omega) (by omega)) (hin (26 + f9) 21 (by omega) (by omega) (by omega)) (hin (26 + g9) 21 (by omega) (by omega) (by omega)) (hin 150 21 (by omega) (by omega) (by omega)) (hin (26 + f9) 12 (by omega) (by omega) (by omega)) (hin (26 + g9) 12 (by omega) (by omega) (by omega)) (hin 150 12 (by omega) (by omega) (by omega)) (hin (26 + f9) 11 (by omega) (by omega) (by omega)) (hin (26 + g9) 11 (by omega) (by omega) (by omega)) (hin 150 11 (by omega) (by omega) (by omega)) (hin (26 + f9) 10 (by omega) (by omega) (by omega)) (hin (26 + g9) 10 (by omega) (by omega) (by omega)) (hin 150 10 (by omega) (by omega) (by omega)) (hin (26 + f9) 9 (by omega) (by omega) (by omega)) (hin (26 + g9) 9 (by omega) (by omega) (by omega)) (hin 150 9 (by omega) (by omega) (by omega)) (by omega) (by omega) ) C0 hw vw_X5_214 ((hL 7 (by omega))) f_3504 rfl rfl rfl hl.1 rfl (Nat.le_of_ble_eq_true rfl) dX5_differs_70 ⟨by decide, by decide⟩ ⟨by decide, by decide⟩) rfl rfl (fun F_3505 H locs hw hp_3506 => ?_)
      obtain ⟨f_3507, ⟨t_3515, f_3508⟩, ⟨t_3516, f_3509⟩, ⟨t_3517, f_3510⟩, ⟨t_3518, f_3511⟩, ⟨t_3519, f_3512⟩, ⟨t_3520, f_3513⟩, ⟨t_3521, f_3514⟩, o_3522⟩ := hp_3506
      refine lv_aload_n hx hb dX5_differs_73 rfl (lv_at hl 0 rfl) ?_
      refine lv_iload_n hx hb dX5_differs_74 rfl (lv_at hl 1 rfl) ?_
      refine lv_iload_n hx hb dX5_differs_75 rfl (lv_at hl 2 rfl) ?_
      refine lv_iload_n hx hb dX5_differs_76 rfl (lv_at hl 3 rfl) ?_
      have f_3523 : F_3505 (ad 7) = rkO (fun i => ad (8 + i)) := (o_3522 (ad 7) (hin 7 150 (by omega) (by omega) (by omega)) (hin 7 19 (by omega) (by omega) (by omega)) (hin 7 20 (by omega) (by omega) (by omega)) (hin 7 21 (by omega) (by omega) (by omega)) (hin 7 12 (by omega) (by omega) (by omega)) (hin 7 11 (by omega) (by omega) (by omega)) (hin 7 10 (by omega) (by omega) (by omega)) (hin 7 9 (by omega) (by omega) (by omega))).trans f_3504
      have f_3524 : F_3471 (ad 8) = rw7 G s_0 := (hp_3472 (ad 8) ).trans hs_0
      have f_3525 : F_3473 (ad 8) = rw7 G s_0 := (hp_3474 (ad 8) ).trans f_3524
      have f_3526 : F_3505 (ad 8) = rw7 G s_0 := (o_3522 (ad 8) (hin 8 150 (by omega) (by omega) (by omega)) (hin 8 19 (by omega) (by omega) (by omega)) (hin 8 20 (by omega) (by omega) (by omega)) (hin 8 21 (by omega) (by omega) (by omega)) (hin 8 12 (by omega) (by omega) (by omega)) (hin 8 11 (by omega) (by omega) (by omega)) (hin 8 10 (by omega) (by omega) (by omega)) (hin 8 9 (by omega) (by omega) (by omega))).trans f_3525
      have f_3527 : F_3471 (ad 13) = rw7 G s_5 := (hp_3472 (ad 13) ).trans hs_5
      have f_3528 : F_3473 (ad 13) = rw7 G s_5 := (hp_3474 (ad 13) ).trans f_3527
      have f_3529 : F_3505 (ad 13) = rw7 G s_5 := (o_3522 (ad 13) (hin 13 150 (by omega) (by omega) (by omega)) (hin 13 19 (by omega) (by omega) (by omega)) (hin 13 20 (by omega) (by omega) (by omega)) (hin 13 21 (by omega) (by omega) (by omega)) (hin 13 12 (by omega) (by omega) (by omega)) (hin 13 11 (by omega) (by omega) (by omega)) (hin 13 10 (by omega) (by omega) (by omega)) (hin 13 9 (by omega) (by omega) (by omega))).trans f_3528
      have f_3530 : F_3471 (ad 14) = rw7 G s_6 := (hp_3472 (ad 14) ).trans hs_6
      have f_3531 : F_3473 (ad 14) = rw7 G s_6 := (hp_3474 (ad 14) ).trans f_3530
      have f_3532 : F_3505 (ad 14) = rw7 G s_6 := (o_3522 (ad 14) (hin 14 150 (by omega) (by omega) (by omega)) (hin 14 19 (by omega) (by omega) (by omega)) (hin 14 20 (by omega) (by omega) (by omega)) (hin 14 21 (by omega) (by omega) (by omega)) (hin 14 12 (by omega) (by omega) (by omega)) (hin 14 11 (by omega) (by omega) (by omega)) (hin 14 10 (by omega) (by omega) (by omega)) (hin 14 9 (by omega) (by omega) (by omega))).trans f_3531
      have f_3533 : F_3471 (ad 15) = rw7 G s_7 := (hp_3472 (ad 15) ).trans hs_7
      have f_3534 : F_3473 (ad 15) = rw7 G s_7 := (hp_3474 (ad 15) ).trans f_3533
      have f_3535 : F_3505 (ad 15) = rw7 G s_7 := (o_3522 (ad 15) (hin 15 150 (by omega) (by omega) (by omega)) (hin 15 19 (by omega) (by omega) (by omega)) (hin 15 20 (by omega) (by omega) (by omega)) (hin 15 21 (by omega) (by omega) (by omega)) (hin 15 12 (by omega) (by omega) (by omega)) (hin 15 11 (by omega) (by omega) (by omega)) (hin 15 10 (by omega) (by omega) (by omega)) (hin 15 9 (by omega) (by omega) (by omega))).trans f_3534
      have f_3536 : F_3471 (ad 16) = rw7 G s_8 := (hp_3472 (ad 16) ).trans hs_8
      have f_3537 : F_3473 (ad 16) = rw7 G s_8 := (hp_3474 (ad 16) ).trans f_3536
      have f_3538 : F_3505 (ad 16) = rw7 G s_8 := (o_3522 (ad 16) (hin 16 150 (by omega) (by omega) (by omega)) (hin 16 19 (by omega) (by omega) (by omega)) (hin 16 20 (by omega) (by omega) (by omega)) (hin 16 21 (by omega) (by omega) (by omega)) (hin 16 12 (by omega) (by omega) (by omega)) (hin 16 11 (by omega) (by omega) (by omega)) (hin 16 10 (by omega) (by omega) (by omega)) (hin 16 9 (by omega) (by omega) (by omega))).trans f_3537
      have f_3539 : F_3471 (ad 17) = rw7 G s_9 := (hp_3472 (ad 17) ).trans hs_9
      have f_3540 : F_3473 (ad 17) = rw7 G s_9 := (hp_3474 (ad 17) ).trans f_3539
      have f_3541 : F_3505 (ad 17) = rw7 G s_9 := (o_3522 (ad 17) (hin 17 150 (by omega) (by omega) (by omega)) (hin 17 19 (by omega) (by omega) (by omega)) (hin 17 20 (by omega) (by omega) (by omega)) (hin 17 21 (by omega) (by omega) (by omega)) (hin 17 12 (by omega) (by omega) (by omega)) (hin 17 11 (by omega) (by omega) (by omega)) (hin 17 10 (by omega) (by omega) (by omega)) (hin 17 9 (by omega) (by omega) (by omega))).trans f_3540
      have f_3542 : F_3471 (ad 18) = rw7 G s_10 := (hp_3472 (ad 18) ).trans hs_10
      have f_3543 : F_3473 (ad 18) = rw7 G s_10 := (hp_3474 (ad 18) ).trans f_3542
      have f_3544 : F_3505 (ad 18) = rw7 G s_10 := (o_3522 (ad 18) (hin 18 150 (by omega) (by omega) (by omega)) (hin 18 19 (by omega) (by omega) (by omega)) (hin 18 20 (by omega) (by omega) (by omega)) (hin 18 21 (by omega) (by omega) (by omega)) (hin 18 12 (by omega) (by omega) (by omega)) (hin 18 11 (by omega) (by omega) (by omega)) (hin 18 10 (by omega) (by omega) (by omega)) (hin 18 9 (by omega) (by omega) (by omega))).trans f_3543
      have f_3545 : F_3505 (ad 0) = xO ad := (o_3522 (ad 0) (hin 0 150 (by omega) (by omega) (by omega)) (hin 0 19 (by omega) (by omega) (by omega)) (hin 0 20 (by omega) (by omega) (by omega)) (hin 0 21 (by omega) (by omega) (by omega)) (hin 0 12 (by omega) (by omega) (by omega)) (hin 0 11 (by omega) (by omega) (by omega)) (hin 0 10 (by omega) (by omega) (by omega)) (hin 0 9 (by omega) (by omega) (by omega))).trans f_3476
      have f_3546 : F_3471 (ad 134) = rw7 G u9 := (hp_3472 (ad 134) ).trans h134
      have f_3547 : F_3473 (ad 134) = rw7 G u9 := (hp_3474 (ad 134) ).trans f_3546
      have f_3548 : F_3505 (ad 134) = rw7 G u9 := (o_3522 (ad 134) (hin 134 150 (by omega) (by omega) (by omega)) (hin 134 19 (by omega) (by omega) (by omega)) (hin 134 20 (by omega) (by omega) (by omega)) (hin 134 21 (by omega) (by omega) (by omega)) (hin 134 12 (by omega) (by omega) (by omega)) (hin 134 11 (by omega) (by omega) (by omega)) (hin 134 10 (by omega) (by omega) (by omega)) (hin 134 9 (by omega) (by omega) (by omega))).trans f_3547
      refine q_calli hw (q_runV (As := [.int (nI (f9)), .int (nI (g9)), .int (nI (y9))]) (c_X5_wayDiffers l G L F_3505 ad hL hin A f9 g9 y9 ((m_cf ((A.1.2.2.2.2.2 f9)) ((A.1.2.2.2.2.2 g9)) (A.1.1))) (by omega) (by omega) (by omega) (by omega) f_3507 (show XW G F_3505 ad A from ⟨f_3545, (hn.keep (fun i0 hi => ((o_3522 (ad (i0)) (hin (i0) 150 (by omega) (by omega) (by omega)) (hin (i0) 19 (by omega) (by omega) (by omega)) (hin (i0) 20 (by omega) (by omega) (by omega)) (hin (i0) 21 (by omega) (by omega) (by omega)) (hin (i0) 12 (by omega) (by omega) (by omega)) (hin (i0) 11 (by omega) (by omega) (by omega)) (hin (i0) 10 (by omega) (by omega) (by omega)) (hin (i0) 9 (by omega) (by omega) (by omega)))).trans (((hp_3474 (ad (i0)) )).trans ((hp_3472 (ad (i0)) ))))), (hh.keep (fun i0 hi => ((o_3522 (ad (i0)) (hin (i0) 150 (by omega) (by omega) (by omega)) (hin (i0) 19 (by omega) (by omega) (by omega)) (hin (i0) 20 (by omega) (by omega) (by omega)) (hin (i0) 21 (by omega) (by omega) (by omega)) (hin (i0) 12 (by omega) (by omega) (by omega)) (hin (i0) 11 (by omega) (by omega) (by omega)) (hin (i0) 10 (by omega) (by omega) (by omega)) (hin (i0) 9 (by omega) (by omega) (by omega)))).trans (((hp_3474 (ad (i0)) )).trans ((hp_3472 (ad (i0)) ))))), (hsn.keep (fun i0 hi => ((o_3522 (ad (i0)) (hin (i0) 150 (by omega) (by omega) (by omega)) (hin (i0) 19 (by omega) (by omega) (by omega)) (hin (i0) 20 (by omega) (by omega) (by omega)) (hin (i0) 21 (by omega) (by omega) (by omega)) (hin (i0) 12 (by omega) (by omega) (by omega)) (hin (i0) 11 (by omega) (by omega) (by omega)) (hin (i0) 10 (by omega) (by omega) (by omega)) (hin (i0) 9 (by omega) (by omega) (by omega)))).trans (((hp_3474 (ad (i0)) )).trans ((hp_3472 (ad (i0)) ))))), (htx.keep (fun i0 hi => ((o_3522 (ad (i0)) (hin (i0) 150 (by omega) (by omega) (by omega)) (hin (i0) 19 (by omega) (by omega) (by omega)) (hin (i0) 20 (by omega) (by omega) (by omega)) (hin (i0) 21 (by omega) (by omega) (by omega)) (hin (i0) 12 (by omega) (by omega) (by omega)) (hin (i0) 11 (by omega) (by omega) (by omega)) (hin (i0) 10 (by omega) (by omega) (by omega)) (hin (i0) 9 (by omega) (by omega) (by omega)))).trans (((hp_3474 (ad (i0)) )).trans ((hp_3472 (ad (i0)) ))))), ⟨f_3523, lt14 ⟨_, f_3526⟩ ⟨_, f_3514⟩ ⟨_, f_3513⟩ ⟨_, f_3512⟩ ⟨_, f_3511⟩ ⟨_, f_3529⟩ ⟨_, f_3532⟩ ⟨_, f_3535⟩ ⟨_, f_3538⟩ ⟨_, f_3541⟩ ⟨_, f_3544⟩ ⟨_, f_3508⟩ ⟨_, f_3509⟩ ⟨_, f_3510⟩⟩, ⟨_, f_3548⟩, ⟨_, f_3507⟩⟩) hA) C0 hw vw_X5_217 ((hL 0 (by omega))) f_3545 rfl rfl rfl hl.1 rfl (Nat.le_of_ble_eq_true rfl) dX5_differs_77 ⟨by decide, by decide⟩ ⟨by decide, by decide⟩) rfl rfl (fun r_3551 F_3549 H locs hw hp_3550 => ?_)
      obtain ⟨h_3552, h_3553, h_3554, h_3555⟩ := hp_3550
      subst h_3552
      exact r_i C0 hr hlk hw (v := (m_low (fun k => decide ((m_way (A.1.2.2.2.2.2 f9) (A.1.2.2.2.2.2 g9) y9 A.1.1) k ≠ (m_cf ((A.1.2.2.2.2.2 f9)) ((A.1.2.2.2.2.2 g9)) (A.1.1)) k)))) rfl ⟨rfl, h_3553, (fun q hq => ((h_3555 q (fun i hS => hq i (by omega))).trans ((o_3522 q (hq 150 (by omega)) (hq 19 (by omega)) (hq 20 (by omega)) (hq 21 (by omega)) (hq 12 (by omega)) (hq 11 (by omega)) (hq 10 (by omega)) (hq 9 (by omega))).trans ((hp_3474 q ).trans (hp_3472 q )))))⟩ (Nat.le_refl _) (Nat.le_refl _) dX5_differs_80 hQ
    · skip
      exact absurd c_15 (by omega)
