theorem mixR_0 (a b : Rws) : mixR a b 0 = a := by
  funext j
  have h : ¬ (j < 0 ∨ (6 ≤ j ∧ j < 6 + 0)) := by omega
  simp only [mixR, h, if_false]
theorem mixR_6 (a b : Rws) {j : Nat} (h : j < 12) : mixR a b 6 j = b j := by
  have h2 : j < 6 ∨ (6 ≤ j ∧ j < 6 + 6) := by omega
  simp only [mixR, h2, if_true]
theorem mixR_o (a b : Rws) {i j : Nat} (h1 : j ≠ i) (h2 : j ≠ 6 + i) : mixR a b (i + 1) j = mixR a b i j := by
  have h3 : (j < i + 1 ∨ (6 ≤ j ∧ j < 6 + (i + 1))) = (j < i ∨ (6 ≤ j ∧ j < 6 + i)) := by simp only [eq_iff_iff]; omega
  simp only [mixR, h3]
theorem mixR_a (a b : Rws) (i : Nat) : mixR a b (i + 1) i = b i := by
  have h : i < i + 1 ∨ (6 ≤ i ∧ i < 6 + (i + 1)) := by omega
  simp only [mixR, h, if_true]
theorem mixR_b (a b : Rws) (i : Nat) : mixR a b (i + 1) (6 + i) = b (6 + i) := by
  have h : 6 + i < i + 1 ∨ (6 ≤ 6 + i ∧ 6 + i < 6 + (i + 1)) := by omega
  simp only [mixR, h, if_true]
abbrev rm_X2_copyFrom : Room := { frames := 1, cells := 0, slots := 0, locals := 40 }
set_option maxHeartbeats 4000000 in
set_option maxRecDepth 100000 in
theorem c_X2_copyFrom (l : Launch) (G : Gl) (L : List Nat) (F : Nat → va_E) (ad : Nat → Nat) (hL : ∀ i, i < 166 → ad i ∈ L) (hin : ∀ i j, i < 166 → j < 166 → i ≠ j → ad i ≠ ad j) (tb ob c1 c2 : Nat) (r1 r2 : Rws) (hs1 : shp G F ad tb c1 r1) (hs2 : shp G F ad ob c2 r2) (htb : tb + 16 ≤ 166) (hob : ob + 16 ≤ 166) (hdis : tb + 16 ≤ ob ∨ ob + 16 ≤ tb) : CV l yX2_copyFrom cX2_copyFrom 3 none rm_X2_copyFrom G L F [.ref (ad (tb + 1)), .ref (ad (ob + 1))] (fun F1 => shp G F1 ad tb c2 r2 ∧ ∀ q, (∀ i, (i = tb + 1 ∨ (tb + 4 ≤ i ∧ i < tb + 16)) → q ≠ ad i) → F1 q = F q) := by
  refine CG_of (by decide) (Nat.le_of_ble_eq_true rfl) rfl ?_
  intro p e s m args below meth c Q C0 hr hlk hnm hQ hw ls hl
  have hx := C0.x
  have hb := C0.b
  refine lv_aload_n hx hb dX2_copyFrom_0 rfl (lv_at hl 0 rfl) ?_
  refine lv_aload_n hx hb dX2_copyFrom_1 rfl (lv_at hl 1 rfl) ?_
  refine q_get C0 hw ((hL (ob + 1) (by omega))) hs2.1 fw_X2_9 rfl dX2_copyFrom_2 ?_
  refine q_put C0 hw ((hL (tb + 1) (by omega))) hs1.1 fw_X2_9 pw_X2_0 rfl rfl rfl (Nat.le_of_ble_eq_true rfl) dX2_copyFrom_5 (fun F_1174 H locs hw f_1175 o_1176 => ?_)
  have f_1175 : F_1174 (ad (tb + 1)) = .inr (2, [.int (nI (c2)), .ref (ad (tb + 2)), .ref (ad (tb + 3))]) := f_1175
  refine lv_iconst (v := nI 0) hx hb dX2_copyFrom_8 (by decide) ?_
  refine lv_istore_n (lv' := [(2, .int (nI (0))), (0, .ref (ad (tb + 1))), (1, .ref (ad (ob + 1)))]) hx hb dX2_copyFrom_9 rfl hl (by decide) rfl (fun ls hl => ?_)
  have lp10_n_1177 : ∀ (n : Nat) (j9 : Nat), j9 ≤ 6 → 7 - j9 < n → ∀ (F_1178 : Nat → va_E) (H : Heap) (locs : List Loc), wD G L F_1178 s H locs → F_1178 (ad (tb + 1)) = .inr (2, [.int (nI (c2)), .ref (ad (tb + 2)), .ref (ad (tb + 3))]) → (∀ j, j < 12 → F_1178 (ad (tb + 4 + j)) = rw7 G (mixR r1 r2 j9 j)) → (∀ q, (∀ i, (i = tb + 1 ∨ (tb + 4 ≤ i ∧ i < tb + 16)) → q ≠ ad i) → F_1178 q = F q) → ∀ ls : Array Slot, lv_has ls 3 [(0, .ref (ad (tb + 1))), (1, .ref (ad (ob + 1))), (2, .int (nI (j9)))] → W p l e rm_X2_copyFrom s m args below meth c H locs 0 0 Q (F0 m 10 ls []) := by
    intro n
    induction n with
    | zero => intro j9 hj9 hm; exact absurd hm (Nat.not_lt_zero _)
    | succ n ih_10_n_1182 =>
      intro j9 hj9 hm F_1178 H locs hw f_1179 ff_1180 fr_1181 ls hl
      refine lv_iload_n hx hb dX2_copyFrom_10 rfl (lv_at hl 2 rfl) ?_
      refine lv_bipush (v := nI 6) hx hb dX2_copyFrom_11 (by decide) ?_
      refine n_icmp_ge (tgt := 60) hx hb dX2_copyFrom_13 (by decide) (by omega) (by decide) (fun c_13 => ?_) (fun c_13 => ?_)
      · skip
        obtain rfl : j9 = 6 := by omega
        have f_1183 : F_1178 (ad (tb + 2)) = oE G (fun i => ad (tb + 4 + i)) := (fr_1181 (ad (tb + 2)) (fun i hS => hin (tb + 2) i (by omega) (by omega) (by omega))).trans hs1.2.1
        have f_1184 : F_1178 (ad (tb + 3)) = oE G (fun i => ad (tb + 10 + i)) := (fr_1181 (ad (tb + 3)) (fun i hS => hin (tb + 3) i (by omega) (by omega) (by omega))).trans hs1.2.2.1
        exact r_v C0 hr hlk hw ⟨⟨f_1179, f_1183, f_1184, fun i hi => (ff_1180 i hi).trans (congrArg (rw7 G) (mixR_6 r1 r2 hi))⟩, (fun q hq => (fr_1181 q (fun i hS => hq i (by omega))))⟩ (Nat.le_refl _) (Nat.le_refl _) dX2_copyFrom_60 hQ
      · skip
        refine lv_aload_n hx hb dX2_copyFrom_16 rfl (lv_at hl 1 rfl) ?_
        have f_1185 : F_1178 (ad (ob + 1)) = .inr (2, [.int (nI (c2)), .ref (ad (ob + 2)), .ref (ad (ob + 3))]) := (fr_1181 (ad (ob + 1)) (fun i hS => hin (ob + 1) i (by omega) (by omega) (by omega))).trans hs2.1
        refine q_get C0 hw ((hL (ob + 1) (by omega))) f_1185 fw_X2_17 rfl dX2_copyFrom_17 ?_
        refine lv_iload_n hx hb dX2_copyFrom_20 rfl (lv_at hl 2 rfl) ?_
        have f_1186 : F_1178 (ad (ob + 2)) = oE G (fun i => ad (ob + 4 + i)) := (fr_1181 (ad (ob + 2)) (fun i hS => hin (ob + 2) i (by omega) (by omega) (by omega))).trans hs2.2.1
        refine q_aaldi C0 hw ((hL (ob + 2) (by omega))) f_1186 (j9) (by omega) (by decide) (b := ad (ob + 4 + j9)) rfl dX2_copyFrom_21 ?_
        refine lv_iconst (v := nI 0) hx hb dX2_copyFrom_22 (by decide) ?_
        refine lv_aload_n hx hb dX2_copyFrom_23 rfl (lv_at hl 0 rfl) ?_
        refine q_get C0 hw ((hL (tb + 1) (by omega))) f_1179 fw_X2_17 rfl dX2_copyFrom_24 ?_
        refine lv_iload_n hx hb dX2_copyFrom_27 rfl (lv_at hl 2 rfl) ?_
        have f_1187 : F_1178 (ad (tb + 2)) = oE G (fun i => ad (tb + 4 + i)) := (fr_1181 (ad (tb + 2)) (fun i hS => hin (tb + 2) i (by omega) (by omega) (by omega))).trans hs1.2.1
        refine q_aaldi C0 hw ((hL (tb + 2) (by omega))) f_1187 (j9) (by omega) (by decide) (b := ad (tb + 4 + j9)) rfl dX2_copyFrom_28 ?_
        refine lv_iconst (v := nI 0) hx hb dX2_copyFrom_29 (by decide) ?_
        refine lv_bipush (v := nI 7) hx hb dX2_copyFrom_30 (by decide) ?_
        have f_1188 : F_1178 (ad (ob + 4 + j9)) = rw7 G ((r2 j9)) := (fr_1181 (ad (ob + 4 + j9)) (fun i hS => hin (ob + 4 + j9) i (by omega) (by omega) (by omega))).trans ((hs2.2.2.2 (j9) (by omega)))
        refine q_copy C0 hw hl.1 aw_X2_23 ((hL (ob + 4 + j9) (by omega))) ((hL (tb + 4 + j9) (by omega))) f_1188 (ff_1180 (j9) (by omega)) (n := 7) (by omega) (by decide) (by decide) dX2_copyFrom_32 (fun F_1189 H locs hw f_1190 o_1191 => ?_)
        obtain ⟨F_1192, hw, f_1193, o_1194⟩ := hw.rowE f_1190 (v := r2 j9) (fun k hk => if_pos hk)
        refine lv_aload_n hx hb dX2_copyFrom_35 rfl (lv_at hl 1 rfl) ?_
        have f_1195 : F_1189 (ad (ob + 1)) = .inr (2, [.int (nI (c2)), .ref (ad (ob + 2)), .ref (ad (ob + 3))]) := (o_1191 (ad (ob + 1)) (hin (ob + 1) (tb + 4 + j9) (by omega) (by omega) (by omega))).trans f_1185
        have f_1196 : F_1192 (ad (ob + 1)) = .inr (2, [.int (nI (c2)), .ref (ad (ob + 2)), .ref (ad (ob + 3))]) := (o_1194 (ad (ob + 1)) (hin (ob + 1) (tb + 4 + j9) (by omega) (by omega) (by omega))).trans f_1195
        refine q_get C0 hw ((hL (ob + 1) (by omega))) f_1196 fw_X2_20 rfl dX2_copyFrom_36 ?_
        refine lv_iload_n hx hb dX2_copyFrom_39 rfl (lv_at hl 2 rfl) ?_
        have f_1197 : F_1178 (ad (ob + 3)) = oE G (fun i => ad (ob + 10 + i)) := (fr_1181 (ad (ob + 3)) (fun i hS => hin (ob + 3) i (by omega) (by omega) (by omega))).trans hs2.2.2.1
        have f_1198 : F_1189 (ad (ob + 3)) = oE G (fun i => ad (ob + 10 + i)) := (o_1191 (ad (ob + 3)) (hin (ob + 3) (tb + 4 + j9) (by omega) (by omega) (by omega))).trans f_1197
        have f_1199 : F_1192 (ad (ob + 3)) = oE G (fun i => ad (ob + 10 + i)) := (o_1194 (ad (ob + 3)) (hin (ob + 3) (tb + 4 + j9) (by omega) (by omega) (by omega))).trans f_1198
        refine q_aaldi C0 hw ((hL (ob + 3) (by omega))) f_1199 (j9) (by omega) (by decide) (b := ad (ob + 10 + j9)) rfl dX2_copyFrom_40 ?_
        refine lv_iconst (v := nI 0) hx hb dX2_copyFrom_41 (by decide) ?_
        refine lv_aload_n hx hb dX2_copyFrom_42 rfl (lv_at hl 0 rfl) ?_
        have f_1200 : F_1189 (ad (tb + 1)) = .inr (2, [.int (nI (c2)), .ref (ad (tb + 2)), .ref (ad (tb + 3))]) := (o_1191 (ad (tb + 1)) (hin (tb + 1) (tb + 4 + j9) (by omega) (by omega) (by omega))).trans f_1179
        have f_1201 : F_1192 (ad (tb + 1)) = .inr (2, [.int (nI (c2)), .ref (ad (tb + 2)), .ref (ad (tb + 3))]) := (o_1194 (ad (tb + 1)) (hin (tb + 1) (tb + 4 + j9) (by omega) (by omega) (by omega))).trans f_1200
        refine q_get C0 hw ((hL (tb + 1) (by omega))) f_1201 fw_X2_20 rfl dX2_copyFrom_43 ?_
        refine lv_iload_n hx hb dX2_copyFrom_46 rfl (lv_at hl 2 rfl) ?_
        have f_1202 : F_1178 (ad (tb + 3)) = oE G (fun i => ad (tb + 10 + i)) := (fr_1181 (ad (tb + 3)) (fun i hS => hin (tb + 3) i (by omega) (by omega) (by omega))).trans hs1.2.2.1
        have f_1203 : F_1189 (ad (tb + 3)) = oE G (fun i => ad (tb + 10 + i)) := (o_1191 (ad (tb + 3)) (hin (tb + 3) (tb + 4 + j9) (by omega) (by omega) (by omega))).trans f_1202
        have f_1204 : F_1192 (ad (tb + 3)) = oE G (fun i => ad (tb + 10 + i)) := (o_1194 (ad (tb + 3)) (hin (tb + 3) (tb + 4 + j9) (by omega) (by omega) (by omega))).trans f_1203
        refine q_aaldi C0 hw ((hL (tb + 3) (by omega))) f_1204 (j9) (by omega) (by decide) (b := ad (tb + 10 + j9)) rfl dX2_copyFrom_47 ?_
        refine lv_iconst (v := nI 0) hx hb dX2_copyFrom_48 (by decide) ?_
        refine lv_bipush (v := nI 7) hx hb dX2_copyFrom_49 (by decide) ?_
        have f_1205 : F_1178 (ad (ob + 10 + j9)) = rw7 G ((r2 (6 + j9))) := (fr_1181 (ad (ob + 10 + j9)) (fun i hS => hin (ob + 10 + j9) i (by omega) (by omega) (by omega))).trans ((show F (ad (ob + 10 + j9)) = _ from by have h9 := hs2.2.2.2 (6 + j9) (by omega); rwa [show ob + 4 + (6 + j9) = ob + 10 + j9 by omega] at h9))
        have f_1206 : F_1189 (ad (ob + 10 + j9)) = rw7 G ((r2 (6 + j9))) := (o_1191 (ad (ob + 10 + j9)) (hin (ob + 10 + j9) (tb + 4 + j9) (by omega) (by omega) (by omega))).trans f_1205
        have f_1207 : F_1192 (ad (ob + 10 + j9)) = rw7 G ((r2 (6 + j9))) := (o_1194 (ad (ob + 10 + j9)) (hin (ob + 10 + j9) (tb + 4 + j9) (by omega) (by omega) (by omega))).trans f_1206
        have f_1208 : F_1189 (ad (tb + 10 + j9)) = rw7 G ((mixR r1 r2 j9 (6 + j9))) := (o_1191 (ad (tb + 10 + j9)) (hin (tb + 10 + j9) (tb + 4 + j9) (by omega) (by omega) (by omega))).trans ((show F_1178 (ad (tb + 10 + j9)) = _ from by have h9 := ff_1180 (6 + j9) (by omega); rwa [show tb + 4 + (6 + j9) = tb + 10 + j9 by omega] at h9))
        have f_1209 : F_1192 (ad (tb + 10 + j9)) = rw7 G ((mixR r1 r2 j9 (6 + j9))) := (o_1194 (ad (tb + 10 + j9)) (hin (tb + 10 + j9) (tb + 4 + j9) (by omega) (by omega) (by omega))).trans f_1208
        refine q_copy C0 hw hl.1 aw_X2_23 ((hL (ob + 10 + j9) (by omega))) ((hL (tb + 10 + j9) (by omega))) f_1207 f_1209 (n := 7) (by omega) (by decide) (by decide) dX2_copyFrom_51 (fun F_1210 H locs hw f_1211 o_1212 => ?_)
        obtain ⟨F_1213, hw, f_1214, o_1215⟩ := hw.rowE f_1211 (v := r2 (6 + j9)) (fun k hk => if_pos hk)
        refine lv_iinc (v := nI (j9 + 1)) (lv' := [(2, .int (nI (j9 + 1))), (0, .ref (ad (tb + 1))), (1, .ref (ad (ob + 1)))]) hx hb dX2_copyFrom_54 hl (k := 2) rfl (nI_add _ _) (by decide) rfl (fun ls hl => ?_)
        refine lv_goto (tgt := 10) hx hb dX2_copyFrom_57 (by decide) ?_
        have f_1216 : F_1210 (ad (tb + 4 + j9)) = rw7 G (r2 j9) := (o_1212 (ad (tb + 4 + j9)) (hin (tb + 4 + j9) (tb + 10 + j9) (by omega) (by omega) (by omega))).trans f_1193
        have f_1217 : F_1213 (ad (tb + 4 + j9)) = rw7 G (r2 j9) := (o_1215 (ad (tb + 4 + j9)) (hin (tb + 4 + j9) (tb + 10 + j9) (by omega) (by omega) (by omega))).trans f_1216
        have f_1218 : F_1210 (ad (tb + 1)) = .inr (2, [.int (nI (c2)), .ref (ad (tb + 2)), .ref (ad (tb + 3))]) := (o_1212 (ad (tb + 1)) (hin (tb + 1) (tb + 10 + j9) (by omega) (by omega) (by omega))).trans f_1201
        have f_1219 : F_1213 (ad (tb + 1)) = .inr (2, [.int (nI (c2)), .ref (ad (tb + 2)), .ref (ad (tb + 3))]) := (o_1215 (ad (tb + 1)) (hin (tb + 1) (tb + 10 + j9) (by omega) (by omega) (by omega))).trans f_1218
        exact ih_10_n_1182 (j9 + 1) ((by omega)) (by omega) F_1213 _ _ hw (f_1219) (fun j hj => by
        by_cases e1 : j = j9
        · subst e1
          rw [mixR_a]
          exact f_1217
        · by_cases e2 : j = 6 + j9
          · subst e2
            rw [mixR_b, show tb + 4 + (6 + j9) = tb + 10 + j9 by omega]
            exact f_1214
          · rw [mixR_o _ _ e1 e2]
            exact (((o_1215 (ad (tb + 4 + j)) (hin (tb + 4 + j) (tb + 10 + j9) (by omega) (by omega) (by omega)))).trans (((o_1212 (ad (tb + 4 + j)) (hin (tb + 4 + j) (tb + 10 + j9) (by omega) (by omega) (by omega)))).trans (((o_1194 (ad (tb + 4 + j)) (hin (tb + 4 + j) (tb + 4 + j9) (by omega) (by omega) (by omega)))).trans ((o_1191 (ad (tb + 4 + j)) (hin (tb + 4 + j) (tb + 4 + j9) (by omega) (by omega) (by omega))))))).trans (ff_1180 j hj)) (fun q hq => ((o_1215 q (hq (tb + 10 + j9) (by omega))).trans ((o_1212 q (hq (tb + 10 + j9) (by omega))).trans ((o_1194 q (hq (tb + 4 + j9) (by omega))).trans ((o_1191 q (hq (tb + 4 + j9) (by omega))).trans (fr_1181 q (fun i hS => hq i (by omega)))))))) ls (lv_sub hl [1, 2, 0] rfl)
  exact lp10_n_1177 _ (0) ((by omega)) (Nat.lt_succ_self _) F_1174 _ _ hw (f_1175) (fun j hj => ((o_1176 (ad (tb + 4 + j)) (hin (tb + 4 + j) (tb + 1) (by omega) (by omega) (by omega)))).trans ((hs1.2.2.2 j hj).trans (congrArg (rw7 G) (congrFun (mixR_0 r1 r2) j).symm))) (fun q hq => (o_1176 q (hq (tb + 1) (by omega)))) ls (lv_sub hl [1, 2, 0] rfl)
