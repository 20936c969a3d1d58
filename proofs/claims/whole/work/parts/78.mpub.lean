theorem zof_s (st : Sta) {k : Nat} (h : k = 0 ∨ 5 ≤ k) : zof st k = zof (st.1, 0, 0, 0, 0, st.2.2.2.2.2) k := by
  rcases h with rfl | h
  · rfl
  · rw [zof_hi _ h, zof_hi _ h]
theorem tk_s {zf sf : Nat → Int32} {st : Sta} {sn : Nat → Bool × Nat × Rws} {j : Nat} (hz : zA zf st) (hs : sA_ sf sn) : sA_ (cpM sf zf j 89) (takeN j st.1 st.2.2.2.2.2 sn) := by
  intro i hi h k hk hk2
  by_cases e : i = j
  · subst e
    have e2 : takeN i st.1 st.2.2.2.2.2 sn i = (true, st.1, st.2.2.2.2.2) := if_pos rfl
    rw [e2]
    unfold cpM
    rw [if_pos (by omega), show 89 * i + k - 89 * i = k by omega, hz k hk]
    exact zof_s st hk2
  · have e2 : takeN j st.1 st.2.2.2.2.2 sn i = sn i := if_neg e
    rw [e2] at h ⊢
    unfold cpM
    rw [if_neg (by omega)]
    exact hs i hi h k hk hk2
theorem tk_k {kf : Nat → Int32} {sn : Nat → Bool × Nat × Rws} {j cu : Nat} {r : Rws} (hk : kA_ kf sn) : kA_ (upd kf j (nI 1)) (takeN j cu r sn) := by
  intro i hi
  by_cases e : i = j
  · subst e
    have e2 : takeN i cu r sn i = (true, cu, r) := if_pos rfl
    rw [e2, up_eq]
    rfl
  · have e2 : takeN j cu r sn i = sn i := if_neg e
    rw [e2]
    exact (if_neg e).trans (hk i hi)
def rsM (zf sf : Nat → Int32) (j k : Nat) : Nat → Int32 := fun i => if i < k ∧ (i = 0 ∨ 5 ≤ i) then sf (89 * j + i) else zf i
theorem rsM_0 (zf sf : Nat → Int32) (j : Nat) : zf = rsM zf sf j 0 := by
  funext i
  exact (if_neg (by omega)).symm
theorem rsM_a (zf sf : Nat → Int32) (j : Nat) {k : Nat} (h : k = 0 ∨ 5 ≤ k) : upd (rsM zf sf j k) k (sf (89 * j + k)) = rsM zf sf j (k + 1) := by
  funext i
  by_cases e : i = k
  · subst e
    rw [up_eq]
    exact (if_pos ⟨by omega, h⟩).symm
  · rw [show upd (rsM zf sf j k) k (sf (89 * j + k)) i = rsM zf sf j k i from if_neg e]
    unfold rsM
    by_cases e2 : i < k ∧ (i = 0 ∨ 5 ≤ i)
    · rw [if_pos e2, if_pos ⟨by omega, e2.2⟩]
    · rw [if_neg e2, if_neg (fun h9 => e2 ⟨by omega, h9.2⟩)]
theorem rsM_b (zf sf : Nat → Int32) (j : Nat) {k : Nat} (h : ¬ (k = 0 ∨ 5 ≤ k)) : upd (rsM zf sf j k) k (rsM zf sf j k k) = rsM zf sf j (k + 1) := by
  funext i
  by_cases e : i = k
  · subst e
    rw [up_eq]
    unfold rsM
    rw [if_neg (fun h9 => h h9.2), if_neg (fun h9 => h h9.2)]
  · rw [show upd (rsM zf sf j k) k (rsM zf sf j k k) i = rsM zf sf j k i from if_neg e]
    unfold rsM
    by_cases e2 : i < k ∧ (i = 0 ∨ 5 ≤ i)
    · rw [if_pos e2, if_pos ⟨by omega, e2.2⟩]
    · rw [if_neg e2, if_neg (fun h9 => e2 ⟨by omega, h9.2⟩)]
theorem rs_ok {zf sf : Nat → Int32} {st : Sta} {sn : Nat → Bool × Nat × Rws} {j : Nat} (hz : zA zf st) (hs : sA_ sf sn) (hj : j < 2) (ht : (sn j).1 = true) : zA (rsM zf sf j 89) (shpS (sn j).2.1 (sn j).2.2 st) := by
  intro k hk
  unfold rsM
  by_cases e : k = 0 ∨ 5 ≤ k
  · rw [if_pos ⟨hk, e⟩, hs j hj ht k hk e, zof_s (shpS (sn j).2.1 (sn j).2.2 st) e]
    rfl
  · rw [if_neg (fun h9 => e h9.2), hz k hk]
    rcases (show k = 1 ∨ k = 2 ∨ k = 3 ∨ k = 4 by omega) with rfl | rfl | rfl | rfl <;> rfl
def udM (zf hf : Nat → Int32) (n k : Nat) : Nat → Int32 := fun i => if i < k then hf (89 * n + i) else zf i
theorem udM_0 (zf hf : Nat → Int32) (n : Nat) : zf = udM zf hf n 0 := by
  funext i
  exact (if_neg (by omega)).symm
theorem udM_s (zf hf : Nat → Int32) (n k : Nat) : upd (udM zf hf n k) k (hf (89 * n + k)) = udM zf hf n (k + 1) := by
  funext i
  by_cases e : i = k
  · subst e
    rw [up_eq]
    exact (if_pos (by omega)).symm
  · rw [show upd (udM zf hf n k) k (hf (89 * n + k)) i = udM zf hf n k i from if_neg e]
    unfold udM
    by_cases e2 : i < k
    · rw [if_pos e2, if_pos (by omega)]
    · rw [if_neg e2, if_neg (by omega)]
theorem ud_ok {zf hf : Nat → Int32} {h : Nat × (Nat → Sta)} {n : Nat} (hh : hA_ hf h) (hn : n < h.1) : zA (udM zf hf n 89) (h.2 n) := by
  intro k hk
  unfold udM
  rw [if_pos hk]
  exact hh n hn k hk
abbrev rm_X6_take : Room := { frames := 3, cells := 0, slots := 0, locals := 68 }
set_option maxHeartbeats 4000000 in
set_option maxRecDepth 100000 in
theorem k_X6_take_x (l : Launch) (G : Gl) (L : List Nat) (F : Nat → va_E) (b : Nat) (ma : Nat → Nat) (A : AB) (th : Nat) (x9 : Int32) (mb : b ∈ L) (hma : ∀ i, i < 7 → ma i ∈ L) (hM : MW G F b ma A th) (hA : okA A) (h9 : ¬ inR x9 0 1) : CI l yX6_take cX6_take 3 (some .int) rm_X6_take G L F [.ref b, .int (x9)] (fun r F1 => MW G F1 b ma A 1 ∧ mFr F F1 b ma) := by
  obtain ⟨mi, hh, zf, hf, sf, kf, tf, pf, pl, fb, ⟨hm0, hm1, hm2⟩, ⟨fz, hz⟩, ⟨fh, hhf⟩, ⟨fs, hsf⟩, ⟨fk, hkf⟩, fp, ⟨ft, htf⟩, fq⟩ := hM
  obtain ⟨hz0, hz1, hz2, hz3, hz4⟩ := ne_z zf hz
  have hc : A.1.1 ≤ 6 := hA.1.2.1
  have hc2 : 2 ≤ A.1.1 := hA.1.1
  have hpu : A.1.2.1 ≤ 100000 := hA.1.2.2.1
  have hrw : ∀ i k, i < 12 → k < 7 → zf (5 + 7 * i + k) = nI (A.1.2.2.2.2.2 i k).val := hz.row
  refine CG_of (by decide) (Nat.le_of_ble_eq_true rfl) rfl ?_
  intro p e s m args below meth c Q C0 hr hlk hnm hQ hw ls hl
  have hx := C0.x
  have hb := C0.b
  refine lv_aload_n hx hb dX6_take_0 rfl (lv_at hl 0 rfl) ?_
  refine lv_iload_n hx hb dX6_take_1 rfl (lv_at hl 1 rfl) ?_
  refine q_calli hw (q_runS (As := [.int (x9)]) (c_X6_isSnapshot l G L F (x9)) C0 hw sw_X6_196 rfl hl.1 rfl (Nat.le_of_ble_eq_true rfl) dX6_take_2 ⟨by decide, by decide⟩ ⟨by decide, by decide⟩) rfl rfl (fun r_9236 F_9234 H locs hw hp_9235 => ?_)
  obtain ⟨he_9237, o_9238⟩ := hp_9235
  rw [if_neg h9] at he_9237
  subst he_9237
  refine n_if_eq (tgt := 12) hx hb dX6_take_5 (by decide) (by decide) (fun c_5 => ?_) (fun c_5 => ?_)
  · skip
    refine lv_iconst (v := nI 1) hx hb dX6_take_12 (by decide) ?_
    have f_9239 : F_9234 b = mO ma mi hh := (o_9238 b ).trans fb
    refine q_put C0 hw mb f_9239 fw_X6_31 pw_X6_8 rfl rfl rfl (Nat.le_of_ble_eq_true rfl) dX6_take_13 (fun F_9240 H locs hw f_9241 o_9242 => ?_)
    have f_9241 : F_9240 b = .inr (6, [.ref (ma 0), .int (mi 0), .ref (ma 1), .ref (ma 2), .ref (ma 3), .ref (ma 4), .int (mi 1), .ref (ma 5), .int (nI (1)), .ref (ma 6), .int (mi 3), .int (mi 4), .long (hh)]) := f_9241
    refine lv_aload_n hx hb dX6_take_16 rfl (lv_at hl 0 rfl) ?_
    refine q_get C0 hw mb f_9241 fw_X6_31 rfl dX6_take_17 ?_
    refine n_if_le (tgt := 25) hx hb dX6_take_20 (by decide) (by decide) (fun c_20 => ?_) (fun c_20 => ?_)
    · skip
      exact absurd c_20 (by omega)
    · skip
      refine lv_iconst (v := nI 0) hx hb dX6_take_23 (by decide) ?_
      have hb_9243 : F_9240 b = mO ma (va_up mi 2 (nI 1)) (hh) := f_9241
      have f_9244 : F_9234 (ma 0) = .inl (G.2 0, 89, .inl zf) := (o_9238 (ma 0) ).trans fz
      have f_9245 : F_9240 (ma 0) = .inl (G.2 0, 89, .inl zf) := (o_9242 (ma 0) (ne_ao f_9244 f_9239)).trans f_9244
      have f_9246 : F_9234 (ma 1) = .inl (G.2 0, 534, .inl hf) := (o_9238 (ma 1) ).trans fh
      have f_9247 : F_9240 (ma 1) = .inl (G.2 0, 534, .inl hf) := (o_9242 (ma 1) (ne_ao f_9246 f_9239)).trans f_9246
      have f_9248 : F_9234 (ma 2) = .inl (G.2 0, 178, .inl sf) := (o_9238 (ma 2) ).trans fs
      have f_9249 : F_9240 (ma 2) = .inl (G.2 0, 178, .inl sf) := (o_9242 (ma 2) (ne_ao f_9248 f_9239)).trans f_9248
      have f_9250 : F_9234 (ma 3) = .inl (G.2 0, 2, .inl kf) := (o_9238 (ma 3) ).trans fk
      have f_9251 : F_9240 (ma 3) = .inl (G.2 0, 2, .inl kf) := (o_9242 (ma 3) (ne_ao f_9250 f_9239)).trans f_9250
      have f_9252 : F_9234 (ma 4) = pcE G pl := (o_9238 (ma 4) ).trans fp
      have f_9253 : F_9240 (ma 4) = pcE G pl := (o_9242 (ma 4) (ne_ao f_9252 f_9239)).trans f_9252
      have f_9254 : F_9234 (ma 5) = .inl (G.2 0, 60, .inl tf) := (o_9238 (ma 5) ).trans ft
      have f_9255 : F_9240 (ma 5) = .inl (G.2 0, 60, .inl tf) := (o_9242 (ma 5) (ne_ao f_9254 f_9239)).trans f_9254
      have f_9256 : F_9234 (ma 6) = .inl (G.2 0, 52, .inl pf) := (o_9238 (ma 6) ).trans fq
      have f_9257 : F_9240 (ma 6) = .inl (G.2 0, 52, .inl pf) := (o_9242 (ma 6) (ne_ao f_9256 f_9239)).trans f_9256
      exact r_i C0 hr hlk hw (v := nI 0) rfl ⟨⟨_, _, _, _, _, _, _, _, _, hb_9243, ⟨hm0, hm1, rfl⟩, ⟨f_9245, hz⟩, ⟨f_9247, hhf⟩, ⟨f_9249, hsf⟩, ⟨f_9251, hkf⟩, f_9253, ⟨f_9255, htf⟩, f_9257⟩, (fun q k0 k1 => ((o_9242 q k0).trans (o_9238 q )))⟩ (Nat.le_refl _) (Nat.le_refl _) dX6_take_24 hQ
  · skip
    exact absurd c_5 (by omega)
set_option maxHeartbeats 4000000 in
set_option maxRecDepth 100000 in
theorem k_X6_take (l : Launch) (G : Gl) (L : List Nat) (F : Nat → va_E) (b : Nat) (ma : Nat → Nat) (A : AB) (th : Nat) (j9 : Nat) (mb : b ∈ L) (hma : ∀ i, i < 7 → ma i ∈ L) (hM : MW G F b ma A th) (hA : okA A) (hj9 : j9 < 2) (h9 : inR (nI j9) 0 1) : CI l yX6_take cX6_take 3 (some .int) rm_X6_take G L F [.ref b, .int (nI (j9))] (fun r F1 => r = nI (cntR (fun i => A.1.2.2.2.2.2 i) 6) ∧ MW G F1 b ma (A.1, A.2.1, takeN j9 A.1.1 A.1.2.2.2.2.2 A.2.2.1, A.2.2.2) 0 ∧ mFr F F1 b ma) := by
  obtain ⟨mi, hh, zf, hf, sf, kf, tf, pf, pl, fb, ⟨hm0, hm1, hm2⟩, ⟨fz, hz⟩, ⟨fh, hhf⟩, ⟨fs, hsf⟩, ⟨fk, hkf⟩, fp, ⟨ft, htf⟩, fq⟩ := hM
  obtain ⟨hz0, hz1, hz2, hz3, hz4⟩ := ne_z zf hz
  have hc : A.1.1 ≤ 6 := hA.1.2.1
  have hc2 : 2 ≤ A.1.1 := hA.1.1
  have hpu : A.1.2.1 ≤ 100000 := hA.1.2.2.1
  have hrw : ∀ i k, i < 12 → k < 7 → zf (5 + 7 * i + k) = nI (A.1.2.2.2.2.2 i k).val := hz.row
  refine CG_of (by decide) (Nat.le_of_ble_eq_true rfl) rfl ?_
  intro p e s m args below meth c Q C0 hr hlk hnm hQ hw ls hl
  have hx := C0.x
  have hb := C0.b
  refine lv_aload_n hx hb dX6_take_0 rfl (lv_at hl 0 rfl) ?_
  refine lv_iload_n hx hb dX6_take_1 rfl (lv_at hl 1 rfl) ?_
  refine q_calli hw (q_runS (As := [.int (nI (j9))]) (c_X6_isSnapshot l G L F (nI (j9))) C0 hw sw_X6_196 rfl hl.1 rfl (Nat.le_of_ble_eq_true rfl) dX6_take_2 ⟨by decide, by decide⟩ ⟨by decide, by decide⟩) rfl rfl (fun r_9260 F_9258 H locs hw hp_9259 => ?_)
  obtain ⟨he_9261, o_9262⟩ := hp_9259
  rw [if_pos h9] at he_9261
  subst he_9261
  refine n_if_eq (tgt := 12) hx hb dX6_take_5 (by decide) (by decide) (fun c_5 => ?_) (fun c_5 => ?_)
  · skip
    exact absurd c_5 (by omega)
  · skip
    refine lv_iconst (v := nI 0) hx hb dX6_take_8 (by decide) ?_
    refine lv_goto (tgt := 13) hx hb dX6_take_9 (by decide) ?_
    have f_9263 : F_9258 b = mO ma mi hh := (o_9262 b ).trans fb
    refine q_put C0 hw mb f_9263 fw_X6_31 pw_X6_8 rfl rfl rfl (Nat.le_of_ble_eq_true rfl) dX6_take_13 (fun F_9264 H locs hw f_9265 o_9266 => ?_)
    have f_9265 : F_9264 b = .inr (6, [.ref (ma 0), .int (mi 0), .ref (ma 1), .ref (ma 2), .ref (ma 3), .ref (ma 4), .int (mi 1), .ref (ma 5), .int (nI (0)), .ref (ma 6), .int (mi 3), .int (mi 4), .long (hh)]) := f_9265
    refine lv_aload_n hx hb dX6_take_16 rfl (lv_at hl 0 rfl) ?_
    refine q_get C0 hw mb f_9265 fw_X6_31 rfl dX6_take_17 ?_
    refine n_if_le (tgt := 25) hx hb dX6_take_20 (by decide) (by decide) (fun c_20 => ?_) (fun c_20 => ?_)
    · skip
      refine lv_aload_n hx hb dX6_take_25 rfl (lv_at hl 0 rfl) ?_
      refine q_get C0 hw mb f_9265 fw_X6_19 rfl dX6_take_26 ?_
      refine lv_iload_n hx hb dX6_take_29 rfl (lv_at hl 1 rfl) ?_
      refine lv_iconst (v := nI 1) hx hb dX6_take_30 (by decide) ?_
      have f_9267 : F_9258 (ma 3) = .inl (G.2 0, 2, .inl kf) := (o_9262 (ma 3) ).trans fk
      have f_9268 : F_9264 (ma 3) = .inl (G.2 0, 2, .inl kf) := (o_9266 (ma 3) (ne_ao f_9267 f_9263)).trans f_9267
      refine q_iast C0 hw ((hma 3 (by decide))) f_9268 (j9) (by omega) (by decide) dX6_take_31 (fun F_9269 H locs hw f_9270 o_9271 => ?_)
      refine lv_iconst (v := nI 0) hx hb dX6_take_32 (by decide) ?_
      refine lv_istore_n (lv' := [(2, .int (nI (0))), (0, .ref b), (1, .int (nI (j9)))]) hx hb dX6_take_33 rfl hl (by decide) rfl (fun ls hl => ?_)
      have f_9272 : F_9269 b = .inr (6, [.ref (ma 0), .int (mi 0), .ref (ma 1), .ref (ma 2), .ref (ma 3), .ref (ma 4), .int (mi 1), .ref (ma 5), .int (nI (0)), .ref (ma 6), .int (mi 3), .int (mi 4), .long (hh)]) := (o_9271 b (ne_oa f_9265 f_9268)).trans f_9265
      have hb_9273 : F_9269 b = mO ma (va_up mi 2 (nI 0)) hh := f_9272
      have lp34 : ∀ (n : Nat) (k9 : Nat), 0 ≤ k9 → k9 ≤ 89 → 89 + 1 - k9 < n → ∀ (F_9274 : Nat → va_E) (H : Heap) (locs : List Loc), wD G L F_9274 s H locs → F_9274 b = mO ma ((va_up mi 2 (nI 0))) hh → F_9274 (ma 3) = .inl (G.2 0, 2, .inl ((upd kf j9 (nI 1)))) → F_9274 (ma 2) = .inl (G.2 0, 178, .inl ((cpM sf zf j9 k9))) → (∀ q, q ≠ b → q ≠ (ma 3) → q ≠ (ma 2) → F_9274 q = F q) → ∀ ls : Array Slot, lv_has ls 3 [(0, .ref b), (1, .int (nI (j9))), (2, .int (nI (k9)))] → W p l e rm_X6_take s m args below meth c H locs 0 0 Q (F0 m 34 ls []) := by
        intro n
        induction n with
        | zero => intro k9 hlo hhi hm; exact absurd hm (Nat.not_lt_zero _)
        | succ n ih_34 =>
          intro k9 hlo hhi hm F_9274 H locs hw f_9275 f_9276 f_9277 fr_9278 ls hl
          refine lv_iload_n hx hb dX6_take_34 rfl (lv_at hl 2 rfl) ?_
          refine lv_bipush (v := nI 89) hx hb dX6_take_35 (by decide) ?_
          refine n_icmp_ge (tgt := 63) hx hb dX6_take_37 (by decide) (by omega) (by decide) (fun c_37 => ?_) (fun c_37 => ?_)
          · skip
            obtain rfl : k9 = 89 := by omega
            have hs89 := tk_s (j := j9) hz hsf
            have hk89 := tk_k (j := j9) (cu := A.1.1) (r := A.1.2.2.2.2.2) hkf
            refine lv_aload_n hx hb dX6_take_63 rfl (lv_at hl 0 rfl) ?_
            have f_9279 : F_9274 (ma 0) = .inl (G.2 0, 89, .inl zf) := (fr_9278 (ma 0) (ne_ao fz fb) (ne_aa (by decide) fz fk) (ne_aa (by decide) fz fs)).trans fz
            have f_9280 : F_9274 (ma 4) = pcE G pl := (fr_9278 (ma 4) (ne_ao fp fb) (ne_aa (by decide) fp fk) (ne_aa (by decide) fp fs)).trans fp
            refine q_calli hw (q_runV (As := []) (c_X6_fieldsNotZero l G L F_9274 b ma (va_up mi 2 (nI 0)) hh pl zf A.1.1 A.1.2.2.2.2.2 mb f_9275 hma f_9280 f_9279 hz0 (by omega) (by omega) hrw) C0 hw vw_X6_199 mb f_9275 rfl rfl rfl hl.1 rfl (Nat.le_of_ble_eq_true rfl) dX6_take_64 ⟨by decide, by decide⟩ ⟨by decide, by decide⟩) rfl rfl (fun r_9283 F_9281 H locs hw hp_9282 => ?_)
            obtain ⟨f_9285, ⟨P_9284, f_9286, f_9288⟩, f_9287⟩ := hp_9282
            subst f_9285
            have f_9289 : F_9281 b = .inr (6, [.ref (ma 0), .int (((va_up mi 2 (nI 0))) 0), .ref (ma 1), .ref (ma 2), .ref (ma 3), .ref (ma 4), .int (((va_up mi 2 (nI 0))) 1), .ref (ma 5), .int (((va_up mi 2 (nI 0))) 2), .ref (ma 6), .int (((va_up mi 2 (nI 0))) 3), .int (((va_up mi 2 (nI 0))) 4), .long (hh)]) := (f_9287 b (ne_oa f_9275 f_9280)).trans f_9275
            have hb_9290 : F_9281 b = mO ma (va_up (va_up (va_up (va_up (va_up mi 0 ((((va_up mi 2 (nI 0))) 0))) 1 ((((va_up mi 2 (nI 0))) 1))) 2 ((((va_up mi 2 (nI 0))) 2))) 3 ((((va_up mi 2 (nI 0))) 3))) 4 ((((va_up mi 2 (nI 0))) 4))) (hh) := f_9289
            have f_9291 : F_9281 (ma 0) = .inl (G.2 0, 89, .inl zf) := (f_9287 (ma 0) (ne_aa (by decide) f_9279 f_9280)).trans f_9279
            have f_9292 : F_9274 (ma 1) = .inl (G.2 0, 534, .inl hf) := (fr_9278 (ma 1) (ne_ao fh fb) (ne_aa (by decide) fh fk) (ne_aa (by decide) fh fs)).trans fh
            have f_9293 : F_9281 (ma 1) = .inl (G.2 0, 534, .inl hf) := (f_9287 (ma 1) (ne_aa (by decide) f_9292 f_9280)).trans f_9292
            have f_9294 : F_9281 (ma 2) = .inl (G.2 0, 178, .inl ((cpM sf zf j9 89))) := (f_9287 (ma 2) (ne_aa (by decide) f_9277 f_9280)).trans f_9277
            have f_9295 : F_9281 (ma 3) = .inl (G.2 0, 2, .inl ((upd kf j9 (nI 1)))) := (f_9287 (ma 3) (ne_aa (by decide) f_9276 f_9280)).trans f_9276
            have f_9296 : F_9274 (ma 5) = .inl (G.2 0, 60, .inl tf) := (fr_9278 (ma 5) (ne_ao ft fb) (ne_aa (by decide) ft fk) (ne_aa (by decide) ft fs)).trans ft
            have f_9297 : F_9281 (ma 5) = .inl (G.2 0, 60, .inl tf) := (f_9287 (ma 5) (ne_aa (by decide) f_9296 f_9280)).trans f_9296
            have f_9298 : F_9274 (ma 6) = .inl (G.2 0, 52, .inl pf) := (fr_9278 (ma 6) (ne_ao fq fb) (ne_aa (by decide) fq fk) (ne_aa (by decide) fq fs)).trans fq
            have f_9299 : F_9281 (ma 6) = .inl (G.2 0, 52, .inl pf) := (f_9287 (ma 6) (ne_aa (by decide) f_9298 f_9280)).trans f_9298
            exact r_i C0 hr hlk hw (v := nI (cntR (fun i => A.1.2.2.2.2.2 i) 6)) rfl ⟨rfl, ⟨_, _, _, _, _, _, _, _, _, hb_9290, ⟨hm0, hm1, rfl⟩, ⟨f_9291, hz⟩, ⟨f_9293, hhf⟩, ⟨f_9294, hs89⟩, ⟨f_9295, hk89⟩, f_9286, ⟨f_9297, htf⟩, f_9299⟩, (fun q k0 k1 => ((f_9287 q (k1 4 (by decide))).trans (fr_9278 q k0 (k1 3 (by decide)) (k1 2 (by decide)))))⟩ (Nat.le_refl _) (Nat.le_refl _) dX6_take_67 hQ
          · skip
            refine lv_aload_n hx hb dX6_take_40 rfl (lv_at hl 0 rfl) ?_
            refine q_get C0 hw mb f_9275 fw_X6_16 rfl dX6_take_41 ?_
            refine lv_bipush (v := nI 89) hx hb dX6_take_44 (by decide) ?_
            refine lv_iload_n hx hb dX6_take_46 rfl (lv_at hl 1 rfl) ?_
            refine n_imul hx hb dX6_take_47 ?_
            refine lv_iload_n hx hb dX6_take_48 rfl (lv_at hl 2 rfl) ?_
            refine n_iadd hx hb dX6_take_49 ?_
            refine lv_aload_n hx hb dX6_take_50 rfl (lv_at hl 0 rfl) ?_
            refine q_get C0 hw mb f_9275 fw_X6_7 rfl dX6_take_51 ?_
            refine lv_iload_n hx hb dX6_take_54 rfl (lv_at hl 2 rfl) ?_
            have f_9300 : F_9274 (ma 0) = .inl (G.2 0, 89, .inl zf) := (fr_9278 (ma 0) (ne_ao fz fb) (ne_aa (by decide) fz fk) (ne_aa (by decide) fz fs)).trans fz
            refine q_iald C0 hw ((hma 0 (by decide))) f_9300 (k9) (by omega) (by decide) (v := (zf (k9))) rfl dX6_take_55 ?_
            refine q_iast C0 hw ((hma 2 (by decide))) f_9277 (89 * j9 + k9) (by omega) (by decide) dX6_take_56 (fun F_9301 H locs hw f_9302 o_9303 => ?_)
            refine lv_iinc (v := nI (k9 + 1)) (lv' := [(2, .int (nI (k9 + 1))), (0, .ref b), (1, .int (nI (j9)))]) hx hb dX6_take_57 hl (k := 2) rfl (nI_add _ _) (by decide) rfl (fun ls hl => ?_)
            refine lv_goto (tgt := 34) hx hb dX6_take_60 (by decide) ?_
            have f_9304 : F_9301 b = mO ma ((va_up mi 2 (nI 0))) hh := (o_9303 b (ne_oa f_9275 f_9277)).trans f_9275
            have f_9305 : F_9301 (ma 3) = .inl (G.2 0, 2, .inl ((upd kf j9 (nI 1)))) := (o_9303 (ma 3) (ne_aa (by decide) f_9276 f_9277)).trans f_9276
            exact ih_34 (k9 + 1) ((by omega)) ((by omega)) (by omega) F_9301 _ _ hw (f_9304) (f_9305) (f_9302.trans (by rw [cpM_s])) (fun q k0 k1 k2 => ((o_9303 q k2).trans (fr_9278 q k0 k1 k2))) ls (lv_sub hl [1, 2, 0] rfl)
      have f_9306 : F_9258 (ma 2) = .inl (G.2 0, 178, .inl sf) := (o_9262 (ma 2) ).trans fs
      have f_9307 : F_9264 (ma 2) = .inl (G.2 0, 178, .inl sf) := (o_9266 (ma 2) (ne_ao f_9306 f_9263)).trans f_9306
      have f_9308 : F_9269 (ma 2) = .inl (G.2 0, 178, .inl sf) := (o_9271 (ma 2) (ne_aa (by decide) f_9307 f_9268)).trans f_9307
      exact lp34 _ (0) ((by omega)) ((by omega)) (Nat.lt_succ_self _) F_9269 _ _ hw (hb_9273) (f_9270) (f_9308.trans (by rw [cpM_0])) (fun q k0 k1 k2 => ((o_9271 q k1).trans ((o_9266 q k0).trans (o_9262 q )))) ls (lv_sub hl [1, 2, 0] rfl)
    · skip
      exact absurd c_20 (by omega)
abbrev rm_X6_restore : Room := { frames := 3, cells := 0, slots := 0, locals := 68 }
set_option maxHeartbeats 4000000 in
set_option maxRecDepth 100000 in
theorem k_X6_restore_x1 (l : Launch) (G : Gl) (L : List Nat) (F : Nat → va_E) (b : Nat) (ma : Nat → Nat) (A : AB) (th : Nat) (x9 : Int32) (mb : b ∈ L) (hma : ∀ i, i < 7 → ma i ∈ L) (hM : MW G F b ma A th) (hA : okA A) (h9 : ¬ inR x9 0 1) : CI l yX6_restore cX6_restore 3 (some .int) rm_X6_restore G L F [.ref b, .int (x9)] (fun r F1 => MW G F1 b ma A 1 ∧ mFr F F1 b ma) := by
  obtain ⟨mi, hh, zf, hf, sf, kf, tf, pf, pl, fb, ⟨hm0, hm1, hm2⟩, ⟨fz, hz⟩, ⟨fh, hhf⟩, ⟨fs, hsf⟩, ⟨fk, hkf⟩, fp, ⟨ft, htf⟩, fq⟩ := hM
  obtain ⟨hz0, hz1, hz2, hz3, hz4⟩ := ne_z zf hz
  have hc : A.1.1 ≤ 6 := hA.1.2.1
  have hc2 : 2 ≤ A.1.1 := hA.1.1
  have hpu : A.1.2.1 ≤ 100000 := hA.1.2.2.1
  have hrw : ∀ i k, i < 12 → k < 7 → zf (5 + 7 * i + k) = nI (A.1.2.2.2.2.2 i k).val := hz.row
  refine CG_of (by decide) (Nat.le_of_ble_eq_true rfl) rfl ?_
  intro p e s m args below meth c Q C0 hr hlk hnm hQ hw ls hl
  have hx := C0.x
  have hb := C0.b
  refine lv_aload_n hx hb dX6_restore_0 rfl (lv_at hl 0 rfl) ?_
  refine lv_iload_n hx hb dX6_restore_1 rfl (lv_at hl 1 rfl) ?_
  refine q_calli hw (q_runS (As := [.int (x9)]) (c_X6_isSnapshot l G L F (x9)) C0 hw sw_X6_196 rfl hl.1 rfl (Nat.le_of_ble_eq_true rfl) dX6_restore_2 ⟨by decide, by decide⟩ ⟨by decide, by decide⟩) rfl rfl (fun r_9311 F_9309 H locs hw hp_9310 => ?_)
  obtain ⟨he_9312, o_9313⟩ := hp_9310
  rw [if_neg h9] at he_9312
  subst he_9312
  refine n_if_eq (tgt := 12) hx hb dX6_restore_5 (by decide) (by decide) (fun c_5 => ?_) (fun c_5 => ?_)
  · skip
    refine lv_iconst (v := nI 1) hx hb dX6_restore_12 (by decide) ?_
    have f_9314 : F_9309 b = mO ma mi hh := (o_9313 b ).trans fb
    refine q_put C0 hw mb f_9314 fw_X6_31 pw_X6_8 rfl rfl rfl (Nat.le_of_ble_eq_true rfl) dX6_restore_13 (fun F_9315 H locs hw f_9316 o_9317 => ?_)
    have f_9316 : F_9315 b = .inr (6, [.ref (ma 0), .int (mi 0), .ref (ma 1), .ref (ma 2), .ref (ma 3), .ref (ma 4), .int (mi 1), .ref (ma 5), .int (nI (1)), .ref (ma 6), .int (mi 3), .int (mi 4), .long (hh)]) := f_9316
    refine lv_aload_n hx hb dX6_restore_16 rfl (lv_at hl 0 rfl) ?_
    refine q_get C0 hw mb f_9316 fw_X6_31 rfl dX6_restore_17 ?_
    refine n_if_ne (tgt := 42) hx hb dX6_restore_20 (by decide) (by decide) (fun c_20 => ?_) (fun c_20 => ?_)
    · skip
      refine lv_aload_n hx hb dX6_restore_42 rfl (lv_at hl 0 rfl) ?_
      refine q_get C0 hw mb f_9316 fw_X6_31 rfl dX6_restore_43 ?_
      refine n_if_le (tgt := 51) hx hb dX6_restore_46 (by decide) (by decide) (fun c_46 => ?_) (fun c_46 => ?_)
      · skip
        exact absurd c_46 (by omega)
      · skip
        refine lv_iconst (v := nI 0) hx hb dX6_restore_49 (by decide) ?_
        have hb_9318 : F_9315 b = mO ma (va_up mi 2 (nI 1)) (hh) := f_9316
        have f_9319 : F_9309 (ma 0) = .inl (G.2 0, 89, .inl zf) := (o_9313 (ma 0) ).trans fz
        have f_9320 : F_9315 (ma 0) = .inl (G.2 0, 89, .inl zf) := (o_9317 (ma 0) (ne_ao f_9319 f_9314)).trans f_9319
        have f_9321 : F_9309 (ma 1) = .inl (G.2 0, 534, .inl hf) := (o_9313 (ma 1) ).trans fh
        have f_9322 : F_9315 (ma 1) = .inl (G.2 0, 534, .inl hf) := (o_9317 (ma 1) (ne_ao f_9321 f_9314)).trans f_9321
        have f_9323 : F_9309 (ma 2) = .inl (G.2 0, 178, .inl sf) := (o_9313 (ma 2) ).trans fs
        have f_9324 : F_9315 (ma 2) = .inl (G.2 0, 178, .inl sf) := (o_9317 (ma 2) (ne_ao f_9323 f_9314)).trans f_9323
        have f_9325 : F_9309 (ma 3) = .inl (G.2 0, 2, .inl kf) := (o_9313 (ma 3) ).trans fk
        have f_9326 : F_9315 (ma 3) = .inl (G.2 0, 2, .inl kf) := (o_9317 (ma 3) (ne_ao f_9325 f_9314)).trans f_9325
        have f_9327 : F_9309 (ma 4) = pcE G pl := (o_9313 (ma 4) ).trans fp
        have f_9328 : F_9315 (ma 4) = pcE G pl := (o_9317 (ma 4) (ne_ao f_9327 f_9314)).trans f_9327
        have f_9329 : F_9309 (ma 5) = .inl (G.2 0, 60, .inl tf) := (o_9313 (ma 5) ).trans ft
        have f_9330 : F_9315 (ma 5) = .inl (G.2 0, 60, .inl tf) := (o_9317 (ma 5) (ne_ao f_9329 f_9314)).trans f_9329
        have f_9331 : F_9309 (ma 6) = .inl (G.2 0, 52, .inl pf) := (o_9313 (ma 6) ).trans fq
        have f_9332 : F_9315 (ma 6) = .inl (G.2 0, 52, .inl pf) := (o_9317 (ma 6) (ne_ao f_9331 f_9314)).trans f_9331
        exact r_i C0 hr hlk hw (v := nI 0) rfl ⟨⟨_, _, _, _, _, _, _, _, _, hb_9318, ⟨hm0, hm1, rfl⟩, ⟨f_9320, hz⟩, ⟨f_9322, hhf⟩, ⟨f_9324, hsf⟩, ⟨f_9326, hkf⟩, f_9328, ⟨f_9330, htf⟩, f_9332⟩, (fun q k0 k1 => ((o_9317 q k0).trans (o_9313 q )))⟩ (Nat.le_refl _) (Nat.le_refl _) dX6_restore_50 hQ
    · skip
      exact absurd c_20 (by omega)
  · skip
    exact absurd c_5 (by omega)
set_option maxHeartbeats 4000000 in
set_option maxRecDepth 100000 in
theorem k_X6_restore_x2 (l : Launch) (G : Gl) (L : List Nat) (F : Nat → va_E) (b : Nat) (ma : Nat → Nat) (A : AB) (th : Nat) (j9 : Nat) (mb : b ∈ L) (hma : ∀ i, i < 7 → ma i ∈ L) (hM : MW G F b ma A th) (hA : okA A) (hj9 : j9 < 2) (h9 : inR (nI j9) 0 1) (ht9 : ¬ (A.2.2.1 j9).1 = true) : CI l yX6_restore cX6_restore 3 (some .int) rm_X6_restore G L F [.ref b, .int (nI (j9))] (fun r F1 => MW G F1 b ma A 2 ∧ mFr F F1 b ma) := by
  obtain ⟨mi, hh, zf, hf, sf, kf, tf, pf, pl, fb, ⟨hm0, hm1, hm2⟩, ⟨fz, hz⟩, ⟨fh, hhf⟩, ⟨fs, hsf⟩, ⟨fk, hkf⟩, fp, ⟨ft, htf⟩, fq⟩ := hM
  obtain ⟨hz0, hz1, hz2, hz3, hz4⟩ := ne_z zf hz
  have hc : A.1.1 ≤ 6 := hA.1.2.1
  have hc2 : 2 ≤ A.1.1 := hA.1.1
  have hpu : A.1.2.1 ≤ 100000 := hA.1.2.2.1
  have hrw : ∀ i k, i < 12 → k < 7 → zf (5 + 7 * i + k) = nI (A.1.2.2.2.2.2 i k).val := hz.row
  refine CG_of (by decide) (Nat.le_of_ble_eq_true rfl) rfl ?_
  intro p e s m args below meth c Q C0 hr hlk hnm hQ hw ls hl
  have hx := C0.x
  have hb := C0.b
  refine lv_aload_n hx hb dX6_restore_0 rfl (lv_at hl 0 rfl) ?_
  refine lv_iload_n hx hb dX6_restore_1 rfl (lv_at hl 1 rfl) ?_
  refine q_calli hw (q_runS (As := [.int (nI (j9))]) (c_X6_isSnapshot l G L F (nI (j9))) C0 hw sw_X6_196 rfl hl.1 rfl (Nat.le_of_ble_eq_true rfl) dX6_restore_2 ⟨by decide, by decide⟩ ⟨by decide, by decide⟩) rfl rfl (fun r_9335 F_9333 H locs hw hp_9334 => ?_)
  obtain ⟨he_9336, o_9337⟩ := hp_9334
  rw [if_pos h9] at he_9336
  subst he_9336
  refine n_if_eq (tgt := 12) hx hb dX6_restore_5 (by decide) (by decide) (fun c_5 => ?_) (fun c_5 => ?_)
  · skip
    exact absurd c_5 (by omega)
  · skip
    refine lv_iconst (v := nI 0) hx hb dX6_restore_8 (by decide) ?_
    refine lv_goto (tgt := 13) hx hb dX6_restore_9 (by decide) ?_
    have f_9338 : F_9333 b = mO ma mi hh := (o_9337 b ).trans fb
    refine q_put C0 hw mb f_9338 fw_X6_31 pw_X6_8 rfl rfl rfl (Nat.le_of_ble_eq_true rfl) dX6_restore_13 (fun F_9339 H locs hw f_9340 o_9341 => ?_)
    have f_9340 : F_9339 b = .inr (6, [.ref (ma 0), .int (mi 0), .ref (ma 1), .ref (ma 2), .ref (ma 3), .ref (ma 4), .int (mi 1), .ref (ma 5), .int (nI (0)), .ref (ma 6), .int (mi 3), .int (mi 4), .long (hh)]) := f_9340
    refine lv_aload_n hx hb dX6_restore_16 rfl (lv_at hl 0 rfl) ?_
    refine q_get C0 hw mb f_9340 fw_X6_31 rfl dX6_restore_17 ?_
    refine n_if_ne (tgt := 42) hx hb dX6_restore_20 (by decide) (by decide) (fun c_20 => ?_) (fun c_20 => ?_)
    · skip
      exact absurd c_20 (by omega)
    · skip
      refine lv_aload_n hx hb dX6_restore_23 rfl (lv_at hl 0 rfl) ?_
      refine lv_aload_n hx hb dX6_restore_24 rfl (lv_at hl 0 rfl) ?_
      refine q_get C0 hw mb f_9340 fw_X6_19 rfl dX6_restore_25 ?_
      refine lv_iload_n hx hb dX6_restore_28 rfl (lv_at hl 1 rfl) ?_
      have f_9342 : F_9333 (ma 3) = .inl (G.2 0, 2, .inl kf) := (o_9337 (ma 3) ).trans fk
      have f_9343 : F_9339 (ma 3) = .inl (G.2 0, 2, .inl kf) := (o_9341 (ma 3) (ne_ao f_9342 f_9338)).trans f_9342
      refine q_iald C0 hw ((hma 3 (by decide))) f_9343 (j9) (by omega) (by decide) (v := nI 0) ((hkf j9 hj9).trans (if_neg ht9)) dX6_restore_29 ?_
      refine lv_iconst (v := nI 1) hx hb dX6_restore_30 (by decide) ?_
      refine n_icmp_ne (tgt := 38) hx hb dX6_restore_31 (by decide) (by decide) (by decide) (fun c_31 => ?_) (fun c_31 => ?_)
      · skip
        refine lv_iconst (v := nI 2) hx hb dX6_restore_38 (by decide) ?_
        refine q_put C0 hw mb f_9340 fw_X6_31 pw_X6_8 rfl rfl rfl (Nat.le_of_ble_eq_true rfl) dX6_restore_39 (fun F_9344 H locs hw f_9345 o_9346 => ?_)
        have f_9345 : F_9344 b = .inr (6, [.ref (ma 0), .int (mi 0), .ref (ma 1), .ref (ma 2), .ref (ma 3), .ref (ma 4), .int (mi 1), .ref (ma 5), .int (nI (2)), .ref (ma 6), .int (mi 3), .int (mi 4), .long (hh)]) := f_9345
        refine lv_aload_n hx hb dX6_restore_42 rfl (lv_at hl 0 rfl) ?_
        refine q_get C0 hw mb f_9345 fw_X6_31 rfl dX6_restore_43 ?_
        refine n_if_le (tgt := 51) hx hb dX6_restore_46 (by decide) (by decide) (fun c_46 => ?_) (fun c_46 => ?_)
        · skip
          exact absurd c_46 (by omega)
        · skip
          refine lv_iconst (v := nI 0) hx hb dX6_restore_49 (by decide) ?_
          have hb_9347 : F_9344 b = mO ma (va_up mi 2 (nI 2)) (hh) := f_9345
          have f_9348 : F_9333 (ma 0) = .inl (G.2 0, 89, .inl zf) := (o_9337 (ma 0) ).trans fz
          have f_9349 : F_9339 (ma 0) = .inl (G.2 0, 89, .inl zf) := (o_9341 (ma 0) (ne_ao f_9348 f_9338)).trans f_9348
          have f_9350 : F_9344 (ma 0) = .inl (G.2 0, 89, .inl zf) := (o_9346 (ma 0) (ne_ao f_9349 f_9340)).trans f_9349
          have f_9351 : F_9333 (ma 1) = .inl (G.2 0, 534, .inl hf) := (o_9337 (ma 1) ).trans fh
          have f_9352 : F_9339 (ma 1) = .inl (G.2 0, 534, .inl hf) := (o_9341 (ma 1) (ne_ao f_9351 f_9338)).trans f_9351
          have f_9353 : F_9344 (ma 1) = .inl (G.2 0, 534, .inl hf) := (o_9346 (ma 1) (ne_ao f_9352 f_9340)).trans f_9352
          have f_9354 : F_9333 (ma 2) = .inl (G.2 0, 178, .inl sf) := (o_9337 (ma 2) ).trans fs
          have f_9355 : F_9339 (ma 2) = .inl (G.2 0, 178, .inl sf) := (o_9341 (ma 2) (ne_ao f_9354 f_9338)).trans f_9354
          have f_9356 : F_9344 (ma 2) = .inl (G.2 0, 178, .inl sf) := (o_9346 (ma 2) (ne_ao f_9355 f_9340)).trans f_9355
          have f_9357 : F_9344 (ma 3) = .inl (G.2 0, 2, .inl kf) := (o_9346 (ma 3) (ne_ao f_9343 f_9340)).trans f_9343
          have f_9358 : F_9333 (ma 4) = pcE G pl := (o_9337 (ma 4) ).trans fp
          have f_9359 : F_9339 (ma 4) = pcE G pl := (o_9341 (ma 4) (ne_ao f_9358 f_9338)).trans f_9358
          have f_9360 : F_9344 (ma 4) = pcE G pl := (o_9346 (ma 4) (ne_ao f_9359 f_9340)).trans f_9359
          have f_9361 : F_9333 (ma 5) = .inl (G.2 0, 60, .inl tf) := (o_9337 (ma 5) ).trans ft
          have f_9362 : F_9339 (ma 5) = .inl (G.2 0, 60, .inl tf) := (o_9341 (ma 5) (ne_ao f_9361 f_9338)).trans f_9361
          have f_9363 : F_9344 (ma 5) = .inl (G.2 0, 60, .inl tf) := (o_9346 (ma 5) (ne_ao f_9362 f_9340)).trans f_9362
          have f_9364 : F_9333 (ma 6) = .inl (G.2 0, 52, .inl pf) := (o_9337 (ma 6) ).trans fq
          have f_9365 : F_9339 (ma 6) = .inl (G.2 0, 52, .inl pf) := (o_9341 (ma 6) (ne_ao f_9364 f_9338)).trans f_9364
          have f_9366 : F_9344 (ma 6) = .inl (G.2 0, 52, .inl pf) := (o_9346 (ma 6) (ne_ao f_9365 f_9340)).trans f_9365
          exact r_i C0 hr hlk hw (v := nI 0) rfl ⟨⟨_, _, _, _, _, _, _, _, _, hb_9347, ⟨hm0, hm1, rfl⟩, ⟨f_9350, hz⟩, ⟨f_9353, hhf⟩, ⟨f_9356, hsf⟩, ⟨f_9357, hkf⟩, f_9360, ⟨f_9363, htf⟩, f_9366⟩, (fun q k0 k1 => ((o_9346 q k0).trans ((o_9341 q k0).trans (o_9337 q ))))⟩ (Nat.le_refl _) (Nat.le_refl _) dX6_restore_50 hQ
      · skip
        exact absurd c_31 (by omega)
set_option maxHeartbeats 4000000 in
set_option maxRecDepth 100000 in
theorem k_X6_restore (l : Launch) (G : Gl) (L : List Nat) (F : Nat → va_E) (b : Nat) (ma : Nat → Nat) (A : AB) (th : Nat) (j9 : Nat) (mb : b ∈ L) (hma : ∀ i, i < 7 → ma i ∈ L) (hM : MW G F b ma A th) (hA : okA A) (hj9 : j9 < 2) (h9 : inR (nI j9) 0 1) (ht9 : (A.2.2.1 j9).1 = true) : CI l yX6_restore cX6_restore 3 (some .int) rm_X6_restore G L F [.ref b, .int (nI (j9))] (fun r F1 => r = nI (cntR (fun i => (A.2.2.1 j9).2.2 i) 6) ∧ MW G F1 b ma (aSave A (shpS (A.2.2.1 j9).2.1 (A.2.2.1 j9).2.2 A.1)) 0 ∧ mFr F F1 b ma) := by
  obtain ⟨mi, hh, zf, hf, sf, kf, tf, pf, pl, fb, ⟨hm0, hm1, hm2⟩, ⟨fz, hz⟩, ⟨fh, hhf⟩, ⟨fs, hsf⟩, ⟨fk, hkf⟩, fp, ⟨ft, htf⟩, fq⟩ := hM
  obtain ⟨hz0, hz1, hz2, hz3, hz4⟩ := ne_z zf hz
  have hc : A.1.1 ≤ 6 := hA.1.2.1
  have hc2 : 2 ≤ A.1.1 := hA.1.1
  have hpu : A.1.2.1 ≤ 100000 := hA.1.2.2.1
  have hrw : ∀ i k, i < 12 → k < 7 → zf (5 + 7 * i + k) = nI (A.1.2.2.2.2.2 i k).val := hz.row
  refine CG_of (by decide) (Nat.le_of_ble_eq_true rfl) rfl ?_
  intro p e s m args below meth c Q C0 hr hlk hnm hQ hw ls hl
  have hx := C0.x
  have hb := C0.b
  refine lv_aload_n hx hb dX6_restore_0 rfl (lv_at hl 0 rfl) ?_
  refine lv_iload_n hx hb dX6_restore_1 rfl (lv_at hl 1 rfl) ?_
  refine q_calli hw (q_runS (As := [.int (nI (j9))]) (c_X6_isSnapshot l G L F (nI (j9))) C0 hw sw_X6_196 rfl hl.1 rfl (Nat.le_of_ble_eq_true rfl) dX6_restore_2 ⟨by decide, by decide⟩ ⟨by decide, by decide⟩) rfl rfl (fun r_9369 F_9367 H locs hw hp_9368 => ?_)
  obtain ⟨he_9370, o_9371⟩ := hp_9368
  rw [if_pos h9] at he_9370
  subst he_9370
  refine n_if_eq (tgt := 12) hx hb dX6_restore_5 (by decide) (by decide) (fun c_5 => ?_) (fun c_5 => ?_)
  · skip
    exact absurd c_5 (by omega)
  · skip
    refine lv_iconst (v := nI 0) hx hb dX6_restore_8 (by decide) ?_
    refine lv_goto (tgt := 13) hx hb dX6_restore_9 (by decide) ?_
    have f_9372 : F_9367 b = mO ma mi hh := (o_9371 b ).trans fb
    refine q_put C0 hw mb f_9372 fw_X6_31 pw_X6_8 rfl rfl rfl (Nat.le_of_ble_eq_true rfl) dX6_restore_13 (fun F_9373 H locs hw f_9374 o_9375 => ?_)
    have f_9374 : F_9373 b = .inr (6, [.ref (ma 0), .int (mi 0), .ref (ma 1), .ref (ma 2), .ref (ma 3), .ref (ma 4), .int (mi 1), .ref (ma 5), .int (nI (0)), .ref (ma 6), .int (mi 3), .int (mi 4), .long (hh)]) := f_9374
    refine lv_aload_n hx hb dX6_restore_16 rfl (lv_at hl 0 rfl) ?_
    refine q_get C0 hw mb f_9374 fw_X6_31 rfl dX6_restore_17 ?_
    refine n_if_ne (tgt := 42) hx hb dX6_restore_20 (by decide) (by decide) (fun c_20 => ?_) (fun c_20 => ?_)
    · skip
      exact absurd c_20 (by omega)
    · skip
      refine lv_aload_n hx hb dX6_restore_23 rfl (lv_at hl 0 rfl) ?_
      refine lv_aload_n hx hb dX6_restore_24 rfl (lv_at hl 0 rfl) ?_
      refine q_get C0 hw mb f_9374 fw_X6_19 rfl dX6_restore_25 ?_
      refine lv_iload_n hx hb dX6_restore_28 rfl (lv_at hl 1 rfl) ?_
      have f_9376 : F_9367 (ma 3) = .inl (G.2 0, 2, .inl kf) := (o_9371 (ma 3) ).trans fk
      have f_9377 : F_9373 (ma 3) = .inl (G.2 0, 2, .inl kf) := (o_9375 (ma 3) (ne_ao f_9376 f_9372)).trans f_9376
      refine q_iald C0 hw ((hma 3 (by decide))) f_9377 (j9) (by omega) (by decide) (v := nI 1) ((hkf j9 hj9).trans (if_pos ht9)) dX6_restore_29 ?_
      refine lv_iconst (v := nI 1) hx hb dX6_restore_30 (by decide) ?_
      refine n_icmp_ne (tgt := 38) hx hb dX6_restore_31 (by decide) (by decide) (by decide) (fun c_31 => ?_) (fun c_31 => ?_)
      · skip
        exact absurd c_31 (by omega)
      · skip
        refine lv_iconst (v := nI 0) hx hb dX6_restore_34 (by decide) ?_
        refine lv_goto (tgt := 39) hx hb dX6_restore_35 (by decide) ?_
        refine q_put C0 hw mb f_9374 fw_X6_31 pw_X6_8 rfl rfl rfl (Nat.le_of_ble_eq_true rfl) dX6_restore_39 (fun F_9378 H locs hw f_9379 o_9380 => ?_)
        have f_9379 : F_9378 b = .inr (6, [.ref (ma 0), .int (mi 0), .ref (ma 1), .ref (ma 2), .ref (ma 3), .ref (ma 4), .int (mi 1), .ref (ma 5), .int (nI (0)), .ref (ma 6), .int (mi 3), .int (mi 4), .long (hh)]) := f_9379
        refine lv_aload_n hx hb dX6_restore_42 rfl (lv_at hl 0 rfl) ?_
        refine q_get C0 hw mb f_9379 fw_X6_31 rfl dX6_restore_43 ?_
        refine n_if_le (tgt := 51) hx hb dX6_restore_46 (by decide) (by decide) (fun c_46 => ?_) (fun c_46 => ?_)
        · skip
          have hb_9381 : F_9378 b = mO ma (va_up mi 2 (nI 0)) hh := f_9379
          refine lv_aload_n hx hb dX6_restore_51 rfl (lv_at hl 0 rfl) ?_
          have f_9382 : F_9367 (ma 0) = .inl (G.2 0, 89, .inl zf) := (o_9371 (ma 0) ).trans fz
          have f_9383 : F_9373 (ma 0) = .inl (G.2 0, 89, .inl zf) := (o_9375 (ma 0) (ne_ao f_9382 f_9372)).trans f_9382
          have f_9384 : F_9378 (ma 0) = .inl (G.2 0, 89, .inl zf) := (o_9380 (ma 0) (ne_ao f_9383 f_9374)).trans f_9383
          have f_9385 : F_9367 (ma 1) = .inl (G.2 0, 534, .inl hf) := (o_9371 (ma 1) ).trans fh
          have f_9386 : F_9373 (ma 1) = .inl (G.2 0, 534, .inl hf) := (o_9375 (ma 1) (ne_ao f_9385 f_9372)).trans f_9385
          have f_9387 : F_9378 (ma 1) = .inl (G.2 0, 534, .inl hf) := (o_9380 (ma 1) (ne_ao f_9386 f_9374)).trans f_9386
          refine q_callv hw (q_runV (As := []) (c_X6_save l G L F_9378 b ma ((va_up mi 2 (nI 0))) hh zf hf A.2.1.1 mb hb_9381 hm0 hA.2.1.1 hma f_9384 f_9387) C0 hw vw_X6_87 mb hb_9381 rfl rfl rfl hl.1 rfl (Nat.le_of_ble_eq_true rfl) dX6_restore_52 ⟨by decide, by decide⟩ ⟨by decide, by decide⟩) rfl rfl (fun F_9388 H locs hw hp_9389 => ?_)
          obtain ⟨f_9390, f_9391, o_9392⟩ := hp_9389
          refine lv_iconst (v := nI 0) hx hb dX6_restore_55 (by decide) ?_
          refine lv_istore_n (lv' := [(2, .int (nI (0))), (0, .ref b), (1, .int (nI (j9)))]) hx hb dX6_restore_56 rfl hl (by decide) rfl (fun ls hl => ?_)
          have lp57 : ∀ (n : Nat) (k9 : Nat), 0 ≤ k9 → k9 ≤ 89 → 89 + 1 - k9 < n → ∀ (F_9393 : Nat → va_E) (H : Heap) (locs : List Loc), wD G L F_9393 s H locs → F_9393 b = mO ma ((va_up (va_up mi 2 (nI 0)) 0 (nI (svM A.2.1.1 hf zf).1))) hh → F_9393 (ma 1) = .inl (G.2 0, 534, .inl ((svM A.2.1.1 hf zf).2)) → F_9393 (ma 0) = .inl (G.2 0, 89, .inl ((rsM zf sf j9 k9))) → (∀ q, q ≠ b → q ≠ (ma 1) → q ≠ (ma 0) → F_9393 q = F q) → ∀ ls : Array Slot, lv_has ls 3 [(0, .ref b), (1, .int (nI (j9))), (2, .int (nI (k9)))] → W p l e rm_X6_restore s m args below meth c H locs 0 0 Q (F0 m 57 ls []) := by
            intro n
            induction n with
            | zero => intro k9 hlo hhi hm; exact absurd hm (Nat.not_lt_zero _)
            | succ n ih_57 =>
              intro k9 hlo hhi hm F_9393 H locs hw f_9394 f_9395 f_9396 fr_9397 ls hl
              refine lv_iload_n hx hb dX6_restore_57 rfl (lv_at hl 2 rfl) ?_
              refine lv_bipush (v := nI 89) hx hb dX6_restore_58 (by decide) ?_
              refine n_icmp_ge (tgt := 102) hx hb dX6_restore_60 (by decide) (by omega) (by decide) (fun c_60 => ?_) (fun c_60 => ?_)
              · skip
                obtain rfl : k9 = 89 := by omega
                have hzr := rs_ok hz hsf hj9 ht9
                have hzr0 : rsM zf sf j9 89 0 = nI (A.2.2.1 j9).2.1 := hzr 0 (by decide)
                obtain ⟨hcj2, hcj6, -⟩ := hA.2.2.1 j9 hj9 ht9
                refine lv_aload_n hx hb dX6_restore_102 rfl (lv_at hl 0 rfl) ?_
                have f_9398 : F_9393 (ma 4) = pcE G pl := (fr_9397 (ma 4) (ne_ao fp fb) (ne_aa (by decide) fp fh) (ne_aa (by decide) fp fz)).trans fp
                refine q_calli hw (q_runV (As := []) (c_X6_fieldsNotZero l G L F_9393 b ma (va_up (va_up mi 2 (nI 0)) 0 (nI (svM A.2.1.1 hf zf).1)) hh pl ((rsM zf sf j9 89)) (A.2.2.1 j9).2.1 ((A.2.2.1 j9).2.2) mb f_9394 hma f_9398 f_9396 hzr0 (by omega) (by omega) hzr.row) C0 hw vw_X6_199 mb f_9394 rfl rfl rfl hl.1 rfl (Nat.le_of_ble_eq_true rfl) dX6_restore_103 ⟨by decide, by decide⟩ ⟨by decide, by decide⟩) rfl rfl (fun r_9401 F_9399 H locs hw hp_9400 => ?_)
                obtain ⟨f_9403, ⟨P_9402, f_9404, f_9406⟩, f_9405⟩ := hp_9400
                subst f_9403
                have f_9407 : F_9399 b = .inr (6, [.ref (ma 0), .int (((va_up (va_up mi 2 (nI 0)) 0 (nI (svM A.2.1.1 hf zf).1))) 0), .ref (ma 1), .ref (ma 2), .ref (ma 3), .ref (ma 4), .int (((va_up (va_up mi 2 (nI 0)) 0 (nI (svM A.2.1.1 hf zf).1))) 1), .ref (ma 5), .int (((va_up (va_up mi 2 (nI 0)) 0 (nI (svM A.2.1.1 hf zf).1))) 2), .ref (ma 6), .int (((va_up (va_up mi 2 (nI 0)) 0 (nI (svM A.2.1.1 hf zf).1))) 3), .int (((va_up (va_up mi 2 (nI 0)) 0 (nI (svM A.2.1.1 hf zf).1))) 4), .long (hh)]) := (f_9405 b (ne_oa f_9394 f_9398)).trans f_9394
                have hb_9408 : F_9399 b = mO ma (va_up (va_up (va_up (va_up (va_up mi 0 ((((va_up (va_up mi 2 (nI 0)) 0 (nI (svM A.2.1.1 hf zf).1))) 0))) 1 ((((va_up (va_up mi 2 (nI 0)) 0 (nI (svM A.2.1.1 hf zf).1))) 1))) 2 ((((va_up (va_up mi 2 (nI 0)) 0 (nI (svM A.2.1.1 hf zf).1))) 2))) 3 ((((va_up (va_up mi 2 (nI 0)) 0 (nI (svM A.2.1.1 hf zf).1))) 3))) 4 ((((va_up (va_up mi 2 (nI 0)) 0 (nI (svM A.2.1.1 hf zf).1))) 4))) (hh) := f_9407
                have f_9409 : F_9399 (ma 0) = .inl (G.2 0, 89, .inl ((rsM zf sf j9 89))) := (f_9405 (ma 0) (ne_aa (by decide) f_9396 f_9398)).trans f_9396
                have f_9410 : F_9399 (ma 1) = .inl (G.2 0, 534, .inl ((svM A.2.1.1 hf zf).2)) := (f_9405 (ma 1) (ne_aa (by decide) f_9395 f_9398)).trans f_9395
                have f_9411 : F_9393 (ma 2) = .inl (G.2 0, 178, .inl sf) := (fr_9397 (ma 2) (ne_ao fs fb) (ne_aa (by decide) fs fh) (ne_aa (by decide) fs fz)).trans fs
                have f_9412 : F_9399 (ma 2) = .inl (G.2 0, 178, .inl sf) := (f_9405 (ma 2) (ne_aa (by decide) f_9411 f_9398)).trans f_9411
                have f_9413 : F_9393 (ma 3) = .inl (G.2 0, 2, .inl kf) := (fr_9397 (ma 3) (ne_ao fk fb) (ne_aa (by decide) fk fh) (ne_aa (by decide) fk fz)).trans fk
                have f_9414 : F_9399 (ma 3) = .inl (G.2 0, 2, .inl kf) := (f_9405 (ma 3) (ne_aa (by decide) f_9413 f_9398)).trans f_9413
                have f_9415 : F_9393 (ma 5) = .inl (G.2 0, 60, .inl tf) := (fr_9397 (ma 5) (ne_ao ft fb) (ne_aa (by decide) ft fh) (ne_aa (by decide) ft fz)).trans ft
                have f_9416 : F_9399 (ma 5) = .inl (G.2 0, 60, .inl tf) := (f_9405 (ma 5) (ne_aa (by decide) f_9415 f_9398)).trans f_9415
                have f_9417 : F_9393 (ma 6) = .inl (G.2 0, 52, .inl pf) := (fr_9397 (ma 6) (ne_ao fq fb) (ne_aa (by decide) fq fh) (ne_aa (by decide) fq fz)).trans fq
                have f_9418 : F_9399 (ma 6) = .inl (G.2 0, 52, .inl pf) := (f_9405 (ma 6) (ne_aa (by decide) f_9417 f_9398)).trans f_9417
                exact r_i C0 hr hlk hw (v := nI (cntR (fun i => ((A.2.2.1 j9).2.2) i) 6)) rfl ⟨rfl, ⟨_, _, _, _, _, _, _, _, _, hb_9408, ⟨(congrArg nI (sv_n (st := A.1) hA.2.1.1)), hm1, rfl⟩, ⟨f_9409, hzr⟩, ⟨f_9410, (sv_h hA.2.1.1 hz hhf)⟩, ⟨f_9412, hsf⟩, ⟨f_9414, hkf⟩, f_9404, ⟨f_9416, htf⟩, f_9418⟩, (fun q k0 k1 => ((f_9405 q (k1 4 (by decide))).trans (fr_9397 q k0 (k1 1 (by decide)) (k1 0 (by decide)))))⟩ (Nat.le_refl _) (Nat.le_refl _) dX6_restore_106 hQ
              · skip
                refine lv_aload_n hx hb dX6_restore_63 rfl (lv_at hl 0 rfl) ?_
                refine q_get C0 hw mb f_9394 fw_X6_7 rfl dX6_restore_64 ?_
                refine lv_iload_n hx hb dX6_restore_67 rfl (lv_at hl 2 rfl) ?_
                refine lv_iload_n hx hb dX6_restore_68 rfl (lv_at hl 2 rfl) ?_
                refine q_calli hw (q_runS (As := [.int (nI (k9))]) (c_X6_isKept l G L F_9393 k9 (by omega)) C0 hw sw_X6_202 rfl hl.1 rfl (Nat.le_of_ble_eq_true rfl) dX6_restore_69 ⟨by decide, by decide⟩ ⟨by decide, by decide⟩) rfl rfl (fun r_9421 F_9419 H locs hw hp_9420 => ?_)
                obtain ⟨he_9422, o_9423⟩ := hp_9420
                by_cases hb_9424 : k9 = 0 ∨ 5 ≤ k9
                · skip
                  rw [if_pos hb_9424] at he_9422
                  subst he_9422
                  refine n_if_eq (tgt := 89) hx hb dX6_restore_72 (by decide) (by decide) (fun c_72 => ?_) (fun c_72 => ?_)
                  · skip
                    exact absurd c_72 (by omega)
                  · skip
                    refine lv_aload_n hx hb dX6_restore_75 rfl (lv_at hl 0 rfl) ?_
                    have f_9425 : F_9419 b = mO ma ((va_up (va_up mi 2 (nI 0)) 0 (nI (svM A.2.1.1 hf zf).1))) hh := (o_9423 b ).trans f_9394
                    refine q_get C0 hw mb f_9425 fw_X6_16 rfl dX6_restore_76 ?_
                    refine lv_bipush (v := nI 89) hx hb dX6_restore_79 (by decide) ?_
                    refine lv_iload_n hx hb dX6_restore_81 rfl (lv_at hl 1 rfl) ?_
                    refine n_imul hx hb dX6_restore_82 ?_
                    refine lv_iload_n hx hb dX6_restore_83 rfl (lv_at hl 2 rfl) ?_
                    refine n_iadd hx hb dX6_restore_84 ?_
                    have f_9426 : F_9393 (ma 2) = .inl (G.2 0, 178, .inl sf) := (fr_9397 (ma 2) (ne_ao fs fb) (ne_aa (by decide) fs fh) (ne_aa (by decide) fs fz)).trans fs
                    have f_9427 : F_9419 (ma 2) = .inl (G.2 0, 178, .inl sf) := (o_9423 (ma 2) ).trans f_9426
                    refine q_iald C0 hw ((hma 2 (by decide))) f_9427 (89 * j9 + k9) (by omega) (by decide) (v := (sf (89 * j9 + k9))) rfl dX6_restore_85 ?_
                    refine lv_goto (tgt := 95) hx hb dX6_restore_86 (by decide) ?_
                    have f_9428 : F_9419 (ma 0) = .inl (G.2 0, 89, .inl ((rsM zf sf j9 k9))) := (o_9423 (ma 0) ).trans f_9396
                    refine q_iast C0 hw ((hma 0 (by decide))) f_9428 (k9) (by omega) (by decide) dX6_restore_95 (fun F_9429 H locs hw f_9430 o_9431 => ?_)
                    refine lv_iinc (v := nI (k9 + 1)) (lv' := [(2, .int (nI (k9 + 1))), (0, .ref b), (1, .int (nI (j9)))]) hx hb dX6_restore_96 hl (k := 2) rfl (nI_add _ _) (by decide) rfl (fun ls hl => ?_)
                    refine lv_goto (tgt := 57) hx hb dX6_restore_99 (by decide) ?_
                    have f_9432 : F_9429 b = mO ma ((va_up (va_up mi 2 (nI 0)) 0 (nI (svM A.2.1.1 hf zf).1))) hh := (o_9431 b (ne_oa f_9425 f_9428)).trans f_9425
                    have f_9433 : F_9419 (ma 1) = .inl (G.2 0, 534, .inl ((svM A.2.1.1 hf zf).2)) := (o_9423 (ma 1) ).trans f_9395
                    have f_9434 : F_9429 (ma 1) = .inl (G.2 0, 534, .inl ((svM A.2.1.1 hf zf).2)) := (o_9431 (ma 1) (ne_aa (by decide) f_9433 f_9428)).trans f_9433
                    exact ih_57 (k9 + 1) ((by omega)) ((by omega)) (by omega) F_9429 _ _ hw (f_9432) (f_9434) (f_9430.trans (by rw [rsM_a zf sf j9 hb_9424])) (fun q k0 k1 k2 => ((o_9431 q k2).trans ((o_9423 q ).trans (fr_9397 q k0 k1 k2)))) ls (lv_sub hl [1, 2, 0] rfl)
                · skip
                  rw [if_neg hb_9424] at he_9422
                  subst he_9422
                  refine n_if_eq (tgt := 89) hx hb dX6_restore_72 (by decide) (by decide) (fun c_72 => ?_) (fun c_72 => ?_)
                  · skip
                    refine lv_aload_n hx hb dX6_restore_89 rfl (lv_at hl 0 rfl) ?_
                    have f_9435 : F_9419 b = mO ma ((va_up (va_up mi 2 (nI 0)) 0 (nI (svM A.2.1.1 hf zf).1))) hh := (o_9423 b ).trans f_9394
                    refine q_get C0 hw mb f_9435 fw_X6_7 rfl dX6_restore_90 ?_
                    refine lv_iload_n hx hb dX6_restore_93 rfl (lv_at hl 2 rfl) ?_
                    have f_9436 : F_9419 (ma 0) = .inl (G.2 0, 89, .inl ((rsM zf sf j9 k9))) := (o_9423 (ma 0) ).trans f_9396
                    refine q_iald C0 hw ((hma 0 (by decide))) f_9436 (k9) (by omega) (by decide) (v := (((rsM zf sf j9 k9)) (k9))) rfl dX6_restore_94 ?_
                    refine q_iast C0 hw ((hma 0 (by decide))) f_9436 (k9) (by omega) (by decide) dX6_restore_95 (fun F_9437 H locs hw f_9438 o_9439 => ?_)
                    refine lv_iinc (v := nI (k9 + 1)) (lv' := [(2, .int (nI (k9 + 1))), (0, .ref b), (1, .int (nI (j9)))]) hx hb dX6_restore_96 hl (k := 2) rfl (nI_add _ _) (by decide) rfl (fun ls hl => ?_)
                    refine lv_goto (tgt := 57) hx hb dX6_restore_99 (by decide) ?_
                    have f_9440 : F_9437 b = mO ma ((va_up (va_up mi 2 (nI 0)) 0 (nI (svM A.2.1.1 hf zf).1))) hh := (o_9439 b (ne_oa f_9435 f_9436)).trans f_9435
                    have f_9441 : F_9419 (ma 1) = .inl (G.2 0, 534, .inl ((svM A.2.1.1 hf zf).2)) := (o_9423 (ma 1) ).trans f_9395
                    have f_9442 : F_9437 (ma 1) = .inl (G.2 0, 534, .inl ((svM A.2.1.1 hf zf).2)) := (o_9439 (ma 1) (ne_aa (by decide) f_9441 f_9436)).trans f_9441
                    exact ih_57 (k9 + 1) ((by omega)) ((by omega)) (by omega) F_9437 _ _ hw (f_9440) (f_9442) (f_9438.trans (by rw [rsM_b zf sf j9 hb_9424])) (fun q k0 k1 k2 => ((o_9439 q k2).trans ((o_9423 q ).trans (fr_9397 q k0 k1 k2)))) ls (lv_sub hl [1, 2, 0] rfl)
                  · skip
                    exact absurd c_72 (by omega)
          have f_9443 : F_9388 (ma 0) = .inl (G.2 0, 89, .inl zf) := (o_9392 (ma 0) (ne_ao f_9384 hb_9381) (ne_aa (by decide) f_9384 f_9387)).trans f_9384
          exact lp57 _ (0) ((by omega)) ((by omega)) (Nat.lt_succ_self _) F_9388 _ _ hw (f_9390) (f_9391) (f_9443.trans (by rw [← rsM_0])) (fun q k0 k1 k2 => ((o_9392 q k0 k1).trans ((o_9380 q k0).trans ((o_9375 q k0).trans (o_9371 q ))))) ls (lv_sub hl [1, 2, 0] rfl)
        · skip
          exact absurd c_46 (by omega)
abbrev rm_X6_undo : Room := { frames := 0, cells := 0, slots := 0, locals := 0 }
set_option maxHeartbeats 4000000 in
set_option maxRecDepth 100000 in
theorem k_X6_undo_x (l : Launch) (G : Gl) (L : List Nat) (F : Nat → va_E) (b : Nat) (ma : Nat → Nat) (A : AB) (th : Nat) (mb : b ∈ L) (hma : ∀ i, i < 7 → ma i ∈ L) (hM : MW G F b ma A th) (hA : okA A) (h9 : A.2.1.1 = 0) : CI l yX6_undo cX6_undo 2 (some .int) rm_X6_undo G L F [.ref b] (fun r F1 => MW G F1 b ma A 1 ∧ mFr F F1 b ma) := by
  obtain ⟨mi, hh, zf, hf, sf, kf, tf, pf, pl, fb, ⟨hm0, hm1, hm2⟩, ⟨fz, hz⟩, ⟨fh, hhf⟩, ⟨fs, hsf⟩, ⟨fk, hkf⟩, fp, ⟨ft, htf⟩, fq⟩ := hM
  obtain ⟨hz0, hz1, hz2, hz3, hz4⟩ := ne_z zf hz
  have hc : A.1.1 ≤ 6 := hA.1.2.1
  have hc2 : 2 ≤ A.1.1 := hA.1.1
  have hpu : A.1.2.1 ≤ 100000 := hA.1.2.2.1
  have hrw : ∀ i k, i < 12 → k < 7 → zf (5 + 7 * i + k) = nI (A.1.2.2.2.2.2 i k).val := hz.row
  have fb2 : F b = .inr (6, [.ref (ma 0), .int (nI (0)), .ref (ma 1), .ref (ma 2), .ref (ma 3), .ref (ma 4), .int (mi 1), .ref (ma 5), .int (mi 2), .ref (ma 6), .int (mi 3), .int (mi 4), .long (hh)]) := by rw [fb]; simp only [mO]; rw [hm0, h9]
  refine CG_of (by decide) (Nat.le_of_ble_eq_true rfl) rfl ?_
  intro p e s m args below meth c Q C0 hr hlk hnm hQ hw ls hl
  have hx := C0.x
  have hb := C0.b
  refine lv_aload_n hx hb dX6_undo_0 rfl (lv_at hl 0 rfl) ?_
  refine lv_aload_n hx hb dX6_undo_1 rfl (lv_at hl 0 rfl) ?_
  refine q_get C0 hw mb fb2 fw_X6_35 rfl dX6_undo_2 ?_
  refine n_if_le (tgt := 12) hx hb dX6_undo_5 (by decide) (by decide) (fun c_5 => ?_) (fun c_5 => ?_)
  · skip
    refine lv_iconst (v := nI 1) hx hb dX6_undo_12 (by decide) ?_
    refine q_put C0 hw mb fb2 fw_X6_31 pw_X6_8 rfl rfl rfl (Nat.le_of_ble_eq_true rfl) dX6_undo_13 (fun F_9444 H locs hw f_9445 o_9446 => ?_)
    have f_9445 : F_9444 b = .inr (6, [.ref (ma 0), .int (nI (0)), .ref (ma 1), .ref (ma 2), .ref (ma 3), .ref (ma 4), .int (mi 1), .ref (ma 5), .int (nI (1)), .ref (ma 6), .int (mi 3), .int (mi 4), .long (hh)]) := f_9445
    refine lv_aload_n hx hb dX6_undo_16 rfl (lv_at hl 0 rfl) ?_
    refine q_get C0 hw mb f_9445 fw_X6_31 rfl dX6_undo_17 ?_
    refine n_if_le (tgt := 25) hx hb dX6_undo_20 (by decide) (by decide) (fun c_20 => ?_) (fun c_20 => ?_)
    · skip
      exact absurd c_20 (by omega)
    · skip
      refine lv_iconst (v := nI 0) hx hb dX6_undo_23 (by decide) ?_
      have hb_9447 : F_9444 b = mO ma (va_up (va_up mi 0 (nI 0)) 2 (nI 1)) (hh) := f_9445
      have f_9448 : F_9444 (ma 0) = .inl (G.2 0, 89, .inl zf) := (o_9446 (ma 0) (ne_ao fz fb2)).trans fz
      have f_9449 : F_9444 (ma 1) = .inl (G.2 0, 534, .inl hf) := (o_9446 (ma 1) (ne_ao fh fb2)).trans fh
      have f_9450 : F_9444 (ma 2) = .inl (G.2 0, 178, .inl sf) := (o_9446 (ma 2) (ne_ao fs fb2)).trans fs
      have f_9451 : F_9444 (ma 3) = .inl (G.2 0, 2, .inl kf) := (o_9446 (ma 3) (ne_ao fk fb2)).trans fk
      have f_9452 : F_9444 (ma 4) = pcE G pl := (o_9446 (ma 4) (ne_ao fp fb2)).trans fp
      have f_9453 : F_9444 (ma 5) = .inl (G.2 0, 60, .inl tf) := (o_9446 (ma 5) (ne_ao ft fb2)).trans ft
      have f_9454 : F_9444 (ma 6) = .inl (G.2 0, 52, .inl pf) := (o_9446 (ma 6) (ne_ao fq fb2)).trans fq
      exact r_i C0 hr hlk hw (v := nI 0) rfl ⟨⟨_, _, _, _, _, _, _, _, _, hb_9447, ⟨(congrArg nI h9.symm), hm1, rfl⟩, ⟨f_9448, hz⟩, ⟨f_9449, hhf⟩, ⟨f_9450, hsf⟩, ⟨f_9451, hkf⟩, f_9452, ⟨f_9453, htf⟩, f_9454⟩, (fun q k0 k1 => (o_9446 q k0))⟩ (Nat.le_refl _) (Nat.le_refl _) dX6_undo_24 hQ
  · skip
    exact absurd c_5 (by omega)
set_option maxHeartbeats 4000000 in
set_option maxRecDepth 100000 in
theorem k_X6_undo (l : Launch) (G : Gl) (L : List Nat) (F : Nat → va_E) (b : Nat) (ma : Nat → Nat) (A : AB) (th : Nat) (k9 : Nat) (mb : b ∈ L) (hma : ∀ i, i < 7 → ma i ∈ L) (hM : MW G F b ma A th) (hA : okA A) (hk9 : A.2.1.1 = k9 + 1) : CI l yX6_undo cX6_undo 2 (some .int) rm_X6_undo G L F [.ref b] (fun r F1 => r = nI k9 ∧ MW G F1 b ma (A.2.1.2 k9, (k9, A.2.1.2), A.2.2) 0 ∧ mFr F F1 b ma) := by
  obtain ⟨mi, hh, zf, hf, sf, kf, tf, pf, pl, fb, ⟨hm0, hm1, hm2⟩, ⟨fz, hz⟩, ⟨fh, hhf⟩, ⟨fs, hsf⟩, ⟨fk, hkf⟩, fp, ⟨ft, htf⟩, fq⟩ := hM
  obtain ⟨hz0, hz1, hz2, hz3, hz4⟩ := ne_z zf hz
  have hc : A.1.1 ≤ 6 := hA.1.2.1
  have hc2 : 2 ≤ A.1.1 := hA.1.1
  have hpu : A.1.2.1 ≤ 100000 := hA.1.2.2.1
  have hrw : ∀ i k, i < 12 → k < 7 → zf (5 + 7 * i + k) = nI (A.1.2.2.2.2.2 i k).val := hz.row
  have hn6 : A.2.1.1 ≤ 6 := hA.2.1.1
  have fb2 : F b = .inr (6, [.ref (ma 0), .int (nI (k9 + 1)), .ref (ma 1), .ref (ma 2), .ref (ma 3), .ref (ma 4), .int (mi 1), .ref (ma 5), .int (mi 2), .ref (ma 6), .int (mi 3), .int (mi 4), .long (hh)]) := by rw [fb]; simp only [mO]; rw [hm0, hk9]
  refine CG_of (by decide) (Nat.le_of_ble_eq_true rfl) rfl ?_
  intro p e s m args below meth c Q C0 hr hlk hnm hQ hw ls hl
  have hx := C0.x
  have hb := C0.b
  refine lv_aload_n hx hb dX6_undo_0 rfl (lv_at hl 0 rfl) ?_
  refine lv_aload_n hx hb dX6_undo_1 rfl (lv_at hl 0 rfl) ?_
  refine q_get C0 hw mb fb2 fw_X6_35 rfl dX6_undo_2 ?_
  refine n_if_le (tgt := 12) hx hb dX6_undo_5 (by decide) (by omega) (fun c_5 => ?_) (fun c_5 => ?_)
  · skip
    exact absurd c_5 (by omega)
  · skip
    refine lv_iconst (v := nI 0) hx hb dX6_undo_8 (by decide) ?_
    refine lv_goto (tgt := 13) hx hb dX6_undo_9 (by decide) ?_
    refine q_put C0 hw mb fb2 fw_X6_31 pw_X6_8 rfl rfl rfl (Nat.le_of_ble_eq_true rfl) dX6_undo_13 (fun F_9455 H locs hw f_9456 o_9457 => ?_)
    have f_9456 : F_9455 b = .inr (6, [.ref (ma 0), .int (nI (k9 + 1)), .ref (ma 1), .ref (ma 2), .ref (ma 3), .ref (ma 4), .int (mi 1), .ref (ma 5), .int (nI (0)), .ref (ma 6), .int (mi 3), .int (mi 4), .long (hh)]) := f_9456
    refine lv_aload_n hx hb dX6_undo_16 rfl (lv_at hl 0 rfl) ?_
    refine q_get C0 hw mb f_9456 fw_X6_31 rfl dX6_undo_17 ?_
    refine n_if_le (tgt := 25) hx hb dX6_undo_20 (by decide) (by decide) (fun c_20 => ?_) (fun c_20 => ?_)
    · skip
      refine lv_aload_n hx hb dX6_undo_25 rfl (lv_at hl 0 rfl) ?_
      refine lv_dup hx hb dX6_undo_26 rfl ?_
      refine q_get C0 hw mb f_9456 fw_X6_35 rfl dX6_undo_27 ?_
      refine lv_iconst (v := nI 1) hx hb dX6_undo_30 (by decide) ?_
      refine n_isub hx hb (by omega) dX6_undo_31 ?_
      refine q_put C0 hw mb f_9456 fw_X6_35 pw_X6_1 rfl rfl rfl (Nat.le_of_ble_eq_true rfl) dX6_undo_32 (fun F_9458 H locs hw f_9459 o_9460 => ?_)
      have f_9459 : F_9458 b = .inr (6, [.ref (ma 0), .int (nI (k9 + 1 - 1)), .ref (ma 1), .ref (ma 2), .ref (ma 3), .ref (ma 4), .int (mi 1), .ref (ma 5), .int (nI (0)), .ref (ma 6), .int (mi 3), .int (mi 4), .long (hh)]) := f_9459
      have fbx_9461 : F_9458 b = .inr (6, [.ref (ma 0), .int (nI (k9)), .ref (ma 1), .ref (ma 2), .ref (ma 3), .ref (ma 4), .int (mi 1), .ref (ma 5), .int (nI (0)), .ref (ma 6), .int (mi 3), .int (mi 4), .long (hh)]) := f_9459
      refine lv_iconst (v := nI 0) hx hb dX6_undo_35 (by decide) ?_
      refine lv_istore_n (lv' := [(1, .int (nI (0))), (0, .ref b)]) hx hb dX6_undo_36 rfl hl (by decide) rfl (fun ls hl => ?_)
      have lp37 : ∀ (n : Nat) (i9 : Nat), 0 ≤ i9 → i9 ≤ 89 → 89 + 1 - i9 < n → ∀ (F_9462 : Nat → va_E) (H : Heap) (locs : List Loc), wD G L F_9462 s H locs → F_9462 b = .inr (6, [.ref (ma 0), .int (nI (k9)), .ref (ma 1), .ref (ma 2), .ref (ma 3), .ref (ma 4), .int (mi 1), .ref (ma 5), .int (nI (0)), .ref (ma 6), .int (mi 3), .int (mi 4), .long (hh)]) → F_9462 (ma 0) = .inl (G.2 0, 89, .inl ((udM zf hf k9 i9))) → (∀ q, q ≠ b → q ≠ (ma 0) → F_9462 q = F q) → ∀ ls : Array Slot, lv_has ls 2 [(0, .ref b), (1, .int (nI (i9)))] → W p l e rm_X6_undo s m args below meth c H locs 0 0 Q (F0 m 37 ls []) := by
        intro n
        induction n with
        | zero => intro i9 hlo hhi hm; exact absurd hm (Nat.not_lt_zero _)
        | succ n ih_37 =>
          intro i9 hlo hhi hm F_9462 H locs hw f_9463 f_9464 fr_9465 ls hl
          refine lv_iload_n hx hb dX6_undo_37 rfl (lv_at hl 1 rfl) ?_
          refine lv_bipush (v := nI 89) hx hb dX6_undo_38 (by decide) ?_
          refine n_icmp_ge (tgt := 69) hx hb dX6_undo_40 (by decide) (by omega) (by decide) (fun c_40 => ?_) (fun c_40 => ?_)
          · skip
            obtain rfl : i9 = 89 := by omega
            refine lv_aload_n hx hb dX6_undo_69 rfl (lv_at hl 0 rfl) ?_
            refine q_get C0 hw mb f_9463 fw_X6_35 rfl dX6_undo_70 ?_
            have hb_9466 : F_9462 b = mO ma (va_up (va_up mi 0 (nI (k9))) 2 (nI 0)) (hh) := f_9463
            have f_9467 : F_9462 (ma 1) = .inl (G.2 0, 534, .inl hf) := (fr_9465 (ma 1) (ne_ao fh fb2) (ne_aa (by decide) fh fz)).trans fh
            have f_9468 : F_9462 (ma 2) = .inl (G.2 0, 178, .inl sf) := (fr_9465 (ma 2) (ne_ao fs fb2) (ne_aa (by decide) fs fz)).trans fs
            have f_9469 : F_9462 (ma 3) = .inl (G.2 0, 2, .inl kf) := (fr_9465 (ma 3) (ne_ao fk fb2) (ne_aa (by decide) fk fz)).trans fk
            have f_9470 : F_9462 (ma 4) = pcE G pl := (fr_9465 (ma 4) (ne_ao fp fb2) (ne_aa (by decide) fp fz)).trans fp
            have f_9471 : F_9462 (ma 5) = .inl (G.2 0, 60, .inl tf) := (fr_9465 (ma 5) (ne_ao ft fb2) (ne_aa (by decide) ft fz)).trans ft
            have f_9472 : F_9462 (ma 6) = .inl (G.2 0, 52, .inl pf) := (fr_9465 (ma 6) (ne_ao fq fb2) (ne_aa (by decide) fq fz)).trans fq
            exact r_i C0 hr hlk hw (v := nI (k9)) rfl ⟨rfl, ⟨_, _, _, _, _, _, _, _, _, hb_9466, ⟨rfl, hm1, rfl⟩, ⟨f_9464, (ud_ok hhf (by omega))⟩, ⟨f_9467, (fun i hi => hhf i (Nat.lt_trans (show i < k9 from hi) (by omega)))⟩, ⟨f_9468, hsf⟩, ⟨f_9469, hkf⟩, f_9470, ⟨f_9471, htf⟩, f_9472⟩, (fun q k0 k1 => (fr_9465 q k0 (k1 0 (by decide))))⟩ (Nat.le_refl _) (Nat.le_refl _) dX6_undo_73 hQ
          · skip
            refine lv_aload_n hx hb dX6_undo_43 rfl (lv_at hl 0 rfl) ?_
            refine q_get C0 hw mb f_9463 fw_X6_7 rfl dX6_undo_44 ?_
            refine lv_iload_n hx hb dX6_undo_47 rfl (lv_at hl 1 rfl) ?_
            refine lv_aload_n hx hb dX6_undo_48 rfl (lv_at hl 0 rfl) ?_
            refine q_get C0 hw mb f_9463 fw_X6_13 rfl dX6_undo_49 ?_
            refine lv_bipush (v := nI 89) hx hb dX6_undo_52 (by decide) ?_
            refine lv_aload_n hx hb dX6_undo_54 rfl (lv_at hl 0 rfl) ?_
            refine q_get C0 hw mb f_9463 fw_X6_35 rfl dX6_undo_55 ?_
            refine n_imul hx hb dX6_undo_58 ?_
            refine lv_iload_n hx hb dX6_undo_59 rfl (lv_at hl 1 rfl) ?_
            refine n_iadd hx hb dX6_undo_60 ?_
            have f_9473 : F_9462 (ma 1) = .inl (G.2 0, 534, .inl hf) := (fr_9465 (ma 1) (ne_ao fh fb2) (ne_aa (by decide) fh fz)).trans fh
            refine q_iald C0 hw ((hma 1 (by decide))) f_9473 (89 * k9 + i9) (by omega) (by decide) (v := (hf (89 * k9 + i9))) rfl dX6_undo_61 ?_
            refine q_iast C0 hw ((hma 0 (by decide))) f_9464 (i9) (by omega) (by decide) dX6_undo_62 (fun F_9474 H locs hw f_9475 o_9476 => ?_)
            refine lv_iinc (v := nI (i9 + 1)) (lv' := [(1, .int (nI (i9 + 1))), (0, .ref b)]) hx hb dX6_undo_63 hl (k := 1) rfl (nI_add _ _) (by decide) rfl (fun ls hl => ?_)
            refine lv_goto (tgt := 37) hx hb dX6_undo_66 (by decide) ?_
            have f_9477 : F_9474 b = .inr (6, [.ref (ma 0), .int (nI (k9)), .ref (ma 1), .ref (ma 2), .ref (ma 3), .ref (ma 4), .int (mi 1), .ref (ma 5), .int (nI (0)), .ref (ma 6), .int (mi 3), .int (mi 4), .long (hh)]) := (o_9476 b (ne_oa f_9463 f_9464)).trans f_9463
            exact ih_37 (i9 + 1) ((by omega)) ((by omega)) (by omega) F_9474 _ _ hw (f_9477) (f_9475.trans (by rw [udM_s])) (fun q k0 k1 => ((o_9476 q k1).trans (fr_9465 q k0 k1))) ls (lv_sub hl [1, 0] rfl)
      have f_9478 : F_9455 (ma 0) = .inl (G.2 0, 89, .inl zf) := (o_9457 (ma 0) (ne_ao fz fb2)).trans fz
      have f_9479 : F_9458 (ma 0) = .inl (G.2 0, 89, .inl zf) := (o_9460 (ma 0) (ne_ao f_9478 f_9456)).trans f_9478
      exact lp37 _ (0) ((by omega)) ((by omega)) (Nat.lt_succ_self _) F_9458 _ _ hw (fbx_9461) (f_9479.trans (by rw [← udM_0])) (fun q k0 k1 => ((o_9460 q k0).trans (o_9457 q k0))) ls (lv_sub hl [1, 0] rfl)
    · skip
      exact absurd c_20 (by omega)
abbrev rm_X6_value : Room := { frames := 2, cells := 0, slots := 0, locals := 42 }
set_option maxHeartbeats 4000000 in
set_option maxRecDepth 100000 in
theorem k_X6_value_x1 (l : Launch) (G : Gl) (L : List Nat) (F : Nat → va_E) (b : Nat) (ma : Nat → Nat) (A : AB) (th : Nat) (x9 y9 z9 : Int32) (mb : b ∈ L) (hma : ∀ i, i < 7 → ma i ∈ L) (hM : MW G F b ma A th) (hA : okA A) (h9 : ¬ inR y9 0 5) : CI l yX6_value cX6_value 4 (some .int) rm_X6_value G L F [.ref b, .int (x9), .int (y9), .int (z9)] (fun r F1 => MW G F1 b ma A 1 ∧ mFr F F1 b ma) := by
  obtain ⟨mi, hh, zf, hf, sf, kf, tf, pf, pl, fb, ⟨hm0, hm1, hm2⟩, ⟨fz, hz⟩, ⟨fh, hhf⟩, ⟨fs, hsf⟩, ⟨fk, hkf⟩, fp, ⟨ft, htf⟩, fq⟩ := hM
  obtain ⟨hz0, hz1, hz2, hz3, hz4⟩ := ne_z zf hz
  have hc : A.1.1 ≤ 6 := hA.1.2.1
  have hc2 : 2 ≤ A.1.1 := hA.1.1
  have hpu : A.1.2.1 ≤ 100000 := hA.1.2.2.1
  have hrw : ∀ i k, i < 12 → k < 7 → zf (5 + 7 * i + k) = nI (A.1.2.2.2.2.2 i k).val := hz.row
  refine CG_of (by decide) (Nat.le_of_ble_eq_true rfl) rfl ?_
  intro p e s m args below meth c Q C0 hr hlk hnm hQ hw ls hl
  have hx := C0.x
  have hb := C0.b
  refine lv_aload_n hx hb dX6_value_0 rfl (lv_at hl 0 rfl) ?_
  refine lv_iload_n hx hb dX6_value_1 rfl (lv_at hl 2 rfl) ?_
  refine q_calli hw (q_runS (As := [.int (y9)]) (c_X6_isSlot l G L F (y9)) C0 hw sw_X6_42 rfl hl.1 rfl (Nat.le_of_ble_eq_true rfl) dX6_value_2 ⟨by decide, by decide⟩ ⟨by decide, by decide⟩) rfl rfl (fun r_9482 F_9480 H locs hw hp_9481 => ?_)
  obtain ⟨he_9483, o_9484⟩ := hp_9481
  rw [if_neg h9] at he_9483
  subst he_9483
  refine n_if_ne (tgt := 12) hx hb dX6_value_5 (by decide) (by decide) (fun c_5 => ?_) (fun c_5 => ?_)
  · skip
    exact absurd c_5 (by omega)
  · skip
    refine lv_iconst (v := nI 1) hx hb dX6_value_8 (by decide) ?_
    refine lv_goto (tgt := 26) hx hb dX6_value_9 (by decide) ?_
    have f_9485 : F_9480 b = mO ma mi hh := (o_9484 b ).trans fb
    refine q_put C0 hw mb f_9485 fw_X6_31 pw_X6_8 rfl rfl rfl (Nat.le_of_ble_eq_true rfl) dX6_value_26 (fun F_9486 H locs hw f_9487 o_9488 => ?_)
    have f_9487 : F_9486 b = .inr (6, [.ref (ma 0), .int (mi 0), .ref (ma 1), .ref (ma 2), .ref (ma 3), .ref (ma 4), .int (mi 1), .ref (ma 5), .int (nI (1)), .ref (ma 6), .int (mi 3), .int (mi 4), .long (hh)]) := f_9487
    refine lv_aload_n hx hb dX6_value_29 rfl (lv_at hl 0 rfl) ?_
    refine q_get C0 hw mb f_9487 fw_X6_31 rfl dX6_value_30 ?_
    refine n_if_le (tgt := 40) hx hb dX6_value_33 (by decide) (by decide) (fun c_33 => ?_) (fun c_33 => ?_)
    · skip
      exact absurd c_33 (by omega)
    · skip
      refine lv_iconst (v := nI 0) hx hb dX6_value_36 (by decide) ?_
      refine lv_goto (tgt := 63) hx hb dX6_value_37 (by decide) ?_
      have hb_9489 : F_9486 b = mO ma (va_up mi 2 (nI 1)) (hh) := f_9487
      have f_9490 : F_9480 (ma 0) = .inl (G.2 0, 89, .inl zf) := (o_9484 (ma 0) ).trans fz
      have f_9491 : F_9486 (ma 0) = .inl (G.2 0, 89, .inl zf) := (o_9488 (ma 0) (ne_ao f_9490 f_9485)).trans f_9490
      have f_9492 : F_9480 (ma 1) = .inl (G.2 0, 534, .inl hf) := (o_9484 (ma 1) ).trans fh
      have f_9493 : F_9486 (ma 1) = .inl (G.2 0, 534, .inl hf) := (o_9488 (ma 1) (ne_ao f_9492 f_9485)).trans f_9492
      have f_9494 : F_9480 (ma 2) = .inl (G.2 0, 178, .inl sf) := (o_9484 (ma 2) ).trans fs
      have f_9495 : F_9486 (ma 2) = .inl (G.2 0, 178, .inl sf) := (o_9488 (ma 2) (ne_ao f_9494 f_9485)).trans f_9494
      have f_9496 : F_9480 (ma 3) = .inl (G.2 0, 2, .inl kf) := (o_9484 (ma 3) ).trans fk
      have f_9497 : F_9486 (ma 3) = .inl (G.2 0, 2, .inl kf) := (o_9488 (ma 3) (ne_ao f_9496 f_9485)).trans f_9496
      have f_9498 : F_9480 (ma 4) = pcE G pl := (o_9484 (ma 4) ).trans fp
      have f_9499 : F_9486 (ma 4) = pcE G pl := (o_9488 (ma 4) (ne_ao f_9498 f_9485)).trans f_9498
      have f_9500 : F_9480 (ma 5) = .inl (G.2 0, 60, .inl tf) := (o_9484 (ma 5) ).trans ft
      have f_9501 : F_9486 (ma 5) = .inl (G.2 0, 60, .inl tf) := (o_9488 (ma 5) (ne_ao f_9500 f_9485)).trans f_9500
      have f_9502 : F_9480 (ma 6) = .inl (G.2 0, 52, .inl pf) := (o_9484 (ma 6) ).trans fq
      have f_9503 : F_9486 (ma 6) = .inl (G.2 0, 52, .inl pf) := (o_9488 (ma 6) (ne_ao f_9502 f_9485)).trans f_9502
      exact r_i C0 hr hlk hw (v := nI 0) rfl ⟨⟨_, _, _, _, _, _, _, _, _, hb_9489, ⟨hm0, hm1, rfl⟩, ⟨f_9491, hz⟩, ⟨f_9493, hhf⟩, ⟨f_9495, hsf⟩, ⟨f_9497, hkf⟩, f_9499, ⟨f_9501, htf⟩, f_9503⟩, (fun q k0 k1 => ((o_9488 q k0).trans (o_9484 q )))⟩ (Nat.le_refl _) (Nat.le_refl _) dX6_value_63 hQ
set_option maxHeartbeats 4000000 in
set_option maxRecDepth 100000 in
theorem k_X6_value_x2 (l : Launch) (G : Gl) (L : List Nat) (F : Nat → va_E) (b : Nat) (ma : Nat → Nat) (A : AB) (th : Nat) (x9 y9 z9 : Int32) (mb : b ∈ L) (hma : ∀ i, i < 7 → ma i ∈ L) (hM : MW G F b ma A th) (hA : okA A) (h8 : inR y9 0 5) (h9 : ¬ inR x9 0 1) : CI l yX6_value cX6_value 4 (some .int) rm_X6_value G L F [.ref b, .int (x9), .int (y9), .int (z9)] (fun r F1 => MW G F1 b ma A 2 ∧ mFr F F1 b ma) := by
  obtain ⟨mi, hh, zf, hf, sf, kf, tf, pf, pl, fb, ⟨hm0, hm1, hm2⟩, ⟨fz, hz⟩, ⟨fh, hhf⟩, ⟨fs, hsf⟩, ⟨fk, hkf⟩, fp, ⟨ft, htf⟩, fq⟩ := hM
  obtain ⟨hz0, hz1, hz2, hz3, hz4⟩ := ne_z zf hz
  have hc : A.1.1 ≤ 6 := hA.1.2.1
  have hc2 : 2 ≤ A.1.1 := hA.1.1
  have hpu : A.1.2.1 ≤ 100000 := hA.1.2.2.1
  have hrw : ∀ i k, i < 12 → k < 7 → zf (5 + 7 * i + k) = nI (A.1.2.2.2.2.2 i k).val := hz.row
  refine CG_of (by decide) (Nat.le_of_ble_eq_true rfl) rfl ?_
  intro p e s m args below meth c Q C0 hr hlk hnm hQ hw ls hl
  have hx := C0.x
  have hb := C0.b
  refine lv_aload_n hx hb dX6_value_0 rfl (lv_at hl 0 rfl) ?_
  refine lv_iload_n hx hb dX6_value_1 rfl (lv_at hl 2 rfl) ?_
  refine q_calli hw (q_runS (As := [.int (y9)]) (c_X6_isSlot l G L F (y9)) C0 hw sw_X6_42 rfl hl.1 rfl (Nat.le_of_ble_eq_true rfl) dX6_value_2 ⟨by decide, by decide⟩ ⟨by decide, by decide⟩) rfl rfl (fun r_9506 F_9504 H locs hw hp_9505 => ?_)
  obtain ⟨he_9507, o_9508⟩ := hp_9505
  rw [if_pos h8] at he_9507
  subst he_9507
  refine n_if_ne (tgt := 12) hx hb dX6_value_5 (by decide) (by decide) (fun c_5 => ?_) (fun c_5 => ?_)
  · skip
    refine lv_iload_n hx hb dX6_value_12 rfl (lv_at hl 1 rfl) ?_
    refine lv_iconst (v := nI 0) hx hb dX6_value_13 (by decide) ?_
    refine lv_iconst (v := nI 1) hx hb dX6_value_14 (by decide) ?_
    refine q_calli hw (q_runS (As := [.int (x9), .int (nI (0)), .int (nI (1))]) (c_X6_within l G L F_9504 x9 0 1) C0 hw sw_X6_38 rfl hl.1 rfl (Nat.le_of_ble_eq_true rfl) dX6_value_15 ⟨by decide, by decide⟩ ⟨by decide, by decide⟩) rfl rfl (fun r_9511 F_9509 H locs hw hp_9510 => ?_)
    obtain ⟨he_9512, o_9513⟩ := hp_9510
    rw [if_neg h9] at he_9512
    subst he_9512
    refine n_if_eq (tgt := 25) hx hb dX6_value_18 (by decide) (by decide) (fun c_18 => ?_) (fun c_18 => ?_)
    · skip
      refine lv_iconst (v := nI 2) hx hb dX6_value_25 (by decide) ?_
      have f_9514 : F_9504 b = mO ma mi hh := (o_9508 b ).trans fb
      have f_9515 : F_9509 b = mO ma mi hh := (o_9513 b ).trans f_9514
      refine q_put C0 hw mb f_9515 fw_X6_31 pw_X6_8 rfl rfl rfl (Nat.le_of_ble_eq_true rfl) dX6_value_26 (fun F_9516 H locs hw f_9517 o_9518 => ?_)
      have f_9517 : F_9516 b = .inr (6, [.ref (ma 0), .int (mi 0), .ref (ma 1), .ref (ma 2), .ref (ma 3), .ref (ma 4), .int (mi 1), .ref (ma 5), .int (nI (2)), .ref (ma 6), .int (mi 3), .int (mi 4), .long (hh)]) := f_9517
      refine lv_aload_n hx hb dX6_value_29 rfl (lv_at hl 0 rfl) ?_
      refine q_get C0 hw mb f_9517 fw_X6_31 rfl dX6_value_30 ?_
      refine n_if_le (tgt := 40) hx hb dX6_value_33 (by decide) (by decide) (fun c_33 => ?_) (fun c_33 => ?_)
      · skip
        exact absurd c_33 (by omega)
      · skip
        refine lv_iconst (v := nI 0) hx hb dX6_value_36 (by decide) ?_
        refine lv_goto (tgt := 63) hx hb dX6_value_37 (by decide) ?_
        have hb_9519 : F_9516 b = mO ma (va_up mi 2 (nI 2)) (hh) := f_9517
        have f_9520 : F_9504 (ma 0) = .inl (G.2 0, 89, .inl zf) := (o_9508 (ma 0) ).trans fz
        have f_9521 : F_9509 (ma 0) = .inl (G.2 0, 89, .inl zf) := (o_9513 (ma 0) ).trans f_9520
        have f_9522 : F_9516 (ma 0) = .inl (G.2 0, 89, .inl zf) := (o_9518 (ma 0) (ne_ao f_9521 f_9515)).trans f_9521
        have f_9523 : F_9504 (ma 1) = .inl (G.2 0, 534, .inl hf) := (o_9508 (ma 1) ).trans fh
        have f_9524 : F_9509 (ma 1) = .inl (G.2 0, 534, .inl hf) := (o_9513 (ma 1) ).trans f_9523
        have f_9525 : F_9516 (ma 1) = .inl (G.2 0, 534, .inl hf) := (o_9518 (ma 1) (ne_ao f_9524 f_9515)).trans f_9524
        have f_9526 : F_9504 (ma 2) = .inl (G.2 0, 178, .inl sf) := (o_9508 (ma 2) ).trans fs
        have f_9527 : F_9509 (ma 2) = .inl (G.2 0, 178, .inl sf) := (o_9513 (ma 2) ).trans f_9526
        have f_9528 : F_9516 (ma 2) = .inl (G.2 0, 178, .inl sf) := (o_9518 (ma 2) (ne_ao f_9527 f_9515)).trans f_9527
        have f_9529 : F_9504 (ma 3) = .inl (G.2 0, 2, .inl kf) := (o_9508 (ma 3) ).trans fk
        have f_9530 : F_9509 (ma 3) = .inl (G.2 0, 2, .inl kf) := (o_9513 (ma 3) ).trans f_9529
        have f_9531 : F_9516 (ma 3) = .inl (G.2 0, 2, .inl kf) := (o_9518 (ma 3) (ne_ao f_9530 f_9515)).trans f_9530
        have f_9532 : F_9504 (ma 4) = pcE G pl := (o_9508 (ma 4) ).trans fp
        have f_9533 : F_9509 (ma 4) = pcE G pl := (o_9513 (ma 4) ).trans f_9532
        have f_9534 : F_9516 (ma 4) = pcE G pl := (o_9518 (ma 4) (ne_ao f_9533 f_9515)).trans f_9533
        have f_9535 : F_9504 (ma 5) = .inl (G.2 0, 60, .inl tf) := (o_9508 (ma 5) ).trans ft
        have f_9536 : F_9509 (ma 5) = .inl (G.2 0, 60, .inl tf) := (o_9513 (ma 5) ).trans f_9535
        have f_9537 : F_9516 (ma 5) = .inl (G.2 0, 60, .inl tf) := (o_9518 (ma 5) (ne_ao f_9536 f_9515)).trans f_9536
        have f_9538 : F_9504 (ma 6) = .inl (G.2 0, 52, .inl pf) := (o_9508 (ma 6) ).trans fq
        have f_9539 : F_9509 (ma 6) = .inl (G.2 0, 52, .inl pf) := (o_9513 (ma 6) ).trans f_9538
        have f_9540 : F_9516 (ma 6) = .inl (G.2 0, 52, .inl pf) := (o_9518 (ma 6) (ne_ao f_9539 f_9515)).trans f_9539
        exact r_i C0 hr hlk hw (v := nI 0) rfl ⟨⟨_, _, _, _, _, _, _, _, _, hb_9519, ⟨hm0, hm1, rfl⟩, ⟨f_9522, hz⟩, ⟨f_9525, hhf⟩, ⟨f_9528, hsf⟩, ⟨f_9531, hkf⟩, f_9534, ⟨f_9537, htf⟩, f_9540⟩, (fun q k0 k1 => ((o_9518 q k0).trans ((o_9513 q ).trans (o_9508 q ))))⟩ (Nat.le_refl _) (Nat.le_refl _) dX6_value_63 hQ
    · skip
      exact absurd c_18 (by omega)
  · skip
    exact absurd c_5 (by omega)
set_option maxHeartbeats 4000000 in
set_option maxRecDepth 100000 in
theorem k_X6_value_0 (l : Launch) (G : Gl) (L : List Nat) (F : Nat → va_E) (b : Nat) (ma : Nat → Nat) (A : AB) (th : Nat) (f9 : Nat) (z9 : Int32) (mb : b ∈ L) (hma : ∀ i, i < 7 → ma i ∈ L) (hM : MW G F b ma A th) (hA : okA A) (hf9 : f9 < 6) (h8 : inR (nI f9) 0 5) (h9 : inR (nI 0) 0 1) : CI l yX6_value cX6_value 4 (some .int) rm_X6_value G L F [.ref b, .int (nI (0)), .int (nI (f9)), .int (z9)] (fun r F1 => r = nI (m_val (A.1.2.2.2.2.2 f9) (zi z9)).val ∧ MW G F1 b ma A 0 ∧ mFr F F1 b ma) := by
  obtain ⟨mi, hh, zf, hf, sf, kf, tf, pf, pl, fb, ⟨hm0, hm1, hm2⟩, ⟨fz, hz⟩, ⟨fh, hhf⟩, ⟨fs, hsf⟩, ⟨fk, hkf⟩, fp, ⟨ft, htf⟩, fq⟩ := hM
  obtain ⟨hz0, hz1, hz2, hz3, hz4⟩ := ne_z zf hz
  have hc : A.1.1 ≤ 6 := hA.1.2.1
  have hc2 : 2 ≤ A.1.1 := hA.1.1
  have hpu : A.1.2.1 ≤ 100000 := hA.1.2.2.1
  have hrw : ∀ i k, i < 12 → k < 7 → zf (5 + 7 * i + k) = nI (A.1.2.2.2.2.2 i k).val := hz.row
  have hR : okR A.1.2.2.2.2.2 := hA.1.2.2.2
  refine CG_of (by decide) (Nat.le_of_ble_eq_true rfl) rfl ?_
  intro p e s m args below meth c Q C0 hr hlk hnm hQ hw ls hl
  have hx := C0.x
  have hb := C0.b
  refine lv_aload_n hx hb dX6_value_0 rfl (lv_at hl 0 rfl) ?_
  refine lv_iload_n hx hb dX6_value_1 rfl (lv_at hl 2 rfl) ?_
  refine q_calli hw (q_runS (As := [.int (nI (f9))]) (c_X6_isSlot l G L F (nI (f9))) C0 hw sw_X6_42 rfl hl.1 rfl (Nat.le_of_ble_eq_true rfl) dX6_value_2 ⟨by decide, by decide⟩ ⟨by decide, by decide⟩) rfl rfl (fun r_9543 F_9541 H locs hw hp_9542 => ?_)
  obtain ⟨he_9544, o_9545⟩ := hp_9542
  rw [if_pos h8] at he_9544
  subst he_9544
  refine n_if_ne (tgt := 12) hx hb dX6_value_5 (by decide) (by decide) (fun c_5 => ?_) (fun c_5 => ?_)
  · skip
    refine lv_iload_n hx hb dX6_value_12 rfl (lv_at hl 1 rfl) ?_
    refine lv_iconst (v := nI 0) hx hb dX6_value_13 (by decide) ?_
    refine lv_iconst (v := nI 1) hx hb dX6_value_14 (by decide) ?_
    refine q_calli hw (q_runS (As := [.int (nI (0)), .int (nI (0)), .int (nI (1))]) (c_X6_within l G L F_9541 (nI 0) 0 1) C0 hw sw_X6_38 rfl hl.1 rfl (Nat.le_of_ble_eq_true rfl) dX6_value_15 ⟨by decide, by decide⟩ ⟨by decide, by decide⟩) rfl rfl (fun r_9548 F_9546 H locs hw hp_9547 => ?_)
    obtain ⟨he_9549, o_9550⟩ := hp_9547
    rw [if_pos h9] at he_9549
    subst he_9549
    refine n_if_eq (tgt := 25) hx hb dX6_value_18 (by decide) (by decide) (fun c_18 => ?_) (fun c_18 => ?_)
    · skip
      exact absurd c_18 (by omega)
    · skip
      refine lv_iconst (v := nI 0) hx hb dX6_value_21 (by decide) ?_
      refine lv_goto (tgt := 26) hx hb dX6_value_22 (by decide) ?_
      have f_9551 : F_9541 b = mO ma mi hh := (o_9545 b ).trans fb
      have f_9552 : F_9546 b = mO ma mi hh := (o_9550 b ).trans f_9551
      refine q_put C0 hw mb f_9552 fw_X6_31 pw_X6_8 rfl rfl rfl (Nat.le_of_ble_eq_true rfl) dX6_value_26 (fun F_9553 H locs hw f_9554 o_9555 => ?_)
      have f_9554 : F_9553 b = .inr (6, [.ref (ma 0), .int (mi 0), .ref (ma 1), .ref (ma 2), .ref (ma 3), .ref (ma 4), .int (mi 1), .ref (ma 5), .int (nI (0)), .ref (ma 6), .int (mi 3), .int (mi 4), .long (hh)]) := f_9554
      refine lv_aload_n hx hb dX6_value_29 rfl (lv_at hl 0 rfl) ?_
      refine q_get C0 hw mb f_9554 fw_X6_31 rfl dX6_value_30 ?_
      refine n_if_le (tgt := 40) hx hb dX6_value_33 (by decide) (by decide) (fun c_33 => ?_) (fun c_33 => ?_)
      · skip
        have hb_9556 : F_9553 b = mO ma (va_up mi 2 (nI 0)) hh := f_9554
        refine lv_aload_n hx hb dX6_value_40 rfl (lv_at hl 0 rfl) ?_
        refine lv_iload_n hx hb dX6_value_41 rfl (lv_at hl 1 rfl) ?_
        refine n_if_ne (tgt := 52) hx hb dX6_value_42 (by decide) (by decide) (fun c_42 => ?_) (fun c_42 => ?_)
        · skip
          exact absurd c_42 (by omega)
        · skip
          refine lv_iload_n hx hb dX6_value_45 rfl (lv_at hl 2 rfl) ?_
          refine q_calli hw (q_runS (As := [.int (nI (f9))]) (c_X6_fieldAt l G L F_9553 f9 (by omega)) C0 hw sw_X6_109 rfl hl.1 rfl (Nat.le_of_ble_eq_true rfl) dX6_value_46 ⟨by decide, by decide⟩ ⟨by decide, by decide⟩) rfl rfl (fun r_9559 F_9557 H locs hw hp_9558 => ?_)
          obtain ⟨he_9560, o_9561⟩ := hp_9558
          subst he_9560
          refine lv_goto (tgt := 56) hx hb dX6_value_49 (by decide) ?_
          refine lv_iload_n hx hb dX6_value_56 rfl (lv_at hl 3 rfl) ?_
          refine q_calli hw (q_runS (As := [.int (z9)]) (c_X6_modulo l G L F_9557 z9) C0 hw sw_X6_90 rfl hl.1 rfl (Nat.le_of_ble_eq_true rfl) dX6_value_57 ⟨by decide, by decide⟩ ⟨by decide, by decide⟩) rfl rfl (fun r_9564 F_9562 H locs hw hp_9563 => ?_)
          obtain ⟨he_9565, o_9566⟩ := hp_9563
          subst he_9565
          have f_9567 : F_9557 b = mO ma ((va_up mi 2 (nI 0))) hh := (o_9561 b ).trans hb_9556
          have f_9568 : F_9562 b = mO ma ((va_up mi 2 (nI 0))) hh := (o_9566 b ).trans f_9567
          have f_9569 : F_9541 (ma 4) = pcE G pl := (o_9545 (ma 4) ).trans fp
          have f_9570 : F_9546 (ma 4) = pcE G pl := (o_9550 (ma 4) ).trans f_9569
          have f_9571 : F_9553 (ma 4) = pcE G pl := (o_9555 (ma 4) (ne_ao f_9570 f_9552)).trans f_9570
          have f_9572 : F_9557 (ma 4) = pcE G pl := (o_9561 (ma 4) ).trans f_9571
          have f_9573 : F_9562 (ma 4) = pcE G pl := (o_9566 (ma 4) ).trans f_9572
          have f_9574 : F_9541 (ma 0) = .inl (G.2 0, 89, .inl zf) := (o_9545 (ma 0) ).trans fz
          have f_9575 : F_9546 (ma 0) = .inl (G.2 0, 89, .inl zf) := (o_9550 (ma 0) ).trans f_9574
          have f_9576 : F_9553 (ma 0) = .inl (G.2 0, 89, .inl zf) := (o_9555 (ma 0) (ne_ao f_9575 f_9552)).trans f_9575
          have f_9577 : F_9557 (ma 0) = .inl (G.2 0, 89, .inl zf) := (o_9561 (ma 0) ).trans f_9576
          have f_9578 : F_9562 (ma 0) = .inl (G.2 0, 89, .inl zf) := (o_9566 (ma 0) ).trans f_9577
          refine q_calli hw (q_runV (As := [.int (nI (5 + 7 * f9)), .int (nI ((zi z9).val))]) (c_X6_valueAt l G L F_9562 b ma (va_up mi 2 (nI 0)) hh pl zf A.1.1 A.1.2.2.2.2.2 f9 (zi z9) mb f_9568 hma f_9573 f_9578 hz0 (by omega) (by omega) (by omega) hrw) C0 hw vw_X6_208 mb f_9568 rfl rfl rfl hl.1 rfl (Nat.le_of_ble_eq_true rfl) dX6_value_60 ⟨by decide, by decide⟩ ⟨by decide, by decide⟩) rfl rfl (fun r_9581 F_9579 H locs hw hp_9580 => ?_)
          obtain ⟨he_9582, o_9583⟩ := hp_9580
          subst he_9582
          have f_9584 : F_9579 b = mO ma ((va_up mi 2 (nI 0))) hh := (o_9583 b ).trans f_9568
          have f_9585 : F_9579 (ma 0) = .inl (G.2 0, 89, .inl zf) := (o_9583 (ma 0) ).trans f_9578
          have f_9586 : F_9541 (ma 1) = .inl (G.2 0, 534, .inl hf) := (o_9545 (ma 1) ).trans fh
          have f_9587 : F_9546 (ma 1) = .inl (G.2 0, 534, .inl hf) := (o_9550 (ma 1) ).trans f_9586
          have f_9588 : F_9553 (ma 1) = .inl (G.2 0, 534, .inl hf) := (o_9555 (ma 1) (ne_ao f_9587 f_9552)).trans f_9587
          have f_9589 : F_9557 (ma 1) = .inl (G.2 0, 534, .inl hf) := (o_9561 (ma 1) ).trans f_9588
          have f_9590 : F_9562 (ma 1) = .inl (G.2 0, 534, .inl hf) := (o_9566 (ma 1) ).trans f_9589
          have f_9591 : F_9579 (ma 1) = .inl (G.2 0, 534, .inl hf) := (o_9583 (ma 1) ).trans f_9590
          have f_9592 : F_9541 (ma 2) = .inl (G.2 0, 178, .inl sf) := (o_9545 (ma 2) ).trans fs
          have f_9593 : F_9546 (ma 2) = .inl (G.2 0, 178, .inl sf) := (o_9550 (ma 2) ).trans f_9592
          have f_9594 : F_9553 (ma 2) = .inl (G.2 0, 178, .inl sf) := (o_9555 (ma 2) (ne_ao f_9593 f_9552)).trans f_9593
          have f_9595 : F_9557 (ma 2) = .inl (G.2 0, 178, .inl sf) := (o_9561 (ma 2) ).trans f_9594
          have f_9596 : F_9562 (ma 2) = .inl (G.2 0, 178, .inl sf) := (o_9566 (ma 2) ).trans f_9595
          have f_9597 : F_9579 (ma 2) = .inl (G.2 0, 178, .inl sf) := (o_9583 (ma 2) ).trans f_9596
          have f_9598 : F_9541 (ma 3) = .inl (G.2 0, 2, .inl kf) := (o_9545 (ma 3) ).trans fk
          have f_9599 : F_9546 (ma 3) = .inl (G.2 0, 2, .inl kf) := (o_9550 (ma 3) ).trans f_9598
          have f_9600 : F_9553 (ma 3) = .inl (G.2 0, 2, .inl kf) := (o_9555 (ma 3) (ne_ao f_9599 f_9552)).trans f_9599
          have f_9601 : F_9557 (ma 3) = .inl (G.2 0, 2, .inl kf) := (o_9561 (ma 3) ).trans f_9600
          have f_9602 : F_9562 (ma 3) = .inl (G.2 0, 2, .inl kf) := (o_9566 (ma 3) ).trans f_9601
          have f_9603 : F_9579 (ma 3) = .inl (G.2 0, 2, .inl kf) := (o_9583 (ma 3) ).trans f_9602
          have f_9604 : F_9579 (ma 4) = pcE G pl := (o_9583 (ma 4) ).trans f_9573
          have f_9605 : F_9541 (ma 5) = .inl (G.2 0, 60, .inl tf) := (o_9545 (ma 5) ).trans ft
          have f_9606 : F_9546 (ma 5) = .inl (G.2 0, 60, .inl tf) := (o_9550 (ma 5) ).trans f_9605
          have f_9607 : F_9553 (ma 5) = .inl (G.2 0, 60, .inl tf) := (o_9555 (ma 5) (ne_ao f_9606 f_9552)).trans f_9606
          have f_9608 : F_9557 (ma 5) = .inl (G.2 0, 60, .inl tf) := (o_9561 (ma 5) ).trans f_9607
          have f_9609 : F_9562 (ma 5) = .inl (G.2 0, 60, .inl tf) := (o_9566 (ma 5) ).trans f_9608
          have f_9610 : F_9579 (ma 5) = .inl (G.2 0, 60, .inl tf) := (o_9583 (ma 5) ).trans f_9609
          have f_9611 : F_9541 (ma 6) = .inl (G.2 0, 52, .inl pf) := (o_9545 (ma 6) ).trans fq
          have f_9612 : F_9546 (ma 6) = .inl (G.2 0, 52, .inl pf) := (o_9550 (ma 6) ).trans f_9611
          have f_9613 : F_9553 (ma 6) = .inl (G.2 0, 52, .inl pf) := (o_9555 (ma 6) (ne_ao f_9612 f_9552)).trans f_9612
          have f_9614 : F_9557 (ma 6) = .inl (G.2 0, 52, .inl pf) := (o_9561 (ma 6) ).trans f_9613
          have f_9615 : F_9562 (ma 6) = .inl (G.2 0, 52, .inl pf) := (o_9566 (ma 6) ).trans f_9614
          have f_9616 : F_9579 (ma 6) = .inl (G.2 0, 52, .inl pf) := (o_9583 (ma 6) ).trans f_9615
          exact r_i C0 hr hlk hw (v := nI ((m_val (A.1.2.2.2.2.2 f9) (zi z9)).val)) rfl ⟨rfl, ⟨_, _, _, _, _, _, _, _, _, f_9584, ⟨hm0, hm1, rfl⟩, ⟨f_9585, hz⟩, ⟨f_9591, hhf⟩, ⟨f_9597, hsf⟩, ⟨f_9603, hkf⟩, f_9604, ⟨f_9610, htf⟩, f_9616⟩, (fun q k0 k1 => ((o_9583 q ).trans ((o_9566 q ).trans ((o_9561 q ).trans ((o_9555 q k0).trans ((o_9550 q ).trans (o_9545 q )))))))⟩ (Nat.le_refl _) (Nat.le_refl _) dX6_value_63 hQ
      · skip
        exact absurd c_33 (by omega)
  · skip
    exact absurd c_5 (by omega)
set_option maxHeartbeats 4000000 in
set_option maxRecDepth 100000 in
theorem k_X6_value_1 (l : Launch) (G : Gl) (L : List Nat) (F : Nat → va_E) (b : Nat) (ma : Nat → Nat) (A : AB) (th : Nat) (f9 : Nat) (z9 : Int32) (mb : b ∈ L) (hma : ∀ i, i < 7 → ma i ∈ L) (hM : MW G F b ma A th) (hA : okA A) (hf9 : f9 < 6) (h8 : inR (nI f9) 0 5) (h9 : inR (nI 1) 0 1) : CI l yX6_value cX6_value 4 (some .int) rm_X6_value G L F [.ref b, .int (nI (1)), .int (nI (f9)), .int (z9)] (fun r F1 => r = nI (m_val (A.1.2.2.2.2.2 (6 + f9)) (zi z9)).val ∧ MW G F1 b ma A 0 ∧ mFr F F1 b ma) := by
  obtain ⟨mi, hh, zf, hf, sf, kf, tf, pf, pl, fb, ⟨hm0, hm1, hm2⟩, ⟨fz, hz⟩, ⟨fh, hhf⟩, ⟨fs, hsf⟩, ⟨fk, hkf⟩, fp, ⟨ft, htf⟩, fq⟩ := hM
  obtain ⟨hz0, hz1, hz2, hz3, hz4⟩ := ne_z zf hz
  have hc : A.1.1 ≤ 6 := hA.1.2.1
  have hc2 : 2 ≤ A.1.1 := hA.1.1
  have hpu : A.1.2.1 ≤ 100000 := hA.1.2.2.1
  have hrw : ∀ i k, i < 12 → k < 7 → zf (5 + 7 * i + k) = nI (A.1.2.2.2.2.2 i k).val := hz.row
  have hR : okR A.1.2.2.2.2.2 := hA.1.2.2.2
  refine CG_of (by decide) (Nat.le_of_ble_eq_true rfl) rfl ?_
  intro p e s m args below meth c Q C0 hr hlk hnm hQ hw ls hl
  have hx := C0.x
  have hb := C0.b
  refine lv_aload_n hx hb dX6_value_0 rfl (lv_at hl 0 rfl) ?_
  refine lv_iload_n hx hb dX6_value_1 rfl (lv_at hl 2 rfl) ?_
  refine q_calli hw (q_runS (As := [.int (nI (f9))]) (c_X6_isSlot l G L F (nI (f9))) C0 hw sw_X6_42 rfl hl.1 rfl (Nat.le_of_ble_eq_true rfl) dX6_value_2 ⟨by decide, by decide⟩ ⟨by decide, by decide⟩) rfl rfl (fun r_9619 F_9617 H locs hw hp_9618 => ?_)
  obtain ⟨he_9620, o_9621⟩ := hp_9618
  rw [if_pos h8] at he_9620
  subst he_9620
  refine n_if_ne (tgt := 12) hx hb dX6_value_5 (by decide) (by decide) (fun c_5 => ?_) (fun c_5 => ?_)
  · skip
    refine lv_iload_n hx hb dX6_value_12 rfl (lv_at hl 1 rfl) ?_
    refine lv_iconst (v := nI 0) hx hb dX6_value_13 (by decide) ?_
    refine lv_iconst (v := nI 1) hx hb dX6_value_14 (by decide) ?_
    refine q_calli hw (q_runS (As := [.int (nI (1)), .int (nI (0)), .int (nI (1))]) (c_X6_within l G L F_9617 (nI 1) 0 1) C0 hw sw_X6_38 rfl hl.1 rfl (Nat.le_of_ble_eq_true rfl) dX6_value_15 ⟨by decide, by decide⟩ ⟨by decide, by decide⟩) rfl rfl (fun r_9624 F_9622 H locs hw hp_9623 => ?_)
    obtain ⟨he_9625, o_9626⟩ := hp_9623
    rw [if_pos h9] at he_9625
    subst he_9625
    refine n_if_eq (tgt := 25) hx hb dX6_value_18 (by decide) (by decide) (fun c_18 => ?_) (fun c_18 => ?_)
    · skip
      exact absurd c_18 (by omega)
    · skip
      refine lv_iconst (v := nI 0) hx hb dX6_value_21 (by decide) ?_
      refine lv_goto (tgt := 26) hx hb dX6_value_22 (by decide) ?_
      have f_9627 : F_9617 b = mO ma mi hh := (o_9621 b ).trans fb
      have f_9628 : F_9622 b = mO ma mi hh := (o_9626 b ).trans f_9627
      refine q_put C0 hw mb f_9628 fw_X6_31 pw_X6_8 rfl rfl rfl (Nat.le_of_ble_eq_true rfl) dX6_value_26 (fun F_9629 H locs hw f_9630 o_9631 => ?_)
      have f_9630 : F_9629 b = .inr (6, [.ref (ma 0), .int (mi 0), .ref (ma 1), .ref (ma 2), .ref (ma 3), .ref (ma 4), .int (mi 1), .ref (ma 5), .int (nI (0)), .ref (ma 6), .int (mi 3), .int (mi 4), .long (hh)]) := f_9630
      refine lv_aload_n hx hb dX6_value_29 rfl (lv_at hl 0 rfl) ?_
      refine q_get C0 hw mb f_9630 fw_X6_31 rfl dX6_value_30 ?_
      refine n_if_le (tgt := 40) hx hb dX6_value_33 (by decide) (by decide) (fun c_33 => ?_) (fun c_33 => ?_)
      · skip
        have hb_9632 : F_9629 b = mO ma (va_up mi 2 (nI 0)) hh := f_9630
        refine lv_aload_n hx hb dX6_value_40 rfl (lv_at hl 0 rfl) ?_
        refine lv_iload_n hx hb dX6_value_41 rfl (lv_at hl 1 rfl) ?_
        refine n_if_ne (tgt := 52) hx hb dX6_value_42 (by decide) (by decide) (fun c_42 => ?_) (fun c_42 => ?_)
        · skip
          refine lv_iload_n hx hb dX6_value_52 rfl (lv_at hl 2 rfl) ?_
          refine q_calli hw (q_runS (As := [.int (nI (f9))]) (c_X6_flowAt2 l G L F_9629 f9 (by omega)) C0 hw sw_X6_138 rfl hl.1 rfl (Nat.le_of_ble_eq_true rfl) dX6_value_53 ⟨by decide, by decide⟩ ⟨by decide, by decide⟩) rfl rfl (fun r_9635 F_9633 H locs hw hp_9634 => ?_)
          obtain ⟨he_9636, o_9637⟩ := hp_9634
          subst he_9636
          refine lv_iload_n hx hb dX6_value_56 rfl (lv_at hl 3 rfl) ?_
          refine q_calli hw (q_runS (As := [.int (z9)]) (c_X6_modulo l G L F_9633 z9) C0 hw sw_X6_90 rfl hl.1 rfl (Nat.le_of_ble_eq_true rfl) dX6_value_57 ⟨by decide, by decide⟩ ⟨by decide, by decide⟩) rfl rfl (fun r_9640 F_9638 H locs hw hp_9639 => ?_)
          obtain ⟨he_9641, o_9642⟩ := hp_9639
          subst he_9641
          have f_9643 : F_9633 b = mO ma ((va_up mi 2 (nI 0))) hh := (o_9637 b ).trans hb_9632
          have f_9644 : F_9638 b = mO ma ((va_up mi 2 (nI 0))) hh := (o_9642 b ).trans f_9643
          have f_9645 : F_9617 (ma 4) = pcE G pl := (o_9621 (ma 4) ).trans fp
          have f_9646 : F_9622 (ma 4) = pcE G pl := (o_9626 (ma 4) ).trans f_9645
          have f_9647 : F_9629 (ma 4) = pcE G pl := (o_9631 (ma 4) (ne_ao f_9646 f_9628)).trans f_9646
          have f_9648 : F_9633 (ma 4) = pcE G pl := (o_9637 (ma 4) ).trans f_9647
          have f_9649 : F_9638 (ma 4) = pcE G pl := (o_9642 (ma 4) ).trans f_9648
          have f_9650 : F_9617 (ma 0) = .inl (G.2 0, 89, .inl zf) := (o_9621 (ma 0) ).trans fz
          have f_9651 : F_9622 (ma 0) = .inl (G.2 0, 89, .inl zf) := (o_9626 (ma 0) ).trans f_9650
          have f_9652 : F_9629 (ma 0) = .inl (G.2 0, 89, .inl zf) := (o_9631 (ma 0) (ne_ao f_9651 f_9628)).trans f_9651
          have f_9653 : F_9633 (ma 0) = .inl (G.2 0, 89, .inl zf) := (o_9637 (ma 0) ).trans f_9652
          have f_9654 : F_9638 (ma 0) = .inl (G.2 0, 89, .inl zf) := (o_9642 (ma 0) ).trans f_9653
          refine q_calli hw (q_runV (As := [.int (nI (5 + 7 * (6 + f9))), .int (nI ((zi z9).val))]) (c_X6_valueAt l G L F_9638 b ma (va_up mi 2 (nI 0)) hh pl zf A.1.1 A.1.2.2.2.2.2 (6 + f9) (zi z9) mb f_9644 hma f_9649 f_9654 hz0 (by omega) (by omega) (by omega) hrw) C0 hw vw_X6_208 mb f_9644 rfl rfl rfl hl.1 rfl (Nat.le_of_ble_eq_true rfl) dX6_value_60 ⟨by decide, by decide⟩ ⟨by decide, by decide⟩) rfl rfl (fun r_9657 F_9655 H locs hw hp_9656 => ?_)
          obtain ⟨he_9658, o_9659⟩ := hp_9656
          subst he_9658
          have f_9660 : F_9655 b = mO ma ((va_up mi 2 (nI 0))) hh := (o_9659 b ).trans f_9644
          have f_9661 : F_9655 (ma 0) = .inl (G.2 0, 89, .inl zf) := (o_9659 (ma 0) ).trans f_9654
          have f_9662 : F_9617 (ma 1) = .inl (G.2 0, 534, .inl hf) := (o_9621 (ma 1) ).trans fh
          have f_9663 : F_9622 (ma 1) = .inl (G.2 0, 534, .inl hf) := (o_9626 (ma 1) ).trans f_9662
          have f_9664 : F_9629 (ma 1) = .inl (G.2 0, 534, .inl hf) := (o_9631 (ma 1) (ne_ao f_9663 f_9628)).trans f_9663
          have f_9665 : F_9633 (ma 1) = .inl (G.2 0, 534, .inl hf) := (o_9637 (ma 1) ).trans f_9664
          have f_9666 : F_9638 (ma 1) = .inl (G.2 0, 534, .inl hf) := (o_9642 (ma 1) ).trans f_9665
          have f_9667 : F_9655 (ma 1) = .inl (G.2 0, 534, .inl hf) := (o_9659 (ma 1) ).trans f_9666
          have f_9668 : F_9617 (ma 2) = .inl (G.2 0, 178, .inl sf) := (o_9621 (ma 2) ).trans fs
          have f_9669 : F_9622 (ma 2) = .inl (G.2 0, 178, .inl sf) := (o_9626 (ma 2) ).trans f_9668
          have f_9670 : F_9629 (ma 2) = .inl (G.2 0, 178, .inl sf) := (o_9631 (ma 2) (ne_ao f_9669 f_9628)).trans f_9669
          have f_9671 : F_9633 (ma 2) = .inl (G.2 0, 178, .inl sf) := (o_9637 (ma 2) ).trans f_9670
          have f_9672 : F_9638 (ma 2) = .inl (G.2 0, 178, .inl sf) := (o_9642 (ma 2) ).trans f_9671
          have f_9673 : F_9655 (ma 2) = .inl (G.2 0, 178, .inl sf) := (o_9659 (ma 2) ).trans f_9672
          have f_9674 : F_9617 (ma 3) = .inl (G.2 0, 2, .inl kf) := (o_9621 (ma 3) ).trans fk
          have f_9675 : F_9622 (ma 3) = .inl (G.2 0, 2, .inl kf) := (o_9626 (ma 3) ).trans f_9674
          have f_9676 : F_9629 (ma 3) = .inl (G.2 0, 2, .inl kf) := (o_9631 (ma 3) (ne_ao f_9675 f_9628)).trans f_9675
          have f_9677 : F_9633 (ma 3) = .inl (G.2 0, 2, .inl kf) := (o_9637 (ma 3) ).trans f_9676
          have f_9678 : F_9638 (ma 3) = .inl (G.2 0, 2, .inl kf) := (o_9642 (ma 3) ).trans f_9677
          have f_9679 : F_9655 (ma 3) = .inl (G.2 0, 2, .inl kf) := (o_9659 (ma 3) ).trans f_9678
          have f_9680 : F_9655 (ma 4) = pcE G pl := (o_9659 (ma 4) ).trans f_9649
          have f_9681 : F_9617 (ma 5) = .inl (G.2 0, 60, .inl tf) := (o_9621 (ma 5) ).trans ft
          have f_9682 : F_9622 (ma 5) = .inl (G.2 0, 60, .inl tf) := (o_9626 (ma 5) ).trans f_9681
          have f_9683 : F_9629 (ma 5) = .inl (G.2 0, 60, .inl tf) := (o_9631 (ma 5) (ne_ao f_9682 f_9628)).trans f_9682
          have f_9684 : F_9633 (ma 5) = .inl (G.2 0, 60, .inl tf) := (o_9637 (ma 5) ).trans f_9683
          have f_9685 : F_9638 (ma 5) = .inl (G.2 0, 60, .inl tf) := (o_9642 (ma 5) ).trans f_9684
          have f_9686 : F_9655 (ma 5) = .inl (G.2 0, 60, .inl tf) := (o_9659 (ma 5) ).trans f_9685
          have f_9687 : F_9617 (ma 6) = .inl (G.2 0, 52, .inl pf) := (o_9621 (ma 6) ).trans fq
          have f_9688 : F_9622 (ma 6) = .inl (G.2 0, 52, .inl pf) := (o_9626 (ma 6) ).trans f_9687
          have f_9689 : F_9629 (ma 6) = .inl (G.2 0, 52, .inl pf) := (o_9631 (ma 6) (ne_ao f_9688 f_9628)).trans f_9688
          have f_9690 : F_9633 (ma 6) = .inl (G.2 0, 52, .inl pf) := (o_9637 (ma 6) ).trans f_9689
          have f_9691 : F_9638 (ma 6) = .inl (G.2 0, 52, .inl pf) := (o_9642 (ma 6) ).trans f_9690
          have f_9692 : F_9655 (ma 6) = .inl (G.2 0, 52, .inl pf) := (o_9659 (ma 6) ).trans f_9691
          exact r_i C0 hr hlk hw (v := nI ((m_val (A.1.2.2.2.2.2 (6 + f9)) (zi z9)).val)) rfl ⟨rfl, ⟨_, _, _, _, _, _, _, _, _, f_9660, ⟨hm0, hm1, rfl⟩, ⟨f_9661, hz⟩, ⟨f_9667, hhf⟩, ⟨f_9673, hsf⟩, ⟨f_9679, hkf⟩, f_9680, ⟨f_9686, htf⟩, f_9692⟩, (fun q k0 k1 => ((o_9659 q ).trans ((o_9642 q ).trans ((o_9637 q ).trans ((o_9631 q k0).trans ((o_9626 q ).trans (o_9621 q )))))))⟩ (Nat.le_refl _) (Nat.le_refl _) dX6_value_63 hQ
        · skip
          exact absurd c_42 (by omega)
      · skip
        exact absurd c_33 (by omega)
  · skip
    exact absurd c_5 (by omega)
abbrev rm_X6_clash : Room := { frames := 6, cells := 0, slots := 0, locals := 137 }
set_option maxHeartbeats 4000000 in
set_option maxRecDepth 100000 in
theorem k_X6_clash_x (l : Launch) (G : Gl) (L : List Nat) (F : Nat → va_E) (b : Nat) (ma : Nat → Nat) (A : AB) (th : Nat) (x9 y9 : Int32) (mb : b ∈ L) (hma : ∀ i, i < 7 → ma i ∈ L) (hM : MW G F b ma A th) (hA : okA A) (h9 : ¬ (inR x9 0 5 ∧ inR y9 0 5)) : CI l yX6_clash cX6_clash 3 (some .int) rm_X6_clash G L F [.ref b, .int (x9), .int (y9)] (fun r F1 => MW G F1 b ma A 1 ∧ mFr F F1 b ma) := by
  obtain ⟨mi, hh, zf, hf, sf, kf, tf, pf, pl, fb, ⟨hm0, hm1, hm2⟩, ⟨fz, hz⟩, ⟨fh, hhf⟩, ⟨fs, hsf⟩, ⟨fk, hkf⟩, fp, ⟨ft, htf⟩, fq⟩ := hM
  obtain ⟨hz0, hz1, hz2, hz3, hz4⟩ := ne_z zf hz
  have hc : A.1.1 ≤ 6 := hA.1.2.1
  have hc2 : 2 ≤ A.1.1 := hA.1.1
  have hpu : A.1.2.1 ≤ 100000 := hA.1.2.2.1
  have hrw : ∀ i k, i < 12 → k < 7 → zf (5 + 7 * i + k) = nI (A.1.2.2.2.2.2 i k).val := hz.row
  refine CG_of (by decide) (Nat.le_of_ble_eq_true rfl) rfl ?_
  intro p e s m args below meth c Q C0 hr hlk hnm hQ hw ls hl
  have hx := C0.x
  have hb := C0.b
  refine lv_aload_n hx hb dX6_clash_0 rfl (lv_at hl 0 rfl) ?_
  refine lv_iload_n hx hb dX6_clash_1 rfl (lv_at hl 1 rfl) ?_
  refine lv_iload_n hx hb dX6_clash_2 rfl (lv_at hl 2 rfl) ?_
  refine q_calli hw (q_runS (As := [.int (x9), .int (y9)]) (c_X6_areSlots l G L F (x9) (y9)) C0 hw sw_X6_115 rfl hl.1 rfl (Nat.le_of_ble_eq_true rfl) dX6_clash_3 ⟨by decide, by decide⟩ ⟨by decide, by decide⟩) rfl rfl (fun r_9695 F_9693 H locs hw hp_9694 => ?_)
  obtain ⟨he_9696, o_9697⟩ := hp_9694
  rw [if_neg h9] at he_9696
  subst he_9696
  refine n_if_eq (tgt := 13) hx hb dX6_clash_6 (by decide) (by decide) (fun c_6 => ?_) (fun c_6 => ?_)
  · skip
    refine lv_iconst (v := nI 1) hx hb dX6_clash_13 (by decide) ?_
    have f_9698 : F_9693 b = mO ma mi hh := (o_9697 b ).trans fb
    refine q_put C0 hw mb f_9698 fw_X6_31 pw_X6_8 rfl rfl rfl (Nat.le_of_ble_eq_true rfl) dX6_clash_14 (fun F_9699 H locs hw f_9700 o_9701 => ?_)
    have f_9700 : F_9699 b = .inr (6, [.ref (ma 0), .int (mi 0), .ref (ma 1), .ref (ma 2), .ref (ma 3), .ref (ma 4), .int (mi 1), .ref (ma 5), .int (nI (1)), .ref (ma 6), .int (mi 3), .int (mi 4), .long (hh)]) := f_9700
    refine lv_aload_n hx hb dX6_clash_17 rfl (lv_at hl 0 rfl) ?_
    refine q_get C0 hw mb f_9700 fw_X6_31 rfl dX6_clash_18 ?_
    refine n_if_le (tgt := 28) hx hb dX6_clash_21 (by decide) (by decide) (fun c_21 => ?_) (fun c_21 => ?_)
    · skip
      exact absurd c_21 (by omega)
    · skip
      refine lv_iconst (v := nI 0) hx hb dX6_clash_24 (by decide) ?_
      refine lv_goto (tgt := 34) hx hb dX6_clash_25 (by decide) ?_
      have hb_9702 : F_9699 b = mO ma (va_up mi 2 (nI 1)) (hh) := f_9700
      have f_9703 : F_9693 (ma 0) = .inl (G.2 0, 89, .inl zf) := (o_9697 (ma 0) ).trans fz
      have f_9704 : F_9699 (ma 0) = .inl (G.2 0, 89, .inl zf) := (o_9701 (ma 0) (ne_ao f_9703 f_9698)).trans f_9703
      have f_9705 : F_9693 (ma 1) = .inl (G.2 0, 534, .inl hf) := (o_9697 (ma 1) ).trans fh
      have f_9706 : F_9699 (ma 1) = .inl (G.2 0, 534, .inl hf) := (o_9701 (ma 1) (ne_ao f_9705 f_9698)).trans f_9705
      have f_9707 : F_9693 (ma 2) = .inl (G.2 0, 178, .inl sf) := (o_9697 (ma 2) ).trans fs
      have f_9708 : F_9699 (ma 2) = .inl (G.2 0, 178, .inl sf) := (o_9701 (ma 2) (ne_ao f_9707 f_9698)).trans f_9707
      have f_9709 : F_9693 (ma 3) = .inl (G.2 0, 2, .inl kf) := (o_9697 (ma 3) ).trans fk
      have f_9710 : F_9699 (ma 3) = .inl (G.2 0, 2, .inl kf) := (o_9701 (ma 3) (ne_ao f_9709 f_9698)).trans f_9709
      have f_9711 : F_9693 (ma 4) = pcE G pl := (o_9697 (ma 4) ).trans fp
      have f_9712 : F_9699 (ma 4) = pcE G pl := (o_9701 (ma 4) (ne_ao f_9711 f_9698)).trans f_9711
      have f_9713 : F_9693 (ma 5) = .inl (G.2 0, 60, .inl tf) := (o_9697 (ma 5) ).trans ft
      have f_9714 : F_9699 (ma 5) = .inl (G.2 0, 60, .inl tf) := (o_9701 (ma 5) (ne_ao f_9713 f_9698)).trans f_9713
      have f_9715 : F_9693 (ma 6) = .inl (G.2 0, 52, .inl pf) := (o_9697 (ma 6) ).trans fq
      have f_9716 : F_9699 (ma 6) = .inl (G.2 0, 52, .inl pf) := (o_9701 (ma 6) (ne_ao f_9715 f_9698)).trans f_9715
      exact r_i C0 hr hlk hw (v := nI 0) rfl ⟨⟨_, _, _, _, _, _, _, _, _, hb_9702, ⟨hm0, hm1, rfl⟩, ⟨f_9704, hz⟩, ⟨f_9706, hhf⟩, ⟨f_9708, hsf⟩, ⟨f_9710, hkf⟩, f_9712, ⟨f_9714, htf⟩, f_9716⟩, (fun q k0 k1 => ((o_9701 q k0).trans (o_9697 q )))⟩ (Nat.le_refl _) (Nat.le_refl _) dX6_clash_34 hQ
  · skip
    exact absurd c_6 (by omega)
set_option maxHeartbeats 4000000 in
set_option maxRecDepth 100000 in
theorem k_X6_clash (l : Launch) (G : Gl) (L : List Nat) (F : Nat → va_E) (b : Nat) (ma : Nat → Nat) (A : AB) (th : Nat) (f9 g9 : Nat) (mb : b ∈ L) (hma : ∀ i, i < 7 → ma i ∈ L) (hM : MW G F b ma A th) (hA : okA A) (hf9 : f9 < 6) (hg9 : g9 < 6) (h9 : inR (nI f9) 0 5 ∧ inR (nI g9) 0 5) : CI l yX6_clash cX6_clash 3 (some .int) rm_X6_clash G L F [.ref b, .int (nI (f9)), .int (nI (g9))] (fun r F1 => r = lowR (m_br (A.1.2.2.2.2.2 f9) (A.1.2.2.2.2.2 g9) A.1.1) ∧ MW G F1 b ma A 0 ∧ mFr F F1 b ma) := by
  obtain ⟨mi, hh, zf, hf, sf, kf, tf, pf, pl, fb, ⟨hm0, hm1, hm2⟩, ⟨fz, hz⟩, ⟨fh, hhf⟩, ⟨fs, hsf⟩, ⟨fk, hkf⟩, fp, ⟨ft, htf⟩, fq⟩ := hM
  obtain ⟨hz0, hz1, hz2, hz3, hz4⟩ := ne_z zf hz
  have hc : A.1.1 ≤ 6 := hA.1.2.1
  have hc2 : 2 ≤ A.1.1 := hA.1.1
  have hpu : A.1.2.1 ≤ 100000 := hA.1.2.2.1
  have hrw : ∀ i k, i < 12 → k < 7 → zf (5 + 7 * i + k) = nI (A.1.2.2.2.2.2 i k).val := hz.row
  have hR : okR A.1.2.2.2.2.2 := hA.1.2.2.2
  refine CG_of (by decide) (Nat.le_of_ble_eq_true rfl) rfl ?_
  intro p e s m args below meth c Q C0 hr hlk hnm hQ hw ls hl
  have hx := C0.x
  have hb := C0.b
  refine lv_aload_n hx hb dX6_clash_0 rfl (lv_at hl 0 rfl) ?_
  refine lv_iload_n hx hb dX6_clash_1 rfl (lv_at hl 1 rfl) ?_
  refine lv_iload_n hx hb dX6_clash_2 rfl (lv_at hl 2 rfl) ?_
  refine q_calli hw (q_runS (As := [.int (nI (f9)), .int (nI (g9))]) (c_X6_areSlots l G L F (nI (f9)) (nI (g9))) C0 hw sw_X6_115 rfl hl.1 rfl (Nat.le_of_ble_eq_true rfl) dX6_clash_3 ⟨by decide, by decide⟩ ⟨by decide, by decide⟩) rfl rfl (fun r_9719 F_9717 H locs hw hp_9718 => ?_)
  obtain ⟨he_9720, o_9721⟩ := hp_9718
  rw [if_pos h9] at he_9720
  subst he_9720
  refine n_if_eq (tgt := 13) hx hb dX6_clash_6 (by decide) (by decide) (fun c_6 => ?_) (fun c_6 => ?_)
  · skip
    exact absurd c_6 (by omega)
  · skip
    refine lv_iconst (v := nI 0) hx hb dX6_clash_9 (by decide) ?_
    refine lv_goto (tgt := 14) hx hb dX6_clash_10 (by decide) ?_
    have f_9722 : F_9717 b = mO ma mi hh := (o_9721 b ).trans fb
    refine q_put C0 hw mb f_9722 fw_X6_31 pw_X6_8 rfl rfl rfl (Nat.le_of_ble_eq_true rfl) dX6_clash_14 (fun F_9723 H locs hw f_9724 o_9725 => ?_)
    have f_9724 : F_9723 b = .inr (6, [.ref (ma 0), .int (mi 0), .ref (ma 1), .ref (ma 2), .ref (ma 3), .ref (ma 4), .int (mi 1), .ref (ma 5), .int (nI (0)), .ref (ma 6), .int (mi 3), .int (mi 4), .long (hh)]) := f_9724
    refine lv_aload_n hx hb dX6_clash_17 rfl (lv_at hl 0 rfl) ?_
    refine q_get C0 hw mb f_9724 fw_X6_31 rfl dX6_clash_18 ?_
    refine n_if_le (tgt := 28) hx hb dX6_clash_21 (by decide) (by decide) (fun c_21 => ?_) (fun c_21 => ?_)
    · skip
      have hb_9726 : F_9723 b = mO ma (va_up mi 2 (nI 0)) hh := f_9724
      refine lv_aload_n hx hb dX6_clash_28 rfl (lv_at hl 0 rfl) ?_
      refine lv_iload_n hx hb dX6_clash_29 rfl (lv_at hl 1 rfl) ?_
      refine lv_iload_n hx hb dX6_clash_30 rfl (lv_at hl 2 rfl) ?_
      have f_9727 : F_9717 (ma 4) = pcE G pl := (o_9721 (ma 4) ).trans fp
      have f_9728 : F_9723 (ma 4) = pcE G pl := (o_9725 (ma 4) (ne_ao f_9727 f_9722)).trans f_9727
      have f_9729 : F_9717 (ma 0) = .inl (G.2 0, 89, .inl zf) := (o_9721 (ma 0) ).trans fz
      have f_9730 : F_9723 (ma 0) = .inl (G.2 0, 89, .inl zf) := (o_9725 (ma 0) (ne_ao f_9729 f_9722)).trans f_9729
      refine q_calli hw (q_runV (As := [.int (nI (f9)), .int (nI (g9))]) (c_X6_clashNow l G L F_9723 b ma (va_up mi 2 (nI 0)) hh pl zf A.1.1 A.1.2.2.2.2.2 f9 g9 mb hb_9726 hma f_9728 f_9730 hz0 (by omega) (by omega) (by omega) (by omega) hrw hR) C0 hw vw_X6_211 mb hb_9726 rfl rfl rfl hl.1 rfl (Nat.le_of_ble_eq_true rfl) dX6_clash_31 ⟨by decide, by decide⟩ ⟨by decide, by decide⟩) rfl rfl (fun r_9733 F_9731 H locs hw hp_9732 => ?_)
      obtain ⟨f_9735, ⟨P_9734, f_9736⟩, f_9737⟩ := hp_9732
      subst f_9735
      have f_9738 : F_9731 b = mO ma ((va_up mi 2 (nI 0))) hh := (f_9737 b (ne_oa hb_9726 f_9728)).trans hb_9726
      have f_9739 : F_9731 (ma 0) = .inl (G.2 0, 89, .inl zf) := (f_9737 (ma 0) (ne_aa (by decide) f_9730 f_9728)).trans f_9730
      have f_9740 : F_9717 (ma 1) = .inl (G.2 0, 534, .inl hf) := (o_9721 (ma 1) ).trans fh
      have f_9741 : F_9723 (ma 1) = .inl (G.2 0, 534, .inl hf) := (o_9725 (ma 1) (ne_ao f_9740 f_9722)).trans f_9740
      have f_9742 : F_9731 (ma 1) = .inl (G.2 0, 534, .inl hf) := (f_9737 (ma 1) (ne_aa (by decide) f_9741 f_9728)).trans f_9741
      have f_9743 : F_9717 (ma 2) = .inl (G.2 0, 178, .inl sf) := (o_9721 (ma 2) ).trans fs
      have f_9744 : F_9723 (ma 2) = .inl (G.2 0, 178, .inl sf) := (o_9725 (ma 2) (ne_ao f_9743 f_9722)).trans f_9743
      have f_9745 : F_9731 (ma 2) = .inl (G.2 0, 178, .inl sf) := (f_9737 (ma 2) (ne_aa (by decide) f_9744 f_9728)).trans f_9744
      have f_9746 : F_9717 (ma 3) = .inl (G.2 0, 2, .inl kf) := (o_9721 (ma 3) ).trans fk
      have f_9747 : F_9723 (ma 3) = .inl (G.2 0, 2, .inl kf) := (o_9725 (ma 3) (ne_ao f_9746 f_9722)).trans f_9746
      have f_9748 : F_9731 (ma 3) = .inl (G.2 0, 2, .inl kf) := (f_9737 (ma 3) (ne_aa (by decide) f_9747 f_9728)).trans f_9747
      have f_9749 : F_9717 (ma 5) = .inl (G.2 0, 60, .inl tf) := (o_9721 (ma 5) ).trans ft
      have f_9750 : F_9723 (ma 5) = .inl (G.2 0, 60, .inl tf) := (o_9725 (ma 5) (ne_ao f_9749 f_9722)).trans f_9749
      have f_9751 : F_9731 (ma 5) = .inl (G.2 0, 60, .inl tf) := (f_9737 (ma 5) (ne_aa (by decide) f_9750 f_9728)).trans f_9750
      have f_9752 : F_9717 (ma 6) = .inl (G.2 0, 52, .inl pf) := (o_9721 (ma 6) ).trans fq
      have f_9753 : F_9723 (ma 6) = .inl (G.2 0, 52, .inl pf) := (o_9725 (ma 6) (ne_ao f_9752 f_9722)).trans f_9752
      have f_9754 : F_9731 (ma 6) = .inl (G.2 0, 52, .inl pf) := (f_9737 (ma 6) (ne_aa (by decide) f_9753 f_9728)).trans f_9753
      exact r_i C0 hr hlk hw (v := (lowR (m_br (A.1.2.2.2.2.2 f9) (A.1.2.2.2.2.2 g9) A.1.1))) rfl ⟨rfl, ⟨_, _, _, _, _, _, _, _, _, f_9738, ⟨hm0, hm1, rfl⟩, ⟨f_9739, hz⟩, ⟨f_9742, hhf⟩, ⟨f_9745, hsf⟩, ⟨f_9748, hkf⟩, f_9736, ⟨f_9751, htf⟩, f_9754⟩, (fun q k0 k1 => ((f_9737 q (k1 4 (by decide))).trans ((o_9725 q k0).trans (o_9721 q ))))⟩ (Nat.le_refl _) (Nat.le_refl _) dX6_clash_34 hQ
    · skip
      exact absurd c_21 (by omega)
abbrev rm_X6_apart : Room := { frames := 6, cells := 0, slots := 0, locals := 138 }
set_option maxHeartbeats 4000000 in
set_option maxRecDepth 100000 in
theorem k_X6_apart_x (l : Launch) (G : Gl) (L : List Nat) (F : Nat → va_E) (b : Nat) (ma : Nat → Nat) (A : AB) (th : Nat) (x9 y9 : Int32) (mb : b ∈ L) (hma : ∀ i, i < 7 → ma i ∈ L) (hM : MW G F b ma A th) (hA : okA A) (h9 : ¬ (inR x9 0 5 ∧ inR y9 0 5)) : CI l yX6_apart cX6_apart 3 (some .int) rm_X6_apart G L F [.ref b, .int (x9), .int (y9)] (fun r F1 => MW G F1 b ma A 1 ∧ mFr F F1 b ma) := by
  obtain ⟨mi, hh, zf, hf, sf, kf, tf, pf, pl, fb, ⟨hm0, hm1, hm2⟩, ⟨fz, hz⟩, ⟨fh, hhf⟩, ⟨fs, hsf⟩, ⟨fk, hkf⟩, fp, ⟨ft, htf⟩, fq⟩ := hM
  obtain ⟨hz0, hz1, hz2, hz3, hz4⟩ := ne_z zf hz
  have hc : A.1.1 ≤ 6 := hA.1.2.1
  have hc2 : 2 ≤ A.1.1 := hA.1.1
  have hpu : A.1.2.1 ≤ 100000 := hA.1.2.2.1
  have hrw : ∀ i k, i < 12 → k < 7 → zf (5 + 7 * i + k) = nI (A.1.2.2.2.2.2 i k).val := hz.row
  refine CG_of (by decide) (Nat.le_of_ble_eq_true rfl) rfl ?_
  intro p e s m args below meth c Q C0 hr hlk hnm hQ hw ls hl
  have hx := C0.x
  have hb := C0.b
  refine lv_aload_n hx hb dX6_apart_0 rfl (lv_at hl 0 rfl) ?_
  refine lv_iload_n hx hb dX6_apart_1 rfl (lv_at hl 1 rfl) ?_
  refine lv_iload_n hx hb dX6_apart_2 rfl (lv_at hl 2 rfl) ?_
  refine q_calli hw (q_runS (As := [.int (x9), .int (y9)]) (c_X6_areSlots l G L F (x9) (y9)) C0 hw sw_X6_115 rfl hl.1 rfl (Nat.le_of_ble_eq_true rfl) dX6_apart_3 ⟨by decide, by decide⟩ ⟨by decide, by decide⟩) rfl rfl (fun r_9757 F_9755 H locs hw hp_9756 => ?_)
  obtain ⟨he_9758, o_9759⟩ := hp_9756
  rw [if_neg h9] at he_9758
  subst he_9758
  refine n_if_eq (tgt := 13) hx hb dX6_apart_6 (by decide) (by decide) (fun c_6 => ?_) (fun c_6 => ?_)
  · skip
    refine lv_iconst (v := nI 1) hx hb dX6_apart_13 (by decide) ?_
    have f_9760 : F_9755 b = mO ma mi hh := (o_9759 b ).trans fb
    refine q_put C0 hw mb f_9760 fw_X6_31 pw_X6_8 rfl rfl rfl (Nat.le_of_ble_eq_true rfl) dX6_apart_14 (fun F_9761 H locs hw f_9762 o_9763 => ?_)
    have f_9762 : F_9761 b = .inr (6, [.ref (ma 0), .int (mi 0), .ref (ma 1), .ref (ma 2), .ref (ma 3), .ref (ma 4), .int (mi 1), .ref (ma 5), .int (nI (1)), .ref (ma 6), .int (mi 3), .int (mi 4), .long (hh)]) := f_9762
    refine lv_aload_n hx hb dX6_apart_17 rfl (lv_at hl 0 rfl) ?_
    refine q_get C0 hw mb f_9762 fw_X6_31 rfl dX6_apart_18 ?_
    refine n_if_le (tgt := 28) hx hb dX6_apart_21 (by decide) (by decide) (fun c_21 => ?_) (fun c_21 => ?_)
    · skip
      exact absurd c_21 (by omega)
    · skip
      refine lv_iconst (v := nI 0) hx hb dX6_apart_24 (by decide) ?_
      refine lv_goto (tgt := 34) hx hb dX6_apart_25 (by decide) ?_
      have hb_9764 : F_9761 b = mO ma (va_up mi 2 (nI 1)) (hh) := f_9762
      have f_9765 : F_9755 (ma 0) = .inl (G.2 0, 89, .inl zf) := (o_9759 (ma 0) ).trans fz
      have f_9766 : F_9761 (ma 0) = .inl (G.2 0, 89, .inl zf) := (o_9763 (ma 0) (ne_ao f_9765 f_9760)).trans f_9765
      have f_9767 : F_9755 (ma 1) = .inl (G.2 0, 534, .inl hf) := (o_9759 (ma 1) ).trans fh
      have f_9768 : F_9761 (ma 1) = .inl (G.2 0, 534, .inl hf) := (o_9763 (ma 1) (ne_ao f_9767 f_9760)).trans f_9767
      have f_9769 : F_9755 (ma 2) = .inl (G.2 0, 178, .inl sf) := (o_9759 (ma 2) ).trans fs
      have f_9770 : F_9761 (ma 2) = .inl (G.2 0, 178, .inl sf) := (o_9763 (ma 2) (ne_ao f_9769 f_9760)).trans f_9769
      have f_9771 : F_9755 (ma 3) = .inl (G.2 0, 2, .inl kf) := (o_9759 (ma 3) ).trans fk
      have f_9772 : F_9761 (ma 3) = .inl (G.2 0, 2, .inl kf) := (o_9763 (ma 3) (ne_ao f_9771 f_9760)).trans f_9771
      have f_9773 : F_9755 (ma 4) = pcE G pl := (o_9759 (ma 4) ).trans fp
      have f_9774 : F_9761 (ma 4) = pcE G pl := (o_9763 (ma 4) (ne_ao f_9773 f_9760)).trans f_9773
      have f_9775 : F_9755 (ma 5) = .inl (G.2 0, 60, .inl tf) := (o_9759 (ma 5) ).trans ft
      have f_9776 : F_9761 (ma 5) = .inl (G.2 0, 60, .inl tf) := (o_9763 (ma 5) (ne_ao f_9775 f_9760)).trans f_9775
      have f_9777 : F_9755 (ma 6) = .inl (G.2 0, 52, .inl pf) := (o_9759 (ma 6) ).trans fq
      have f_9778 : F_9761 (ma 6) = .inl (G.2 0, 52, .inl pf) := (o_9763 (ma 6) (ne_ao f_9777 f_9760)).trans f_9777
      exact r_i C0 hr hlk hw (v := nI 0) rfl ⟨⟨_, _, _, _, _, _, _, _, _, hb_9764, ⟨hm0, hm1, rfl⟩, ⟨f_9766, hz⟩, ⟨f_9768, hhf⟩, ⟨f_9770, hsf⟩, ⟨f_9772, hkf⟩, f_9774, ⟨f_9776, htf⟩, f_9778⟩, (fun q k0 k1 => ((o_9763 q k0).trans (o_9759 q )))⟩ (Nat.le_refl _) (Nat.le_refl _) dX6_apart_34 hQ
  · skip
    exact absurd c_6 (by omega)
set_option maxHeartbeats 4000000 in
set_option maxRecDepth 100000 in
theorem k_X6_apart (l : Launch) (G : Gl) (L : List Nat) (F : Nat → va_E) (b : Nat) (ma : Nat → Nat) (A : AB) (th : Nat) (f9 g9 : Nat) (mb : b ∈ L) (hma : ∀ i, i < 7 → ma i ∈ L) (hM : MW G F b ma A th) (hA : okA A) (hf9 : f9 < 6) (hg9 : g9 < 6) (h9 : inR (nI f9) 0 5 ∧ inR (nI g9) 0 5) : CI l yX6_apart cX6_apart 3 (some .int) rm_X6_apart G L F [.ref b, .int (nI (f9)), .int (nI (g9))] (fun r F1 => r = m_low (fun k => decide ((m_sub (A.1.2.2.2.2.2 (6 + f9)) (A.1.2.2.2.2.2 (6 + g9)) A.1.1) k ≠ (m_sub (A.1.2.2.2.2.2 (6 + g9)) (A.1.2.2.2.2.2 (6 + f9)) A.1.1) k)) ∧ MW G F1 b ma A 0 ∧ mFr F F1 b ma) := by
  obtain ⟨mi, hh, zf, hf, sf, kf, tf, pf, pl, fb, ⟨hm0, hm1, hm2⟩, ⟨fz, hz⟩, ⟨fh, hhf⟩, ⟨fs, hsf⟩, ⟨fk, hkf⟩, fp, ⟨ft, htf⟩, fq⟩ := hM
  obtain ⟨hz0, hz1, hz2, hz3, hz4⟩ := ne_z zf hz
  have hc : A.1.1 ≤ 6 := hA.1.2.1
  have hc2 : 2 ≤ A.1.1 := hA.1.1
  have hpu : A.1.2.1 ≤ 100000 := hA.1.2.2.1
  have hrw : ∀ i k, i < 12 → k < 7 → zf (5 + 7 * i + k) = nI (A.1.2.2.2.2.2 i k).val := hz.row
  have hR : okR A.1.2.2.2.2.2 := hA.1.2.2.2
  refine CG_of (by decide) (Nat.le_of_ble_eq_true rfl) rfl ?_
  intro p e s m args below meth c Q C0 hr hlk hnm hQ hw ls hl
  have hx := C0.x
  have hb := C0.b
  refine lv_aload_n hx hb dX6_apart_0 rfl (lv_at hl 0 rfl) ?_
  refine lv_iload_n hx hb dX6_apart_1 rfl (lv_at hl 1 rfl) ?_
  refine lv_iload_n hx hb dX6_apart_2 rfl (lv_at hl 2 rfl) ?_
  refine q_calli hw (q_runS (As := [.int (nI (f9)), .int (nI (g9))]) (c_X6_areSlots l G L F (nI (f9)) (nI (g9))) C0 hw sw_X6_115 rfl hl.1 rfl (Nat.le_of_ble_eq_true rfl) dX6_apart_3 ⟨by decide, by decide⟩ ⟨by decide, by decide⟩) rfl rfl (fun r_9781 F_9779 H locs hw hp_9780 => ?_)
  obtain ⟨he_9782, o_9783⟩ := hp_9780
  rw [if_pos h9] at he_9782
  subst he_9782
  refine n_if_eq (tgt := 13) hx hb dX6_apart_6 (by decide) (by decide) (fun c_6 => ?_) (fun c_6 => ?_)
  · skip
    exact absurd c_6 (by omega)
  · skip
    refine lv_iconst (v := nI 0) hx hb dX6_apart_9 (by decide) ?_
    refine lv_goto (tgt := 14) hx hb dX6_apart_10 (by decide) ?_
    have f_9784 : F_9779 b = mO ma mi hh := (o_9783 b ).trans fb
    refine q_put C0 hw mb f_9784 fw_X6_31 pw_X6_8 rfl rfl rfl (Nat.le_of_ble_eq_true rfl) dX6_apart_14 (fun F_9785 H locs hw f_9786 o_9787 => ?_)
    have f_9786 : F_9785 b = .inr (6, [.ref (ma 0), .int (mi 0), .ref (ma 1), .ref (ma 2), .ref (ma 3), .ref (ma 4), .int (mi 1), .ref (ma 5), .int (nI (0)), .ref (ma 6), .int (mi 3), .int (mi 4), .long (hh)]) := f_9786
    refine lv_aload_n hx hb dX6_apart_17 rfl (lv_at hl 0 rfl) ?_
    refine q_get C0 hw mb f_9786 fw_X6_31 rfl dX6_apart_18 ?_
    refine n_if_le (tgt := 28) hx hb dX6_apart_21 (by decide) (by decide) (fun c_21 => ?_) (fun c_21 => ?_)
    · skip
      have hb_9788 : F_9785 b = mO ma (va_up mi 2 (nI 0)) hh := f_9786
      refine lv_aload_n hx hb dX6_apart_28 rfl (lv_at hl 0 rfl) ?_
      refine lv_iload_n hx hb dX6_apart_29 rfl (lv_at hl 1 rfl) ?_
      refine lv_iload_n hx hb dX6_apart_30 rfl (lv_at hl 2 rfl) ?_
      have f_9789 : F_9779 (ma 4) = pcE G pl := (o_9783 (ma 4) ).trans fp
      have f_9790 : F_9785 (ma 4) = pcE G pl := (o_9787 (ma 4) (ne_ao f_9789 f_9784)).trans f_9789
      have f_9791 : F_9779 (ma 0) = .inl (G.2 0, 89, .inl zf) := (o_9783 (ma 0) ).trans fz
      have f_9792 : F_9785 (ma 0) = .inl (G.2 0, 89, .inl zf) := (o_9787 (ma 0) (ne_ao f_9791 f_9784)).trans f_9791
      refine q_calli hw (q_runV (As := [.int (nI (f9)), .int (nI (g9))]) (c_X6_apartNow l G L F_9785 b ma (va_up mi 2 (nI 0)) hh pl zf A.1.1 A.1.2.2.2.2.2 f9 g9 mb hb_9788 hma f_9790 f_9792 hz0 (by omega) (by omega) (by omega) (by omega) hrw) C0 hw vw_X6_217 mb hb_9788 rfl rfl rfl hl.1 rfl (Nat.le_of_ble_eq_true rfl) dX6_apart_31 ⟨by decide, by decide⟩ ⟨by decide, by decide⟩) rfl rfl (fun r_9795 F_9793 H locs hw hp_9794 => ?_)
      obtain ⟨f_9797, ⟨P_9796, f_9798⟩, f_9799⟩ := hp_9794
      subst f_9797
      have f_9800 : F_9793 b = mO ma ((va_up mi 2 (nI 0))) hh := (f_9799 b (ne_oa hb_9788 f_9790)).trans hb_9788
      have f_9801 : F_9793 (ma 0) = .inl (G.2 0, 89, .inl zf) := (f_9799 (ma 0) (ne_aa (by decide) f_9792 f_9790)).trans f_9792
      have f_9802 : F_9779 (ma 1) = .inl (G.2 0, 534, .inl hf) := (o_9783 (ma 1) ).trans fh
      have f_9803 : F_9785 (ma 1) = .inl (G.2 0, 534, .inl hf) := (o_9787 (ma 1) (ne_ao f_9802 f_9784)).trans f_9802
      have f_9804 : F_9793 (ma 1) = .inl (G.2 0, 534, .inl hf) := (f_9799 (ma 1) (ne_aa (by decide) f_9803 f_9790)).trans f_9803
      have f_9805 : F_9779 (ma 2) = .inl (G.2 0, 178, .inl sf) := (o_9783 (ma 2) ).trans fs
      have f_9806 : F_9785 (ma 2) = .inl (G.2 0, 178, .inl sf) := (o_9787 (ma 2) (ne_ao f_9805 f_9784)).trans f_9805
      have f_9807 : F_9793 (ma 2) = .inl (G.2 0, 178, .inl sf) := (f_9799 (ma 2) (ne_aa (by decide) f_9806 f_9790)).trans f_9806
      have f_9808 : F_9779 (ma 3) = .inl (G.2 0, 2, .inl kf) := (o_9783 (ma 3) ).trans fk
      have f_9809 : F_9785 (ma 3) = .inl (G.2 0, 2, .inl kf) := (o_9787 (ma 3) (ne_ao f_9808 f_9784)).trans f_9808
      have f_9810 : F_9793 (ma 3) = .inl (G.2 0, 2, .inl kf) := (f_9799 (ma 3) (ne_aa (by decide) f_9809 f_9790)).trans f_9809
      have f_9811 : F_9779 (ma 5) = .inl (G.2 0, 60, .inl tf) := (o_9783 (ma 5) ).trans ft
      have f_9812 : F_9785 (ma 5) = .inl (G.2 0, 60, .inl tf) := (o_9787 (ma 5) (ne_ao f_9811 f_9784)).trans f_9811
      have f_9813 : F_9793 (ma 5) = .inl (G.2 0, 60, .inl tf) := (f_9799 (ma 5) (ne_aa (by decide) f_9812 f_9790)).trans f_9812
      have f_9814 : F_9779 (ma 6) = .inl (G.2 0, 52, .inl pf) := (o_9783 (ma 6) ).trans fq
      have f_9815 : F_9785 (ma 6) = .inl (G.2 0, 52, .inl pf) := (o_9787 (ma 6) (ne_ao f_9814 f_9784)).trans f_9814
      have f_9816 : F_9793 (ma 6) = .inl (G.2 0, 52, .inl pf) := (f_9799 (ma 6) (ne_aa (by decide) f_9815 f_9790)).trans f_9815
      exact r_i C0 hr hlk hw (v := (m_low (fun k => decide ((m_sub (A.1.2.2.2.2.2 (6 + f9)) (A.1.2.2.2.2.2 (6 + g9)) A.1.1) k ≠ (m_sub (A.1.2.2.2.2.2 (6 + g9)) (A.1.2.2.2.2.2 (6 + f9)) A.1.1) k)))) rfl ⟨rfl, ⟨_, _, _, _, _, _, _, _, _, f_9800, ⟨hm0, hm1, rfl⟩, ⟨f_9801, hz⟩, ⟨f_9804, hhf⟩, ⟨f_9807, hsf⟩, ⟨f_9810, hkf⟩, f_9798, ⟨f_9813, htf⟩, f_9816⟩, (fun q k0 k1 => ((f_9799 q (k1 4 (by decide))).trans ((o_9787 q k0).trans (o_9783 q ))))⟩ (Nat.le_refl _) (Nat.le_refl _) dX6_apart_34 hQ
    · skip
      exact absurd c_21 (by omega)
abbrev rm_X6_differs : Room := { frames := 7, cells := 0, slots := 0, locals := 161 }
set_option maxHeartbeats 4000000 in
set_option maxRecDepth 100000 in
theorem k_X6_differs_x1 (l : Launch) (G : Gl) (L : List Nat) (F : Nat → va_E) (b : Nat) (ma : Nat → Nat) (A : AB) (th : Nat) (x9 y9 z9 : Int32) (mb : b ∈ L) (hma : ∀ i, i < 7 → ma i ∈ L) (hM : MW G F b ma A th) (hA : okA A) (h9 : ¬ (inR x9 0 5 ∧ inR y9 0 5)) : CI l yX6_differs cX6_differs 4 (some .int) rm_X6_differs G L F [.ref b, .int (x9), .int (y9), .int (z9)] (fun r F1 => MW G F1 b ma A 1 ∧ mFr F F1 b ma) := by
  obtain ⟨mi, hh, zf, hf, sf, kf, tf, pf, pl, fb, ⟨hm0, hm1, hm2⟩, ⟨fz, hz⟩, ⟨fh, hhf⟩, ⟨fs, hsf⟩, ⟨fk, hkf⟩, fp, ⟨ft, htf⟩, fq⟩ := hM
  obtain ⟨hz0, hz1, hz2, hz3, hz4⟩ := ne_z zf hz
  have hc : A.1.1 ≤ 6 := hA.1.2.1
  have hc2 : 2 ≤ A.1.1 := hA.1.1
  have hpu : A.1.2.1 ≤ 100000 := hA.1.2.2.1
  have hrw : ∀ i k, i < 12 → k < 7 → zf (5 + 7 * i + k) = nI (A.1.2.2.2.2.2 i k).val := hz.row
  refine CG_of (by decide) (Nat.le_of_ble_eq_true rfl) rfl ?_
  intro p e s m args below meth c Q C0 hr hlk hnm hQ hw ls hl
  have hx := C0.x
  have hb := C0.b
  refine lv_aload_n hx hb dX6_differs_0 rfl (lv_at hl 0 rfl) ?_
  refine lv_iload_n hx hb dX6_differs_1 rfl (lv_at hl 1 rfl) ?_
  refine lv_iload_n hx hb dX6_differs_2 rfl (lv_at hl 2 rfl) ?_
  refine q_calli hw (q_runS (As := [.int (x9), .int (y9)]) (c_X6_areSlots l G L F (x9) (y9)) C0 hw sw_X6_115 rfl hl.1 rfl (Nat.le_of_ble_eq_true rfl) dX6_differs_3 ⟨by decide, by decide⟩ ⟨by decide, by decide⟩) rfl rfl (fun r_9819 F_9817 H locs hw hp_9818 => ?_)
  obtain ⟨he_9820, o_9821⟩ := hp_9818
  rw [if_neg h9] at he_9820
  subst he_9820
  refine n_if_ne (tgt := 13) hx hb dX6_differs_6 (by decide) (by decide) (fun c_6 => ?_) (fun c_6 => ?_)
  · skip
    exact absurd c_6 (by omega)
  · skip
    refine lv_iconst (v := nI 1) hx hb dX6_differs_9 (by decide) ?_
    refine lv_goto (tgt := 27) hx hb dX6_differs_10 (by decide) ?_
    have f_9822 : F_9817 b = mO ma mi hh := (o_9821 b ).trans fb
    refine q_put C0 hw mb f_9822 fw_X6_31 pw_X6_8 rfl rfl rfl (Nat.le_of_ble_eq_true rfl) dX6_differs_27 (fun F_9823 H locs hw f_9824 o_9825 => ?_)
    have f_9824 : F_9823 b = .inr (6, [.ref (ma 0), .int (mi 0), .ref (ma 1), .ref (ma 2), .ref (ma 3), .ref (ma 4), .int (mi 1), .ref (ma 5), .int (nI (1)), .ref (ma 6), .int (mi 3), .int (mi 4), .long (hh)]) := f_9824
    refine lv_aload_n hx hb dX6_differs_30 rfl (lv_at hl 0 rfl) ?_
    refine q_get C0 hw mb f_9824 fw_X6_31 rfl dX6_differs_31 ?_
    refine n_if_le (tgt := 41) hx hb dX6_differs_34 (by decide) (by decide) (fun c_34 => ?_) (fun c_34 => ?_)
    · skip
      exact absurd c_34 (by omega)
    · skip
      refine lv_iconst (v := nI 0) hx hb dX6_differs_37 (by decide) ?_
      refine lv_goto (tgt := 48) hx hb dX6_differs_38 (by decide) ?_
      have hb_9826 : F_9823 b = mO ma (va_up mi 2 (nI 1)) (hh) := f_9824
      have f_9827 : F_9817 (ma 0) = .inl (G.2 0, 89, .inl zf) := (o_9821 (ma 0) ).trans fz
      have f_9828 : F_9823 (ma 0) = .inl (G.2 0, 89, .inl zf) := (o_9825 (ma 0) (ne_ao f_9827 f_9822)).trans f_9827
      have f_9829 : F_9817 (ma 1) = .inl (G.2 0, 534, .inl hf) := (o_9821 (ma 1) ).trans fh
      have f_9830 : F_9823 (ma 1) = .inl (G.2 0, 534, .inl hf) := (o_9825 (ma 1) (ne_ao f_9829 f_9822)).trans f_9829
      have f_9831 : F_9817 (ma 2) = .inl (G.2 0, 178, .inl sf) := (o_9821 (ma 2) ).trans fs
      have f_9832 : F_9823 (ma 2) = .inl (G.2 0, 178, .inl sf) := (o_9825 (ma 2) (ne_ao f_9831 f_9822)).trans f_9831
      have f_9833 : F_9817 (ma 3) = .inl (G.2 0, 2, .inl kf) := (o_9821 (ma 3) ).trans fk
      have f_9834 : F_9823 (ma 3) = .inl (G.2 0, 2, .inl kf) := (o_9825 (ma 3) (ne_ao f_9833 f_9822)).trans f_9833
      have f_9835 : F_9817 (ma 4) = pcE G pl := (o_9821 (ma 4) ).trans fp
      have f_9836 : F_9823 (ma 4) = pcE G pl := (o_9825 (ma 4) (ne_ao f_9835 f_9822)).trans f_9835
      have f_9837 : F_9817 (ma 5) = .inl (G.2 0, 60, .inl tf) := (o_9821 (ma 5) ).trans ft
      have f_9838 : F_9823 (ma 5) = .inl (G.2 0, 60, .inl tf) := (o_9825 (ma 5) (ne_ao f_9837 f_9822)).trans f_9837
      have f_9839 : F_9817 (ma 6) = .inl (G.2 0, 52, .inl pf) := (o_9821 (ma 6) ).trans fq
      have f_9840 : F_9823 (ma 6) = .inl (G.2 0, 52, .inl pf) := (o_9825 (ma 6) (ne_ao f_9839 f_9822)).trans f_9839
      exact r_i C0 hr hlk hw (v := nI 0) rfl ⟨⟨_, _, _, _, _, _, _, _, _, hb_9826, ⟨hm0, hm1, rfl⟩, ⟨f_9828, hz⟩, ⟨f_9830, hhf⟩, ⟨f_9832, hsf⟩, ⟨f_9834, hkf⟩, f_9836, ⟨f_9838, htf⟩, f_9840⟩, (fun q k0 k1 => ((o_9825 q k0).trans (o_9821 q )))⟩ (Nat.le_refl _) (Nat.le_refl _) dX6_differs_48 hQ
set_option maxHeartbeats 4000000 in
set_option maxRecDepth 100000 in
theorem k_X6_differs_x2 (l : Launch) (G : Gl) (L : List Nat) (F : Nat → va_E) (b : Nat) (ma : Nat → Nat) (A : AB) (th : Nat) (x9 y9 z9 : Int32) (mb : b ∈ L) (hma : ∀ i, i < 7 → ma i ∈ L) (hM : MW G F b ma A th) (hA : okA A) (h8 : inR x9 0 5 ∧ inR y9 0 5) (h9 : ¬ inR z9 2 5) : CI l yX6_differs cX6_differs 4 (some .int) rm_X6_differs G L F [.ref b, .int (x9), .int (y9), .int (z9)] (fun r F1 => MW G F1 b ma A 2 ∧ mFr F F1 b ma) := by
  obtain ⟨mi, hh, zf, hf, sf, kf, tf, pf, pl, fb, ⟨hm0, hm1, hm2⟩, ⟨fz, hz⟩, ⟨fh, hhf⟩, ⟨fs, hsf⟩, ⟨fk, hkf⟩, fp, ⟨ft, htf⟩, fq⟩ := hM
  obtain ⟨hz0, hz1, hz2, hz3, hz4⟩ := ne_z zf hz
  have hc : A.1.1 ≤ 6 := hA.1.2.1
  have hc2 : 2 ≤ A.1.1 := hA.1.1
  have hpu : A.1.2.1 ≤ 100000 := hA.1.2.2.1
  have hrw : ∀ i k, i < 12 → k < 7 → zf (5 + 7 * i + k) = nI (A.1.2.2.2.2.2 i k).val := hz.row
  refine CG_of (by decide) (Nat.le_of_ble_eq_true rfl) rfl ?_
  intro p e s m args below meth c Q C0 hr hlk hnm hQ hw ls hl
  have hx := C0.x
  have hb := C0.b
  refine lv_aload_n hx hb dX6_differs_0 rfl (lv_at hl 0 rfl) ?_
  refine lv_iload_n hx hb dX6_differs_1 rfl (lv_at hl 1 rfl) ?_
  refine lv_iload_n hx hb dX6_differs_2 rfl (lv_at hl 2 rfl) ?_
  refine q_calli hw (q_runS (As := [.int (x9), .int (y9)]) (c_X6_areSlots l G L F (x9) (y9)) C0 hw sw_X6_115 rfl hl.1 rfl (Nat.le_of_ble_eq_true rfl) dX6_differs_3 ⟨by decide, by decide⟩ ⟨by decide, by decide⟩) rfl rfl (fun r_9843 F_9841 H locs hw hp_9842 => ?_)
  obtain ⟨he_9844, o_9845⟩ := hp_9842
  rw [if_pos h8] at he_9844
  subst he_9844
  refine n_if_ne (tgt := 13) hx hb dX6_differs_6 (by decide) (by decide) (fun c_6 => ?_) (fun c_6 => ?_)
  · skip
    refine lv_iload_n hx hb dX6_differs_13 rfl (lv_at hl 3 rfl) ?_
    refine lv_iconst (v := nI 2) hx hb dX6_differs_14 (by decide) ?_
    refine lv_iconst (v := nI 5) hx hb dX6_differs_15 (by decide) ?_
    refine q_calli hw (q_runS (As := [.int (z9), .int (nI (2)), .int (nI (5))]) (c_X6_within l G L F_9841 z9 2 5) C0 hw sw_X6_38 rfl hl.1 rfl (Nat.le_of_ble_eq_true rfl) dX6_differs_16 ⟨by decide, by decide⟩ ⟨by decide, by decide⟩) rfl rfl (fun r_9848 F_9846 H locs hw hp_9847 => ?_)
    obtain ⟨he_9849, o_9850⟩ := hp_9847
    rw [if_neg h9] at he_9849
    subst he_9849
    refine n_if_eq (tgt := 26) hx hb dX6_differs_19 (by decide) (by decide) (fun c_19 => ?_) (fun c_19 => ?_)
    · skip
      refine lv_iconst (v := nI 2) hx hb dX6_differs_26 (by decide) ?_
      have f_9851 : F_9841 b = mO ma mi hh := (o_9845 b ).trans fb
      have f_9852 : F_9846 b = mO ma mi hh := (o_9850 b ).trans f_9851
      refine q_put C0 hw mb f_9852 fw_X6_31 pw_X6_8 rfl rfl rfl (Nat.le_of_ble_eq_true rfl) dX6_differs_27 (fun F_9853 H locs hw f_9854 o_9855 => ?_)
      have f_9854 : F_9853 b = .inr (6, [.ref (ma 0), .int (mi 0), .ref (ma 1), .ref (ma 2), .ref (ma 3), .ref (ma 4), .int (mi 1), .ref (ma 5), .int (nI (2)), .ref (ma 6), .int (mi 3), .int (mi 4), .long (hh)]) := f_9854
      refine lv_aload_n hx hb dX6_differs_30 rfl (lv_at hl 0 rfl) ?_
      refine q_get C0 hw mb f_9854 fw_X6_31 rfl dX6_differs_31 ?_
      refine n_if_le (tgt := 41) hx hb dX6_differs_34 (by decide) (by decide) (fun c_34 => ?_) (fun c_34 => ?_)
      · skip
        exact absurd c_34 (by omega)
      · skip
        refine lv_iconst (v := nI 0) hx hb dX6_differs_37 (by decide) ?_
        refine lv_goto (tgt := 48) hx hb dX6_differs_38 (by decide) ?_
        have hb_9856 : F_9853 b = mO ma (va_up mi 2 (nI 2)) (hh) := f_9854
        have f_9857 : F_9841 (ma 0) = .inl (G.2 0, 89, .inl zf) := (o_9845 (ma 0) ).trans fz
        have f_9858 : F_9846 (ma 0) = .inl (G.2 0, 89, .inl zf) := (o_9850 (ma 0) ).trans f_9857
        have f_9859 : F_9853 (ma 0) = .inl (G.2 0, 89, .inl zf) := (o_9855 (ma 0) (ne_ao f_9858 f_9852)).trans f_9858
        have f_9860 : F_9841 (ma 1) = .inl (G.2 0, 534, .inl hf) := (o_9845 (ma 1) ).trans fh
        have f_9861 : F_9846 (ma 1) = .inl (G.2 0, 534, .inl hf) := (o_9850 (ma 1) ).trans f_9860
        have f_9862 : F_9853 (ma 1) = .inl (G.2 0, 534, .inl hf) := (o_9855 (ma 1) (ne_ao f_9861 f_9852)).trans f_9861
        have f_9863 : F_9841 (ma 2) = .inl (G.2 0, 178, .inl sf) := (o_9845 (ma 2) ).trans fs
        have f_9864 : F_9846 (ma 2) = .inl (G.2 0, 178, .inl sf) := (o_9850 (ma 2) ).trans f_9863
        have f_9865 : F_9853 (ma 2) = .inl (G.2 0, 178, .inl sf) := (o_9855 (ma 2) (ne_ao f_9864 f_9852)).trans f_9864
        have f_9866 : F_9841 (ma 3) = .inl (G.2 0, 2, .inl kf) := (o_9845 (ma 3) ).trans fk
        have f_9867 : F_9846 (ma 3) = .inl (G.2 0, 2, .inl kf) := (o_9850 (ma 3) ).trans f_9866
        have f_9868 : F_9853 (ma 3) = .inl (G.2 0, 2, .inl kf) := (o_9855 (ma 3) (ne_ao f_9867 f_9852)).trans f_9867
        have f_9869 : F_9841 (ma 4) = pcE G pl := (o_9845 (ma 4) ).trans fp
        have f_9870 : F_9846 (ma 4) = pcE G pl := (o_9850 (ma 4) ).trans f_9869
        have f_9871 : F_9853 (ma 4) = pcE G pl := (o_9855 (ma 4) (ne_ao f_9870 f_9852)).trans f_9870
        have f_9872 : F_9841 (ma 5) = .inl (G.2 0, 60, .inl tf) := (o_9845 (ma 5) ).trans ft
        have f_9873 : F_9846 (ma 5) = .inl (G.2 0, 60, .inl tf) := (o_9850 (ma 5) ).trans f_9872
        have f_9874 : F_9853 (ma 5) = .inl (G.2 0, 60, .inl tf) := (o_9855 (ma 5) (ne_ao f_9873 f_9852)).trans f_9873
        have f_9875 : F_9841 (ma 6) = .inl (G.2 0, 52, .inl pf) := (o_9845 (ma 6) ).trans fq
        have f_9876 : F_9846 (ma 6) = .inl (G.2 0, 52, .inl pf) := (o_9850 (ma 6) ).trans f_9875
        have f_9877 : F_9853 (ma 6) = .inl (G.2 0, 52, .inl pf) := (o_9855 (ma 6) (ne_ao f_9876 f_9852)).trans f_9876
        exact r_i C0 hr hlk hw (v := nI 0) rfl ⟨⟨_, _, _, _, _, _, _, _, _, hb_9856, ⟨hm0, hm1, rfl⟩, ⟨f_9859, hz⟩, ⟨f_9862, hhf⟩, ⟨f_9865, hsf⟩, ⟨f_9868, hkf⟩, f_9871, ⟨f_9874, htf⟩, f_9877⟩, (fun q k0 k1 => ((o_9855 q k0).trans ((o_9850 q ).trans (o_9845 q ))))⟩ (Nat.le_refl _) (Nat.le_refl _) dX6_differs_48 hQ
    · skip
      exact absurd c_19 (by omega)
  · skip
    exact absurd c_6 (by omega)
set_option maxHeartbeats 4000000 in
set_option maxRecDepth 100000 in
theorem k_X6_differs (l : Launch) (G : Gl) (L : List Nat) (F : Nat → va_E) (b : Nat) (ma : Nat → Nat) (A : AB) (th : Nat) (f9 g9 y9 : Nat) (mb : b ∈ L) (hma : ∀ i, i < 7 → ma i ∈ L) (hM : MW G F b ma A th) (hA : okA A) (hf9 : f9 < 6) (hg9 : g9 < 6) (hy1 : 2 ≤ y9) (hy2 : y9 ≤ 5) (h8 : inR (nI f9) 0 5 ∧ inR (nI g9) 0 5) (h9 : inR (nI y9) 2 5) : CI l yX6_differs cX6_differs 4 (some .int) rm_X6_differs G L F [.ref b, .int (nI (f9)), .int (nI (g9)), .int (nI (y9))] (fun r F1 => r = m_low (fun k => decide ((m_way (A.1.2.2.2.2.2 f9) (A.1.2.2.2.2.2 g9) y9 A.1.1) k ≠ (m_cf (A.1.2.2.2.2.2 f9) (A.1.2.2.2.2.2 g9) A.1.1) k)) ∧ MW G F1 b ma A 0 ∧ mFr F F1 b ma) := by
  obtain ⟨mi, hh, zf, hf, sf, kf, tf, pf, pl, fb, ⟨hm0, hm1, hm2⟩, ⟨fz, hz⟩, ⟨fh, hhf⟩, ⟨fs, hsf⟩, ⟨fk, hkf⟩, fp, ⟨ft, htf⟩, fq⟩ := hM
  obtain ⟨hz0, hz1, hz2, hz3, hz4⟩ := ne_z zf hz
  have hc : A.1.1 ≤ 6 := hA.1.2.1
  have hc2 : 2 ≤ A.1.1 := hA.1.1
  have hpu : A.1.2.1 ≤ 100000 := hA.1.2.2.1
  have hrw : ∀ i k, i < 12 → k < 7 → zf (5 + 7 * i + k) = nI (A.1.2.2.2.2.2 i k).val := hz.row
  have hR : okR A.1.2.2.2.2.2 := hA.1.2.2.2
  refine CG_of (by decide) (Nat.le_of_ble_eq_true rfl) rfl ?_
  intro p e s m args below meth c Q C0 hr hlk hnm hQ hw ls hl
  have hx := C0.x
  have hb := C0.b
  refine lv_aload_n hx hb dX6_differs_0 rfl (lv_at hl 0 rfl) ?_
  refine lv_iload_n hx hb dX6_differs_1 rfl (lv_at hl 1 rfl) ?_
  refine lv_iload_n hx hb dX6_differs_2 rfl (lv_at hl 2 rfl) ?_
  refine q_calli hw (q_runS (As := [.int (nI (f9)), .int (nI (g9))]) (c_X6_areSlots l G L F (nI (f9)) (nI (g9))) C0 hw sw_X6_115 rfl hl.1 rfl (Nat.le_of_ble_eq_true rfl) dX6_differs_3 ⟨by decide, by decide⟩ ⟨by decide, by decide⟩) rfl rfl (fun r_9880 F_9878 H locs hw hp_9879 => ?_)
  obtain ⟨he_9881, o_9882⟩ := hp_9879
  rw [if_pos h8] at he_9881
  subst he_9881
  refine n_if_ne (tgt := 13) hx hb dX6_differs_6 (by decide) (by decide) (fun c_6 => ?_) (fun c_6 => ?_)
  · skip
    refine lv_iload_n hx hb dX6_differs_13 rfl (lv_at hl 3 rfl) ?_
    refine lv_iconst (v := nI 2) hx hb dX6_differs_14 (by decide) ?_
    refine lv_iconst (v := nI 5) hx hb dX6_differs_15 (by decide) ?_
    refine q_calli hw (q_runS (As := [.int (nI (y9)), .int (nI (2)), .int (nI (5))]) (c_X6_within l G L F_9878 (nI (y9)) 2 5) C0 hw sw_X6_38 rfl hl.1 rfl (Nat.le_of_ble_eq_true rfl) dX6_differs_16 ⟨by decide, by decide⟩ ⟨by decide, by decide⟩) rfl rfl (fun r_9885 F_9883 H locs hw hp_9884 => ?_)
    obtain ⟨he_9886, o_9887⟩ := hp_9884
    rw [if_pos h9] at he_9886
    subst he_9886
    refine n_if_eq (tgt := 26) hx hb dX6_differs_19 (by decide) (by decide) (fun c_19 => ?_) (fun c_19 => ?_)
    · skip
      exact absurd c_19 (by omega)
    · skip
      refine lv_iconst (v := nI 0) hx hb dX6_differs_22 (by decide) ?_
      refine lv_goto (tgt := 27) hx hb dX6_differs_23 (by decide) ?_
      have f_9888 : F_9878 b = mO ma mi hh := (o_9882 b ).trans fb
      have f_9889 : F_9883 b = mO ma mi hh := (o_9887 b ).trans f_9888
      refine q_put C0 hw mb f_9889 fw_X6_31 pw_X6_8 rfl rfl rfl (Nat.le_of_ble_eq_true rfl) dX6_differs_27 (fun F_9890 H locs hw f_9891 o_9892 => ?_)
      have f_9891 : F_9890 b = .inr (6, [.ref (ma 0), .int (mi 0), .ref (ma 1), .ref (ma 2), .ref (ma 3), .ref (ma 4), .int (mi 1), .ref (ma 5), .int (nI (0)), .ref (ma 6), .int (mi 3), .int (mi 4), .long (hh)]) := f_9891
      refine lv_aload_n hx hb dX6_differs_30 rfl (lv_at hl 0 rfl) ?_
      refine q_get C0 hw mb f_9891 fw_X6_31 rfl dX6_differs_31 ?_
      refine n_if_le (tgt := 41) hx hb dX6_differs_34 (by decide) (by decide) (fun c_34 => ?_) (fun c_34 => ?_)
      · skip
        have hb_9893 : F_9890 b = mO ma (va_up mi 2 (nI 0)) hh := f_9891
        refine lv_aload_n hx hb dX6_differs_41 rfl (lv_at hl 0 rfl) ?_
        refine lv_iload_n hx hb dX6_differs_42 rfl (lv_at hl 1 rfl) ?_
        refine lv_iload_n hx hb dX6_differs_43 rfl (lv_at hl 2 rfl) ?_
        refine lv_iload_n hx hb dX6_differs_44 rfl (lv_at hl 3 rfl) ?_
        have f_9894 : F_9878 (ma 4) = pcE G pl := (o_9882 (ma 4) ).trans fp
        have f_9895 : F_9883 (ma 4) = pcE G pl := (o_9887 (ma 4) ).trans f_9894
        have f_9896 : F_9890 (ma 4) = pcE G pl := (o_9892 (ma 4) (ne_ao f_9895 f_9889)).trans f_9895
        have f_9897 : F_9878 (ma 0) = .inl (G.2 0, 89, .inl zf) := (o_9882 (ma 0) ).trans fz
        have f_9898 : F_9883 (ma 0) = .inl (G.2 0, 89, .inl zf) := (o_9887 (ma 0) ).trans f_9897
        have f_9899 : F_9890 (ma 0) = .inl (G.2 0, 89, .inl zf) := (o_9892 (ma 0) (ne_ao f_9898 f_9889)).trans f_9898
        refine q_calli hw (q_runV (As := [.int (nI (f9)), .int (nI (g9)), .int (nI (y9))]) (c_X6_differsNow l G L F_9890 b ma (va_up mi 2 (nI 0)) hh pl zf A.1.1 A.1.2.2.2.2.2 f9 g9 y9 mb hb_9893 hma f_9896 f_9899 hz0 (by omega) (by omega) (by omega) (by omega) (by omega) (by omega) hrw hR) C0 hw vw_X6_220 mb hb_9893 rfl rfl rfl hl.1 rfl (Nat.le_of_ble_eq_true rfl) dX6_differs_45 ⟨by decide, by decide⟩ ⟨by decide, by decide⟩) rfl rfl (fun r_9902 F_9900 H locs hw hp_9901 => ?_)
        obtain ⟨f_9904, ⟨P_9903, f_9905⟩, f_9906⟩ := hp_9901
        subst f_9904
        have f_9907 : F_9900 b = mO ma ((va_up mi 2 (nI 0))) hh := (f_9906 b (ne_oa hb_9893 f_9896)).trans hb_9893
        have f_9908 : F_9900 (ma 0) = .inl (G.2 0, 89, .inl zf) := (f_9906 (ma 0) (ne_aa (by decide) f_9899 f_9896)).trans f_9899
        have f_9909 : F_9878 (ma 1) = .inl (G.2 0, 534, .inl hf) := (o_9882 (ma 1) ).trans fh
        have f_9910 : F_9883 (ma 1) = .inl (G.2 0, 534, .inl hf) := (o_9887 (ma 1) ).trans f_9909
        have f_9911 : F_9890 (ma 1) = .inl (G.2 0, 534, .inl hf) := (o_9892 (ma 1) (ne_ao f_9910 f_9889)).trans f_9910
        have f_9912 : F_9900 (ma 1) = .inl (G.2 0, 534, .inl hf) := (f_9906 (ma 1) (ne_aa (by decide) f_9911 f_9896)).trans f_9911
        have f_9913 : F_9878 (ma 2) = .inl (G.2 0, 178, .inl sf) := (o_9882 (ma 2) ).trans fs
        have f_9914 : F_9883 (ma 2) = .inl (G.2 0, 178, .inl sf) := (o_9887 (ma 2) ).trans f_9913
        have f_9915 : F_9890 (ma 2) = .inl (G.2 0, 178, .inl sf) := (o_9892 (ma 2) (ne_ao f_9914 f_9889)).trans f_9914
        have f_9916 : F_9900 (ma 2) = .inl (G.2 0, 178, .inl sf) := (f_9906 (ma 2) (ne_aa (by decide) f_9915 f_9896)).trans f_9915
        have f_9917 : F_9878 (ma 3) = .inl (G.2 0, 2, .inl kf) := (o_9882 (ma 3) ).trans fk
        have f_9918 : F_9883 (ma 3) = .inl (G.2 0, 2, .inl kf) := (o_9887 (ma 3) ).trans f_9917
        have f_9919 : F_9890 (ma 3) = .inl (G.2 0, 2, .inl kf) := (o_9892 (ma 3) (ne_ao f_9918 f_9889)).trans f_9918
        have f_9920 : F_9900 (ma 3) = .inl (G.2 0, 2, .inl kf) := (f_9906 (ma 3) (ne_aa (by decide) f_9919 f_9896)).trans f_9919
        have f_9921 : F_9878 (ma 5) = .inl (G.2 0, 60, .inl tf) := (o_9882 (ma 5) ).trans ft
        have f_9922 : F_9883 (ma 5) = .inl (G.2 0, 60, .inl tf) := (o_9887 (ma 5) ).trans f_9921
        have f_9923 : F_9890 (ma 5) = .inl (G.2 0, 60, .inl tf) := (o_9892 (ma 5) (ne_ao f_9922 f_9889)).trans f_9922
        have f_9924 : F_9900 (ma 5) = .inl (G.2 0, 60, .inl tf) := (f_9906 (ma 5) (ne_aa (by decide) f_9923 f_9896)).trans f_9923
        have f_9925 : F_9878 (ma 6) = .inl (G.2 0, 52, .inl pf) := (o_9882 (ma 6) ).trans fq
        have f_9926 : F_9883 (ma 6) = .inl (G.2 0, 52, .inl pf) := (o_9887 (ma 6) ).trans f_9925
        have f_9927 : F_9890 (ma 6) = .inl (G.2 0, 52, .inl pf) := (o_9892 (ma 6) (ne_ao f_9926 f_9889)).trans f_9926
        have f_9928 : F_9900 (ma 6) = .inl (G.2 0, 52, .inl pf) := (f_9906 (ma 6) (ne_aa (by decide) f_9927 f_9896)).trans f_9927
        exact r_i C0 hr hlk hw (v := (m_low (fun k => decide ((m_way (A.1.2.2.2.2.2 f9) (A.1.2.2.2.2.2 g9) y9 A.1.1) k ≠ (m_cf (A.1.2.2.2.2.2 f9) (A.1.2.2.2.2.2 g9) A.1.1) k)))) rfl ⟨rfl, ⟨_, _, _, _, _, _, _, _, _, f_9907, ⟨hm0, hm1, rfl⟩, ⟨f_9908, hz⟩, ⟨f_9912, hhf⟩, ⟨f_9916, hsf⟩, ⟨f_9920, hkf⟩, f_9905, ⟨f_9924, htf⟩, f_9928⟩, (fun q k0 k1 => ((f_9906 q (k1 4 (by decide))).trans ((o_9892 q k0).trans ((o_9887 q ).trans (o_9882 q )))))⟩ (Nat.le_refl _) (Nat.le_refl _) dX6_differs_48 hQ
      · skip
        exact absurd c_34 (by omega)
  · skip
    exact absurd c_6 (by omega)
abbrev rm_X6_lacks : Room := { frames := 1, cells := 0, slots := 0, locals := 21 }
set_option maxHeartbeats 4000000 in
set_option maxRecDepth 100000 in
theorem k_X6_lacks_x (l : Launch) (G : Gl) (L : List Nat) (F : Nat → va_E) (b : Nat) (ma : Nat → Nat) (A : AB) (th : Nat) (x9 : Int32) (mb : b ∈ L) (hma : ∀ i, i < 7 → ma i ∈ L) (hM : MW G F b ma A th) (hA : okA A) (h9 : digI x9 = 0) : CI l yX6_lacks cX6_lacks 2 (some .int) rm_X6_lacks G L F [.ref b, .int (x9)] (fun r F1 => MW G F1 b ma A 1 ∧ mFr F F1 b ma) := by
  obtain ⟨mi, hh, zf, hf, sf, kf, tf, pf, pl, fb, ⟨hm0, hm1, hm2⟩, ⟨fz, hz⟩, ⟨fh, hhf⟩, ⟨fs, hsf⟩, ⟨fk, hkf⟩, fp, ⟨ft, htf⟩, fq⟩ := hM
  obtain ⟨hz0, hz1, hz2, hz3, hz4⟩ := ne_z zf hz
  have hc : A.1.1 ≤ 6 := hA.1.2.1
  have hc2 : 2 ≤ A.1.1 := hA.1.1
  have hpu : A.1.2.1 ≤ 100000 := hA.1.2.2.1
  have hrw : ∀ i k, i < 12 → k < 7 → zf (5 + 7 * i + k) = nI (A.1.2.2.2.2.2 i k).val := hz.row
  refine CG_of (by decide) (Nat.le_of_ble_eq_true rfl) rfl ?_
  intro p e s m args below meth c Q C0 hr hlk hnm hQ hw ls hl
  have hx := C0.x
  have hb := C0.b
  refine lv_aload_n hx hb dX6_lacks_0 rfl (lv_at hl 0 rfl) ?_
  refine lv_iload_n hx hb dX6_lacks_1 rfl (lv_at hl 1 rfl) ?_
  refine q_calli hw (q_runS (As := [.int (x9)]) (c_X6_slotsOf l G L F (x9)) C0 hw sw_X6_174 rfl hl.1 rfl (Nat.le_of_ble_eq_true rfl) dX6_lacks_2 ⟨by decide, by decide⟩ ⟨by decide, by decide⟩) rfl rfl (fun r_9931 F_9929 H locs hw hp_9930 => ?_)
  obtain ⟨he_9932, o_9933⟩ := hp_9930
  rw [h9] at he_9932
  subst he_9932
  refine n_if_le (tgt := 12) hx hb dX6_lacks_5 (by decide) (by decide) (fun c_5 => ?_) (fun c_5 => ?_)
  · skip
    refine lv_iconst (v := nI 1) hx hb dX6_lacks_12 (by decide) ?_
    have f_9934 : F_9929 b = mO ma mi hh := (o_9933 b ).trans fb
    refine q_put C0 hw mb f_9934 fw_X6_31 pw_X6_8 rfl rfl rfl (Nat.le_of_ble_eq_true rfl) dX6_lacks_13 (fun F_9935 H locs hw f_9936 o_9937 => ?_)
    have f_9936 : F_9935 b = .inr (6, [.ref (ma 0), .int (mi 0), .ref (ma 1), .ref (ma 2), .ref (ma 3), .ref (ma 4), .int (mi 1), .ref (ma 5), .int (nI (1)), .ref (ma 6), .int (mi 3), .int (mi 4), .long (hh)]) := f_9936
    refine lv_aload_n hx hb dX6_lacks_16 rfl (lv_at hl 0 rfl) ?_
    refine q_get C0 hw mb f_9936 fw_X6_31 rfl dX6_lacks_17 ?_
    refine n_if_gt (tgt := 34) hx hb dX6_lacks_20 (by decide) (by decide) (fun c_20 => ?_) (fun c_20 => ?_)
    · skip
      refine lv_iconst (v := nI 0) hx hb dX6_lacks_34 (by decide) ?_
      refine lv_goto (tgt := 56) hx hb dX6_lacks_35 (by decide) ?_
      have hb_9938 : F_9935 b = mO ma (va_up mi 2 (nI 1)) (hh) := f_9936
      have f_9939 : F_9929 (ma 0) = .inl (G.2 0, 89, .inl zf) := (o_9933 (ma 0) ).trans fz
      have f_9940 : F_9935 (ma 0) = .inl (G.2 0, 89, .inl zf) := (o_9937 (ma 0) (ne_ao f_9939 f_9934)).trans f_9939
      have f_9941 : F_9929 (ma 1) = .inl (G.2 0, 534, .inl hf) := (o_9933 (ma 1) ).trans fh
      have f_9942 : F_9935 (ma 1) = .inl (G.2 0, 534, .inl hf) := (o_9937 (ma 1) (ne_ao f_9941 f_9934)).trans f_9941
      have f_9943 : F_9929 (ma 2) = .inl (G.2 0, 178, .inl sf) := (o_9933 (ma 2) ).trans fs
      have f_9944 : F_9935 (ma 2) = .inl (G.2 0, 178, .inl sf) := (o_9937 (ma 2) (ne_ao f_9943 f_9934)).trans f_9943
      have f_9945 : F_9929 (ma 3) = .inl (G.2 0, 2, .inl kf) := (o_9933 (ma 3) ).trans fk
      have f_9946 : F_9935 (ma 3) = .inl (G.2 0, 2, .inl kf) := (o_9937 (ma 3) (ne_ao f_9945 f_9934)).trans f_9945
      have f_9947 : F_9929 (ma 4) = pcE G pl := (o_9933 (ma 4) ).trans fp
      have f_9948 : F_9935 (ma 4) = pcE G pl := (o_9937 (ma 4) (ne_ao f_9947 f_9934)).trans f_9947
      have f_9949 : F_9929 (ma 5) = .inl (G.2 0, 60, .inl tf) := (o_9933 (ma 5) ).trans ft
      have f_9950 : F_9935 (ma 5) = .inl (G.2 0, 60, .inl tf) := (o_9937 (ma 5) (ne_ao f_9949 f_9934)).trans f_9949
      have f_9951 : F_9929 (ma 6) = .inl (G.2 0, 52, .inl pf) := (o_9933 (ma 6) ).trans fq
      have f_9952 : F_9935 (ma 6) = .inl (G.2 0, 52, .inl pf) := (o_9937 (ma 6) (ne_ao f_9951 f_9934)).trans f_9951
      exact r_i C0 hr hlk hw (v := nI 0) rfl ⟨⟨_, _, _, _, _, _, _, _, _, hb_9938, ⟨hm0, hm1, rfl⟩, ⟨f_9940, hz⟩, ⟨f_9942, hhf⟩, ⟨f_9944, hsf⟩, ⟨f_9946, hkf⟩, f_9948, ⟨f_9950, htf⟩, f_9952⟩, (fun q k0 k1 => ((o_9937 q k0).trans (o_9933 q )))⟩ (Nat.le_refl _) (Nat.le_refl _) dX6_lacks_56 hQ
    · skip
      exact absurd c_20 (by omega)
  · skip
    exact absurd c_5 (by omega)
set_option maxHeartbeats 4000000 in
set_option maxRecDepth 100000 in
theorem k_X6_lacks_98 (l : Launch) (G : Gl) (L : List Nat) (F : Nat → va_E) (b : Nat) (ma : Nat → Nat) (A : AB) (th : Nat) (mb : b ∈ L) (hma : ∀ i, i < 7 → ma i ∈ L) (hM : MW G F b ma A th) (hA : okA A) : CI l yX6_lacks cX6_lacks 2 (some .int) rm_X6_lacks G L F [.ref b, .int (nI (98))] (fun r F1 => r = nI (2 * A.1.1 - A.1.2.1) ∧ MW G F1 b ma A 0 ∧ mFr F F1 b ma) := by
  obtain ⟨mi, hh, zf, hf, sf, kf, tf, pf, pl, fb, ⟨hm0, hm1, hm2⟩, ⟨fz, hz⟩, ⟨fh, hhf⟩, ⟨fs, hsf⟩, ⟨fk, hkf⟩, fp, ⟨ft, htf⟩, fq⟩ := hM
  obtain ⟨hz0, hz1, hz2, hz3, hz4⟩ := ne_z zf hz
  have hc : A.1.1 ≤ 6 := hA.1.2.1
  have hc2 : 2 ≤ A.1.1 := hA.1.1
  have hpu : A.1.2.1 ≤ 100000 := hA.1.2.2.1
  have hrw : ∀ i k, i < 12 → k < 7 → zf (5 + 7 * i + k) = nI (A.1.2.2.2.2.2 i k).val := hz.row
  refine CG_of (by decide) (Nat.le_of_ble_eq_true rfl) rfl ?_
  intro p e s m args below meth c Q C0 hr hlk hnm hQ hw ls hl
  have hx := C0.x
  have hb := C0.b
  refine lv_aload_n hx hb dX6_lacks_0 rfl (lv_at hl 0 rfl) ?_
  refine lv_iload_n hx hb dX6_lacks_1 rfl (lv_at hl 1 rfl) ?_
  refine q_calli hw (q_runS (As := [.int (nI (98))]) (c_X6_slotsOf_98 l G L F ) C0 hw sw_X6_174 rfl hl.1 rfl (Nat.le_of_ble_eq_true rfl) dX6_lacks_2 ⟨by decide, by decide⟩ ⟨by decide, by decide⟩) rfl rfl (fun r_9955 F_9953 H locs hw hp_9954 => ?_)
  obtain ⟨he_9956, o_9957⟩ := hp_9954
  subst he_9956
  refine n_if_le (tgt := 12) hx hb dX6_lacks_5 (by decide) (by decide) (fun c_5 => ?_) (fun c_5 => ?_)
  · skip
    exact absurd c_5 (by omega)
  · skip
    refine lv_iconst (v := nI 0) hx hb dX6_lacks_8 (by decide) ?_
    refine lv_goto (tgt := 13) hx hb dX6_lacks_9 (by decide) ?_
    have f_9958 : F_9953 b = mO ma mi hh := (o_9957 b ).trans fb
    refine q_put C0 hw mb f_9958 fw_X6_31 pw_X6_8 rfl rfl rfl (Nat.le_of_ble_eq_true rfl) dX6_lacks_13 (fun F_9959 H locs hw f_9960 o_9961 => ?_)
    have f_9960 : F_9959 b = .inr (6, [.ref (ma 0), .int (mi 0), .ref (ma 1), .ref (ma 2), .ref (ma 3), .ref (ma 4), .int (mi 1), .ref (ma 5), .int (nI (0)), .ref (ma 6), .int (mi 3), .int (mi 4), .long (hh)]) := f_9960
    refine lv_aload_n hx hb dX6_lacks_16 rfl (lv_at hl 0 rfl) ?_
    refine q_get C0 hw mb f_9960 fw_X6_31 rfl dX6_lacks_17 ?_
    refine n_if_gt (tgt := 34) hx hb dX6_lacks_20 (by decide) (by decide) (fun c_20 => ?_) (fun c_20 => ?_)
    · skip
      exact absurd c_20 (by omega)
    · skip
      have hb_9962 : F_9959 b = mO ma (va_up mi 2 (nI 0)) hh := f_9960
      refine lv_aload_n hx hb dX6_lacks_23 rfl (lv_at hl 0 rfl) ?_
      refine lv_iload_n hx hb dX6_lacks_24 rfl (lv_at hl 1 rfl) ?_
      refine q_calli hw (q_runS (As := [.int (nI (98))]) (c_X6_workOf_98 l G L F_9959 ) C0 hw sw_X6_187 rfl hl.1 rfl (Nat.le_of_ble_eq_true rfl) dX6_lacks_25 ⟨by decide, by decide⟩ ⟨by decide, by decide⟩) rfl rfl (fun r_9965 F_9963 H locs hw hp_9964 => ?_)
      obtain ⟨he_9966, o_9967⟩ := hp_9964
      subst he_9966
      have f_9968 : F_9963 b = mO ma ((va_up mi 2 (nI 0))) hh := (o_9967 b ).trans hb_9962
      have f_9969 : F_9953 (ma 0) = .inl (G.2 0, 89, .inl zf) := (o_9957 (ma 0) ).trans fz
      have f_9970 : F_9959 (ma 0) = .inl (G.2 0, 89, .inl zf) := (o_9961 (ma 0) (ne_ao f_9969 f_9958)).trans f_9969
      have f_9971 : F_9963 (ma 0) = .inl (G.2 0, 89, .inl zf) := (o_9967 (ma 0) ).trans f_9970
      refine q_calli hw (q_runV (As := [.int (nI (2))]) (c_X6_canPay l G L F_9963 b ma (va_up mi 2 (nI 0)) hh zf 2 A.1.1 A.1.2.1 mb f_9968 hma f_9971 hz0 hz1 hc (by omega) hpu (by omega)) C0 hw vw_X6_106 mb f_9968 rfl rfl rfl hl.1 rfl (Nat.le_of_ble_eq_true rfl) dX6_lacks_28 ⟨by decide, by decide⟩ ⟨by decide, by decide⟩) rfl rfl (fun r_9974 F_9972 H locs hw hp_9973 => ?_)
      obtain ⟨he_9975, o_9976⟩ := hp_9973
      by_cases hb_9977 : A.1.1 * 2 ≤ A.1.2.1
      · skip
        rw [if_pos hb_9977] at he_9975
        subst he_9975
        refine n_if_eq (tgt := 38) hx hb dX6_lacks_31 (by decide) (by decide) (fun c_31 => ?_) (fun c_31 => ?_)
        · skip
          exact absurd c_31 (by omega)
        · skip
          refine lv_iconst (v := nI 0) hx hb dX6_lacks_34 (by decide) ?_
          refine lv_goto (tgt := 56) hx hb dX6_lacks_35 (by decide) ?_
          have f_9978 : F_9972 b = mO ma ((va_up mi 2 (nI 0))) hh := (o_9976 b ).trans f_9968
          have f_9979 : F_9972 (ma 0) = .inl (G.2 0, 89, .inl zf) := (o_9976 (ma 0) ).trans f_9971
          have f_9980 : F_9953 (ma 1) = .inl (G.2 0, 534, .inl hf) := (o_9957 (ma 1) ).trans fh
          have f_9981 : F_9959 (ma 1) = .inl (G.2 0, 534, .inl hf) := (o_9961 (ma 1) (ne_ao f_9980 f_9958)).trans f_9980
          have f_9982 : F_9963 (ma 1) = .inl (G.2 0, 534, .inl hf) := (o_9967 (ma 1) ).trans f_9981
          have f_9983 : F_9972 (ma 1) = .inl (G.2 0, 534, .inl hf) := (o_9976 (ma 1) ).trans f_9982
          have f_9984 : F_9953 (ma 2) = .inl (G.2 0, 178, .inl sf) := (o_9957 (ma 2) ).trans fs
          have f_9985 : F_9959 (ma 2) = .inl (G.2 0, 178, .inl sf) := (o_9961 (ma 2) (ne_ao f_9984 f_9958)).trans f_9984
          have f_9986 : F_9963 (ma 2) = .inl (G.2 0, 178, .inl sf) := (o_9967 (ma 2) ).trans f_9985
          have f_9987 : F_9972 (ma 2) = .inl (G.2 0, 178, .inl sf) := (o_9976 (ma 2) ).trans f_9986
          have f_9988 : F_9953 (ma 3) = .inl (G.2 0, 2, .inl kf) := (o_9957 (ma 3) ).trans fk
          have f_9989 : F_9959 (ma 3) = .inl (G.2 0, 2, .inl kf) := (o_9961 (ma 3) (ne_ao f_9988 f_9958)).trans f_9988
          have f_9990 : F_9963 (ma 3) = .inl (G.2 0, 2, .inl kf) := (o_9967 (ma 3) ).trans f_9989
          have f_9991 : F_9972 (ma 3) = .inl (G.2 0, 2, .inl kf) := (o_9976 (ma 3) ).trans f_9990
          have f_9992 : F_9953 (ma 4) = pcE G pl := (o_9957 (ma 4) ).trans fp
          have f_9993 : F_9959 (ma 4) = pcE G pl := (o_9961 (ma 4) (ne_ao f_9992 f_9958)).trans f_9992
          have f_9994 : F_9963 (ma 4) = pcE G pl := (o_9967 (ma 4) ).trans f_9993
          have f_9995 : F_9972 (ma 4) = pcE G pl := (o_9976 (ma 4) ).trans f_9994
          have f_9996 : F_9953 (ma 5) = .inl (G.2 0, 60, .inl tf) := (o_9957 (ma 5) ).trans ft
          have f_9997 : F_9959 (ma 5) = .inl (G.2 0, 60, .inl tf) := (o_9961 (ma 5) (ne_ao f_9996 f_9958)).trans f_9996
          have f_9998 : F_9963 (ma 5) = .inl (G.2 0, 60, .inl tf) := (o_9967 (ma 5) ).trans f_9997
          have f_9999 : F_9972 (ma 5) = .inl (G.2 0, 60, .inl tf) := (o_9976 (ma 5) ).trans f_9998
          have f_10000 : F_9953 (ma 6) = .inl (G.2 0, 52, .inl pf) := (o_9957 (ma 6) ).trans fq
          have f_10001 : F_9959 (ma 6) = .inl (G.2 0, 52, .inl pf) := (o_9961 (ma 6) (ne_ao f_10000 f_9958)).trans f_10000
          have f_10002 : F_9963 (ma 6) = .inl (G.2 0, 52, .inl pf) := (o_9967 (ma 6) ).trans f_10001
          have f_10003 : F_9972 (ma 6) = .inl (G.2 0, 52, .inl pf) := (o_9976 (ma 6) ).trans f_10002
          exact r_i C0 hr hlk hw (v := nI 0) rfl ⟨congrArg nI (by omega), ⟨_, _, _, _, _, _, _, _, _, f_9978, ⟨hm0, hm1, rfl⟩, ⟨f_9979, hz⟩, ⟨f_9983, hhf⟩, ⟨f_9987, hsf⟩, ⟨f_9991, hkf⟩, f_9995, ⟨f_9999, htf⟩, f_10003⟩, (fun q k0 k1 => ((o_9976 q ).trans ((o_9967 q ).trans ((o_9961 q k0).trans (o_9957 q )))))⟩ (Nat.le_refl _) (Nat.le_refl _) dX6_lacks_56 hQ
      · skip
        rw [if_neg hb_9977] at he_9975
        subst he_9975
        refine n_if_eq (tgt := 38) hx hb dX6_lacks_31 (by decide) (by decide) (fun c_31 => ?_) (fun c_31 => ?_)
        · skip
          refine lv_aload_n hx hb dX6_lacks_38 rfl (lv_at hl 0 rfl) ?_
          have f_10004 : F_9972 b = mO ma ((va_up mi 2 (nI 0))) hh := (o_9976 b ).trans f_9968
          refine q_get C0 hw mb f_10004 fw_X6_7 rfl dX6_lacks_39 ?_
          refine lv_iconst (v := nI 0) hx hb dX6_lacks_42 (by decide) ?_
          have f_10005 : F_9972 (ma 0) = .inl (G.2 0, 89, .inl zf) := (o_9976 (ma 0) ).trans f_9971
          refine q_iald C0 hw ((hma 0 (by decide))) f_10005 (0) (by omega) (by decide) (v := nI (A.1.1)) hz0 dX6_lacks_43 ?_
          refine lv_iload_n hx hb dX6_lacks_44 rfl (lv_at hl 1 rfl) ?_
          refine q_calli hw (q_runS (As := [.int (nI (98))]) (c_X6_workOf_98 l G L F_9972 ) C0 hw sw_X6_187 rfl hl.1 rfl (Nat.le_of_ble_eq_true rfl) dX6_lacks_45 ⟨by decide, by decide⟩ ⟨by decide, by decide⟩) rfl rfl (fun r_10008 F_10006 H locs hw hp_10007 => ?_)
          obtain ⟨he_10009, o_10010⟩ := hp_10007
          subst he_10009
          refine n_imul hx hb dX6_lacks_48 ?_
          refine lv_aload_n hx hb dX6_lacks_49 rfl (lv_at hl 0 rfl) ?_
          have f_10011 : F_10006 b = mO ma ((va_up mi 2 (nI 0))) hh := (o_10010 b ).trans f_10004
          refine q_get C0 hw mb f_10011 fw_X6_7 rfl dX6_lacks_50 ?_
          refine lv_iconst (v := nI 1) hx hb dX6_lacks_53 (by decide) ?_
          have f_10012 : F_10006 (ma 0) = .inl (G.2 0, 89, .inl zf) := (o_10010 (ma 0) ).trans f_10005
          refine q_iald C0 hw ((hma 0 (by decide))) f_10012 (1) (by omega) (by decide) (v := nI (A.1.2.1)) hz1 dX6_lacks_54 ?_
          refine n_isub hx hb (by omega) dX6_lacks_55 ?_
          have f_10013 : F_9953 (ma 1) = .inl (G.2 0, 534, .inl hf) := (o_9957 (ma 1) ).trans fh
          have f_10014 : F_9959 (ma 1) = .inl (G.2 0, 534, .inl hf) := (o_9961 (ma 1) (ne_ao f_10013 f_9958)).trans f_10013
          have f_10015 : F_9963 (ma 1) = .inl (G.2 0, 534, .inl hf) := (o_9967 (ma 1) ).trans f_10014
          have f_10016 : F_9972 (ma 1) = .inl (G.2 0, 534, .inl hf) := (o_9976 (ma 1) ).trans f_10015
          have f_10017 : F_10006 (ma 1) = .inl (G.2 0, 534, .inl hf) := (o_10010 (ma 1) ).trans f_10016
          have f_10018 : F_9953 (ma 2) = .inl (G.2 0, 178, .inl sf) := (o_9957 (ma 2) ).trans fs
          have f_10019 : F_9959 (ma 2) = .inl (G.2 0, 178, .inl sf) := (o_9961 (ma 2) (ne_ao f_10018 f_9958)).trans f_10018
          have f_10020 : F_9963 (ma 2) = .inl (G.2 0, 178, .inl sf) := (o_9967 (ma 2) ).trans f_10019
          have f_10021 : F_9972 (ma 2) = .inl (G.2 0, 178, .inl sf) := (o_9976 (ma 2) ).trans f_10020
          have f_10022 : F_10006 (ma 2) = .inl (G.2 0, 178, .inl sf) := (o_10010 (ma 2) ).trans f_10021
          have f_10023 : F_9953 (ma 3) = .inl (G.2 0, 2, .inl kf) := (o_9957 (ma 3) ).trans fk
          have f_10024 : F_9959 (ma 3) = .inl (G.2 0, 2, .inl kf) := (o_9961 (ma 3) (ne_ao f_10023 f_9958)).trans f_10023
          have f_10025 : F_9963 (ma 3) = .inl (G.2 0, 2, .inl kf) := (o_9967 (ma 3) ).trans f_10024
          have f_10026 : F_9972 (ma 3) = .inl (G.2 0, 2, .inl kf) := (o_9976 (ma 3) ).trans f_10025
          have f_10027 : F_10006 (ma 3) = .inl (G.2 0, 2, .inl kf) := (o_10010 (ma 3) ).trans f_10026
          have f_10028 : F_9953 (ma 4) = pcE G pl := (o_9957 (ma 4) ).trans fp
          have f_10029 : F_9959 (ma 4) = pcE G pl := (o_9961 (ma 4) (ne_ao f_10028 f_9958)).trans f_10028
          have f_10030 : F_9963 (ma 4) = pcE G pl := (o_9967 (ma 4) ).trans f_10029
          have f_10031 : F_9972 (ma 4) = pcE G pl := (o_9976 (ma 4) ).trans f_10030
          have f_10032 : F_10006 (ma 4) = pcE G pl := (o_10010 (ma 4) ).trans f_10031
          have f_10033 : F_9953 (ma 5) = .inl (G.2 0, 60, .inl tf) := (o_9957 (ma 5) ).trans ft
          have f_10034 : F_9959 (ma 5) = .inl (G.2 0, 60, .inl tf) := (o_9961 (ma 5) (ne_ao f_10033 f_9958)).trans f_10033
          have f_10035 : F_9963 (ma 5) = .inl (G.2 0, 60, .inl tf) := (o_9967 (ma 5) ).trans f_10034
          have f_10036 : F_9972 (ma 5) = .inl (G.2 0, 60, .inl tf) := (o_9976 (ma 5) ).trans f_10035
          have f_10037 : F_10006 (ma 5) = .inl (G.2 0, 60, .inl tf) := (o_10010 (ma 5) ).trans f_10036
          have f_10038 : F_9953 (ma 6) = .inl (G.2 0, 52, .inl pf) := (o_9957 (ma 6) ).trans fq
          have f_10039 : F_9959 (ma 6) = .inl (G.2 0, 52, .inl pf) := (o_9961 (ma 6) (ne_ao f_10038 f_9958)).trans f_10038
          have f_10040 : F_9963 (ma 6) = .inl (G.2 0, 52, .inl pf) := (o_9967 (ma 6) ).trans f_10039
          have f_10041 : F_9972 (ma 6) = .inl (G.2 0, 52, .inl pf) := (o_9976 (ma 6) ).trans f_10040
          have f_10042 : F_10006 (ma 6) = .inl (G.2 0, 52, .inl pf) := (o_10010 (ma 6) ).trans f_10041
          exact r_i C0 hr hlk hw (v := nI (A.1.1 * 2 - A.1.2.1)) rfl ⟨congrArg nI (by omega), ⟨_, _, _, _, _, _, _, _, _, f_10011, ⟨hm0, hm1, rfl⟩, ⟨f_10012, hz⟩, ⟨f_10017, hhf⟩, ⟨f_10022, hsf⟩, ⟨f_10027, hkf⟩, f_10032, ⟨f_10037, htf⟩, f_10042⟩, (fun q k0 k1 => ((o_10010 q ).trans ((o_9976 q ).trans ((o_9967 q ).trans ((o_9961 q k0).trans (o_9957 q ))))))⟩ (Nat.le_refl _) (Nat.le_refl _) dX6_lacks_56 hQ
        · skip
          exact absurd c_31 (by omega)
set_option maxHeartbeats 4000000 in
set_option maxRecDepth 100000 in
theorem k_X6_lacks_115 (l : Launch) (G : Gl) (L : List Nat) (F : Nat → va_E) (b : Nat) (ma : Nat → Nat) (A : AB) (th : Nat) (mb : b ∈ L) (hma : ∀ i, i < 7 → ma i ∈ L) (hM : MW G F b ma A th) (hA : okA A) : CI l yX6_lacks cX6_lacks 2 (some .int) rm_X6_lacks G L F [.ref b, .int (nI (115))] (fun r F1 => r = nI (1 * A.1.1 - A.1.2.1) ∧ MW G F1 b ma A 0 ∧ mFr F F1 b ma) := by
  obtain ⟨mi, hh, zf, hf, sf, kf, tf, pf, pl, fb, ⟨hm0, hm1, hm2⟩, ⟨fz, hz⟩, ⟨fh, hhf⟩, ⟨fs, hsf⟩, ⟨fk, hkf⟩, fp, ⟨ft, htf⟩, fq⟩ := hM
  obtain ⟨hz0, hz1, hz2, hz3, hz4⟩ := ne_z zf hz
  have hc : A.1.1 ≤ 6 := hA.1.2.1
  have hc2 : 2 ≤ A.1.1 := hA.1.1
  have hpu : A.1.2.1 ≤ 100000 := hA.1.2.2.1
  have hrw : ∀ i k, i < 12 → k < 7 → zf (5 + 7 * i + k) = nI (A.1.2.2.2.2.2 i k).val := hz.row
  refine CG_of (by decide) (Nat.le_of_ble_eq_true rfl) rfl ?_
  intro p e s m args below meth c Q C0 hr hlk hnm hQ hw ls hl
  have hx := C0.x
  have hb := C0.b
  refine lv_aload_n hx hb dX6_lacks_0 rfl (lv_at hl 0 rfl) ?_
  refine lv_iload_n hx hb dX6_lacks_1 rfl (lv_at hl 1 rfl) ?_
  refine q_calli hw (q_runS (As := [.int (nI (115))]) (c_X6_slotsOf_115 l G L F ) C0 hw sw_X6_174 rfl hl.1 rfl (Nat.le_of_ble_eq_true rfl) dX6_lacks_2 ⟨by decide, by decide⟩ ⟨by decide, by decide⟩) rfl rfl (fun r_10045 F_10043 H locs hw hp_10044 => ?_)
  obtain ⟨he_10046, o_10047⟩ := hp_10044
  subst he_10046
  refine n_if_le (tgt := 12) hx hb dX6_lacks_5 (by decide) (by decide) (fun c_5 => ?_) (fun c_5 => ?_)
  · skip
    exact absurd c_5 (by omega)
  · skip
    refine lv_iconst (v := nI 0) hx hb dX6_lacks_8 (by decide) ?_
    refine lv_goto (tgt := 13) hx hb dX6_lacks_9 (by decide) ?_
    have f_10048 : F_10043 b = mO ma mi hh := (o_10047 b ).trans fb
    refine q_put C0 hw mb f_10048 fw_X6_31 pw_X6_8 rfl rfl rfl (Nat.le_of_ble_eq_true rfl) dX6_lacks_13 (fun F_10049 H locs hw f_10050 o_10051 => ?_)
    have f_10050 : F_10049 b = .inr (6, [.ref (ma 0), .int (mi 0), .ref (ma 1), .ref (ma 2), .ref (ma 3), .ref (ma 4), .int (mi 1), .ref (ma 5), .int (nI (0)), .ref (ma 6), .int (mi 3), .int (mi 4), .long (hh)]) := f_10050
    refine lv_aload_n hx hb dX6_lacks_16 rfl (lv_at hl 0 rfl) ?_
    refine q_get C0 hw mb f_10050 fw_X6_31 rfl dX6_lacks_17 ?_
    refine n_if_gt (tgt := 34) hx hb dX6_lacks_20 (by decide) (by decide) (fun c_20 => ?_) (fun c_20 => ?_)
    · skip
      exact absurd c_20 (by omega)
    · skip
      have hb_10052 : F_10049 b = mO ma (va_up mi 2 (nI 0)) hh := f_10050
      refine lv_aload_n hx hb dX6_lacks_23 rfl (lv_at hl 0 rfl) ?_
      refine lv_iload_n hx hb dX6_lacks_24 rfl (lv_at hl 1 rfl) ?_
      refine q_calli hw (q_runS (As := [.int (nI (115))]) (c_X6_workOf_115 l G L F_10049 ) C0 hw sw_X6_187 rfl hl.1 rfl (Nat.le_of_ble_eq_true rfl) dX6_lacks_25 ⟨by decide, by decide⟩ ⟨by decide, by decide⟩) rfl rfl (fun r_10055 F_10053 H locs hw hp_10054 => ?_)
      obtain ⟨he_10056, o_10057⟩ := hp_10054
      subst he_10056
      have f_10058 : F_10053 b = mO ma ((va_up mi 2 (nI 0))) hh := (o_10057 b ).trans hb_10052
      have f_10059 : F_10043 (ma 0) = .inl (G.2 0, 89, .inl zf) := (o_10047 (ma 0) ).trans fz
      have f_10060 : F_10049 (ma 0) = .inl (G.2 0, 89, .inl zf) := (o_10051 (ma 0) (ne_ao f_10059 f_10048)).trans f_10059
      have f_10061 : F_10053 (ma 0) = .inl (G.2 0, 89, .inl zf) := (o_10057 (ma 0) ).trans f_10060
      refine q_calli hw (q_runV (As := [.int (nI (1))]) (c_X6_canPay l G L F_10053 b ma (va_up mi 2 (nI 0)) hh zf 1 A.1.1 A.1.2.1 mb f_10058 hma f_10061 hz0 hz1 hc (by omega) hpu (by omega)) C0 hw vw_X6_106 mb f_10058 rfl rfl rfl hl.1 rfl (Nat.le_of_ble_eq_true rfl) dX6_lacks_28 ⟨by decide, by decide⟩ ⟨by decide, by decide⟩) rfl rfl (fun r_10064 F_10062 H locs hw hp_10063 => ?_)
      obtain ⟨he_10065, o_10066⟩ := hp_10063
      by_cases hb_10067 : A.1.1 * 1 ≤ A.1.2.1
      · skip
        rw [if_pos hb_10067] at he_10065
        subst he_10065
        refine n_if_eq (tgt := 38) hx hb dX6_lacks_31 (by decide) (by decide) (fun c_31 => ?_) (fun c_31 => ?_)
        · skip
          exact absurd c_31 (by omega)
        · skip
          refine lv_iconst (v := nI 0) hx hb dX6_lacks_34 (by decide) ?_
          refine lv_goto (tgt := 56) hx hb dX6_lacks_35 (by decide) ?_
          have f_10068 : F_10062 b = mO ma ((va_up mi 2 (nI 0))) hh := (o_10066 b ).trans f_10058
          have f_10069 : F_10062 (ma 0) = .inl (G.2 0, 89, .inl zf) := (o_10066 (ma 0) ).trans f_10061
          have f_10070 : F_10043 (ma 1) = .inl (G.2 0, 534, .inl hf) := (o_10047 (ma 1) ).trans fh
          have f_10071 : F_10049 (ma 1) = .inl (G.2 0, 534, .inl hf) := (o_10051 (ma 1) (ne_ao f_10070 f_10048)).trans f_10070
          have f_10072 : F_10053 (ma 1) = .inl (G.2 0, 534, .inl hf) := (o_10057 (ma 1) ).trans f_10071
          have f_10073 : F_10062 (ma 1) = .inl (G.2 0, 534, .inl hf) := (o_10066 (ma 1) ).trans f_10072
          have f_10074 : F_10043 (ma 2) = .inl (G.2 0, 178, .inl sf) := (o_10047 (ma 2) ).trans fs
          have f_10075 : F_10049 (ma 2) = .inl (G.2 0, 178, .inl sf) := (o_10051 (ma 2) (ne_ao f_10074 f_10048)).trans f_10074
          have f_10076 : F_10053 (ma 2) = .inl (G.2 0, 178, .inl sf) := (o_10057 (ma 2) ).trans f_10075
          have f_10077 : F_10062 (ma 2) = .inl (G.2 0, 178, .inl sf) := (o_10066 (ma 2) ).trans f_10076
          have f_10078 : F_10043 (ma 3) = .inl (G.2 0, 2, .inl kf) := (o_10047 (ma 3) ).trans fk
          have f_10079 : F_10049 (ma 3) = .inl (G.2 0, 2, .inl kf) := (o_10051 (ma 3) (ne_ao f_10078 f_10048)).trans f_10078
          have f_10080 : F_10053 (ma 3) = .inl (G.2 0, 2, .inl kf) := (o_10057 (ma 3) ).trans f_10079
          have f_10081 : F_10062 (ma 3) = .inl (G.2 0, 2, .inl kf) := (o_10066 (ma 3) ).trans f_10080
          have f_10082 : F_10043 (ma 4) = pcE G pl := (o_10047 (ma 4) ).trans fp
          have f_10083 : F_10049 (ma 4) = pcE G pl := (o_10051 (ma 4) (ne_ao f_10082 f_10048)).trans f_10082
          have f_10084 : F_10053 (ma 4) = pcE G pl := (o_10057 (ma 4) ).trans f_10083
          have f_10085 : F_10062 (ma 4) = pcE G pl := (o_10066 (ma 4) ).trans f_10084
          have f_10086 : F_10043 (ma 5) = .inl (G.2 0, 60, .inl tf) := (o_10047 (ma 5) ).trans ft
          have f_10087 : F_10049 (ma 5) = .inl (G.2 0, 60, .inl tf) := (o_10051 (ma 5) (ne_ao f_10086 f_10048)).trans f_10086
          have f_10088 : F_10053 (ma 5) = .inl (G.2 0, 60, .inl tf) := (o_10057 (ma 5) ).trans f_10087
          have f_10089 : F_10062 (ma 5) = .inl (G.2 0, 60, .inl tf) := (o_10066 (ma 5) ).trans f_10088
          have f_10090 : F_10043 (ma 6) = .inl (G.2 0, 52, .inl pf) := (o_10047 (ma 6) ).trans fq
          have f_10091 : F_10049 (ma 6) = .inl (G.2 0, 52, .inl pf) := (o_10051 (ma 6) (ne_ao f_10090 f_10048)).trans f_10090
          have f_10092 : F_10053 (ma 6) = .inl (G.2 0, 52, .inl pf) := (o_10057 (ma 6) ).trans f_10091
          have f_10093 : F_10062 (ma 6) = .inl (G.2 0, 52, .inl pf) := (o_10066 (ma 6) ).trans f_10092
          exact r_i C0 hr hlk hw (v := nI 0) rfl ⟨congrArg nI (by omega), ⟨_, _, _, _, _, _, _, _, _, f_10068, ⟨hm0, hm1, rfl⟩, ⟨f_10069, hz⟩, ⟨f_10073, hhf⟩, ⟨f_10077, hsf⟩, ⟨f_10081, hkf⟩, f_10085, ⟨f_10089, htf⟩, f_10093⟩, (fun q k0 k1 => ((o_10066 q ).trans ((o_10057 q ).trans ((o_10051 q k0).trans (o_10047 q )))))⟩ (Nat.le_refl _) (Nat.le_refl _) dX6_lacks_56 hQ
      · skip
        rw [if_neg hb_10067] at he_10065
        subst he_10065
        refine n_if_eq (tgt := 38) hx hb dX6_lacks_31 (by decide) (by decide) (fun c_31 => ?_) (fun c_31 => ?_)
        · skip
          refine lv_aload_n hx hb dX6_lacks_38 rfl (lv_at hl 0 rfl) ?_
          have f_10094 : F_10062 b = mO ma ((va_up mi 2 (nI 0))) hh := (o_10066 b ).trans f_10058
          refine q_get C0 hw mb f_10094 fw_X6_7 rfl dX6_lacks_39 ?_
          refine lv_iconst (v := nI 0) hx hb dX6_lacks_42 (by decide) ?_
          have f_10095 : F_10062 (ma 0) = .inl (G.2 0, 89, .inl zf) := (o_10066 (ma 0) ).trans f_10061
          refine q_iald C0 hw ((hma 0 (by decide))) f_10095 (0) (by omega) (by decide) (v := nI (A.1.1)) hz0 dX6_lacks_43 ?_
          refine lv_iload_n hx hb dX6_lacks_44 rfl (lv_at hl 1 rfl) ?_
          refine q_calli hw (q_runS (As := [.int (nI (115))]) (c_X6_workOf_115 l G L F_10062 ) C0 hw sw_X6_187 rfl hl.1 rfl (Nat.le_of_ble_eq_true rfl) dX6_lacks_45 ⟨by decide, by decide⟩ ⟨by decide, by decide⟩) rfl rfl (fun r_10098 F_10096 H locs hw hp_10097 => ?_)
          obtain ⟨he_10099, o_10100⟩ := hp_10097
          subst he_10099
          refine n_imul hx hb dX6_lacks_48 ?_
          refine lv_aload_n hx hb dX6_lacks_49 rfl (lv_at hl 0 rfl) ?_
          have f_10101 : F_10096 b = mO ma ((va_up mi 2 (nI 0))) hh := (o_10100 b ).trans f_10094
          refine q_get C0 hw mb f_10101 fw_X6_7 rfl dX6_lacks_50 ?_
          refine lv_iconst (v := nI 1) hx hb dX6_lacks_53 (by decide) ?_
          have f_10102 : F_10096 (ma 0) = .inl (G.2 0, 89, .inl zf) := (o_10100 (ma 0) ).trans f_10095
          refine q_iald C0 hw ((hma 0 (by decide))) f_10102 (1) (by omega) (by decide) (v := nI (A.1.2.1)) hz1 dX6_lacks_54 ?_
          refine n_isub hx hb (by omega) dX6_lacks_55 ?_
          have f_10103 : F_10043 (ma 1) = .inl (G.2 0, 534, .inl hf) := (o_10047 (ma 1) ).trans fh
          have f_10104 : F_10049 (ma 1) = .inl (G.2 0, 534, .inl hf) := (o_10051 (ma 1) (ne_ao f_10103 f_10048)).trans f_10103
          have f_10105 : F_10053 (ma 1) = .inl (G.2 0, 534, .inl hf) := (o_10057 (ma 1) ).trans f_10104
          have f_10106 : F_10062 (ma 1) = .inl (G.2 0, 534, .inl hf) := (o_10066 (ma 1) ).trans f_10105
          have f_10107 : F_10096 (ma 1) = .inl (G.2 0, 534, .inl hf) := (o_10100 (ma 1) ).trans f_10106
          have f_10108 : F_10043 (ma 2) = .inl (G.2 0, 178, .inl sf) := (o_10047 (ma 2) ).trans fs
          have f_10109 : F_10049 (ma 2) = .inl (G.2 0, 178, .inl sf) := (o_10051 (ma 2) (ne_ao f_10108 f_10048)).trans f_10108
          have f_10110 : F_10053 (ma 2) = .inl (G.2 0, 178, .inl sf) := (o_10057 (ma 2) ).trans f_10109
          have f_10111 : F_10062 (ma 2) = .inl (G.2 0, 178, .inl sf) := (o_10066 (ma 2) ).trans f_10110
          have f_10112 : F_10096 (ma 2) = .inl (G.2 0, 178, .inl sf) := (o_10100 (ma 2) ).trans f_10111
          have f_10113 : F_10043 (ma 3) = .inl (G.2 0, 2, .inl kf) := (o_10047 (ma 3) ).trans fk
          have f_10114 : F_10049 (ma 3) = .inl (G.2 0, 2, .inl kf) := (o_10051 (ma 3) (ne_ao f_10113 f_10048)).trans f_10113
          have f_10115 : F_10053 (ma 3) = .inl (G.2 0, 2, .inl kf) := (o_10057 (ma 3) ).trans f_10114
          have f_10116 : F_10062 (ma 3) = .inl (G.2 0, 2, .inl kf) := (o_10066 (ma 3) ).trans f_10115
          have f_10117 : F_10096 (ma 3) = .inl (G.2 0, 2, .inl kf) := (o_10100 (ma 3) ).trans f_10116
          have f_10118 : F_10043 (ma 4) = pcE G pl := (o_10047 (ma 4) ).trans fp
          have f_10119 : F_10049 (ma 4) = pcE G pl := (o_10051 (ma 4) (ne_ao f_10118 f_10048)).trans f_10118
          have f_10120 : F_10053 (ma 4) = pcE G pl := (o_10057 (ma 4) ).trans f_10119
          have f_10121 : F_10062 (ma 4) = pcE G pl := (o_10066 (ma 4) ).trans f_10120
          have f_10122 : F_10096 (ma 4) = pcE G pl := (o_10100 (ma 4) ).trans f_10121
          have f_10123 : F_10043 (ma 5) = .inl (G.2 0, 60, .inl tf) := (o_10047 (ma 5) ).trans ft
          have f_10124 : F_10049 (ma 5) = .inl (G.2 0, 60, .inl tf) := (o_10051 (ma 5) (ne_ao f_10123 f_10048)).trans f_10123
          have f_10125 : F_10053 (ma 5) = .inl (G.2 0, 60, .inl tf) := (o_10057 (ma 5) ).trans f_10124
          have f_10126 : F_10062 (ma 5) = .inl (G.2 0, 60, .inl tf) := (o_10066 (ma 5) ).trans f_10125
          have f_10127 : F_10096 (ma 5) = .inl (G.2 0, 60, .inl tf) := (o_10100 (ma 5) ).trans f_10126
          have f_10128 : F_10043 (ma 6) = .inl (G.2 0, 52, .inl pf) := (o_10047 (ma 6) ).trans fq
          have f_10129 : F_10049 (ma 6) = .inl (G.2 0, 52, .inl pf) := (o_10051 (ma 6) (ne_ao f_10128 f_10048)).trans f_10128
          have f_10130 : F_10053 (ma 6) = .inl (G.2 0, 52, .inl pf) := (o_10057 (ma 6) ).trans f_10129
          have f_10131 : F_10062 (ma 6) = .inl (G.2 0, 52, .inl pf) := (o_10066 (ma 6) ).trans f_10130
          have f_10132 : F_10096 (ma 6) = .inl (G.2 0, 52, .inl pf) := (o_10100 (ma 6) ).trans f_10131
          exact r_i C0 hr hlk hw (v := nI (A.1.1 * 1 - A.1.2.1)) rfl ⟨congrArg nI (by omega), ⟨_, _, _, _, _, _, _, _, _, f_10101, ⟨hm0, hm1, rfl⟩, ⟨f_10102, hz⟩, ⟨f_10107, hhf⟩, ⟨f_10112, hsf⟩, ⟨f_10117, hkf⟩, f_10122, ⟨f_10127, htf⟩, f_10132⟩, (fun q k0 k1 => ((o_10100 q ).trans ((o_10066 q ).trans ((o_10057 q ).trans ((o_10051 q k0).trans (o_10047 q ))))))⟩ (Nat.le_refl _) (Nat.le_refl _) dX6_lacks_56 hQ
        · skip
          exact absurd c_31 (by omega)
set_option maxHeartbeats 4000000 in
set_option maxRecDepth 100000 in
theorem k_X6_lacks_119 (l : Launch) (G : Gl) (L : List Nat) (F : Nat → va_E) (b : Nat) (ma : Nat → Nat) (A : AB) (th : Nat) (mb : b ∈ L) (hma : ∀ i, i < 7 → ma i ∈ L) (hM : MW G F b ma A th) (hA : okA A) : CI l yX6_lacks cX6_lacks 2 (some .int) rm_X6_lacks G L F [.ref b, .int (nI (119))] (fun r F1 => r = nI (20 * A.1.1 - A.1.2.1) ∧ MW G F1 b ma A 0 ∧ mFr F F1 b ma) := by
  obtain ⟨mi, hh, zf, hf, sf, kf, tf, pf, pl, fb, ⟨hm0, hm1, hm2⟩, ⟨fz, hz⟩, ⟨fh, hhf⟩, ⟨fs, hsf⟩, ⟨fk, hkf⟩, fp, ⟨ft, htf⟩, fq⟩ := hM
  obtain ⟨hz0, hz1, hz2, hz3, hz4⟩ := ne_z zf hz
  have hc : A.1.1 ≤ 6 := hA.1.2.1
  have hc2 : 2 ≤ A.1.1 := hA.1.1
  have hpu : A.1.2.1 ≤ 100000 := hA.1.2.2.1
  have hrw : ∀ i k, i < 12 → k < 7 → zf (5 + 7 * i + k) = nI (A.1.2.2.2.2.2 i k).val := hz.row
  refine CG_of (by decide) (Nat.le_of_ble_eq_true rfl) rfl ?_
  intro p e s m args below meth c Q C0 hr hlk hnm hQ hw ls hl
  have hx := C0.x
  have hb := C0.b
  refine lv_aload_n hx hb dX6_lacks_0 rfl (lv_at hl 0 rfl) ?_
  refine lv_iload_n hx hb dX6_lacks_1 rfl (lv_at hl 1 rfl) ?_
  refine q_calli hw (q_runS (As := [.int (nI (119))]) (c_X6_slotsOf_119 l G L F ) C0 hw sw_X6_174 rfl hl.1 rfl (Nat.le_of_ble_eq_true rfl) dX6_lacks_2 ⟨by decide, by decide⟩ ⟨by decide, by decide⟩) rfl rfl (fun r_10135 F_10133 H locs hw hp_10134 => ?_)
  obtain ⟨he_10136, o_10137⟩ := hp_10134
  subst he_10136
  refine n_if_le (tgt := 12) hx hb dX6_lacks_5 (by decide) (by decide) (fun c_5 => ?_) (fun c_5 => ?_)
  · skip
    exact absurd c_5 (by omega)
  · skip
    refine lv_iconst (v := nI 0) hx hb dX6_lacks_8 (by decide) ?_
    refine lv_goto (tgt := 13) hx hb dX6_lacks_9 (by decide) ?_
    have f_10138 : F_10133 b = mO ma mi hh := (o_10137 b ).trans fb
    refine q_put C0 hw mb f_10138 fw_X6_31 pw_X6_8 rfl rfl rfl (Nat.le_of_ble_eq_true rfl) dX6_lacks_13 (fun F_10139 H locs hw f_10140 o_10141 => ?_)
    have f_10140 : F_10139 b = .inr (6, [.ref (ma 0), .int (mi 0), .ref (ma 1), .ref (ma 2), .ref (ma 3), .ref (ma 4), .int (mi 1), .ref (ma 5), .int (nI (0)), .ref (ma 6), .int (mi 3), .int (mi 4), .long (hh)]) := f_10140
    refine lv_aload_n hx hb dX6_lacks_16 rfl (lv_at hl 0 rfl) ?_
    refine q_get C0 hw mb f_10140 fw_X6_31 rfl dX6_lacks_17 ?_
    refine n_if_gt (tgt := 34) hx hb dX6_lacks_20 (by decide) (by decide) (fun c_20 => ?_) (fun c_20 => ?_)
    · skip
      exact absurd c_20 (by omega)
    · skip
      have hb_10142 : F_10139 b = mO ma (va_up mi 2 (nI 0)) hh := f_10140
      refine lv_aload_n hx hb dX6_lacks_23 rfl (lv_at hl 0 rfl) ?_
      refine lv_iload_n hx hb dX6_lacks_24 rfl (lv_at hl 1 rfl) ?_
      refine q_calli hw (q_runS (As := [.int (nI (119))]) (c_X6_workOf_119 l G L F_10139 ) C0 hw sw_X6_187 rfl hl.1 rfl (Nat.le_of_ble_eq_true rfl) dX6_lacks_25 ⟨by decide, by decide⟩ ⟨by decide, by decide⟩) rfl rfl (fun r_10145 F_10143 H locs hw hp_10144 => ?_)
      obtain ⟨he_10146, o_10147⟩ := hp_10144
      subst he_10146
      have f_10148 : F_10143 b = mO ma ((va_up mi 2 (nI 0))) hh := (o_10147 b ).trans hb_10142
      have f_10149 : F_10133 (ma 0) = .inl (G.2 0, 89, .inl zf) := (o_10137 (ma 0) ).trans fz
      have f_10150 : F_10139 (ma 0) = .inl (G.2 0, 89, .inl zf) := (o_10141 (ma 0) (ne_ao f_10149 f_10138)).trans f_10149
      have f_10151 : F_10143 (ma 0) = .inl (G.2 0, 89, .inl zf) := (o_10147 (ma 0) ).trans f_10150
      refine q_calli hw (q_runV (As := [.int (nI (20))]) (c_X6_canPay l G L F_10143 b ma (va_up mi 2 (nI 0)) hh zf 20 A.1.1 A.1.2.1 mb f_10148 hma f_10151 hz0 hz1 hc (by omega) hpu (by omega)) C0 hw vw_X6_106 mb f_10148 rfl rfl rfl hl.1 rfl (Nat.le_of_ble_eq_true rfl) dX6_lacks_28 ⟨by decide, by decide⟩ ⟨by decide, by decide⟩) rfl rfl (fun r_10154 F_10152 H locs hw hp_10153 => ?_)
      obtain ⟨he_10155, o_10156⟩ := hp_10153
      by_cases hb_10157 : A.1.1 * 20 ≤ A.1.2.1
      · skip
        rw [if_pos hb_10157] at he_10155
        subst he_10155
        refine n_if_eq (tgt := 38) hx hb dX6_lacks_31 (by decide) (by decide) (fun c_31 => ?_) (fun c_31 => ?_)
        · skip
          exact absurd c_31 (by omega)
        · skip
          refine lv_iconst (v := nI 0) hx hb dX6_lacks_34 (by decide) ?_
          refine lv_goto (tgt := 56) hx hb dX6_lacks_35 (by decide) ?_
          have f_10158 : F_10152 b = mO ma ((va_up mi 2 (nI 0))) hh := (o_10156 b ).trans f_10148
          have f_10159 : F_10152 (ma 0) = .inl (G.2 0, 89, .inl zf) := (o_10156 (ma 0) ).trans f_10151
          have f_10160 : F_10133 (ma 1) = .inl (G.2 0, 534, .inl hf) := (o_10137 (ma 1) ).trans fh
          have f_10161 : F_10139 (ma 1) = .inl (G.2 0, 534, .inl hf) := (o_10141 (ma 1) (ne_ao f_10160 f_10138)).trans f_10160
          have f_10162 : F_10143 (ma 1) = .inl (G.2 0, 534, .inl hf) := (o_10147 (ma 1) ).trans f_10161
          have f_10163 : F_10152 (ma 1) = .inl (G.2 0, 534, .inl hf) := (o_10156 (ma 1) ).trans f_10162
          have f_10164 : F_10133 (ma 2) = .inl (G.2 0, 178, .inl sf) := (o_10137 (ma 2) ).trans fs
          have f_10165 : F_10139 (ma 2) = .inl (G.2 0, 178, .inl sf) := (o_10141 (ma 2) (ne_ao f_10164 f_10138)).trans f_10164
          have f_10166 : F_10143 (ma 2) = .inl (G.2 0, 178, .inl sf) := (o_10147 (ma 2) ).trans f_10165
          have f_10167 : F_10152 (ma 2) = .inl (G.2 0, 178, .inl sf) := (o_10156 (ma 2) ).trans f_10166
          have f_10168 : F_10133 (ma 3) = .inl (G.2 0, 2, .inl kf) := (o_10137 (ma 3) ).trans fk
          have f_10169 : F_10139 (ma 3) = .inl (G.2 0, 2, .inl kf) := (o_10141 (ma 3) (ne_ao f_10168 f_10138)).trans f_10168
          have f_10170 : F_10143 (ma 3) = .inl (G.2 0, 2, .inl kf) := (o_10147 (ma 3) ).trans f_10169
          have f_10171 : F_10152 (ma 3) = .inl (G.2 0, 2, .inl kf) := (o_10156 (ma 3) ).trans f_10170
          have f_10172 : F_10133 (ma 4) = pcE G pl := (o_10137 (ma 4) ).trans fp
          have f_10173 : F_10139 (ma 4) = pcE G pl := (o_10141 (ma 4) (ne_ao f_10172 f_10138)).trans f_10172
          have f_10174 : F_10143 (ma 4) = pcE G pl := (o_10147 (ma 4) ).trans f_10173
          have f_10175 : F_10152 (ma 4) = pcE G pl := (o_10156 (ma 4) ).trans f_10174
          have f_10176 : F_10133 (ma 5) = .inl (G.2 0, 60, .inl tf) := (o_10137 (ma 5) ).trans ft
          have f_10177 : F_10139 (ma 5) = .inl (G.2 0, 60, .inl tf) := (o_10141 (ma 5) (ne_ao f_10176 f_10138)).trans f_10176
          have f_10178 : F_10143 (ma 5) = .inl (G.2 0, 60, .inl tf) := (o_10147 (ma 5) ).trans f_10177
          have f_10179 : F_10152 (ma 5) = .inl (G.2 0, 60, .inl tf) := (o_10156 (ma 5) ).trans f_10178
          have f_10180 : F_10133 (ma 6) = .inl (G.2 0, 52, .inl pf) := (o_10137 (ma 6) ).trans fq
          have f_10181 : F_10139 (ma 6) = .inl (G.2 0, 52, .inl pf) := (o_10141 (ma 6) (ne_ao f_10180 f_10138)).trans f_10180
          have f_10182 : F_10143 (ma 6) = .inl (G.2 0, 52, .inl pf) := (o_10147 (ma 6) ).trans f_10181
          have f_10183 : F_10152 (ma 6) = .inl (G.2 0, 52, .inl pf) := (o_10156 (ma 6) ).trans f_10182
          exact r_i C0 hr hlk hw (v := nI 0) rfl ⟨congrArg nI (by omega), ⟨_, _, _, _, _, _, _, _, _, f_10158, ⟨hm0, hm1, rfl⟩, ⟨f_10159, hz⟩, ⟨f_10163, hhf⟩, ⟨f_10167, hsf⟩, ⟨f_10171, hkf⟩, f_10175, ⟨f_10179, htf⟩, f_10183⟩, (fun q k0 k1 => ((o_10156 q ).trans ((o_10147 q ).trans ((o_10141 q k0).trans (o_10137 q )))))⟩ (Nat.le_refl _) (Nat.le_refl _) dX6_lacks_56 hQ
      · skip
        rw [if_neg hb_10157] at he_10155
        subst he_10155
        refine n_if_eq (tgt := 38) hx hb dX6_lacks_31 (by decide) (by decide) (fun c_31 => ?_) (fun c_31 => ?_)
        · skip
          refine lv_aload_n hx hb dX6_lacks_38 rfl (lv_at hl 0 rfl) ?_
          have f_10184 : F_10152 b = mO ma ((va_up mi 2 (nI 0))) hh := (o_10156 b ).trans f_10148
          refine q_get C0 hw mb f_10184 fw_X6_7 rfl dX6_lacks_39 ?_
          refine lv_iconst (v := nI 0) hx hb dX6_lacks_42 (by decide) ?_
          have f_10185 : F_10152 (ma 0) = .inl (G.2 0, 89, .inl zf) := (o_10156 (ma 0) ).trans f_10151
          refine q_iald C0 hw ((hma 0 (by decide))) f_10185 (0) (by omega) (by decide) (v := nI (A.1.1)) hz0 dX6_lacks_43 ?_
          refine lv_iload_n hx hb dX6_lacks_44 rfl (lv_at hl 1 rfl) ?_
          refine q_calli hw (q_runS (As := [.int (nI (119))]) (c_X6_workOf_119 l G L F_10152 ) C0 hw sw_X6_187 rfl hl.1 rfl (Nat.le_of_ble_eq_true rfl) dX6_lacks_45 ⟨by decide, by decide⟩ ⟨by decide, by decide⟩) rfl rfl (fun r_10188 F_10186 H locs hw hp_10187 => ?_)
          obtain ⟨he_10189, o_10190⟩ := hp_10187
          subst he_10189
          refine n_imul hx hb dX6_lacks_48 ?_
          refine lv_aload_n hx hb dX6_lacks_49 rfl (lv_at hl 0 rfl) ?_
          have f_10191 : F_10186 b = mO ma ((va_up mi 2 (nI 0))) hh := (o_10190 b ).trans f_10184
          refine q_get C0 hw mb f_10191 fw_X6_7 rfl dX6_lacks_50 ?_
          refine lv_iconst (v := nI 1) hx hb dX6_lacks_53 (by decide) ?_
          have f_10192 : F_10186 (ma 0) = .inl (G.2 0, 89, .inl zf) := (o_10190 (ma 0) ).trans f_10185
          refine q_iald C0 hw ((hma 0 (by decide))) f_10192 (1) (by omega) (by decide) (v := nI (A.1.2.1)) hz1 dX6_lacks_54 ?_
          refine n_isub hx hb (by omega) dX6_lacks_55 ?_
          have f_10193 : F_10133 (ma 1) = .inl (G.2 0, 534, .inl hf) := (o_10137 (ma 1) ).trans fh
          have f_10194 : F_10139 (ma 1) = .inl (G.2 0, 534, .inl hf) := (o_10141 (ma 1) (ne_ao f_10193 f_10138)).trans f_10193
          have f_10195 : F_10143 (ma 1) = .inl (G.2 0, 534, .inl hf) := (o_10147 (ma 1) ).trans f_10194
          have f_10196 : F_10152 (ma 1) = .inl (G.2 0, 534, .inl hf) := (o_10156 (ma 1) ).trans f_10195
          have f_10197 : F_10186 (ma 1) = .inl (G.2 0, 534, .inl hf) := (o_10190 (ma 1) ).trans f_10196
          have f_10198 : F_10133 (ma 2) = .inl (G.2 0, 178, .inl sf) := (o_10137 (ma 2) ).trans fs
          have f_10199 : F_10139 (ma 2) = .inl (G.2 0, 178, .inl sf) := (o_10141 (ma 2) (ne_ao f_10198 f_10138)).trans f_10198
          have f_10200 : F_10143 (ma 2) = .inl (G.2 0, 178, .inl sf) := (o_10147 (ma 2) ).trans f_10199
          have f_10201 : F_10152 (ma 2) = .inl (G.2 0, 178, .inl sf) := (o_10156 (ma 2) ).trans f_10200
          have f_10202 : F_10186 (ma 2) = .inl (G.2 0, 178, .inl sf) := (o_10190 (ma 2) ).trans f_10201
          have f_10203 : F_10133 (ma 3) = .inl (G.2 0, 2, .inl kf) := (o_10137 (ma 3) ).trans fk
          have f_10204 : F_10139 (ma 3) = .inl (G.2 0, 2, .inl kf) := (o_10141 (ma 3) (ne_ao f_10203 f_10138)).trans f_10203
          have f_10205 : F_10143 (ma 3) = .inl (G.2 0, 2, .inl kf) := (o_10147 (ma 3) ).trans f_10204
          have f_10206 : F_10152 (ma 3) = .inl (G.2 0, 2, .inl kf) := (o_10156 (ma 3) ).trans f_10205
          have f_10207 : F_10186 (ma 3) = .inl (G.2 0, 2, .inl kf) := (o_10190 (ma 3) ).trans f_10206
          have f_10208 : F_10133 (ma 4) = pcE G pl := (o_10137 (ma 4) ).trans fp
          have f_10209 : F_10139 (ma 4) = pcE G pl := (o_10141 (ma 4) (ne_ao f_10208 f_10138)).trans f_10208
          have f_10210 : F_10143 (ma 4) = pcE G pl := (o_10147 (ma 4) ).trans f_10209
          have f_10211 : F_10152 (ma 4) = pcE G pl := (o_10156 (ma 4) ).trans f_10210
          have f_10212 : F_10186 (ma 4) = pcE G pl := (o_10190 (ma 4) ).trans f_10211
          have f_10213 : F_10133 (ma 5) = .inl (G.2 0, 60, .inl tf) := (o_10137 (ma 5) ).trans ft
          have f_10214 : F_10139 (ma 5) = .inl (G.2 0, 60, .inl tf) := (o_10141 (ma 5) (ne_ao f_10213 f_10138)).trans f_10213
          have f_10215 : F_10143 (ma 5) = .inl (G.2 0, 60, .inl tf) := (o_10147 (ma 5) ).trans f_10214
          have f_10216 : F_10152 (ma 5) = .inl (G.2 0, 60, .inl tf) := (o_10156 (ma 5) ).trans f_10215
          have f_10217 : F_10186 (ma 5) = .inl (G.2 0, 60, .inl tf) := (o_10190 (ma 5) ).trans f_10216
          have f_10218 : F_10133 (ma 6) = .inl (G.2 0, 52, .inl pf) := (o_10137 (ma 6) ).trans fq
          have f_10219 : F_10139 (ma 6) = .inl (G.2 0, 52, .inl pf) := (o_10141 (ma 6) (ne_ao f_10218 f_10138)).trans f_10218
          have f_10220 : F_10143 (ma 6) = .inl (G.2 0, 52, .inl pf) := (o_10147 (ma 6) ).trans f_10219
          have f_10221 : F_10152 (ma 6) = .inl (G.2 0, 52, .inl pf) := (o_10156 (ma 6) ).trans f_10220
          have f_10222 : F_10186 (ma 6) = .inl (G.2 0, 52, .inl pf) := (o_10190 (ma 6) ).trans f_10221
          exact r_i C0 hr hlk hw (v := nI (A.1.1 * 20 - A.1.2.1)) rfl ⟨congrArg nI (by omega), ⟨_, _, _, _, _, _, _, _, _, f_10191, ⟨hm0, hm1, rfl⟩, ⟨f_10192, hz⟩, ⟨f_10197, hhf⟩, ⟨f_10202, hsf⟩, ⟨f_10207, hkf⟩, f_10212, ⟨f_10217, htf⟩, f_10222⟩, (fun q k0 k1 => ((o_10190 q ).trans ((o_10156 q ).trans ((o_10147 q ).trans ((o_10141 q k0).trans (o_10137 q ))))))⟩ (Nat.le_refl _) (Nat.le_refl _) dX6_lacks_56 hQ
        · skip
          exact absurd c_31 (by omega)
set_option maxHeartbeats 4000000 in
set_option maxRecDepth 100000 in
theorem k_X6_lacks_112 (l : Launch) (G : Gl) (L : List Nat) (F : Nat → va_E) (b : Nat) (ma : Nat → Nat) (A : AB) (th : Nat) (mb : b ∈ L) (hma : ∀ i, i < 7 → ma i ∈ L) (hM : MW G F b ma A th) (hA : okA A) : CI l yX6_lacks cX6_lacks 2 (some .int) rm_X6_lacks G L F [.ref b, .int (nI (112))] (fun r F1 => r = nI (6 * A.1.1 - A.1.2.1) ∧ MW G F1 b ma A 0 ∧ mFr F F1 b ma) := by
  obtain ⟨mi, hh, zf, hf, sf, kf, tf, pf, pl, fb, ⟨hm0, hm1, hm2⟩, ⟨fz, hz⟩, ⟨fh, hhf⟩, ⟨fs, hsf⟩, ⟨fk, hkf⟩, fp, ⟨ft, htf⟩, fq⟩ := hM
  obtain ⟨hz0, hz1, hz2, hz3, hz4⟩ := ne_z zf hz
  have hc : A.1.1 ≤ 6 := hA.1.2.1
  have hc2 : 2 ≤ A.1.1 := hA.1.1
  have hpu : A.1.2.1 ≤ 100000 := hA.1.2.2.1
  have hrw : ∀ i k, i < 12 → k < 7 → zf (5 + 7 * i + k) = nI (A.1.2.2.2.2.2 i k).val := hz.row
  refine CG_of (by decide) (Nat.le_of_ble_eq_true rfl) rfl ?_
  intro p e s m args below meth c Q C0 hr hlk hnm hQ hw ls hl
  have hx := C0.x
  have hb := C0.b
  refine lv_aload_n hx hb dX6_lacks_0 rfl (lv_at hl 0 rfl) ?_
  refine lv_iload_n hx hb dX6_lacks_1 rfl (lv_at hl 1 rfl) ?_
  refine q_calli hw (q_runS (As := [.int (nI (112))]) (c_X6_slotsOf_112 l G L F ) C0 hw sw_X6_174 rfl hl.1 rfl (Nat.le_of_ble_eq_true rfl) dX6_lacks_2 ⟨by decide, by decide⟩ ⟨by decide, by decide⟩) rfl rfl (fun r_10225 F_10223 H locs hw hp_10224 => ?_)
  obtain ⟨he_10226, o_10227⟩ := hp_10224
  subst he_10226
  refine n_if_le (tgt := 12) hx hb dX6_lacks_5 (by decide) (by decide) (fun c_5 => ?_) (fun c_5 => ?_)
  · skip
    exact absurd c_5 (by omega)
  · skip
    refine lv_iconst (v := nI 0) hx hb dX6_lacks_8 (by decide) ?_
    refine lv_goto (tgt := 13) hx hb dX6_lacks_9 (by decide) ?_
    have f_10228 : F_10223 b = mO ma mi hh := (o_10227 b ).trans fb
    refine q_put C0 hw mb f_10228 fw_X6_31 pw_X6_8 rfl rfl rfl (Nat.le_of_ble_eq_true rfl) dX6_lacks_13 (fun F_10229 H locs hw f_10230 o_10231 => ?_)
    have f_10230 : F_10229 b = .inr (6, [.ref (ma 0), .int (mi 0), .ref (ma 1), .ref (ma 2), .ref (ma 3), .ref (ma 4), .int (mi 1), .ref (ma 5), .int (nI (0)), .ref (ma 6), .int (mi 3), .int (mi 4), .long (hh)]) := f_10230
    refine lv_aload_n hx hb dX6_lacks_16 rfl (lv_at hl 0 rfl) ?_
    refine q_get C0 hw mb f_10230 fw_X6_31 rfl dX6_lacks_17 ?_
    refine n_if_gt (tgt := 34) hx hb dX6_lacks_20 (by decide) (by decide) (fun c_20 => ?_) (fun c_20 => ?_)
    · skip
      exact absurd c_20 (by omega)
    · skip
      have hb_10232 : F_10229 b = mO ma (va_up mi 2 (nI 0)) hh := f_10230
      refine lv_aload_n hx hb dX6_lacks_23 rfl (lv_at hl 0 rfl) ?_
      refine lv_iload_n hx hb dX6_lacks_24 rfl (lv_at hl 1 rfl) ?_
      refine q_calli hw (q_runS (As := [.int (nI (112))]) (c_X6_workOf_112 l G L F_10229 ) C0 hw sw_X6_187 rfl hl.1 rfl (Nat.le_of_ble_eq_true rfl) dX6_lacks_25 ⟨by decide, by decide⟩ ⟨by decide, by decide⟩) rfl rfl (fun r_10235 F_10233 H locs hw hp_10234 => ?_)
      obtain ⟨he_10236, o_10237⟩ := hp_10234
      subst he_10236
      have f_10238 : F_10233 b = mO ma ((va_up mi 2 (nI 0))) hh := (o_10237 b ).trans hb_10232
      have f_10239 : F_10223 (ma 0) = .inl (G.2 0, 89, .inl zf) := (o_10227 (ma 0) ).trans fz
      have f_10240 : F_10229 (ma 0) = .inl (G.2 0, 89, .inl zf) := (o_10231 (ma 0) (ne_ao f_10239 f_10228)).trans f_10239
      have f_10241 : F_10233 (ma 0) = .inl (G.2 0, 89, .inl zf) := (o_10237 (ma 0) ).trans f_10240
      refine q_calli hw (q_runV (As := [.int (nI (6))]) (c_X6_canPay l G L F_10233 b ma (va_up mi 2 (nI 0)) hh zf 6 A.1.1 A.1.2.1 mb f_10238 hma f_10241 hz0 hz1 hc (by omega) hpu (by omega)) C0 hw vw_X6_106 mb f_10238 rfl rfl rfl hl.1 rfl (Nat.le_of_ble_eq_true rfl) dX6_lacks_28 ⟨by decide, by decide⟩ ⟨by decide, by decide⟩) rfl rfl (fun r_10244 F_10242 H locs hw hp_10243 => ?_)
      obtain ⟨he_10245, o_10246⟩ := hp_10243
      by_cases hb_10247 : A.1.1 * 6 ≤ A.1.2.1
      · skip
        rw [if_pos hb_10247] at he_10245
        subst he_10245
        refine n_if_eq (tgt := 38) hx hb dX6_lacks_31 (by decide) (by decide) (fun c_31 => ?_) (fun c_31 => ?_)
        · skip
          exact absurd c_31 (by omega)
        · skip
          refine lv_iconst (v := nI 0) hx hb dX6_lacks_34 (by decide) ?_
          refine lv_goto (tgt := 56) hx hb dX6_lacks_35 (by decide) ?_
          have f_10248 : F_10242 b = mO ma ((va_up mi 2 (nI 0))) hh := (o_10246 b ).trans f_10238
          have f_10249 : F_10242 (ma 0) = .inl (G.2 0, 89, .inl zf) := (o_10246 (ma 0) ).trans f_10241
          have f_10250 : F_10223 (ma 1) = .inl (G.2 0, 534, .inl hf) := (o_10227 (ma 1) ).trans fh
          have f_10251 : F_10229 (ma 1) = .inl (G.2 0, 534, .inl hf) := (o_10231 (ma 1) (ne_ao f_10250 f_10228)).trans f_10250
          have f_10252 : F_10233 (ma 1) = .inl (G.2 0, 534, .inl hf) := (o_10237 (ma 1) ).trans f_10251
          have f_10253 : F_10242 (ma 1) = .inl (G.2 0, 534, .inl hf) := (o_10246 (ma 1) ).trans f_10252
          have f_10254 : F_10223 (ma 2) = .inl (G.2 0, 178, .inl sf) := (o_10227 (ma 2) ).trans fs
          have f_10255 : F_10229 (ma 2) = .inl (G.2 0, 178, .inl sf) := (o_10231 (ma 2) (ne_ao f_10254 f_10228)).trans f_10254
          have f_10256 : F_10233 (ma 2) = .inl (G.2 0, 178, .inl sf) := (o_10237 (ma 2) ).trans f_10255
          have f_10257 : F_10242 (ma 2) = .inl (G.2 0, 178, .inl sf) := (o_10246 (ma 2) ).trans f_10256
          have f_10258 : F_10223 (ma 3) = .inl (G.2 0, 2, .inl kf) := (o_10227 (ma 3) ).trans fk
          have f_10259 : F_10229 (ma 3) = .inl (G.2 0, 2, .inl kf) := (o_10231 (ma 3) (ne_ao f_10258 f_10228)).trans f_10258
          have f_10260 : F_10233 (ma 3) = .inl (G.2 0, 2, .inl kf) := (o_10237 (ma 3) ).trans f_10259
          have f_10261 : F_10242 (ma 3) = .inl (G.2 0, 2, .inl kf) := (o_10246 (ma 3) ).trans f_10260
          have f_10262 : F_10223 (ma 4) = pcE G pl := (o_10227 (ma 4) ).trans fp
          have f_10263 : F_10229 (ma 4) = pcE G pl := (o_10231 (ma 4) (ne_ao f_10262 f_10228)).trans f_10262
          have f_10264 : F_10233 (ma 4) = pcE G pl := (o_10237 (ma 4) ).trans f_10263
          have f_10265 : F_10242 (ma 4) = pcE G pl := (o_10246 (ma 4) ).trans f_10264
          have f_10266 : F_10223 (ma 5) = .inl (G.2 0, 60, .inl tf) := (o_10227 (ma 5) ).trans ft
          have f_10267 : F_10229 (ma 5) = .inl (G.2 0, 60, .inl tf) := (o_10231 (ma 5) (ne_ao f_10266 f_10228)).trans f_10266
          have f_10268 : F_10233 (ma 5) = .inl (G.2 0, 60, .inl tf) := (o_10237 (ma 5) ).trans f_10267
          have f_10269 : F_10242 (ma 5) = .inl (G.2 0, 60, .inl tf) := (o_10246 (ma 5) ).trans f_10268
          have f_10270 : F_10223 (ma 6) = .inl (G.2 0, 52, .inl pf) := (o_10227 (ma 6) ).trans fq
          have f_10271 : F_10229 (ma 6) = .inl (G.2 0, 52, .inl pf) := (o_10231 (ma 6) (ne_ao f_10270 f_10228)).trans f_10270
          have f_10272 : F_10233 (ma 6) = .inl (G.2 0, 52, .inl pf) := (o_10237 (ma 6) ).trans f_10271
          have f_10273 : F_10242 (ma 6) = .inl (G.2 0, 52, .inl pf) := (o_10246 (ma 6) ).trans f_10272
          exact r_i C0 hr hlk hw (v := nI 0) rfl ⟨congrArg nI (by omega), ⟨_, _, _, _, _, _, _, _, _, f_10248, ⟨hm0, hm1, rfl⟩, ⟨f_10249, hz⟩, ⟨f_10253, hhf⟩, ⟨f_10257, hsf⟩, ⟨f_10261, hkf⟩, f_10265, ⟨f_10269, htf⟩, f_10273⟩, (fun q k0 k1 => ((o_10246 q ).trans ((o_10237 q ).trans ((o_10231 q k0).trans (o_10227 q )))))⟩ (Nat.le_refl _) (Nat.le_refl _) dX6_lacks_56 hQ
      · skip
        rw [if_neg hb_10247] at he_10245
        subst he_10245
        refine n_if_eq (tgt := 38) hx hb dX6_lacks_31 (by decide) (by decide) (fun c_31 => ?_) (fun c_31 => ?_)
        · skip
          refine lv_aload_n hx hb dX6_lacks_38 rfl (lv_at hl 0 rfl) ?_
          have f_10274 : F_10242 b = mO ma ((va_up mi 2 (nI 0))) hh := (o_10246 b ).trans f_10238
          refine q_get C0 hw mb f_10274 fw_X6_7 rfl dX6_lacks_39 ?_
          refine lv_iconst (v := nI 0) hx hb dX6_lacks_42 (by decide) ?_
          have f_10275 : F_10242 (ma 0) = .inl (G.2 0, 89, .inl zf) := (o_10246 (ma 0) ).trans f_10241
          refine q_iald C0 hw ((hma 0 (by decide))) f_10275 (0) (by omega) (by decide) (v := nI (A.1.1)) hz0 dX6_lacks_43 ?_
          refine lv_iload_n hx hb dX6_lacks_44 rfl (lv_at hl 1 rfl) ?_
          refine q_calli hw (q_runS (As := [.int (nI (112))]) (c_X6_workOf_112 l G L F_10242 ) C0 hw sw_X6_187 rfl hl.1 rfl (Nat.le_of_ble_eq_true rfl) dX6_lacks_45 ⟨by decide, by decide⟩ ⟨by decide, by decide⟩) rfl rfl (fun r_10278 F_10276 H locs hw hp_10277 => ?_)
          obtain ⟨he_10279, o_10280⟩ := hp_10277
          subst he_10279
          refine n_imul hx hb dX6_lacks_48 ?_
          refine lv_aload_n hx hb dX6_lacks_49 rfl (lv_at hl 0 rfl) ?_
          have f_10281 : F_10276 b = mO ma ((va_up mi 2 (nI 0))) hh := (o_10280 b ).trans f_10274
          refine q_get C0 hw mb f_10281 fw_X6_7 rfl dX6_lacks_50 ?_
          refine lv_iconst (v := nI 1) hx hb dX6_lacks_53 (by decide) ?_
          have f_10282 : F_10276 (ma 0) = .inl (G.2 0, 89, .inl zf) := (o_10280 (ma 0) ).trans f_10275
          refine q_iald C0 hw ((hma 0 (by decide))) f_10282 (1) (by omega) (by decide) (v := nI (A.1.2.1)) hz1 dX6_lacks_54 ?_
          refine n_isub hx hb (by omega) dX6_lacks_55 ?_
          have f_10283 : F_10223 (ma 1) = .inl (G.2 0, 534, .inl hf) := (o_10227 (ma 1) ).trans fh
          have f_10284 : F_10229 (ma 1) = .inl (G.2 0, 534, .inl hf) := (o_10231 (ma 1) (ne_ao f_10283 f_10228)).trans f_10283
          have f_10285 : F_10233 (ma 1) = .inl (G.2 0, 534, .inl hf) := (o_10237 (ma 1) ).trans f_10284
          have f_10286 : F_10242 (ma 1) = .inl (G.2 0, 534, .inl hf) := (o_10246 (ma 1) ).trans f_10285
          have f_10287 : F_10276 (ma 1) = .inl (G.2 0, 534, .inl hf) := (o_10280 (ma 1) ).trans f_10286
          have f_10288 : F_10223 (ma 2) = .inl (G.2 0, 178, .inl sf) := (o_10227 (ma 2) ).trans fs
          have f_10289 : F_10229 (ma 2) = .inl (G.2 0, 178, .inl sf) := (o_10231 (ma 2) (ne_ao f_10288 f_10228)).trans f_10288
          have f_10290 : F_10233 (ma 2) = .inl (G.2 0, 178, .inl sf) := (o_10237 (ma 2) ).trans f_10289
          have f_10291 : F_10242 (ma 2) = .inl (G.2 0, 178, .inl sf) := (o_10246 (ma 2) ).trans f_10290
          have f_10292 : F_10276 (ma 2) = .inl (G.2 0, 178, .inl sf) := (o_10280 (ma 2) ).trans f_10291
          have f_10293 : F_10223 (ma 3) = .inl (G.2 0, 2, .inl kf) := (o_10227 (ma 3) ).trans fk
          have f_10294 : F_10229 (ma 3) = .inl (G.2 0, 2, .inl kf) := (o_10231 (ma 3) (ne_ao f_10293 f_10228)).trans f_10293
          have f_10295 : F_10233 (ma 3) = .inl (G.2 0, 2, .inl kf) := (o_10237 (ma 3) ).trans f_10294
          have f_10296 : F_10242 (ma 3) = .inl (G.2 0, 2, .inl kf) := (o_10246 (ma 3) ).trans f_10295
          have f_10297 : F_10276 (ma 3) = .inl (G.2 0, 2, .inl kf) := (o_10280 (ma 3) ).trans f_10296
          have f_10298 : F_10223 (ma 4) = pcE G pl := (o_10227 (ma 4) ).trans fp
          have f_10299 : F_10229 (ma 4) = pcE G pl := (o_10231 (ma 4) (ne_ao f_10298 f_10228)).trans f_10298
          have f_10300 : F_10233 (ma 4) = pcE G pl := (o_10237 (ma 4) ).trans f_10299
          have f_10301 : F_10242 (ma 4) = pcE G pl := (o_10246 (ma 4) ).trans f_10300
          have f_10302 : F_10276 (ma 4) = pcE G pl := (o_10280 (ma 4) ).trans f_10301
          have f_10303 : F_10223 (ma 5) = .inl (G.2 0, 60, .inl tf) := (o_10227 (ma 5) ).trans ft
          have f_10304 : F_10229 (ma 5) = .inl (G.2 0, 60, .inl tf) := (o_10231 (ma 5) (ne_ao f_10303 f_10228)).trans f_10303
          have f_10305 : F_10233 (ma 5) = .inl (G.2 0, 60, .inl tf) := (o_10237 (ma 5) ).trans f_10304
          have f_10306 : F_10242 (ma 5) = .inl (G.2 0, 60, .inl tf) := (o_10246 (ma 5) ).trans f_10305
          have f_10307 : F_10276 (ma 5) = .inl (G.2 0, 60, .inl tf) := (o_10280 (ma 5) ).trans f_10306
          have f_10308 : F_10223 (ma 6) = .inl (G.2 0, 52, .inl pf) := (o_10227 (ma 6) ).trans fq
          have f_10309 : F_10229 (ma 6) = .inl (G.2 0, 52, .inl pf) := (o_10231 (ma 6) (ne_ao f_10308 f_10228)).trans f_10308
          have f_10310 : F_10233 (ma 6) = .inl (G.2 0, 52, .inl pf) := (o_10237 (ma 6) ).trans f_10309
          have f_10311 : F_10242 (ma 6) = .inl (G.2 0, 52, .inl pf) := (o_10246 (ma 6) ).trans f_10310
          have f_10312 : F_10276 (ma 6) = .inl (G.2 0, 52, .inl pf) := (o_10280 (ma 6) ).trans f_10311
          exact r_i C0 hr hlk hw (v := nI (A.1.1 * 6 - A.1.2.1)) rfl ⟨congrArg nI (by omega), ⟨_, _, _, _, _, _, _, _, _, f_10281, ⟨hm0, hm1, rfl⟩, ⟨f_10282, hz⟩, ⟨f_10287, hhf⟩, ⟨f_10292, hsf⟩, ⟨f_10297, hkf⟩, f_10302, ⟨f_10307, htf⟩, f_10312⟩, (fun q k0 k1 => ((o_10280 q ).trans ((o_10246 q ).trans ((o_10237 q ).trans ((o_10231 q k0).trans (o_10227 q ))))))⟩ (Nat.le_refl _) (Nat.le_refl _) dX6_lacks_56 hQ
        · skip
          exact absurd c_31 (by omega)
set_option maxHeartbeats 4000000 in
set_option maxRecDepth 100000 in
theorem k_X6_lacks_108 (l : Launch) (G : Gl) (L : List Nat) (F : Nat → va_E) (b : Nat) (ma : Nat → Nat) (A : AB) (th : Nat) (mb : b ∈ L) (hma : ∀ i, i < 7 → ma i ∈ L) (hM : MW G F b ma A th) (hA : okA A) : CI l yX6_lacks cX6_lacks 2 (some .int) rm_X6_lacks G L F [.ref b, .int (nI (108))] (fun r F1 => r = nI (6 * A.1.1 - A.1.2.1) ∧ MW G F1 b ma A 0 ∧ mFr F F1 b ma) := by
  obtain ⟨mi, hh, zf, hf, sf, kf, tf, pf, pl, fb, ⟨hm0, hm1, hm2⟩, ⟨fz, hz⟩, ⟨fh, hhf⟩, ⟨fs, hsf⟩, ⟨fk, hkf⟩, fp, ⟨ft, htf⟩, fq⟩ := hM
  obtain ⟨hz0, hz1, hz2, hz3, hz4⟩ := ne_z zf hz
  have hc : A.1.1 ≤ 6 := hA.1.2.1
  have hc2 : 2 ≤ A.1.1 := hA.1.1
  have hpu : A.1.2.1 ≤ 100000 := hA.1.2.2.1
  have hrw : ∀ i k, i < 12 → k < 7 → zf (5 + 7 * i + k) = nI (A.1.2.2.2.2.2 i k).val := hz.row
  refine CG_of (by decide) (Nat.le_of_ble_eq_true rfl) rfl ?_
  intro p e s m args below meth c Q C0 hr hlk hnm hQ hw ls hl
  have hx := C0.x
  have hb := C0.b
  refine lv_aload_n hx hb dX6_lacks_0 rfl (lv_at hl 0 rfl) ?_
  refine lv_iload_n hx hb dX6_lacks_1 rfl (lv_at hl 1 rfl) ?_
  refine q_calli hw (q_runS (As := [.int (nI (108))]) (c_X6_slotsOf_108 l G L F ) C0 hw sw_X6_174 rfl hl.1 rfl (Nat.le_of_ble_eq_true rfl) dX6_lacks_2 ⟨by decide, by decide⟩ ⟨by decide, by decide⟩) rfl rfl (fun r_10315 F_10313 H locs hw hp_10314 => ?_)
  obtain ⟨he_10316, o_10317⟩ := hp_10314
  subst he_10316
  refine n_if_le (tgt := 12) hx hb dX6_lacks_5 (by decide) (by decide) (fun c_5 => ?_) (fun c_5 => ?_)
  · skip
    exact absurd c_5 (by omega)
  · skip
    refine lv_iconst (v := nI 0) hx hb dX6_lacks_8 (by decide) ?_
    refine lv_goto (tgt := 13) hx hb dX6_lacks_9 (by decide) ?_
    have f_10318 : F_10313 b = mO ma mi hh := (o_10317 b ).trans fb
    refine q_put C0 hw mb f_10318 fw_X6_31 pw_X6_8 rfl rfl rfl (Nat.le_of_ble_eq_true rfl) dX6_lacks_13 (fun F_10319 H locs hw f_10320 o_10321 => ?_)
    have f_10320 : F_10319 b = .inr (6, [.ref (ma 0), .int (mi 0), .ref (ma 1), .ref (ma 2), .ref (ma 3), .ref (ma 4), .int (mi 1), .ref (ma 5), .int (nI (0)), .ref (ma 6), .int (mi 3), .int (mi 4), .long (hh)]) := f_10320
    refine lv_aload_n hx hb dX6_lacks_16 rfl (lv_at hl 0 rfl) ?_
    refine q_get C0 hw mb f_10320 fw_X6_31 rfl dX6_lacks_17 ?_
    refine n_if_gt (tgt := 34) hx hb dX6_lacks_20 (by decide) (by decide) (fun c_20 => ?_) (fun c_20 => ?_)
    · skip
      exact absurd c_20 (by omega)
    · skip
      have hb_10322 : F_10319 b = mO ma (va_up mi 2 (nI 0)) hh := f_10320
      refine lv_aload_n hx hb dX6_lacks_23 rfl (lv_at hl 0 rfl) ?_
      refine lv_iload_n hx hb dX6_lacks_24 rfl (lv_at hl 1 rfl) ?_
      refine q_calli hw (q_runS (As := [.int (nI (108))]) (c_X6_workOf_108 l G L F_10319 ) C0 hw sw_X6_187 rfl hl.1 rfl (Nat.le_of_ble_eq_true rfl) dX6_lacks_25 ⟨by decide, by decide⟩ ⟨by decide, by decide⟩) rfl rfl (fun r_10325 F_10323 H locs hw hp_10324 => ?_)
      obtain ⟨he_10326, o_10327⟩ := hp_10324
      subst he_10326
      have f_10328 : F_10323 b = mO ma ((va_up mi 2 (nI 0))) hh := (o_10327 b ).trans hb_10322
      have f_10329 : F_10313 (ma 0) = .inl (G.2 0, 89, .inl zf) := (o_10317 (ma 0) ).trans fz
      have f_10330 : F_10319 (ma 0) = .inl (G.2 0, 89, .inl zf) := (o_10321 (ma 0) (ne_ao f_10329 f_10318)).trans f_10329
      have f_10331 : F_10323 (ma 0) = .inl (G.2 0, 89, .inl zf) := (o_10327 (ma 0) ).trans f_10330
      refine q_calli hw (q_runV (As := [.int (nI (6))]) (c_X6_canPay l G L F_10323 b ma (va_up mi 2 (nI 0)) hh zf 6 A.1.1 A.1.2.1 mb f_10328 hma f_10331 hz0 hz1 hc (by omega) hpu (by omega)) C0 hw vw_X6_106 mb f_10328 rfl rfl rfl hl.1 rfl (Nat.le_of_ble_eq_true rfl) dX6_lacks_28 ⟨by decide, by decide⟩ ⟨by decide, by decide⟩) rfl rfl (fun r_10334 F_10332 H locs hw hp_10333 => ?_)
      obtain ⟨he_10335, o_10336⟩ := hp_10333
      by_cases hb_10337 : A.1.1 * 6 ≤ A.1.2.1
      · skip
        rw [if_pos hb_10337] at he_10335
        subst he_10335
        refine n_if_eq (tgt := 38) hx hb dX6_lacks_31 (by decide) (by decide) (fun c_31 => ?_) (fun c_31 => ?_)
        · skip
          exact absurd c_31 (by omega)
        · skip
          refine lv_iconst (v := nI 0) hx hb dX6_lacks_34 (by decide) ?_
          refine lv_goto (tgt := 56) hx hb dX6_lacks_35 (by decide) ?_
          have f_10338 : F_10332 b = mO ma ((va_up mi 2 (nI 0))) hh := (o_10336 b ).trans f_10328
          have f_10339 : F_10332 (ma 0) = .inl (G.2 0, 89, .inl zf) := (o_10336 (ma 0) ).trans f_10331
          have f_10340 : F_10313 (ma 1) = .inl (G.2 0, 534, .inl hf) := (o_10317 (ma 1) ).trans fh
          have f_10341 : F_10319 (ma 1) = .inl (G.2 0, 534, .inl hf) := (o_10321 (ma 1) (ne_ao f_10340 f_10318)).trans f_10340
          have f_10342 : F_10323 (ma 1) = .inl (G.2 0, 534, .inl hf) := (o_10327 (ma 1) ).trans f_10341
          have f_10343 : F_10332 (ma 1) = .inl (G.2 0, 534, .inl hf) := (o_10336 (ma 1) ).trans f_10342
          have f_10344 : F_10313 (ma 2) = .inl (G.2 0, 178, .inl sf) := (o_10317 (ma 2) ).trans fs
          have f_10345 : F_10319 (ma 2) = .inl (G.2 0, 178, .inl sf) := (o_10321 (ma 2) (ne_ao f_10344 f_10318)).trans f_10344
          have f_10346 : F_10323 (ma 2) = .inl (G.2 0, 178, .inl sf) := (o_10327 (ma 2) ).trans f_10345
          have f_10347 : F_10332 (ma 2) = .inl (G.2 0, 178, .inl sf) := (o_10336 (ma 2) ).trans f_10346
          have f_10348 : F_10313 (ma 3) = .inl (G.2 0, 2, .inl kf) := (o_10317 (ma 3) ).trans fk
          have f_10349 : F_10319 (ma 3) = .inl (G.2 0, 2, .inl kf) := (o_10321 (ma 3) (ne_ao f_10348 f_10318)).trans f_10348
          have f_10350 : F_10323 (ma 3) = .inl (G.2 0, 2, .inl kf) := (o_10327 (ma 3) ).trans f_10349
          have f_10351 : F_10332 (ma 3) = .inl (G.2 0, 2, .inl kf) := (o_10336 (ma 3) ).trans f_10350
          have f_10352 : F_10313 (ma 4) = pcE G pl := (o_10317 (ma 4) ).trans fp
          have f_10353 : F_10319 (ma 4) = pcE G pl := (o_10321 (ma 4) (ne_ao f_10352 f_10318)).trans f_10352
          have f_10354 : F_10323 (ma 4) = pcE G pl := (o_10327 (ma 4) ).trans f_10353
          have f_10355 : F_10332 (ma 4) = pcE G pl := (o_10336 (ma 4) ).trans f_10354
          have f_10356 : F_10313 (ma 5) = .inl (G.2 0, 60, .inl tf) := (o_10317 (ma 5) ).trans ft
          have f_10357 : F_10319 (ma 5) = .inl (G.2 0, 60, .inl tf) := (o_10321 (ma 5) (ne_ao f_10356 f_10318)).trans f_10356
          have f_10358 : F_10323 (ma 5) = .inl (G.2 0, 60, .inl tf) := (o_10327 (ma 5) ).trans f_10357
          have f_10359 : F_10332 (ma 5) = .inl (G.2 0, 60, .inl tf) := (o_10336 (ma 5) ).trans f_10358
          have f_10360 : F_10313 (ma 6) = .inl (G.2 0, 52, .inl pf) := (o_10317 (ma 6) ).trans fq
          have f_10361 : F_10319 (ma 6) = .inl (G.2 0, 52, .inl pf) := (o_10321 (ma 6) (ne_ao f_10360 f_10318)).trans f_10360
          have f_10362 : F_10323 (ma 6) = .inl (G.2 0, 52, .inl pf) := (o_10327 (ma 6) ).trans f_10361
          have f_10363 : F_10332 (ma 6) = .inl (G.2 0, 52, .inl pf) := (o_10336 (ma 6) ).trans f_10362
          exact r_i C0 hr hlk hw (v := nI 0) rfl ⟨congrArg nI (by omega), ⟨_, _, _, _, _, _, _, _, _, f_10338, ⟨hm0, hm1, rfl⟩, ⟨f_10339, hz⟩, ⟨f_10343, hhf⟩, ⟨f_10347, hsf⟩, ⟨f_10351, hkf⟩, f_10355, ⟨f_10359, htf⟩, f_10363⟩, (fun q k0 k1 => ((o_10336 q ).trans ((o_10327 q ).trans ((o_10321 q k0).trans (o_10317 q )))))⟩ (Nat.le_refl _) (Nat.le_refl _) dX6_lacks_56 hQ
      · skip
        rw [if_neg hb_10337] at he_10335
        subst he_10335
        refine n_if_eq (tgt := 38) hx hb dX6_lacks_31 (by decide) (by decide) (fun c_31 => ?_) (fun c_31 => ?_)
        · skip
          refine lv_aload_n hx hb dX6_lacks_38 rfl (lv_at hl 0 rfl) ?_
          have f_10364 : F_10332 b = mO ma ((va_up mi 2 (nI 0))) hh := (o_10336 b ).trans f_10328
          refine q_get C0 hw mb f_10364 fw_X6_7 rfl dX6_lacks_39 ?_
          refine lv_iconst (v := nI 0) hx hb dX6_lacks_42 (by decide) ?_
          have f_10365 : F_10332 (ma 0) = .inl (G.2 0, 89, .inl zf) := (o_10336 (ma 0) ).trans f_10331
          refine q_iald C0 hw ((hma 0 (by decide))) f_10365 (0) (by omega) (by decide) (v := nI (A.1.1)) hz0 dX6_lacks_43 ?_
          refine lv_iload_n hx hb dX6_lacks_44 rfl (lv_at hl 1 rfl) ?_
          refine q_calli hw (q_runS (As := [.int (nI (108))]) (c_X6_workOf_108 l G L F_10332 ) C0 hw sw_X6_187 rfl hl.1 rfl (Nat.le_of_ble_eq_true rfl) dX6_lacks_45 ⟨by decide, by decide⟩ ⟨by decide, by decide⟩) rfl rfl (fun r_10368 F_10366 H locs hw hp_10367 => ?_)
          obtain ⟨he_10369, o_10370⟩ := hp_10367
          subst he_10369
          refine n_imul hx hb dX6_lacks_48 ?_
          refine lv_aload_n hx hb dX6_lacks_49 rfl (lv_at hl 0 rfl) ?_
          have f_10371 : F_10366 b = mO ma ((va_up mi 2 (nI 0))) hh := (o_10370 b ).trans f_10364
          refine q_get C0 hw mb f_10371 fw_X6_7 rfl dX6_lacks_50 ?_
          refine lv_iconst (v := nI 1) hx hb dX6_lacks_53 (by decide) ?_
          have f_10372 : F_10366 (ma 0) = .inl (G.2 0, 89, .inl zf) := (o_10370 (ma 0) ).trans f_10365
          refine q_iald C0 hw ((hma 0 (by decide))) f_10372 (1) (by omega) (by decide) (v := nI (A.1.2.1)) hz1 dX6_lacks_54 ?_
          refine n_isub hx hb (by omega) dX6_lacks_55 ?_
          have f_10373 : F_10313 (ma 1) = .inl (G.2 0, 534, .inl hf) := (o_10317 (ma 1) ).trans fh
          have f_10374 : F_10319 (ma 1) = .inl (G.2 0, 534, .inl hf) := (o_10321 (ma 1) (ne_ao f_10373 f_10318)).trans f_10373
          have f_10375 : F_10323 (ma 1) = .inl (G.2 0, 534, .inl hf) := (o_10327 (ma 1) ).trans f_10374
          have f_10376 : F_10332 (ma 1) = .inl (G.2 0, 534, .inl hf) := (o_10336 (ma 1) ).trans f_10375
          have f_10377 : F_10366 (ma 1) = .inl (G.2 0, 534, .inl hf) := (o_10370 (ma 1) ).trans f_10376
          have f_10378 : F_10313 (ma 2) = .inl (G.2 0, 178, .inl sf) := (o_10317 (ma 2) ).trans fs
          have f_10379 : F_10319 (ma 2) = .inl (G.2 0, 178, .inl sf) := (o_10321 (ma 2) (ne_ao f_10378 f_10318)).trans f_10378
          have f_10380 : F_10323 (ma 2) = .inl (G.2 0, 178, .inl sf) := (o_10327 (ma 2) ).trans f_10379
          have f_10381 : F_10332 (ma 2) = .inl (G.2 0, 178, .inl sf) := (o_10336 (ma 2) ).trans f_10380
          have f_10382 : F_10366 (ma 2) = .inl (G.2 0, 178, .inl sf) := (o_10370 (ma 2) ).trans f_10381
          have f_10383 : F_10313 (ma 3) = .inl (G.2 0, 2, .inl kf) := (o_10317 (ma 3) ).trans fk
          have f_10384 : F_10319 (ma 3) = .inl (G.2 0, 2, .inl kf) := (o_10321 (ma 3) (ne_ao f_10383 f_10318)).trans f_10383
          have f_10385 : F_10323 (ma 3) = .inl (G.2 0, 2, .inl kf) := (o_10327 (ma 3) ).trans f_10384
          have f_10386 : F_10332 (ma 3) = .inl (G.2 0, 2, .inl kf) := (o_10336 (ma 3) ).trans f_10385
          have f_10387 : F_10366 (ma 3) = .inl (G.2 0, 2, .inl kf) := (o_10370 (ma 3) ).trans f_10386
          have f_10388 : F_10313 (ma 4) = pcE G pl := (o_10317 (ma 4) ).trans fp
          have f_10389 : F_10319 (ma 4) = pcE G pl := (o_10321 (ma 4) (ne_ao f_10388 f_10318)).trans f_10388
          have f_10390 : F_10323 (ma 4) = pcE G pl := (o_10327 (ma 4) ).trans f_10389
          have f_10391 : F_10332 (ma 4) = pcE G pl := (o_10336 (ma 4) ).trans f_10390
          have f_10392 : F_10366 (ma 4) = pcE G pl := (o_10370 (ma 4) ).trans f_10391
          have f_10393 : F_10313 (ma 5) = .inl (G.2 0, 60, .inl tf) := (o_10317 (ma 5) ).trans ft
          have f_10394 : F_10319 (ma 5) = .inl (G.2 0, 60, .inl tf) := (o_10321 (ma 5) (ne_ao f_10393 f_10318)).trans f_10393
          have f_10395 : F_10323 (ma 5) = .inl (G.2 0, 60, .inl tf) := (o_10327 (ma 5) ).trans f_10394
          have f_10396 : F_10332 (ma 5) = .inl (G.2 0, 60, .inl tf) := (o_10336 (ma 5) ).trans f_10395
          have f_10397 : F_10366 (ma 5) = .inl (G.2 0, 60, .inl tf) := (o_10370 (ma 5) ).trans f_10396
          have f_10398 : F_10313 (ma 6) = .inl (G.2 0, 52, .inl pf) := (o_10317 (ma 6) ).trans fq
          have f_10399 : F_10319 (ma 6) = .inl (G.2 0, 52, .inl pf) := (o_10321 (ma 6) (ne_ao f_10398 f_10318)).trans f_10398
          have f_10400 : F_10323 (ma 6) = .inl (G.2 0, 52, .inl pf) := (o_10327 (ma 6) ).trans f_10399
          have f_10401 : F_10332 (ma 6) = .inl (G.2 0, 52, .inl pf) := (o_10336 (ma 6) ).trans f_10400
          have f_10402 : F_10366 (ma 6) = .inl (G.2 0, 52, .inl pf) := (o_10370 (ma 6) ).trans f_10401
          exact r_i C0 hr hlk hw (v := nI (A.1.1 * 6 - A.1.2.1)) rfl ⟨congrArg nI (by omega), ⟨_, _, _, _, _, _, _, _, _, f_10371, ⟨hm0, hm1, rfl⟩, ⟨f_10372, hz⟩, ⟨f_10377, hhf⟩, ⟨f_10382, hsf⟩, ⟨f_10387, hkf⟩, f_10392, ⟨f_10397, htf⟩, f_10402⟩, (fun q k0 k1 => ((o_10370 q ).trans ((o_10336 q ).trans ((o_10327 q ).trans ((o_10321 q k0).trans (o_10317 q ))))))⟩ (Nat.le_refl _) (Nat.le_refl _) dX6_lacks_56 hQ
        · skip
          exact absurd c_31 (by omega)
set_option maxHeartbeats 4000000 in
set_option maxRecDepth 100000 in
theorem k_X6_lacks_101 (l : Launch) (G : Gl) (L : List Nat) (F : Nat → va_E) (b : Nat) (ma : Nat → Nat) (A : AB) (th : Nat) (mb : b ∈ L) (hma : ∀ i, i < 7 → ma i ∈ L) (hM : MW G F b ma A th) (hA : okA A) : CI l yX6_lacks cX6_lacks 2 (some .int) rm_X6_lacks G L F [.ref b, .int (nI (101))] (fun r F1 => r = nI (5 * A.1.1 - A.1.2.1) ∧ MW G F1 b ma A 0 ∧ mFr F F1 b ma) := by
  obtain ⟨mi, hh, zf, hf, sf, kf, tf, pf, pl, fb, ⟨hm0, hm1, hm2⟩, ⟨fz, hz⟩, ⟨fh, hhf⟩, ⟨fs, hsf⟩, ⟨fk, hkf⟩, fp, ⟨ft, htf⟩, fq⟩ := hM
  obtain ⟨hz0, hz1, hz2, hz3, hz4⟩ := ne_z zf hz
  have hc : A.1.1 ≤ 6 := hA.1.2.1
  have hc2 : 2 ≤ A.1.1 := hA.1.1
  have hpu : A.1.2.1 ≤ 100000 := hA.1.2.2.1
  have hrw : ∀ i k, i < 12 → k < 7 → zf (5 + 7 * i + k) = nI (A.1.2.2.2.2.2 i k).val := hz.row
  refine CG_of (by decide) (Nat.le_of_ble_eq_true rfl) rfl ?_
  intro p e s m args below meth c Q C0 hr hlk hnm hQ hw ls hl
  have hx := C0.x
  have hb := C0.b
  refine lv_aload_n hx hb dX6_lacks_0 rfl (lv_at hl 0 rfl) ?_
  refine lv_iload_n hx hb dX6_lacks_1 rfl (lv_at hl 1 rfl) ?_
  refine q_calli hw (q_runS (As := [.int (nI (101))]) (c_X6_slotsOf_101 l G L F ) C0 hw sw_X6_174 rfl hl.1 rfl (Nat.le_of_ble_eq_true rfl) dX6_lacks_2 ⟨by decide, by decide⟩ ⟨by decide, by decide⟩) rfl rfl (fun r_10405 F_10403 H locs hw hp_10404 => ?_)
  obtain ⟨he_10406, o_10407⟩ := hp_10404
  subst he_10406
  refine n_if_le (tgt := 12) hx hb dX6_lacks_5 (by decide) (by decide) (fun c_5 => ?_) (fun c_5 => ?_)
  · skip
    exact absurd c_5 (by omega)
  · skip
    refine lv_iconst (v := nI 0) hx hb dX6_lacks_8 (by decide) ?_
    refine lv_goto (tgt := 13) hx hb dX6_lacks_9 (by decide) ?_
    have f_10408 : F_10403 b = mO ma mi hh := (o_10407 b ).trans fb
    refine q_put C0 hw mb f_10408 fw_X6_31 pw_X6_8 rfl rfl rfl (Nat.le_of_ble_eq_true rfl) dX6_lacks_13 (fun F_10409 H locs hw f_10410 o_10411 => ?_)
    have f_10410 : F_10409 b = .inr (6, [.ref (ma 0), .int (mi 0), .ref (ma 1), .ref (ma 2), .ref (ma 3), .ref (ma 4), .int (mi 1), .ref (ma 5), .int (nI (0)), .ref (ma 6), .int (mi 3), .int (mi 4), .long (hh)]) := f_10410
    refine lv_aload_n hx hb dX6_lacks_16 rfl (lv_at hl 0 rfl) ?_
    refine q_get C0 hw mb f_10410 fw_X6_31 rfl dX6_lacks_17 ?_
    refine n_if_gt (tgt := 34) hx hb dX6_lacks_20 (by decide) (by decide) (fun c_20 => ?_) (fun c_20 => ?_)
    · skip
      exact absurd c_20 (by omega)
    · skip
      have hb_10412 : F_10409 b = mO ma (va_up mi 2 (nI 0)) hh := f_10410
      refine lv_aload_n hx hb dX6_lacks_23 rfl (lv_at hl 0 rfl) ?_
      refine lv_iload_n hx hb dX6_lacks_24 rfl (lv_at hl 1 rfl) ?_
      refine q_calli hw (q_runS (As := [.int (nI (101))]) (c_X6_workOf_101 l G L F_10409 ) C0 hw sw_X6_187 rfl hl.1 rfl (Nat.le_of_ble_eq_true rfl) dX6_lacks_25 ⟨by decide, by decide⟩ ⟨by decide, by decide⟩) rfl rfl (fun r_10415 F_10413 H locs hw hp_10414 => ?_)
      obtain ⟨he_10416, o_10417⟩ := hp_10414
      subst he_10416
      have f_10418 : F_10413 b = mO ma ((va_up mi 2 (nI 0))) hh := (o_10417 b ).trans hb_10412
      have f_10419 : F_10403 (ma 0) = .inl (G.2 0, 89, .inl zf) := (o_10407 (ma 0) ).trans fz
      have f_10420 : F_10409 (ma 0) = .inl (G.2 0, 89, .inl zf) := (o_10411 (ma 0) (ne_ao f_10419 f_10408)).trans f_10419
      have f_10421 : F_10413 (ma 0) = .inl (G.2 0, 89, .inl zf) := (o_10417 (ma 0) ).trans f_10420
      refine q_calli hw (q_runV (As := [.int (nI (5))]) (c_X6_canPay l G L F_10413 b ma (va_up mi 2 (nI 0)) hh zf 5 A.1.1 A.1.2.1 mb f_10418 hma f_10421 hz0 hz1 hc (by omega) hpu (by omega)) C0 hw vw_X6_106 mb f_10418 rfl rfl rfl hl.1 rfl (Nat.le_of_ble_eq_true rfl) dX6_lacks_28 ⟨by decide, by decide⟩ ⟨by decide, by decide⟩) rfl rfl (fun r_10424 F_10422 H locs hw hp_10423 => ?_)
      obtain ⟨he_10425, o_10426⟩ := hp_10423
      by_cases hb_10427 : A.1.1 * 5 ≤ A.1.2.1
      · skip
        rw [if_pos hb_10427] at he_10425
        subst he_10425
        refine n_if_eq (tgt := 38) hx hb dX6_lacks_31 (by decide) (by decide) (fun c_31 => ?_) (fun c_31 => ?_)
        · skip
          exact absurd c_31 (by omega)
        · skip
          refine lv_iconst (v := nI 0) hx hb dX6_lacks_34 (by decide) ?_
          refine lv_goto (tgt := 56) hx hb dX6_lacks_35 (by decide) ?_
          have f_10428 : F_10422 b = mO ma ((va_up mi 2 (nI 0))) hh := (o_10426 b ).trans f_10418
          have f_10429 : F_10422 (ma 0) = .inl (G.2 0, 89, .inl zf) := (o_10426 (ma 0) ).trans f_10421
          have f_10430 : F_10403 (ma 1) = .inl (G.2 0, 534, .inl hf) := (o_10407 (ma 1) ).trans fh
          have f_10431 : F_10409 (ma 1) = .inl (G.2 0, 534, .inl hf) := (o_10411 (ma 1) (ne_ao f_10430 f_10408)).trans f_10430
          have f_10432 : F_10413 (ma 1) = .inl (G.2 0, 534, .inl hf) := (o_10417 (ma 1) ).trans f_10431
          have f_10433 : F_10422 (ma 1) = .inl (G.2 0, 534, .inl hf) := (o_10426 (ma 1) ).trans f_10432
          have f_10434 : F_10403 (ma 2) = .inl (G.2 0, 178, .inl sf) := (o_10407 (ma 2) ).trans fs
          have f_10435 : F_10409 (ma 2) = .inl (G.2 0, 178, .inl sf) := (o_10411 (ma 2) (ne_ao f_10434 f_10408)).trans f_10434
          have f_10436 : F_10413 (ma 2) = .inl (G.2 0, 178, .inl sf) := (o_10417 (ma 2) ).trans f_10435
          have f_10437 : F_10422 (ma 2) = .inl (G.2 0, 178, .inl sf) := (o_10426 (ma 2) ).trans f_10436
          have f_10438 : F_10403 (ma 3) = .inl (G.2 0, 2, .inl kf) := (o_10407 (ma 3) ).trans fk
          have f_10439 : F_10409 (ma 3) = .inl (G.2 0, 2, .inl kf) := (o_10411 (ma 3) (ne_ao f_10438 f_10408)).trans f_10438
          have f_10440 : F_10413 (ma 3) = .inl (G.2 0, 2, .inl kf) := (o_10417 (ma 3) ).trans f_10439
          have f_10441 : F_10422 (ma 3) = .inl (G.2 0, 2, .inl kf) := (o_10426 (ma 3) ).trans f_10440
          have f_10442 : F_10403 (ma 4) = pcE G pl := (o_10407 (ma 4) ).trans fp
          have f_10443 : F_10409 (ma 4) = pcE G pl := (o_10411 (ma 4) (ne_ao f_10442 f_10408)).trans f_10442
          have f_10444 : F_10413 (ma 4) = pcE G pl := (o_10417 (ma 4) ).trans f_10443
          have f_10445 : F_10422 (ma 4) = pcE G pl := (o_10426 (ma 4) ).trans f_10444
          have f_10446 : F_10403 (ma 5) = .inl (G.2 0, 60, .inl tf) := (o_10407 (ma 5) ).trans ft
          have f_10447 : F_10409 (ma 5) = .inl (G.2 0, 60, .inl tf) := (o_10411 (ma 5) (ne_ao f_10446 f_10408)).trans f_10446
          have f_10448 : F_10413 (ma 5) = .inl (G.2 0, 60, .inl tf) := (o_10417 (ma 5) ).trans f_10447
          have f_10449 : F_10422 (ma 5) = .inl (G.2 0, 60, .inl tf) := (o_10426 (ma 5) ).trans f_10448
          have f_10450 : F_10403 (ma 6) = .inl (G.2 0, 52, .inl pf) := (o_10407 (ma 6) ).trans fq
          have f_10451 : F_10409 (ma 6) = .inl (G.2 0, 52, .inl pf) := (o_10411 (ma 6) (ne_ao f_10450 f_10408)).trans f_10450
          have f_10452 : F_10413 (ma 6) = .inl (G.2 0, 52, .inl pf) := (o_10417 (ma 6) ).trans f_10451
          have f_10453 : F_10422 (ma 6) = .inl (G.2 0, 52, .inl pf) := (o_10426 (ma 6) ).trans f_10452
          exact r_i C0 hr hlk hw (v := nI 0) rfl ⟨congrArg nI (by omega), ⟨_, _, _, _, _, _, _, _, _, f_10428, ⟨hm0, hm1, rfl⟩, ⟨f_10429, hz⟩, ⟨f_10433, hhf⟩, ⟨f_10437, hsf⟩, ⟨f_10441, hkf⟩, f_10445, ⟨f_10449, htf⟩, f_10453⟩, (fun q k0 k1 => ((o_10426 q ).trans ((o_10417 q ).trans ((o_10411 q k0).trans (o_10407 q )))))⟩ (Nat.le_refl _) (Nat.le_refl _) dX6_lacks_56 hQ
      · skip
        rw [if_neg hb_10427] at he_10425
        subst he_10425
        refine n_if_eq (tgt := 38) hx hb dX6_lacks_31 (by decide) (by decide) (fun c_31 => ?_) (fun c_31 => ?_)
        · skip
          refine lv_aload_n hx hb dX6_lacks_38 rfl (lv_at hl 0 rfl) ?_
          have f_10454 : F_10422 b = mO ma ((va_up mi 2 (nI 0))) hh := (o_10426 b ).trans f_10418
          refine q_get C0 hw mb f_10454 fw_X6_7 rfl dX6_lacks_39 ?_
          refine lv_iconst (v := nI 0) hx hb dX6_lacks_42 (by decide) ?_
          have f_10455 : F_10422 (ma 0) = .inl (G.2 0, 89, .inl zf) := (o_10426 (ma 0) ).trans f_10421
          refine q_iald C0 hw ((hma 0 (by decide))) f_10455 (0) (by omega) (by decide) (v := nI (A.1.1)) hz0 dX6_lacks_43 ?_
          refine lv_iload_n hx hb dX6_lacks_44 rfl (lv_at hl 1 rfl) ?_
          refine q_calli hw (q_runS (As := [.int (nI (101))]) (c_X6_workOf_101 l G L F_10422 ) C0 hw sw_X6_187 rfl hl.1 rfl (Nat.le_of_ble_eq_true rfl) dX6_lacks_45 ⟨by decide, by decide⟩ ⟨by decide, by decide⟩) rfl rfl (fun r_10458 F_10456 H locs hw hp_10457 => ?_)
          obtain ⟨he_10459, o_10460⟩ := hp_10457
          subst he_10459
          refine n_imul hx hb dX6_lacks_48 ?_
          refine lv_aload_n hx hb dX6_lacks_49 rfl (lv_at hl 0 rfl) ?_
          have f_10461 : F_10456 b = mO ma ((va_up mi 2 (nI 0))) hh := (o_10460 b ).trans f_10454
          refine q_get C0 hw mb f_10461 fw_X6_7 rfl dX6_lacks_50 ?_
          refine lv_iconst (v := nI 1) hx hb dX6_lacks_53 (by decide) ?_
          have f_10462 : F_10456 (ma 0) = .inl (G.2 0, 89, .inl zf) := (o_10460 (ma 0) ).trans f_10455
          refine q_iald C0 hw ((hma 0 (by decide))) f_10462 (1) (by omega) (by decide) (v := nI (A.1.2.1)) hz1 dX6_lacks_54 ?_
          refine n_isub hx hb (by omega) dX6_lacks_55 ?_
          have f_10463 : F_10403 (ma 1) = .inl (G.2 0, 534, .inl hf) := (o_10407 (ma 1) ).trans fh
          have f_10464 : F_10409 (ma 1) = .inl (G.2 0, 534, .inl hf) := (o_10411 (ma 1) (ne_ao f_10463 f_10408)).trans f_10463
          have f_10465 : F_10413 (ma 1) = .inl (G.2 0, 534, .inl hf) := (o_10417 (ma 1) ).trans f_10464
          have f_10466 : F_10422 (ma 1) = .inl (G.2 0, 534, .inl hf) := (o_10426 (ma 1) ).trans f_10465
          have f_10467 : F_10456 (ma 1) = .inl (G.2 0, 534, .inl hf) := (o_10460 (ma 1) ).trans f_10466
          have f_10468 : F_10403 (ma 2) = .inl (G.2 0, 178, .inl sf) := (o_10407 (ma 2) ).trans fs
          have f_10469 : F_10409 (ma 2) = .inl (G.2 0, 178, .inl sf) := (o_10411 (ma 2) (ne_ao f_10468 f_10408)).trans f_10468
          have f_10470 : F_10413 (ma 2) = .inl (G.2 0, 178, .inl sf) := (o_10417 (ma 2) ).trans f_10469
          have f_10471 : F_10422 (ma 2) = .inl (G.2 0, 178, .inl sf) := (o_10426 (ma 2) ).trans f_10470
          have f_10472 : F_10456 (ma 2) = .inl (G.2 0, 178, .inl sf) := (o_10460 (ma 2) ).trans f_10471
          have f_10473 : F_10403 (ma 3) = .inl (G.2 0, 2, .inl kf) := (o_10407 (ma 3) ).trans fk
          have f_10474 : F_10409 (ma 3) = .inl (G.2 0, 2, .inl kf) := (o_10411 (ma 3) (ne_ao f_10473 f_10408)).trans f_10473
          have f_10475 : F_10413 (ma 3) = .inl (G.2 0, 2, .inl kf) := (o_10417 (ma 3) ).trans f_10474
          have f_10476 : F_10422 (ma 3) = .inl (G.2 0, 2, .inl kf) := (o_10426 (ma 3) ).trans f_10475
          have f_10477 : F_10456 (ma 3) = .inl (G.2 0, 2, .inl kf) := (o_10460 (ma 3) ).trans f_10476
          have f_10478 : F_10403 (ma 4) = pcE G pl := (o_10407 (ma 4) ).trans fp
          have f_10479 : F_10409 (ma 4) = pcE G pl := (o_10411 (ma 4) (ne_ao f_10478 f_10408)).trans f_10478
          have f_10480 : F_10413 (ma 4) = pcE G pl := (o_10417 (ma 4) ).trans f_10479
          have f_10481 : F_10422 (ma 4) = pcE G pl := (o_10426 (ma 4) ).trans f_10480
          have f_10482 : F_10456 (ma 4) = pcE G pl := (o_10460 (ma 4) ).trans f_10481
          have f_10483 : F_10403 (ma 5) = .inl (G.2 0, 60, .inl tf) := (o_10407 (ma 5) ).trans ft
          have f_10484 : F_10409 (ma 5) = .inl (G.2 0, 60, .inl tf) := (o_10411 (ma 5) (ne_ao f_10483 f_10408)).trans f_10483
          have f_10485 : F_10413 (ma 5) = .inl (G.2 0, 60, .inl tf) := (o_10417 (ma 5) ).trans f_10484
          have f_10486 : F_10422 (ma 5) = .inl (G.2 0, 60, .inl tf) := (o_10426 (ma 5) ).trans f_10485
          have f_10487 : F_10456 (ma 5) = .inl (G.2 0, 60, .inl tf) := (o_10460 (ma 5) ).trans f_10486
          have f_10488 : F_10403 (ma 6) = .inl (G.2 0, 52, .inl pf) := (o_10407 (ma 6) ).trans fq
          have f_10489 : F_10409 (ma 6) = .inl (G.2 0, 52, .inl pf) := (o_10411 (ma 6) (ne_ao f_10488 f_10408)).trans f_10488
          have f_10490 : F_10413 (ma 6) = .inl (G.2 0, 52, .inl pf) := (o_10417 (ma 6) ).trans f_10489
          have f_10491 : F_10422 (ma 6) = .inl (G.2 0, 52, .inl pf) := (o_10426 (ma 6) ).trans f_10490
          have f_10492 : F_10456 (ma 6) = .inl (G.2 0, 52, .inl pf) := (o_10460 (ma 6) ).trans f_10491
          exact r_i C0 hr hlk hw (v := nI (A.1.1 * 5 - A.1.2.1)) rfl ⟨congrArg nI (by omega), ⟨_, _, _, _, _, _, _, _, _, f_10461, ⟨hm0, hm1, rfl⟩, ⟨f_10462, hz⟩, ⟨f_10467, hhf⟩, ⟨f_10472, hsf⟩, ⟨f_10477, hkf⟩, f_10482, ⟨f_10487, htf⟩, f_10492⟩, (fun q k0 k1 => ((o_10460 q ).trans ((o_10426 q ).trans ((o_10417 q ).trans ((o_10411 q k0).trans (o_10407 q ))))))⟩ (Nat.le_refl _) (Nat.le_refl _) dX6_lacks_56 hQ
        · skip
          exact absurd c_31 (by omega)
set_option maxHeartbeats 4000000 in
set_option maxRecDepth 100000 in
theorem k_X6_lacks_99 (l : Launch) (G : Gl) (L : List Nat) (F : Nat → va_E) (b : Nat) (ma : Nat → Nat) (A : AB) (th : Nat) (mb : b ∈ L) (hma : ∀ i, i < 7 → ma i ∈ L) (hM : MW G F b ma A th) (hA : okA A) : CI l yX6_lacks cX6_lacks 2 (some .int) rm_X6_lacks G L F [.ref b, .int (nI (99))] (fun r F1 => r = nI (4 * A.1.1 - A.1.2.1) ∧ MW G F1 b ma A 0 ∧ mFr F F1 b ma) := by
  obtain ⟨mi, hh, zf, hf, sf, kf, tf, pf, pl, fb, ⟨hm0, hm1, hm2⟩, ⟨fz, hz⟩, ⟨fh, hhf⟩, ⟨fs, hsf⟩, ⟨fk, hkf⟩, fp, ⟨ft, htf⟩, fq⟩ := hM
  obtain ⟨hz0, hz1, hz2, hz3, hz4⟩ := ne_z zf hz
  have hc : A.1.1 ≤ 6 := hA.1.2.1
  have hc2 : 2 ≤ A.1.1 := hA.1.1
  have hpu : A.1.2.1 ≤ 100000 := hA.1.2.2.1
  have hrw : ∀ i k, i < 12 → k < 7 → zf (5 + 7 * i + k) = nI (A.1.2.2.2.2.2 i k).val := hz.row
  refine CG_of (by decide) (Nat.le_of_ble_eq_true rfl) rfl ?_
  intro p e s m args below meth c Q C0 hr hlk hnm hQ hw ls hl
  have hx := C0.x
  have hb := C0.b
  refine lv_aload_n hx hb dX6_lacks_0 rfl (lv_at hl 0 rfl) ?_
  refine lv_iload_n hx hb dX6_lacks_1 rfl (lv_at hl 1 rfl) ?_
  refine q_calli hw (q_runS (As := [.int (nI (99))]) (c_X6_slotsOf_99 l G L F ) C0 hw sw_X6_174 rfl hl.1 rfl (Nat.le_of_ble_eq_true rfl) dX6_lacks_2 ⟨by decide, by decide⟩ ⟨by decide, by decide⟩) rfl rfl (fun r_10495 F_10493 H locs hw hp_10494 => ?_)
  obtain ⟨he_10496, o_10497⟩ := hp_10494
  subst he_10496
  refine n_if_le (tgt := 12) hx hb dX6_lacks_5 (by decide) (by decide) (fun c_5 => ?_) (fun c_5 => ?_)
  · skip
    exact absurd c_5 (by omega)
  · skip
    refine lv_iconst (v := nI 0) hx hb dX6_lacks_8 (by decide) ?_
    refine lv_goto (tgt := 13) hx hb dX6_lacks_9 (by decide) ?_
    have f_10498 : F_10493 b = mO ma mi hh := (o_10497 b ).trans fb
    refine q_put C0 hw mb f_10498 fw_X6_31 pw_X6_8 rfl rfl rfl (Nat.le_of_ble_eq_true rfl) dX6_lacks_13 (fun F_10499 H locs hw f_10500 o_10501 => ?_)
    have f_10500 : F_10499 b = .inr (6, [.ref (ma 0), .int (mi 0), .ref (ma 1), .ref (ma 2), .ref (ma 3), .ref (ma 4), .int (mi 1), .ref (ma 5), .int (nI (0)), .ref (ma 6), .int (mi 3), .int (mi 4), .long (hh)]) := f_10500
    refine lv_aload_n hx hb dX6_lacks_16 rfl (lv_at hl 0 rfl) ?_
    refine q_get C0 hw mb f_10500 fw_X6_31 rfl dX6_lacks_17 ?_
    refine n_if_gt (tgt := 34) hx hb dX6_lacks_20 (by decide) (by decide) (fun c_20 => ?_) (fun c_20 => ?_)
    · skip
      exact absurd c_20 (by omega)
    · skip
      have hb_10502 : F_10499 b = mO ma (va_up mi 2 (nI 0)) hh := f_10500
      refine lv_aload_n hx hb dX6_lacks_23 rfl (lv_at hl 0 rfl) ?_
      refine lv_iload_n hx hb dX6_lacks_24 rfl (lv_at hl 1 rfl) ?_
      refine q_calli hw (q_runS (As := [.int (nI (99))]) (c_X6_workOf_99 l G L F_10499 ) C0 hw sw_X6_187 rfl hl.1 rfl (Nat.le_of_ble_eq_true rfl) dX6_lacks_25 ⟨by decide, by decide⟩ ⟨by decide, by decide⟩) rfl rfl (fun r_10505 F_10503 H locs hw hp_10504 => ?_)
      obtain ⟨he_10506, o_10507⟩ := hp_10504
      subst he_10506
      have f_10508 : F_10503 b = mO ma ((va_up mi 2 (nI 0))) hh := (o_10507 b ).trans hb_10502
      have f_10509 : F_10493 (ma 0) = .inl (G.2 0, 89, .inl zf) := (o_10497 (ma 0) ).trans fz
      have f_10510 : F_10499 (ma 0) = .inl (G.2 0, 89, .inl zf) := (o_10501 (ma 0) (ne_ao f_10509 f_10498)).trans f_10509
      have f_10511 : F_10503 (ma 0) = .inl (G.2 0, 89, .inl zf) := (o_10507 (ma 0) ).trans f_10510
      refine q_calli hw (q_runV (As := [.int (nI (4))]) (c_X6_canPay l G L F_10503 b ma (va_up mi 2 (nI 0)) hh zf 4 A.1.1 A.1.2.1 mb f_10508 hma f_10511 hz0 hz1 hc (by omega) hpu (by omega)) C0 hw vw_X6_106 mb f_10508 rfl rfl rfl hl.1 rfl (Nat.le_of_ble_eq_true rfl) dX6_lacks_28 ⟨by decide, by decide⟩ ⟨by decide, by decide⟩) rfl rfl (fun r_10514 F_10512 H locs hw hp_10513 => ?_)
      obtain ⟨he_10515, o_10516⟩ := hp_10513
      by_cases hb_10517 : A.1.1 * 4 ≤ A.1.2.1
      · skip
        rw [if_pos hb_10517] at he_10515
        subst he_10515
        refine n_if_eq (tgt := 38) hx hb dX6_lacks_31 (by decide) (by decide) (fun c_31 => ?_) (fun c_31 => ?_)
        · skip
          exact absurd c_31 (by omega)
        · skip
          refine lv_iconst (v := nI 0) hx hb dX6_lacks_34 (by decide) ?_
          refine lv_goto (tgt := 56) hx hb dX6_lacks_35 (by decide) ?_
          have f_10518 : F_10512 b = mO ma ((va_up mi 2 (nI 0))) hh := (o_10516 b ).trans f_10508
          have f_10519 : F_10512 (ma 0) = .inl (G.2 0, 89, .inl zf) := (o_10516 (ma 0) ).trans f_10511
          have f_10520 : F_10493 (ma 1) = .inl (G.2 0, 534, .inl hf) := (o_10497 (ma 1) ).trans fh
          have f_10521 : F_10499 (ma 1) = .inl (G.2 0, 534, .inl hf) := (o_10501 (ma 1) (ne_ao f_10520 f_10498)).trans f_10520
          have f_10522 : F_10503 (ma 1) = .inl (G.2 0, 534, .inl hf) := (o_10507 (ma 1) ).trans f_10521
          have f_10523 : F_10512 (ma 1) = .inl (G.2 0, 534, .inl hf) := (o_10516 (ma 1) ).trans f_10522
          have f_10524 : F_10493 (ma 2) = .inl (G.2 0, 178, .inl sf) := (o_10497 (ma 2) ).trans fs
          have f_10525 : F_10499 (ma 2) = .inl (G.2 0, 178, .inl sf) := (o_10501 (ma 2) (ne_ao f_10524 f_10498)).trans f_10524
          have f_10526 : F_10503 (ma 2) = .inl (G.2 0, 178, .inl sf) := (o_10507 (ma 2) ).trans f_10525
          have f_10527 : F_10512 (ma 2) = .inl (G.2 0, 178, .inl sf) := (o_10516 (ma 2) ).trans f_10526
          have f_10528 : F_10493 (ma 3) = .inl (G.2 0, 2, .inl kf) := (o_10497 (ma 3) ).trans fk
          have f_10529 : F_10499 (ma 3) = .inl (G.2 0, 2, .inl kf) := (o_10501 (ma 3) (ne_ao f_10528 f_10498)).trans f_10528
          have f_10530 : F_10503 (ma 3) = .inl (G.2 0, 2, .inl kf) := (o_10507 (ma 3) ).trans f_10529
          have f_10531 : F_10512 (ma 3) = .inl (G.2 0, 2, .inl kf) := (o_10516 (ma 3) ).trans f_10530
          have f_10532 : F_10493 (ma 4) = pcE G pl := (o_10497 (ma 4) ).trans fp
          have f_10533 : F_10499 (ma 4) = pcE G pl := (o_10501 (ma 4) (ne_ao f_10532 f_10498)).trans f_10532
          have f_10534 : F_10503 (ma 4) = pcE G pl := (o_10507 (ma 4) ).trans f_10533
          have f_10535 : F_10512 (ma 4) = pcE G pl := (o_10516 (ma 4) ).trans f_10534
          have f_10536 : F_10493 (ma 5) = .inl (G.2 0, 60, .inl tf) := (o_10497 (ma 5) ).trans ft
          have f_10537 : F_10499 (ma 5) = .inl (G.2 0, 60, .inl tf) := (o_10501 (ma 5) (ne_ao f_10536 f_10498)).trans f_10536
          have f_10538 : F_10503 (ma 5) = .inl (G.2 0, 60, .inl tf) := (o_10507 (ma 5) ).trans f_10537
          have f_10539 : F_10512 (ma 5) = .inl (G.2 0, 60, .inl tf) := (o_10516 (ma 5) ).trans f_10538
          have f_10540 : F_10493 (ma 6) = .inl (G.2 0, 52, .inl pf) := (o_10497 (ma 6) ).trans fq
          have f_10541 : F_10499 (ma 6) = .inl (G.2 0, 52, .inl pf) := (o_10501 (ma 6) (ne_ao f_10540 f_10498)).trans f_10540
          have f_10542 : F_10503 (ma 6) = .inl (G.2 0, 52, .inl pf) := (o_10507 (ma 6) ).trans f_10541
          have f_10543 : F_10512 (ma 6) = .inl (G.2 0, 52, .inl pf) := (o_10516 (ma 6) ).trans f_10542
          exact r_i C0 hr hlk hw (v := nI 0) rfl ⟨congrArg nI (by omega), ⟨_, _, _, _, _, _, _, _, _, f_10518, ⟨hm0, hm1, rfl⟩, ⟨f_10519, hz⟩, ⟨f_10523, hhf⟩, ⟨f_10527, hsf⟩, ⟨f_10531, hkf⟩, f_10535, ⟨f_10539, htf⟩, f_10543⟩, (fun q k0 k1 => ((o_10516 q ).trans ((o_10507 q ).trans ((o_10501 q k0).trans (o_10497 q )))))⟩ (Nat.le_refl _) (Nat.le_refl _) dX6_lacks_56 hQ
      · skip
        rw [if_neg hb_10517] at he_10515
        subst he_10515
        refine n_if_eq (tgt := 38) hx hb dX6_lacks_31 (by decide) (by decide) (fun c_31 => ?_) (fun c_31 => ?_)
        · skip
          refine lv_aload_n hx hb dX6_lacks_38 rfl (lv_at hl 0 rfl) ?_
          have f_10544 : F_10512 b = mO ma ((va_up mi 2 (nI 0))) hh := (o_10516 b ).trans f_10508
          refine q_get C0 hw mb f_10544 fw_X6_7 rfl dX6_lacks_39 ?_
          refine lv_iconst (v := nI 0) hx hb dX6_lacks_42 (by decide) ?_
          have f_10545 : F_10512 (ma 0) = .inl (G.2 0, 89, .inl zf) := (o_10516 (ma 0) ).trans f_10511
          refine q_iald C0 hw ((hma 0 (by decide))) f_10545 (0) (by omega) (by decide) (v := nI (A.1.1)) hz0 dX6_lacks_43 ?_
          refine lv_iload_n hx hb dX6_lacks_44 rfl (lv_at hl 1 rfl) ?_
          refine q_calli hw (q_runS (As := [.int (nI (99))]) (c_X6_workOf_99 l G L F_10512 ) C0 hw sw_X6_187 rfl hl.1 rfl (Nat.le_of_ble_eq_true rfl) dX6_lacks_45 ⟨by decide, by decide⟩ ⟨by decide, by decide⟩) rfl rfl (fun r_10548 F_10546 H locs hw hp_10547 => ?_)
          obtain ⟨he_10549, o_10550⟩ := hp_10547
          subst he_10549
          refine n_imul hx hb dX6_lacks_48 ?_
          refine lv_aload_n hx hb dX6_lacks_49 rfl (lv_at hl 0 rfl) ?_
          have f_10551 : F_10546 b = mO ma ((va_up mi 2 (nI 0))) hh := (o_10550 b ).trans f_10544
          refine q_get C0 hw mb f_10551 fw_X6_7 rfl dX6_lacks_50 ?_
          refine lv_iconst (v := nI 1) hx hb dX6_lacks_53 (by decide) ?_
          have f_10552 : F_10546 (ma 0) = .inl (G.2 0, 89, .inl zf) := (o_10550 (ma 0) ).trans f_10545
          refine q_iald C0 hw ((hma 0 (by decide))) f_10552 (1) (by omega) (by decide) (v := nI (A.1.2.1)) hz1 dX6_lacks_54 ?_
          refine n_isub hx hb (by omega) dX6_lacks_55 ?_
          have f_10553 : F_10493 (ma 1) = .inl (G.2 0, 534, .inl hf) := (o_10497 (ma 1) ).trans fh
          have f_10554 : F_10499 (ma 1) = .inl (G.2 0, 534, .inl hf) := (o_10501 (ma 1) (ne_ao f_10553 f_10498)).trans f_10553
          have f_10555 : F_10503 (ma 1) = .inl (G.2 0, 534, .inl hf) := (o_10507 (ma 1) ).trans f_10554
          have f_10556 : F_10512 (ma 1) = .inl (G.2 0, 534, .inl hf) := (o_10516 (ma 1) ).trans f_10555
          have f_10557 : F_10546 (ma 1) = .inl (G.2 0, 534, .inl hf) := (o_10550 (ma 1) ).trans f_10556
          have f_10558 : F_10493 (ma 2) = .inl (G.2 0, 178, .inl sf) := (o_10497 (ma 2) ).trans fs
          have f_10559 : F_10499 (ma 2) = .inl (G.2 0, 178, .inl sf) := (o_10501 (ma 2) (ne_ao f_10558 f_10498)).trans f_10558
          have f_10560 : F_10503 (ma 2) = .inl (G.2 0, 178, .inl sf) := (o_10507 (ma 2) ).trans f_10559
          have f_10561 : F_10512 (ma 2) = .inl (G.2 0, 178, .inl sf) := (o_10516 (ma 2) ).trans f_10560
          have f_10562 : F_10546 (ma 2) = .inl (G.2 0, 178, .inl sf) := (o_10550 (ma 2) ).trans f_10561
          have f_10563 : F_10493 (ma 3) = .inl (G.2 0, 2, .inl kf) := (o_10497 (ma 3) ).trans fk
          have f_10564 : F_10499 (ma 3) = .inl (G.2 0, 2, .inl kf) := (o_10501 (ma 3) (ne_ao f_10563 f_10498)).trans f_10563
          have f_10565 : F_10503 (ma 3) = .inl (G.2 0, 2, .inl kf) := (o_10507 (ma 3) ).trans f_10564
          have f_10566 : F_10512 (ma 3) = .inl (G.2 0, 2, .inl kf) := (o_10516 (ma 3) ).trans f_10565
          have f_10567 : F_10546 (ma 3) = .inl (G.2 0, 2, .inl kf) := (o_10550 (ma 3) ).trans f_10566
          have f_10568 : F_10493 (ma 4) = pcE G pl := (o_10497 (ma 4) ).trans fp
          have f_10569 : F_10499 (ma 4) = pcE G pl := (o_10501 (ma 4) (ne_ao f_10568 f_10498)).trans f_10568
          have f_10570 : F_10503 (ma 4) = pcE G pl := (o_10507 (ma 4) ).trans f_10569
          have f_10571 : F_10512 (ma 4) = pcE G pl := (o_10516 (ma 4) ).trans f_10570
          have f_10572 : F_10546 (ma 4) = pcE G pl := (o_10550 (ma 4) ).trans f_10571
          have f_10573 : F_10493 (ma 5) = .inl (G.2 0, 60, .inl tf) := (o_10497 (ma 5) ).trans ft
          have f_10574 : F_10499 (ma 5) = .inl (G.2 0, 60, .inl tf) := (o_10501 (ma 5) (ne_ao f_10573 f_10498)).trans f_10573
          have f_10575 : F_10503 (ma 5) = .inl (G.2 0, 60, .inl tf) := (o_10507 (ma 5) ).trans f_10574
          have f_10576 : F_10512 (ma 5) = .inl (G.2 0, 60, .inl tf) := (o_10516 (ma 5) ).trans f_10575
          have f_10577 : F_10546 (ma 5) = .inl (G.2 0, 60, .inl tf) := (o_10550 (ma 5) ).trans f_10576
          have f_10578 : F_10493 (ma 6) = .inl (G.2 0, 52, .inl pf) := (o_10497 (ma 6) ).trans fq
          have f_10579 : F_10499 (ma 6) = .inl (G.2 0, 52, .inl pf) := (o_10501 (ma 6) (ne_ao f_10578 f_10498)).trans f_10578
          have f_10580 : F_10503 (ma 6) = .inl (G.2 0, 52, .inl pf) := (o_10507 (ma 6) ).trans f_10579
          have f_10581 : F_10512 (ma 6) = .inl (G.2 0, 52, .inl pf) := (o_10516 (ma 6) ).trans f_10580
          have f_10582 : F_10546 (ma 6) = .inl (G.2 0, 52, .inl pf) := (o_10550 (ma 6) ).trans f_10581
          exact r_i C0 hr hlk hw (v := nI (A.1.1 * 4 - A.1.2.1)) rfl ⟨congrArg nI (by omega), ⟨_, _, _, _, _, _, _, _, _, f_10551, ⟨hm0, hm1, rfl⟩, ⟨f_10552, hz⟩, ⟨f_10557, hhf⟩, ⟨f_10562, hsf⟩, ⟨f_10567, hkf⟩, f_10572, ⟨f_10577, htf⟩, f_10582⟩, (fun q k0 k1 => ((o_10550 q ).trans ((o_10516 q ).trans ((o_10507 q ).trans ((o_10501 q k0).trans (o_10497 q ))))))⟩ (Nat.le_refl _) (Nat.le_refl _) dX6_lacks_56 hQ
        · skip
          exact absurd c_31 (by omega)
set_option maxHeartbeats 4000000 in
set_option maxRecDepth 100000 in
theorem k_X6_lacks_105 (l : Launch) (G : Gl) (L : List Nat) (F : Nat → va_E) (b : Nat) (ma : Nat → Nat) (A : AB) (th : Nat) (mb : b ∈ L) (hma : ∀ i, i < 7 → ma i ∈ L) (hM : MW G F b ma A th) (hA : okA A) : CI l yX6_lacks cX6_lacks 2 (some .int) rm_X6_lacks G L F [.ref b, .int (nI (105))] (fun r F1 => r = nI (4 * A.1.1 - A.1.2.1) ∧ MW G F1 b ma A 0 ∧ mFr F F1 b ma) := by
  obtain ⟨mi, hh, zf, hf, sf, kf, tf, pf, pl, fb, ⟨hm0, hm1, hm2⟩, ⟨fz, hz⟩, ⟨fh, hhf⟩, ⟨fs, hsf⟩, ⟨fk, hkf⟩, fp, ⟨ft, htf⟩, fq⟩ := hM
  obtain ⟨hz0, hz1, hz2, hz3, hz4⟩ := ne_z zf hz
  have hc : A.1.1 ≤ 6 := hA.1.2.1
  have hc2 : 2 ≤ A.1.1 := hA.1.1
  have hpu : A.1.2.1 ≤ 100000 := hA.1.2.2.1
  have hrw : ∀ i k, i < 12 → k < 7 → zf (5 + 7 * i + k) = nI (A.1.2.2.2.2.2 i k).val := hz.row
  refine CG_of (by decide) (Nat.le_of_ble_eq_true rfl) rfl ?_
  intro p e s m args below meth c Q C0 hr hlk hnm hQ hw ls hl
  have hx := C0.x
  have hb := C0.b
  refine lv_aload_n hx hb dX6_lacks_0 rfl (lv_at hl 0 rfl) ?_
  refine lv_iload_n hx hb dX6_lacks_1 rfl (lv_at hl 1 rfl) ?_
  refine q_calli hw (q_runS (As := [.int (nI (105))]) (c_X6_slotsOf_105 l G L F ) C0 hw sw_X6_174 rfl hl.1 rfl (Nat.le_of_ble_eq_true rfl) dX6_lacks_2 ⟨by decide, by decide⟩ ⟨by decide, by decide⟩) rfl rfl (fun r_10585 F_10583 H locs hw hp_10584 => ?_)
  obtain ⟨he_10586, o_10587⟩ := hp_10584
  subst he_10586
  refine n_if_le (tgt := 12) hx hb dX6_lacks_5 (by decide) (by decide) (fun c_5 => ?_) (fun c_5 => ?_)
  · skip
    exact absurd c_5 (by omega)
  · skip
    refine lv_iconst (v := nI 0) hx hb dX6_lacks_8 (by decide) ?_
    refine lv_goto (tgt := 13) hx hb dX6_lacks_9 (by decide) ?_
    have f_10588 : F_10583 b = mO ma mi hh := (o_10587 b ).trans fb
    refine q_put C0 hw mb f_10588 fw_X6_31 pw_X6_8 rfl rfl rfl (Nat.le_of_ble_eq_true rfl) dX6_lacks_13 (fun F_10589 H locs hw f_10590 o_10591 => ?_)
    have f_10590 : F_10589 b = .inr (6, [.ref (ma 0), .int (mi 0), .ref (ma 1), .ref (ma 2), .ref (ma 3), .ref (ma 4), .int (mi 1), .ref (ma 5), .int (nI (0)), .ref (ma 6), .int (mi 3), .int (mi 4), .long (hh)]) := f_10590
    refine lv_aload_n hx hb dX6_lacks_16 rfl (lv_at hl 0 rfl) ?_
    refine q_get C0 hw mb f_10590 fw_X6_31 rfl dX6_lacks_17 ?_
    refine n_if_gt (tgt := 34) hx hb dX6_lacks_20 (by decide) (by decide) (fun c_20 => ?_) (fun c_20 => ?_)
    · skip
      exact absurd c_20 (by omega)
    · skip
      have hb_10592 : F_10589 b = mO ma (va_up mi 2 (nI 0)) hh := f_10590
      refine lv_aload_n hx hb dX6_lacks_23 rfl (lv_at hl 0 rfl) ?_
      refine lv_iload_n hx hb dX6_lacks_24 rfl (lv_at hl 1 rfl) ?_
      refine q_calli hw (q_runS (As := [.int (nI (105))]) (c_X6_workOf_105 l G L F_10589 ) C0 hw sw_X6_187 rfl hl.1 rfl (Nat.le_of_ble_eq_true rfl) dX6_lacks_25 ⟨by decide, by decide⟩ ⟨by decide, by decide⟩) rfl rfl (fun r_10595 F_10593 H locs hw hp_10594 => ?_)
      obtain ⟨he_10596, o_10597⟩ := hp_10594
      subst he_10596
      have f_10598 : F_10593 b = mO ma ((va_up mi 2 (nI 0))) hh := (o_10597 b ).trans hb_10592
      have f_10599 : F_10583 (ma 0) = .inl (G.2 0, 89, .inl zf) := (o_10587 (ma 0) ).trans fz
      have f_10600 : F_10589 (ma 0) = .inl (G.2 0, 89, .inl zf) := (o_10591 (ma 0) (ne_ao f_10599 f_10588)).trans f_10599
      have f_10601 : F_10593 (ma 0) = .inl (G.2 0, 89, .inl zf) := (o_10597 (ma 0) ).trans f_10600
      refine q_calli hw (q_runV (As := [.int (nI (4))]) (c_X6_canPay l G L F_10593 b ma (va_up mi 2 (nI 0)) hh zf 4 A.1.1 A.1.2.1 mb f_10598 hma f_10601 hz0 hz1 hc (by omega) hpu (by omega)) C0 hw vw_X6_106 mb f_10598 rfl rfl rfl hl.1 rfl (Nat.le_of_ble_eq_true rfl) dX6_lacks_28 ⟨by decide, by decide⟩ ⟨by decide, by decide⟩) rfl rfl (fun r_10604 F_10602 H locs hw hp_10603 => ?_)
      obtain ⟨he_10605, o_10606⟩ := hp_10603
      by_cases hb_10607 : A.1.1 * 4 ≤ A.1.2.1
      · skip
        rw [if_pos hb_10607] at he_10605
        subst he_10605
        refine n_if_eq (tgt := 38) hx hb dX6_lacks_31 (by decide) (by decide) (fun c_31 => ?_) (fun c_31 => ?_)
        · skip
          exact absurd c_31 (by omega)
        · skip
          refine lv_iconst (v := nI 0) hx hb dX6_lacks_34 (by decide) ?_
          refine lv_goto (tgt := 56) hx hb dX6_lacks_35 (by decide) ?_
          have f_10608 : F_10602 b = mO ma ((va_up mi 2 (nI 0))) hh := (o_10606 b ).trans f_10598
          have f_10609 : F_10602 (ma 0) = .inl (G.2 0, 89, .inl zf) := (o_10606 (ma 0) ).trans f_10601
          have f_10610 : F_10583 (ma 1) = .inl (G.2 0, 534, .inl hf) := (o_10587 (ma 1) ).trans fh
          have f_10611 : F_10589 (ma 1) = .inl (G.2 0, 534, .inl hf) := (o_10591 (ma 1) (ne_ao f_10610 f_10588)).trans f_10610
          have f_10612 : F_10593 (ma 1) = .inl (G.2 0, 534, .inl hf) := (o_10597 (ma 1) ).trans f_10611
          have f_10613 : F_10602 (ma 1) = .inl (G.2 0, 534, .inl hf) := (o_10606 (ma 1) ).trans f_10612
          have f_10614 : F_10583 (ma 2) = .inl (G.2 0, 178, .inl sf) := (o_10587 (ma 2) ).trans fs
          have f_10615 : F_10589 (ma 2) = .inl (G.2 0, 178, .inl sf) := (o_10591 (ma 2) (ne_ao f_10614 f_10588)).trans f_10614
          have f_10616 : F_10593 (ma 2) = .inl (G.2 0, 178, .inl sf) := (o_10597 (ma 2) ).trans f_10615
          have f_10617 : F_10602 (ma 2) = .inl (G.2 0, 178, .inl sf) := (o_10606 (ma 2) ).trans f_10616
          have f_10618 : F_10583 (ma 3) = .inl (G.2 0, 2, .inl kf) := (o_10587 (ma 3) ).trans fk
          have f_10619 : F_10589 (ma 3) = .inl (G.2 0, 2, .inl kf) := (o_10591 (ma 3) (ne_ao f_10618 f_10588)).trans f_10618
          have f_10620 : F_10593 (ma 3) = .inl (G.2 0, 2, .inl kf) := (o_10597 (ma 3) ).trans f_10619
          have f_10621 : F_10602 (ma 3) = .inl (G.2 0, 2, .inl kf) := (o_10606 (ma 3) ).trans f_10620
          have f_10622 : F_10583 (ma 4) = pcE G pl := (o_10587 (ma 4) ).trans fp
          have f_10623 : F_10589 (ma 4) = pcE G pl := (o_10591 (ma 4) (ne_ao f_10622 f_10588)).trans f_10622
          have f_10624 : F_10593 (ma 4) = pcE G pl := (o_10597 (ma 4) ).trans f_10623
          have f_10625 : F_10602 (ma 4) = pcE G pl := (o_10606 (ma 4) ).trans f_10624
          have f_10626 : F_10583 (ma 5) = .inl (G.2 0, 60, .inl tf) := (o_10587 (ma 5) ).trans ft
          have f_10627 : F_10589 (ma 5) = .inl (G.2 0, 60, .inl tf) := (o_10591 (ma 5) (ne_ao f_10626 f_10588)).trans f_10626
          have f_10628 : F_10593 (ma 5) = .inl (G.2 0, 60, .inl tf) := (o_10597 (ma 5) ).trans f_10627
          have f_10629 : F_10602 (ma 5) = .inl (G.2 0, 60, .inl tf) := (o_10606 (ma 5) ).trans f_10628
          have f_10630 : F_10583 (ma 6) = .inl (G.2 0, 52, .inl pf) := (o_10587 (ma 6) ).trans fq
          have f_10631 : F_10589 (ma 6) = .inl (G.2 0, 52, .inl pf) := (o_10591 (ma 6) (ne_ao f_10630 f_10588)).trans f_10630
          have f_10632 : F_10593 (ma 6) = .inl (G.2 0, 52, .inl pf) := (o_10597 (ma 6) ).trans f_10631
          have f_10633 : F_10602 (ma 6) = .inl (G.2 0, 52, .inl pf) := (o_10606 (ma 6) ).trans f_10632
          exact r_i C0 hr hlk hw (v := nI 0) rfl ⟨congrArg nI (by omega), ⟨_, _, _, _, _, _, _, _, _, f_10608, ⟨hm0, hm1, rfl⟩, ⟨f_10609, hz⟩, ⟨f_10613, hhf⟩, ⟨f_10617, hsf⟩, ⟨f_10621, hkf⟩, f_10625, ⟨f_10629, htf⟩, f_10633⟩, (fun q k0 k1 => ((o_10606 q ).trans ((o_10597 q ).trans ((o_10591 q k0).trans (o_10587 q )))))⟩ (Nat.le_refl _) (Nat.le_refl _) dX6_lacks_56 hQ
      · skip
        rw [if_neg hb_10607] at he_10605
        subst he_10605
        refine n_if_eq (tgt := 38) hx hb dX6_lacks_31 (by decide) (by decide) (fun c_31 => ?_) (fun c_31 => ?_)
        · skip
          refine lv_aload_n hx hb dX6_lacks_38 rfl (lv_at hl 0 rfl) ?_
          have f_10634 : F_10602 b = mO ma ((va_up mi 2 (nI 0))) hh := (o_10606 b ).trans f_10598
          refine q_get C0 hw mb f_10634 fw_X6_7 rfl dX6_lacks_39 ?_
          refine lv_iconst (v := nI 0) hx hb dX6_lacks_42 (by decide) ?_
          have f_10635 : F_10602 (ma 0) = .inl (G.2 0, 89, .inl zf) := (o_10606 (ma 0) ).trans f_10601
          refine q_iald C0 hw ((hma 0 (by decide))) f_10635 (0) (by omega) (by decide) (v := nI (A.1.1)) hz0 dX6_lacks_43 ?_
          refine lv_iload_n hx hb dX6_lacks_44 rfl (lv_at hl 1 rfl) ?_
          refine q_calli hw (q_runS (As := [.int (nI (105))]) (c_X6_workOf_105 l G L F_10602 ) C0 hw sw_X6_187 rfl hl.1 rfl (Nat.le_of_ble_eq_true rfl) dX6_lacks_45 ⟨by decide, by decide⟩ ⟨by decide, by decide⟩) rfl rfl (fun r_10638 F_10636 H locs hw hp_10637 => ?_)
          obtain ⟨he_10639, o_10640⟩ := hp_10637
          subst he_10639
          refine n_imul hx hb dX6_lacks_48 ?_
          refine lv_aload_n hx hb dX6_lacks_49 rfl (lv_at hl 0 rfl) ?_
          have f_10641 : F_10636 b = mO ma ((va_up mi 2 (nI 0))) hh := (o_10640 b ).trans f_10634
          refine q_get C0 hw mb f_10641 fw_X6_7 rfl dX6_lacks_50 ?_
          refine lv_iconst (v := nI 1) hx hb dX6_lacks_53 (by decide) ?_
          have f_10642 : F_10636 (ma 0) = .inl (G.2 0, 89, .inl zf) := (o_10640 (ma 0) ).trans f_10635
          refine q_iald C0 hw ((hma 0 (by decide))) f_10642 (1) (by omega) (by decide) (v := nI (A.1.2.1)) hz1 dX6_lacks_54 ?_
          refine n_isub hx hb (by omega) dX6_lacks_55 ?_
          have f_10643 : F_10583 (ma 1) = .inl (G.2 0, 534, .inl hf) := (o_10587 (ma 1) ).trans fh
          have f_10644 : F_10589 (ma 1) = .inl (G.2 0, 534, .inl hf) := (o_10591 (ma 1) (ne_ao f_10643 f_10588)).trans f_10643
          have f_10645 : F_10593 (ma 1) = .inl (G.2 0, 534, .inl hf) := (o_10597 (ma 1) ).trans f_10644
          have f_10646 : F_10602 (ma 1) = .inl (G.2 0, 534, .inl hf) := (o_10606 (ma 1) ).trans f_10645
          have f_10647 : F_10636 (ma 1) = .inl (G.2 0, 534, .inl hf) := (o_10640 (ma 1) ).trans f_10646
          have f_10648 : F_10583 (ma 2) = .inl (G.2 0, 178, .inl sf) := (o_10587 (ma 2) ).trans fs
          have f_10649 : F_10589 (ma 2) = .inl (G.2 0, 178, .inl sf) := (o_10591 (ma 2) (ne_ao f_10648 f_10588)).trans f_10648
          have f_10650 : F_10593 (ma 2) = .inl (G.2 0, 178, .inl sf) := (o_10597 (ma 2) ).trans f_10649
          have f_10651 : F_10602 (ma 2) = .inl (G.2 0, 178, .inl sf) := (o_10606 (ma 2) ).trans f_10650
          have f_10652 : F_10636 (ma 2) = .inl (G.2 0, 178, .inl sf) := (o_10640 (ma 2) ).trans f_10651
          have f_10653 : F_10583 (ma 3) = .inl (G.2 0, 2, .inl kf) := (o_10587 (ma 3) ).trans fk
          have f_10654 : F_10589 (ma 3) = .inl (G.2 0, 2, .inl kf) := (o_10591 (ma 3) (ne_ao f_10653 f_10588)).trans f_10653
          have f_10655 : F_10593 (ma 3) = .inl (G.2 0, 2, .inl kf) := (o_10597 (ma 3) ).trans f_10654
          have f_10656 : F_10602 (ma 3) = .inl (G.2 0, 2, .inl kf) := (o_10606 (ma 3) ).trans f_10655
          have f_10657 : F_10636 (ma 3) = .inl (G.2 0, 2, .inl kf) := (o_10640 (ma 3) ).trans f_10656
          have f_10658 : F_10583 (ma 4) = pcE G pl := (o_10587 (ma 4) ).trans fp
          have f_10659 : F_10589 (ma 4) = pcE G pl := (o_10591 (ma 4) (ne_ao f_10658 f_10588)).trans f_10658
          have f_10660 : F_10593 (ma 4) = pcE G pl := (o_10597 (ma 4) ).trans f_10659
          have f_10661 : F_10602 (ma 4) = pcE G pl := (o_10606 (ma 4) ).trans f_10660
          have f_10662 : F_10636 (ma 4) = pcE G pl := (o_10640 (ma 4) ).trans f_10661
          have f_10663 : F_10583 (ma 5) = .inl (G.2 0, 60, .inl tf) := (o_10587 (ma 5) ).trans ft
          have f_10664 : F_10589 (ma 5) = .inl (G.2 0, 60, .inl tf) := (o_10591 (ma 5) (ne_ao f_10663 f_10588)).trans f_10663
          have f_10665 : F_10593 (ma 5) = .inl (G.2 0, 60, .inl tf) := (o_10597 (ma 5) ).trans f_10664
          have f_10666 : F_10602 (ma 5) = .inl (G.2 0, 60, .inl tf) := (o_10606 (ma 5) ).trans f_10665
          have f_10667 : F_10636 (ma 5) = .inl (G.2 0, 60, .inl tf) := (o_10640 (ma 5) ).trans f_10666
          have f_10668 : F_10583 (ma 6) = .inl (G.2 0, 52, .inl pf) := (o_10587 (ma 6) ).trans fq
          have f_10669 : F_10589 (ma 6) = .inl (G.2 0, 52, .inl pf) := (o_10591 (ma 6) (ne_ao f_10668 f_10588)).trans f_10668
          have f_10670 : F_10593 (ma 6) = .inl (G.2 0, 52, .inl pf) := (o_10597 (ma 6) ).trans f_10669
          have f_10671 : F_10602 (ma 6) = .inl (G.2 0, 52, .inl pf) := (o_10606 (ma 6) ).trans f_10670
          have f_10672 : F_10636 (ma 6) = .inl (G.2 0, 52, .inl pf) := (o_10640 (ma 6) ).trans f_10671
          exact r_i C0 hr hlk hw (v := nI (A.1.1 * 4 - A.1.2.1)) rfl ⟨congrArg nI (by omega), ⟨_, _, _, _, _, _, _, _, _, f_10641, ⟨hm0, hm1, rfl⟩, ⟨f_10642, hz⟩, ⟨f_10647, hhf⟩, ⟨f_10652, hsf⟩, ⟨f_10657, hkf⟩, f_10662, ⟨f_10667, htf⟩, f_10672⟩, (fun q k0 k1 => ((o_10640 q ).trans ((o_10606 q ).trans ((o_10597 q ).trans ((o_10591 q k0).trans (o_10587 q ))))))⟩ (Nat.le_refl _) (Nat.le_refl _) dX6_lacks_56 hQ
        · skip
          exact absurd c_31 (by omega)
