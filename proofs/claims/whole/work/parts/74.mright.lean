theorem fw_stop {t : Txt} {k s : Nat} (hk : k < t.1) (h : ¬ fitsB t k s = true) : fwF t (t.1 - k) k s = k := by
  rw [show t.1 - k = (t.1 - (k + 1)) + 1 by omega, fwF, if_neg h]
theorem fw_go {t : Txt} {k s : Nat} (hk : k < t.1) (h : fitsB t k s = true) : fwF t (t.1 - k) k s = fwF t (t.1 - (k + 1)) (k + 1) (if t.2 k = 59 then k + 1 else s) := by
  rw [show t.1 - k = (t.1 - (k + 1)) + 1 by omega, fwF, if_pos h]
theorem fw_endM {t : Txt} {k s : Nat} (hk : k = t.1) : fwF t (t.1 - k) k s = t.1 := by
  subst hk
  rw [Nat.sub_self]
  rfl
abbrev rm_X6_rightUpTo : Room := { frames := 3, cells := 0, slots := 0, locals := 65 }
set_option maxHeartbeats 4000000 in
set_option maxRecDepth 100000 in
theorem c_X6_rightUpTo (l : Launch) (G : Gl) (L : List Nat) (F : Nat → va_E) (b : Nat) (ma : Nat → Nat) (mi : Nat → Int32) (hh : Int64) (pf tf : Nat → Int32) (t9 : Txt) (mb : b ∈ L) (fb : F b = mO ma mi hh) (hma : ∀ i, i < 7 → ma i ∈ L) (fq : F (ma 6) = .inl (G.2 0, 52, .inl pf)) (ft : F (ma 5) = .inl (G.2 0, 60, .inl tf)) (htf : tA_ tf t9) (h1 : mi 1 = nI t9.1) (hok : okT t9) (h60 : t9.1 ≤ 60) : CI l yX6_rightUpTo cX6_rightUpTo 2 (some .int) rm_X6_rightUpTo G L F [.ref b] (fun r F1 => r = nI (fwA t9) ∧ (∃ (mi1 pf1 : Nat → Int32), F1 b = mO ma mi1 hh ∧ (mi1 0 = mi 0 ∧ mi1 1 = mi 1 ∧ mi1 2 = mi 2) ∧ F1 (ma 6) = .inl (G.2 0, 52, .inl pf1) ∧ (fwA t9 = t9.1 → ∃ r d s, PS t9 pf1 r d s t9.1 ∧ mi1 3 = nI r ∧ mi1 4 = nI d)) ∧ ∀ q, q ≠ b → q ≠ ma 6 → F1 q = F q) := by
  refine CG_of (by decide) (Nat.le_of_ble_eq_true rfl) rfl ?_
  intro p e s m args below meth c Q C0 hr hlk hnm hQ hw ls hl
  have hx := C0.x
  have hb := C0.b
  refine lv_aload_n hx hb dX6_rightUpTo_0 rfl (lv_at hl 0 rfl) ?_
  refine lv_iconst (v := nI 0) hx hb dX6_rightUpTo_1 (by decide) ?_
  refine q_put C0 hw mb fb fw_X6_171 pw_X6_10 rfl rfl rfl (Nat.le_of_ble_eq_true rfl) dX6_rightUpTo_2 (fun F_8233 H locs hw f_8234 o_8235 => ?_)
  have f_8234 : F_8233 b = .inr (6, [.ref (ma 0), .int (mi 0), .ref (ma 1), .ref (ma 2), .ref (ma 3), .ref (ma 4), .int (mi 1), .ref (ma 5), .int (mi 2), .ref (ma 6), .int (nI (0)), .int (mi 4), .long (hh)]) := f_8234
  refine lv_aload_n hx hb dX6_rightUpTo_5 rfl (lv_at hl 0 rfl) ?_
  refine lv_iconst (v := nI 0) hx hb dX6_rightUpTo_6 (by decide) ?_
  refine q_put C0 hw mb f_8234 fw_X6_168 pw_X6_11 rfl rfl rfl (Nat.le_of_ble_eq_true rfl) dX6_rightUpTo_7 (fun F_8236 H locs hw f_8237 o_8238 => ?_)
  have f_8237 : F_8236 b = .inr (6, [.ref (ma 0), .int (mi 0), .ref (ma 1), .ref (ma 2), .ref (ma 3), .ref (ma 4), .int (mi 1), .ref (ma 5), .int (mi 2), .ref (ma 6), .int (nI (0)), .int (nI (0)), .long (hh)]) := f_8237
  refine lv_iconst (v := nI 0) hx hb dX6_rightUpTo_10 (by decide) ?_
  refine lv_istore_n (lv' := [(1, .int (nI (0))), (0, .ref b)]) hx hb dX6_rightUpTo_11 rfl hl (by decide) rfl (fun ls hl => ?_)
  have fb0 : F_8236 b = mO ma (va_up (va_up mi 3 (nI 0)) 4 (nI 0)) hh := f_8237
  have lp12 : ∀ (n : Nat) (k9 : Nat) (mi1 : Nat → Int32) (pf1 : Nat → Int32) (r9 : Nat) (d9 : Nat) (s9 : Nat), k9 ≤ t9.1 → (mi1 0 = mi 0 ∧ mi1 1 = mi 1 ∧ mi1 2 = mi 2) → mi1 3 = nI r9 → mi1 4 = nI d9 → PS t9 pf1 r9 d9 s9 k9 → fwF t9 (t9.1 - k9) k9 s9 = fwA t9 → t9.1 + 1 - k9 < n → ∀ (F_8239 : Nat → va_E) (H : Heap) (locs : List Loc), wD G L F_8239 s H locs → F_8239 b = mO ma mi1 hh → F_8239 (ma 6) = .inl (G.2 0, 52, .inl pf1) → (∀ q, q ≠ b → q ≠ (ma 6) → F_8239 q = F q) → ∀ ls : Array Slot, lv_has ls 2 [(0, .ref b), (1, .int (nI (k9)))] → W p l e rm_X6_rightUpTo s m args below meth c H locs 0 0 Q (F0 m 12 ls []) := by
    intro n
    induction n with
    | zero => intro k9 mi1 pf1 r9 d9 s9 hk hmi h3 h4 hP hfw hm; exact absurd hm (Nat.not_lt_zero _)
    | succ n ih_12 =>
      intro k9 mi1 pf1 r9 d9 s9 hk hmi h3 h4 hP hfw hm F_8239 H locs hw f_8240 f_8241 fr_8242 ls hl
      have hlen : mi1 1 = nI t9.1 := hmi.2.1.trans h1
      have fbm := f_8240
      have fbx : F_8239 b = .inr (6, [.ref (ma 0), .int (mi1 0), .ref (ma 1), .ref (ma 2), .ref (ma 3), .ref (ma 4), .int (nI (t9.1)), .ref (ma 5), .int (mi1 2), .ref (ma 6), .int (mi1 3), .int (mi1 4), .long (hh)]) := by rw [fbm]; simp only [mO]; rw [hlen]
      refine lv_iload_n hx hb dX6_rightUpTo_12 rfl (lv_at hl 1 rfl) ?_
      refine lv_aload_n hx hb dX6_rightUpTo_13 rfl (lv_at hl 0 rfl) ?_
      refine q_get C0 hw mb fbx fw_X6_165 rfl dX6_rightUpTo_14 ?_
      refine n_icmp_ge (tgt := 39) hx hb dX6_rightUpTo_17 (by decide) (by omega) (by omega) (fun c_17 => ?_) (fun c_17 => ?_)
      · skip
        have hk9 : k9 = t9.1 := by omega
        have hfa : fwA t9 = t9.1 := hfw.symm.trans (fw_endM hk9)
        refine lv_iload_n hx hb dX6_rightUpTo_39 rfl (lv_at hl 1 rfl) ?_
        exact r_i C0 hr hlk hw (v := nI (k9)) rfl ⟨by rw [hfa, hk9], ⟨_, _, fbm, hmi, f_8241, fun _ => ⟨r9, d9, s9, by rw [← hk9]; exact hP, h3, h4⟩⟩, (fun q k0 k1 => (fr_8242 q k0 k1))⟩ (Nat.le_refl _) (Nat.le_refl _) dX6_rightUpTo_40 hQ
      · skip
        refine lv_aload_n hx hb dX6_rightUpTo_20 rfl (lv_at hl 0 rfl) ?_
        refine lv_aload_n hx hb dX6_rightUpTo_21 rfl (lv_at hl 0 rfl) ?_
        refine q_get C0 hw mb fbx fw_X6_25 rfl dX6_rightUpTo_22 ?_
        refine lv_iload_n hx hb dX6_rightUpTo_25 rfl (lv_at hl 1 rfl) ?_
        have f_8243 : F_8239 (ma 5) = .inl (G.2 0, 60, .inl tf) := (fr_8242 (ma 5) (ne_ao ft fb) (ne_aa (by decide) ft fq)).trans ft
        refine q_iald C0 hw ((hma 5 (by decide))) f_8243 (k9) (by omega) (by decide) (v := nI (t9.2 k9)) (htf k9 (by omega)) dX6_rightUpTo_26 ?_
        refine q_calli hw (q_runV (As := [.int (nI (t9.2 k9))]) (c_X6_takes l G L F_8239 b ma mi1 hh pf1 t9 r9 d9 s9 k9 mb fbm hma f_8241 h3 h4 hok h60 (by omega) hP) C0 hw vw_X6_180 mb fbx rfl rfl rfl hl.1 rfl (Nat.le_of_ble_eq_true rfl) dX6_rightUpTo_27 ⟨by decide, by decide⟩ ⟨by decide, by decide⟩) rfl rfl (fun r_8246 F_8244 H locs hw hp_8245 => ?_)
        obtain ⟨f_8247, ⟨mi_8255, pf_8256, f_8248, ⟨m_8252, m_8253, m_8254⟩, f_8249, f_8250⟩, f_8251⟩ := hp_8245
        by_cases hb_8257 : fitsB t9 k9 s9 = true
        · skip
          rw [if_pos hb_8257] at f_8247
          subst f_8247
          obtain ⟨g_8258, g_8259, g_8260, g_8261, g_8262⟩ := f_8250 hb_8257
          refine n_if_eq (tgt := 39) hx hb dX6_rightUpTo_30 (by decide) (by decide) (fun c_30 => ?_) (fun c_30 => ?_)
          · skip
            exact absurd c_30 (by omega)
          · skip
            refine lv_iinc (v := nI (k9 + 1)) (lv' := [(1, .int (nI (k9 + 1))), (0, .ref b)]) hx hb dX6_rightUpTo_33 hl (k := 1) rfl (nI_add _ _) (by decide) rfl (fun ls hl => ?_)
            refine lv_goto (tgt := 12) hx hb dX6_rightUpTo_36 (by decide) ?_
            exact ih_12 (k9 + 1) (mi_8255) (pf_8256) (g_8258) (g_8259) (if t9.2 k9 = 59 then k9 + 1 else s9) (by omega) (⟨m_8252.trans hmi.1, m_8253.trans hmi.2.1, m_8254.trans hmi.2.2⟩) (g_8261) (g_8262) (g_8260) ((fw_go (by omega) hb_8257).symm.trans hfw) (by omega) F_8244 _ _ hw (f_8248) (f_8249) (fun q k0 k1 => ((f_8251 q k0 k1).trans (fr_8242 q k0 k1))) ls (lv_sub hl [1, 0] rfl)
        · skip
          rw [if_neg hb_8257] at f_8247
          subst f_8247
          have hfa : fwA t9 = k9 := hfw.symm.trans (fw_stop (by omega) hb_8257)
          refine n_if_eq (tgt := 39) hx hb dX6_rightUpTo_30 (by decide) (by decide) (fun c_30 => ?_) (fun c_30 => ?_)
          · skip
            refine lv_iload_n hx hb dX6_rightUpTo_39 rfl (lv_at hl 1 rfl) ?_
            exact r_i C0 hr hlk hw (v := nI (k9)) rfl ⟨by rw [hfa], ⟨_, _, f_8248, ⟨m_8252.trans hmi.1, m_8253.trans hmi.2.1, m_8254.trans hmi.2.2⟩, f_8249, fun h9 => absurd (hfa.symm.trans h9) (by omega)⟩, (fun q k0 k1 => ((f_8251 q k0 k1).trans (fr_8242 q k0 k1)))⟩ (Nat.le_refl _) (Nat.le_refl _) dX6_rightUpTo_40 hQ
          · skip
            exact absurd c_30 (by omega)
  have f_8263 : F_8233 (ma 6) = .inl (G.2 0, 52, .inl pf) := (o_8235 (ma 6) (ne_ao fq fb)).trans fq
  have f_8264 : F_8236 (ma 6) = .inl (G.2 0, 52, .inl pf) := (o_8238 (ma 6) (ne_ao f_8263 f_8234)).trans f_8263
  exact lp12 _ (0) ((va_up (va_up mi 3 (nI 0)) 4 (nI 0))) (pf) (0) (0) (0) (Nat.zero_le _) (⟨rfl, rfl, rfl⟩) (rfl) (rfl) (PS_0 t9 pf) (by rw [Nat.sub_zero]; rfl) (Nat.lt_succ_self _) F_8236 _ _ hw (fb0) (f_8264) (fun q k0 k1 => ((o_8238 q k0).trans (o_8235 q k0))) ls (lv_sub hl [1, 0] rfl)
abbrev rm_X6_firstError : Room := { frames := 4, cells := 0, slots := 0, locals := 86 }
set_option maxHeartbeats 4000000 in
set_option maxRecDepth 100000 in
theorem k_X6_firstError (l : Launch) (G : Gl) (L : List Nat) (F : Nat → va_E) (b : Nat) (ma : Nat → Nat) (A : AB) (th : Nat) (mb : b ∈ L) (hma : ∀ i, i < 7 → ma i ∈ L) (hM : MW G F b ma A th) (hA : okA A) : CI l yX6_firstError cX6_firstError 1 (some .int) rm_X6_firstError G L F [.ref b] (fun r F1 => r = nI (fwA A.2.2.2) ∧ MW G F1 b ma A 0 ∧ mFr F F1 b ma) := by
  obtain ⟨mi, hh, zf, hf, sf, kf, tf, pf, pl, fb, ⟨hm0, hm1, hm2⟩, ⟨fz, hz⟩, ⟨fh, hhf⟩, ⟨fs, hsf⟩, ⟨fk, hkf⟩, fp, ⟨ft, htf⟩, fq⟩ := hM
  obtain ⟨hz0, hz1, hz2, hz3, hz4⟩ := ne_z zf hz
  have hc : A.1.1 ≤ 6 := hA.1.2.1
  have hc2 : 2 ≤ A.1.1 := hA.1.1
  have hpu : A.1.2.1 ≤ 100000 := hA.1.2.2.1
  have hrw : ∀ i k, i < 12 → k < 7 → zf (5 + 7 * i + k) = nI (A.1.2.2.2.2.2 i k).val := hz.row
  refine CG_of (by decide) (Nat.le_of_ble_eq_true rfl) rfl ?_
  intro p e s m args below meth c Q C0 hr hlk hnm hQ hw ls hl
  have hx := C0.x
  have hb := C0.b
  refine lv_aload_n hx hb dX6_firstError_0 rfl (lv_at hl 0 rfl) ?_
  refine lv_iconst (v := nI 0) hx hb dX6_firstError_1 (by decide) ?_
  refine q_put C0 hw mb fb fw_X6_31 pw_X6_8 rfl rfl rfl (Nat.le_of_ble_eq_true rfl) dX6_firstError_2 (fun F_8265 H locs hw f_8266 o_8267 => ?_)
  have f_8266 : F_8265 b = .inr (6, [.ref (ma 0), .int (mi 0), .ref (ma 1), .ref (ma 2), .ref (ma 3), .ref (ma 4), .int (mi 1), .ref (ma 5), .int (nI (0)), .ref (ma 6), .int (mi 3), .int (mi 4), .long (hh)]) := f_8266
  have hb_8268 : F_8265 b = mO ma (va_up mi 2 (nI 0)) hh := f_8266
  refine lv_aload_n hx hb dX6_firstError_5 rfl (lv_at hl 0 rfl) ?_
  have f_8269 : F_8265 (ma 6) = .inl (G.2 0, 52, .inl pf) := (o_8267 (ma 6) (ne_ao fq fb)).trans fq
  have f_8270 : F_8265 (ma 5) = .inl (G.2 0, 60, .inl tf) := (o_8267 (ma 5) (ne_ao ft fb)).trans ft
  refine q_calli hw (q_runV (As := []) (c_X6_rightUpTo l G L F_8265 b ma ((va_up mi 2 (nI 0))) hh pf tf A.2.2.2 mb hb_8268 hma f_8269 f_8270 htf hm1 hA.2.2.2.2 hA.2.2.2.1) C0 hw vw_X6_183 mb hb_8268 rfl rfl rfl hl.1 rfl (Nat.le_of_ble_eq_true rfl) dX6_firstError_6 ⟨by decide, by decide⟩ ⟨by decide, by decide⟩) rfl rfl (fun r_8273 F_8271 H locs hw hp_8272 => ?_)
  obtain ⟨f_8274, ⟨mi_8282, pf_8283, f_8275, ⟨m_8279, m_8280, m_8281⟩, f_8276, f_8277⟩, f_8278⟩ := hp_8272
  subst f_8274
  have f_8284 : F_8265 (ma 0) = .inl (G.2 0, 89, .inl zf) := (o_8267 (ma 0) (ne_ao fz fb)).trans fz
  have f_8285 : F_8271 (ma 0) = .inl (G.2 0, 89, .inl zf) := (f_8278 (ma 0) (ne_ao f_8284 hb_8268) (ne_aa (by decide) f_8284 f_8269)).trans f_8284
  have f_8286 : F_8265 (ma 1) = .inl (G.2 0, 534, .inl hf) := (o_8267 (ma 1) (ne_ao fh fb)).trans fh
  have f_8287 : F_8271 (ma 1) = .inl (G.2 0, 534, .inl hf) := (f_8278 (ma 1) (ne_ao f_8286 hb_8268) (ne_aa (by decide) f_8286 f_8269)).trans f_8286
  have f_8288 : F_8265 (ma 2) = .inl (G.2 0, 178, .inl sf) := (o_8267 (ma 2) (ne_ao fs fb)).trans fs
  have f_8289 : F_8271 (ma 2) = .inl (G.2 0, 178, .inl sf) := (f_8278 (ma 2) (ne_ao f_8288 hb_8268) (ne_aa (by decide) f_8288 f_8269)).trans f_8288
  have f_8290 : F_8265 (ma 3) = .inl (G.2 0, 2, .inl kf) := (o_8267 (ma 3) (ne_ao fk fb)).trans fk
  have f_8291 : F_8271 (ma 3) = .inl (G.2 0, 2, .inl kf) := (f_8278 (ma 3) (ne_ao f_8290 hb_8268) (ne_aa (by decide) f_8290 f_8269)).trans f_8290
  have f_8292 : F_8265 (ma 4) = pcE G pl := (o_8267 (ma 4) (ne_ao fp fb)).trans fp
  have f_8293 : F_8271 (ma 4) = pcE G pl := (f_8278 (ma 4) (ne_ao f_8292 hb_8268) (ne_aa (by decide) f_8292 f_8269)).trans f_8292
  have f_8294 : F_8271 (ma 5) = .inl (G.2 0, 60, .inl tf) := (f_8278 (ma 5) (ne_ao f_8270 hb_8268) (ne_aa (by decide) f_8270 f_8269)).trans f_8270
  exact r_i C0 hr hlk hw (v := nI (fwA A.2.2.2)) rfl ⟨rfl, ⟨_, _, _, _, _, _, _, _, _, f_8275, ⟨(m_8279.trans hm0), (m_8280.trans hm1), (m_8281.trans rfl)⟩, ⟨f_8285, hz⟩, ⟨f_8287, hhf⟩, ⟨f_8289, hsf⟩, ⟨f_8291, hkf⟩, f_8293, ⟨f_8294, htf⟩, f_8276⟩, (fun q k0 k1 => ((f_8278 q k0 (k1 6 (by decide))).trans (o_8267 q k0)))⟩ (Nat.le_refl _) (Nat.le_refl _) dX6_firstError_9 hQ
