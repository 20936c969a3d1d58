abbrev rm_X6_run : Room := { frames := 8, cells := 0, slots := 0, locals := 188 }
theorem PS_d5 {t : Txt} {pf : Nat → Int32} {r d s k : Nat} (hP : PS t pf r d s k) : d ≤ 5 := by
  obtain ⟨-, -, -, -, -, hJ⟩ := hP
  rcases hJ with ⟨h, -⟩ | ⟨h, -⟩ | ⟨h, -⟩ | ⟨h, -⟩ | ⟨h, -⟩ | ⟨h, -⟩ <;> omega
set_option maxHeartbeats 4000000 in
set_option maxRecDepth 100000 in
theorem k_X6_run_x1 (l : Launch) (G : Gl) (L : List Nat) (F : Nat → va_E) (b : Nat) (ma : Nat → Nat) (A : AB) (th : Nat) (mb : b ∈ L) (hma : ∀ i, i < 7 → ma i ∈ L) (hM : MW G F b ma A th) (hA : okA A) (h9 : ¬ isPr A.2.2.2) : CI l yX6_run cX6_run 3 (some .int) rm_X6_run G L F [.ref b] (fun r F1 => MW G F1 b ma A 1 ∧ mFr F F1 b ma) := by
  obtain ⟨mi, hh, zf, hf, sf, kf, tf, pf, pl, fb, ⟨hm0, hm1, hm2⟩, ⟨fz, hz⟩, ⟨fh, hhf⟩, ⟨fs, hsf⟩, ⟨fk, hkf⟩, fp, ⟨ft, htf⟩, fq⟩ := hM
  obtain ⟨hz0, hz1, hz2, hz3, hz4⟩ := ne_z zf hz
  have hc : A.1.1 ≤ 6 := hA.1.2.1
  have hc2 : 2 ≤ A.1.1 := hA.1.1
  have hpu : A.1.2.1 ≤ 100000 := hA.1.2.2.1
  have hrw : ∀ i k, i < 12 → k < 7 → zf (5 + 7 * i + k) = nI (A.1.2.2.2.2.2 i k).val := hz.row
  refine CG_of (by decide) (Nat.le_of_ble_eq_true rfl) rfl ?_
  intro p e s m args below meth c Q C0 hr hlk hnm hQ hw ls hl
  have hx := C0.x
  have hb := C0.b
  refine lv_aload_n hx hb dX6_run_0 rfl (lv_at hl 0 rfl) ?_
  refine q_calli hw (q_runV (As := []) (c_X6_rightUpTo l G L F b ma mi hh pf tf A.2.2.2 mb fb hma fq ft htf hm1 hA.2.2.2.2 hA.2.2.2.1) C0 hw vw_X6_183 mb fb rfl rfl rfl hl.1 rfl (Nat.le_of_ble_eq_true rfl) dX6_run_1 ⟨by decide, by decide⟩ ⟨by decide, by decide⟩) rfl rfl (fun r_8915 F_8913 H locs hw hp_8914 => ?_)
  obtain ⟨f_8916, ⟨mi_8924, pf_8925, f_8917, ⟨m_8921, m_8922, m_8923⟩, f_8918, f_8919⟩, f_8920⟩ := hp_8914
  subst f_8916
  have hlen : mi_8924 1 = nI A.2.2.2.1 := m_8922.trans hm1
  have hfle := fwA_le A.2.2.2
  have hl60 : A.2.2.2.1 ≤ 60 := hA.2.2.2.1
  have fbx_8926 : F_8913 b = .inr (6, [.ref (ma 0), .int (mi_8924 0), .ref (ma 1), .ref (ma 2), .ref (ma 3), .ref (ma 4), .int (nI (A.2.2.2.1)), .ref (ma 5), .int (mi_8924 2), .ref (ma 6), .int (mi_8924 3), .int (mi_8924 4), .long (hh)]) := by rw [f_8917]; simp only [mO]; rw [hlen]
  refine lv_aload_n hx hb dX6_run_4 rfl (lv_at hl 0 rfl) ?_
  refine q_get C0 hw mb fbx_8926 fw_X6_165 rfl dX6_run_5 ?_
  refine n_icmp_ne (tgt := 23) hx hb dX6_run_8 (by decide) (by omega) (by omega) (fun c_8 => ?_) (fun c_8 => ?_)
  · skip
    refine lv_iconst (v := nI 0) hx hb dX6_run_23 (by decide) ?_
    refine lv_istore_n (lv' := [(1, .int (nI (0))), (0, .ref b)]) hx hb dX6_run_24 rfl hl (by decide) rfl (fun ls hl => ?_)
    refine lv_aload_n hx hb dX6_run_25 rfl (lv_at hl 1 rfl) ?_
    refine lv_iload_n hx hb dX6_run_26 rfl (lv_at hl 0 rfl) ?_
    refine n_if_eq (tgt := 34) hx hb dX6_run_27 (by decide) (by decide) (fun c_27 => ?_) (fun c_27 => ?_)
    · skip
      refine lv_iconst (v := nI 1) hx hb dX6_run_34 (by decide) ?_
      refine q_put C0 hw mb fbx_8926 fw_X6_31 pw_X6_8 rfl rfl rfl (Nat.le_of_ble_eq_true rfl) dX6_run_35 (fun F_8927 H locs hw f_8928 o_8929 => ?_)
      have f_8928 : F_8927 b = .inr (6, [.ref (ma 0), .int (mi_8924 0), .ref (ma 1), .ref (ma 2), .ref (ma 3), .ref (ma 4), .int (nI (A.2.2.2.1)), .ref (ma 5), .int (nI (1)), .ref (ma 6), .int (mi_8924 3), .int (mi_8924 4), .long (hh)]) := f_8928
      refine lv_aload_n hx hb dX6_run_38 rfl (lv_at hl 1 rfl) ?_
      refine q_get C0 hw mb f_8928 fw_X6_31 rfl dX6_run_39 ?_
      refine n_if_le (tgt := 47) hx hb dX6_run_42 (by decide) (by decide) (fun c_42 => ?_) (fun c_42 => ?_)
      · skip
        exact absurd c_42 (by omega)
      · skip
        refine lv_iconst (v := nI 0) hx hb dX6_run_45 (by decide) ?_
        have hb_8930 : F_8927 b = mO ma (va_up (va_up mi_8924 1 (nI (A.2.2.2.1))) 2 (nI 1)) (hh) := f_8928
        have f_8931 : F_8913 (ma 0) = .inl (G.2 0, 89, .inl zf) := (f_8920 (ma 0) (ne_ao fz fb) (ne_aa (by decide) fz fq)).trans fz
        have f_8932 : F_8927 (ma 0) = .inl (G.2 0, 89, .inl zf) := (o_8929 (ma 0) (ne_ao f_8931 fbx_8926)).trans f_8931
        have f_8933 : F_8913 (ma 1) = .inl (G.2 0, 534, .inl hf) := (f_8920 (ma 1) (ne_ao fh fb) (ne_aa (by decide) fh fq)).trans fh
        have f_8934 : F_8927 (ma 1) = .inl (G.2 0, 534, .inl hf) := (o_8929 (ma 1) (ne_ao f_8933 fbx_8926)).trans f_8933
        have f_8935 : F_8913 (ma 2) = .inl (G.2 0, 178, .inl sf) := (f_8920 (ma 2) (ne_ao fs fb) (ne_aa (by decide) fs fq)).trans fs
        have f_8936 : F_8927 (ma 2) = .inl (G.2 0, 178, .inl sf) := (o_8929 (ma 2) (ne_ao f_8935 fbx_8926)).trans f_8935
        have f_8937 : F_8913 (ma 3) = .inl (G.2 0, 2, .inl kf) := (f_8920 (ma 3) (ne_ao fk fb) (ne_aa (by decide) fk fq)).trans fk
        have f_8938 : F_8927 (ma 3) = .inl (G.2 0, 2, .inl kf) := (o_8929 (ma 3) (ne_ao f_8937 fbx_8926)).trans f_8937
        have f_8939 : F_8913 (ma 4) = pcE G pl := (f_8920 (ma 4) (ne_ao fp fb) (ne_aa (by decide) fp fq)).trans fp
        have f_8940 : F_8927 (ma 4) = pcE G pl := (o_8929 (ma 4) (ne_ao f_8939 fbx_8926)).trans f_8939
        have f_8941 : F_8913 (ma 5) = .inl (G.2 0, 60, .inl tf) := (f_8920 (ma 5) (ne_ao ft fb) (ne_aa (by decide) ft fq)).trans ft
        have f_8942 : F_8927 (ma 5) = .inl (G.2 0, 60, .inl tf) := (o_8929 (ma 5) (ne_ao f_8941 fbx_8926)).trans f_8941
        have f_8943 : F_8927 (ma 6) = .inl (G.2 0, 52, .inl pf_8925) := (o_8929 (ma 6) (ne_ao f_8918 fbx_8926)).trans f_8918
        exact r_i C0 hr hlk hw (v := nI 0) rfl ⟨⟨_, _, _, _, _, _, _, _, _, hb_8930, ⟨(m_8921.trans hm0), rfl, rfl⟩, ⟨f_8932, hz⟩, ⟨f_8934, hhf⟩, ⟨f_8936, hsf⟩, ⟨f_8938, hkf⟩, f_8940, ⟨f_8942, htf⟩, f_8943⟩, (fun q k0 k1 => ((o_8929 q k0).trans (f_8920 q k0 (k1 6 (by decide)))))⟩ (Nat.le_refl _) (Nat.le_refl _) dX6_run_46 hQ
    · skip
      exact absurd c_27 (by omega)
  · skip
    have hfeq : fwA A.2.2.2 = A.2.2.2.1 := by omega
    obtain ⟨g_8944, g_8945, g_8946, g_8947, g_8948, g_8949⟩ := f_8919 hfeq
    have hd5 : ¬ g_8945 = 5 := fun e9 => h9 ((PS_pr g_8947 hfeq).mp e9)
    have hd9 : g_8945 ≤ 5 := PS_d5 g_8947
    have fbx_8950 : F_8913 b = .inr (6, [.ref (ma 0), .int (mi_8924 0), .ref (ma 1), .ref (ma 2), .ref (ma 3), .ref (ma 4), .int (nI (A.2.2.2.1)), .ref (ma 5), .int (mi_8924 2), .ref (ma 6), .int (mi_8924 3), .int (nI (g_8945)), .long (hh)]) := by rw [f_8917]; simp only [mO]; rw [hlen, g_8949]
    refine lv_aload_n hx hb dX6_run_11 rfl (lv_at hl 0 rfl) ?_
    refine q_get C0 hw mb fbx_8950 fw_X6_168 rfl dX6_run_12 ?_
    refine lv_iconst (v := nI 5) hx hb dX6_run_15 (by decide) ?_
    refine n_icmp_ne (tgt := 23) hx hb dX6_run_16 (by decide) (by omega) (by decide) (fun c_16 => ?_) (fun c_16 => ?_)
    · skip
      refine lv_iconst (v := nI 0) hx hb dX6_run_23 (by decide) ?_
      refine lv_istore_n (lv' := [(1, .int (nI (0))), (0, .ref b)]) hx hb dX6_run_24 rfl hl (by decide) rfl (fun ls hl => ?_)
      refine lv_aload_n hx hb dX6_run_25 rfl (lv_at hl 1 rfl) ?_
      refine lv_iload_n hx hb dX6_run_26 rfl (lv_at hl 0 rfl) ?_
      refine n_if_eq (tgt := 34) hx hb dX6_run_27 (by decide) (by decide) (fun c_27 => ?_) (fun c_27 => ?_)
      · skip
        refine lv_iconst (v := nI 1) hx hb dX6_run_34 (by decide) ?_
        refine q_put C0 hw mb fbx_8950 fw_X6_31 pw_X6_8 rfl rfl rfl (Nat.le_of_ble_eq_true rfl) dX6_run_35 (fun F_8951 H locs hw f_8952 o_8953 => ?_)
        have f_8952 : F_8951 b = .inr (6, [.ref (ma 0), .int (mi_8924 0), .ref (ma 1), .ref (ma 2), .ref (ma 3), .ref (ma 4), .int (nI (A.2.2.2.1)), .ref (ma 5), .int (nI (1)), .ref (ma 6), .int (mi_8924 3), .int (nI (g_8945)), .long (hh)]) := f_8952
        refine lv_aload_n hx hb dX6_run_38 rfl (lv_at hl 1 rfl) ?_
        refine q_get C0 hw mb f_8952 fw_X6_31 rfl dX6_run_39 ?_
        refine n_if_le (tgt := 47) hx hb dX6_run_42 (by decide) (by decide) (fun c_42 => ?_) (fun c_42 => ?_)
        · skip
          exact absurd c_42 (by omega)
        · skip
          refine lv_iconst (v := nI 0) hx hb dX6_run_45 (by decide) ?_
          have hb_8954 : F_8951 b = mO ma (va_up (va_up (va_up mi_8924 1 (nI (A.2.2.2.1))) 2 (nI 1)) 4 (nI (g_8945))) (hh) := f_8952
          have f_8955 : F_8913 (ma 0) = .inl (G.2 0, 89, .inl zf) := (f_8920 (ma 0) (ne_ao fz fb) (ne_aa (by decide) fz fq)).trans fz
          have f_8956 : F_8951 (ma 0) = .inl (G.2 0, 89, .inl zf) := (o_8953 (ma 0) (ne_ao f_8955 fbx_8950)).trans f_8955
          have f_8957 : F_8913 (ma 1) = .inl (G.2 0, 534, .inl hf) := (f_8920 (ma 1) (ne_ao fh fb) (ne_aa (by decide) fh fq)).trans fh
          have f_8958 : F_8951 (ma 1) = .inl (G.2 0, 534, .inl hf) := (o_8953 (ma 1) (ne_ao f_8957 fbx_8950)).trans f_8957
          have f_8959 : F_8913 (ma 2) = .inl (G.2 0, 178, .inl sf) := (f_8920 (ma 2) (ne_ao fs fb) (ne_aa (by decide) fs fq)).trans fs
          have f_8960 : F_8951 (ma 2) = .inl (G.2 0, 178, .inl sf) := (o_8953 (ma 2) (ne_ao f_8959 fbx_8950)).trans f_8959
          have f_8961 : F_8913 (ma 3) = .inl (G.2 0, 2, .inl kf) := (f_8920 (ma 3) (ne_ao fk fb) (ne_aa (by decide) fk fq)).trans fk
          have f_8962 : F_8951 (ma 3) = .inl (G.2 0, 2, .inl kf) := (o_8953 (ma 3) (ne_ao f_8961 fbx_8950)).trans f_8961
          have f_8963 : F_8913 (ma 4) = pcE G pl := (f_8920 (ma 4) (ne_ao fp fb) (ne_aa (by decide) fp fq)).trans fp
          have f_8964 : F_8951 (ma 4) = pcE G pl := (o_8953 (ma 4) (ne_ao f_8963 fbx_8950)).trans f_8963
          have f_8965 : F_8913 (ma 5) = .inl (G.2 0, 60, .inl tf) := (f_8920 (ma 5) (ne_ao ft fb) (ne_aa (by decide) ft fq)).trans ft
          have f_8966 : F_8951 (ma 5) = .inl (G.2 0, 60, .inl tf) := (o_8953 (ma 5) (ne_ao f_8965 fbx_8950)).trans f_8965
          have f_8967 : F_8951 (ma 6) = .inl (G.2 0, 52, .inl pf_8925) := (o_8953 (ma 6) (ne_ao f_8918 fbx_8950)).trans f_8918
          exact r_i C0 hr hlk hw (v := nI 0) rfl ⟨⟨_, _, _, _, _, _, _, _, _, hb_8954, ⟨(m_8921.trans hm0), rfl, rfl⟩, ⟨f_8956, hz⟩, ⟨f_8958, hhf⟩, ⟨f_8960, hsf⟩, ⟨f_8962, hkf⟩, f_8964, ⟨f_8966, htf⟩, f_8967⟩, (fun q k0 k1 => ((o_8953 q k0).trans (f_8920 q k0 (k1 6 (by decide)))))⟩ (Nat.le_refl _) (Nat.le_refl _) dX6_run_46 hQ
      · skip
        exact absurd c_27 (by omega)
    · skip
      exact absurd (by omega) hd5
theorem PS_r {t : Txt} {pf : Nat → Int32} {r s : Nat} (hP : PS t pf r 5 s t.1) (h60 : t.1 ≤ 60) : r ≤ 12 := by
  have h5 := hP.2.1
  have h6 := hP.2.2.1
  omega
set_option maxHeartbeats 4000000 in
set_option maxRecDepth 100000 in
theorem k_X6_run (l : Launch) (G : Gl) (L : List Nat) (F : Nat → va_E) (b : Nat) (ma : Nat → Nat) (A : AB) (th : Nat) (mb : b ∈ L) (hma : ∀ i, i < 7 → ma i ∈ L) (hM : MW G F b ma A th) (hA : okA A) (h9 : isPr A.2.2.2) : CI l yX6_run cX6_run 3 (some .int) rm_X6_run G L F [.ref b] (fun r F1 => r = nI (runS A.2.2.2 61 0 0 A.1).1 ∧ MW G F1 b ma ((runS A.2.2.2 61 0 0 A.1).2, saveH A.2.1 A.1, A.2.2.1, (0, A.2.2.2.2)) 0 ∧ mFr F F1 b ma) := by
  obtain ⟨mi, hh, zf, hf, sf, kf, tf, pf, pl, fb, ⟨hm0, hm1, hm2⟩, ⟨fz, hz⟩, ⟨fh, hhf⟩, ⟨fs, hsf⟩, ⟨fk, hkf⟩, fp, ⟨ft, htf⟩, fq⟩ := hM
  obtain ⟨hz0, hz1, hz2, hz3, hz4⟩ := ne_z zf hz
  have hc : A.1.1 ≤ 6 := hA.1.2.1
  have hc2 : 2 ≤ A.1.1 := hA.1.1
  have hpu : A.1.2.1 ≤ 100000 := hA.1.2.2.1
  have hrw : ∀ i k, i < 12 → k < 7 → zf (5 + 7 * i + k) = nI (A.1.2.2.2.2.2 i k).val := hz.row
  refine CG_of (by decide) (Nat.le_of_ble_eq_true rfl) rfl ?_
  intro p e s m args below meth c Q C0 hr hlk hnm hQ hw ls hl
  have hx := C0.x
  have hb := C0.b
  refine lv_aload_n hx hb dX6_run_0 rfl (lv_at hl 0 rfl) ?_
  refine q_calli hw (q_runV (As := []) (c_X6_rightUpTo l G L F b ma mi hh pf tf A.2.2.2 mb fb hma fq ft htf hm1 hA.2.2.2.2 hA.2.2.2.1) C0 hw vw_X6_183 mb fb rfl rfl rfl hl.1 rfl (Nat.le_of_ble_eq_true rfl) dX6_run_1 ⟨by decide, by decide⟩ ⟨by decide, by decide⟩) rfl rfl (fun r_8970 F_8968 H locs hw hp_8969 => ?_)
  obtain ⟨f_8971, ⟨mi_8979, pf_8980, f_8972, ⟨m_8976, m_8977, m_8978⟩, f_8973, f_8974⟩, f_8975⟩ := hp_8969
  subst f_8971
  have hlen : mi_8979 1 = nI A.2.2.2.1 := m_8977.trans hm1
  have hfle := fwA_le A.2.2.2
  have hl60 : A.2.2.2.1 ≤ 60 := hA.2.2.2.1
  have fbx_8981 : F_8968 b = .inr (6, [.ref (ma 0), .int (mi_8979 0), .ref (ma 1), .ref (ma 2), .ref (ma 3), .ref (ma 4), .int (nI (A.2.2.2.1)), .ref (ma 5), .int (mi_8979 2), .ref (ma 6), .int (mi_8979 3), .int (mi_8979 4), .long (hh)]) := by rw [f_8972]; simp only [mO]; rw [hlen]
  refine lv_aload_n hx hb dX6_run_4 rfl (lv_at hl 0 rfl) ?_
  refine q_get C0 hw mb fbx_8981 fw_X6_165 rfl dX6_run_5 ?_
  refine n_icmp_ne (tgt := 23) hx hb dX6_run_8 (by decide) (by omega) (by omega) (fun c_8 => ?_) (fun c_8 => ?_)
  · skip
    exact absurd h9.1 (by omega)
  · skip
    have hfeq : fwA A.2.2.2 = A.2.2.2.1 := by omega
    obtain ⟨g_8982, g_8983, g_8984, g_8985, g_8986, g_8987⟩ := f_8974 hfeq
    have hd5 : g_8983 = 5 := (PS_pr g_8985 hfeq).mpr h9
    subst hd5
    obtain ⟨hpa, hend, hr12⟩ := PS_last g_8985
    have hr9 : g_8982 ≤ 12 := PS_r g_8985 hl60
    have fbx_8988 : F_8968 b = .inr (6, [.ref (ma 0), .int (mi_8979 0), .ref (ma 1), .ref (ma 2), .ref (ma 3), .ref (ma 4), .int (nI (A.2.2.2.1)), .ref (ma 5), .int (mi_8979 2), .ref (ma 6), .int (nI (g_8982)), .int (nI (5)), .long (hh)]) := by rw [f_8972]; simp only [mO]; rw [hlen, g_8986, g_8987]
    refine lv_aload_n hx hb dX6_run_11 rfl (lv_at hl 0 rfl) ?_
    refine q_get C0 hw mb fbx_8988 fw_X6_168 rfl dX6_run_12 ?_
    refine lv_iconst (v := nI 5) hx hb dX6_run_15 (by decide) ?_
    refine n_icmp_ne (tgt := 23) hx hb dX6_run_16 (by decide) (by decide) (by decide) (fun c_16 => ?_) (fun c_16 => ?_)
    · skip
      exact absurd c_16 (by omega)
    · skip
      refine lv_iconst (v := nI 1) hx hb dX6_run_19 (by decide) ?_
      refine lv_goto (tgt := 24) hx hb dX6_run_20 (by decide) ?_
      refine lv_istore_n (lv' := [(1, .int (nI (1))), (0, .ref b)]) hx hb dX6_run_24 rfl hl (by decide) rfl (fun ls hl => ?_)
      refine lv_aload_n hx hb dX6_run_25 rfl (lv_at hl 1 rfl) ?_
      refine lv_iload_n hx hb dX6_run_26 rfl (lv_at hl 0 rfl) ?_
      refine n_if_eq (tgt := 34) hx hb dX6_run_27 (by decide) (by decide) (fun c_27 => ?_) (fun c_27 => ?_)
      · skip
        exact absurd c_27 (by omega)
      · skip
        refine lv_iconst (v := nI 0) hx hb dX6_run_30 (by decide) ?_
        refine lv_goto (tgt := 35) hx hb dX6_run_31 (by decide) ?_
        refine q_put C0 hw mb fbx_8988 fw_X6_31 pw_X6_8 rfl rfl rfl (Nat.le_of_ble_eq_true rfl) dX6_run_35 (fun F_8989 H locs hw f_8990 o_8991 => ?_)
        have f_8990 : F_8989 b = .inr (6, [.ref (ma 0), .int (mi_8979 0), .ref (ma 1), .ref (ma 2), .ref (ma 3), .ref (ma 4), .int (nI (A.2.2.2.1)), .ref (ma 5), .int (nI (0)), .ref (ma 6), .int (nI (g_8982)), .int (nI (5)), .long (hh)]) := f_8990
        refine lv_aload_n hx hb dX6_run_38 rfl (lv_at hl 1 rfl) ?_
        refine q_get C0 hw mb f_8990 fw_X6_31 rfl dX6_run_39 ?_
        refine n_if_le (tgt := 47) hx hb dX6_run_42 (by decide) (by decide) (fun c_42 => ?_) (fun c_42 => ?_)
        · skip
          have hb_8992 : F_8989 b = mO ma (va_up (va_up (va_up (va_up mi_8979 1 (nI (A.2.2.2.1))) 2 (nI 0)) 3 (nI (g_8982))) 4 (nI 5)) (hh) := f_8990
          have hb_8993 : F_8989 b = mO ma (va_up (va_up (va_up (va_up mi_8979 1 (nI A.2.2.2.1)) 2 (nI 0)) 3 (nI g_8982)) 4 (nI 5)) hh := hb_8992
          have hm0r : (va_up (va_up (va_up (va_up mi_8979 1 (nI A.2.2.2.1)) 2 (nI 0)) 3 (nI g_8982)) 4 (nI 5)) 0 = nI A.2.1.1 := m_8976.trans hm0
          refine lv_aload_n hx hb dX6_run_47 rfl (lv_at hl 1 rfl) ?_
          have f_8994 : F_8968 (ma 0) = .inl (G.2 0, 89, .inl zf) := (f_8975 (ma 0) (ne_ao fz fb) (ne_aa (by decide) fz fq)).trans fz
          have f_8995 : F_8989 (ma 0) = .inl (G.2 0, 89, .inl zf) := (o_8991 (ma 0) (ne_ao f_8994 fbx_8988)).trans f_8994
          have f_8996 : F_8968 (ma 1) = .inl (G.2 0, 534, .inl hf) := (f_8975 (ma 1) (ne_ao fh fb) (ne_aa (by decide) fh fq)).trans fh
          have f_8997 : F_8989 (ma 1) = .inl (G.2 0, 534, .inl hf) := (o_8991 (ma 1) (ne_ao f_8996 fbx_8988)).trans f_8996
          refine q_callv hw (q_runV (As := []) (c_X6_save l G L F_8989 b ma ((va_up (va_up (va_up (va_up mi_8979 1 (nI A.2.2.2.1)) 2 (nI 0)) 3 (nI g_8982)) 4 (nI 5))) hh zf hf A.2.1.1 mb hb_8993 hm0r hA.2.1.1 hma f_8995 f_8997) C0 hw vw_X6_87 mb hb_8993 rfl rfl rfl hl.1 rfl (Nat.le_of_ble_eq_true rfl) dX6_run_48 ⟨by decide, by decide⟩ ⟨by decide, by decide⟩) rfl rfl (fun F_8998 H locs hw hp_8999 => ?_)
          obtain ⟨f_9000, f_9001, o_9002⟩ := hp_8999
          have fbx_9003 : F_8998 b = .inr (6, [.ref (ma 0), .int (nI (svM A.2.1.1 hf zf).1), .ref (ma 1), .ref (ma 2), .ref (ma 3), .ref (ma 4), .int (nI (A.2.2.2.1)), .ref (ma 5), .int (nI (0)), .ref (ma 6), .int (nI (g_8982)), .int (nI (5)), .long (hh)]) := f_9000
          refine lv_aload_n hx hb dX6_run_51 rfl (lv_at hl 1 rfl) ?_
          refine lv_iconst (v := nI 0) hx hb dX6_run_52 (by decide) ?_
          refine q_put C0 hw mb fbx_9003 fw_X6_165 pw_X6_6 rfl rfl rfl (Nat.le_of_ble_eq_true rfl) dX6_run_53 (fun F_9004 H locs hw f_9005 o_9006 => ?_)
          have f_9005 : F_9004 b = .inr (6, [.ref (ma 0), .int (nI (svM A.2.1.1 hf zf).1), .ref (ma 1), .ref (ma 2), .ref (ma 3), .ref (ma 4), .int (nI (0)), .ref (ma 5), .int (nI (0)), .ref (ma 6), .int (nI (g_8982)), .int (nI (5)), .long (hh)]) := f_9005
          refine lv_iconst (v := nI 0) hx hb dX6_run_56 (by decide) ?_
          refine lv_istore_n (lv' := [(2, .int (nI (0))), (1, .int (nI (1))), (0, .ref b)]) hx hb dX6_run_57 rfl hl (by decide) rfl (fun ls hl => ?_)
          have f_9007 : F_8989 (ma 6) = .inl (G.2 0, 52, .inl pf_8980) := (o_8991 (ma 6) (ne_ao f_8973 fbx_8988)).trans f_8973
          have f_9008 : F_8998 (ma 6) = .inl (G.2 0, 52, .inl pf_8980) := (o_9002 (ma 6) (ne_ao f_9007 hb_8993) (ne_aa (by decide) f_9007 f_8997)).trans f_9007
          have f_9009 : F_9004 (ma 6) = .inl (G.2 0, 52, .inl pf_8980) := (o_9006 (ma 6) (ne_ao f_9008 fbx_9003)).trans f_9008
          have f_9010 : F_9004 (ma 1) = .inl (G.2 0, 534, .inl ((svM A.2.1.1 hf zf).2)) := (o_9006 (ma 1) (ne_ao f_9001 fbx_9003)).trans f_9001
          have f_9011 : F_8998 (ma 0) = .inl (G.2 0, 89, .inl zf) := (o_9002 (ma 0) (ne_ao f_8995 hb_8993) (ne_aa (by decide) f_8995 f_8997)).trans f_8995
          have f_9012 : F_9004 (ma 0) = .inl (G.2 0, 89, .inl zf) := (o_9006 (ma 0) (ne_ao f_9011 fbx_9003)).trans f_9011
          have f_9013 : F_8968 (ma 4) = pcE G pl := (f_8975 (ma 4) (ne_ao fp fb) (ne_aa (by decide) fp fq)).trans fp
          have f_9014 : F_8989 (ma 4) = pcE G pl := (o_8991 (ma 4) (ne_ao f_9013 fbx_8988)).trans f_9013
          have f_9015 : F_8998 (ma 4) = pcE G pl := (o_9002 (ma 4) (ne_ao f_9014 hb_8993) (ne_aa (by decide) f_9014 f_8997)).trans f_9014
          have f_9016 : F_9004 (ma 4) = pcE G pl := (o_9006 (ma 4) (ne_ao f_9015 fbx_9003)).trans f_9015
          have lp58 : ∀ (n : Nat) (k9 : Nat) (zf1 : Nat → Int32) (pl1 : Nat → Nat → ZP) (st1 : Sta), k9 ≤ g_8982 + 1 → zA zf1 st1 → okS st1 → runS A.2.2.2 (61 - k9) (stt A.2.2.2 k9) k9 st1 = runS A.2.2.2 61 0 0 A.1 → g_8982 + 2 - k9 < n → ∀ (F_9017 : Nat → va_E) (H : Heap) (locs : List Loc), wD G L F_9017 s H locs → F_9017 b = .inr (6, [.ref (ma 0), .int (nI (svM A.2.1.1 hf zf).1), .ref (ma 1), .ref (ma 2), .ref (ma 3), .ref (ma 4), .int (nI (0)), .ref (ma 5), .int (nI (0)), .ref (ma 6), .int (nI (g_8982)), .int (nI (5)), .long (hh)]) → F_9017 (ma 6) = .inl (G.2 0, 52, .inl pf_8980) → F_9017 (ma 1) = .inl (G.2 0, 534, .inl ((svM A.2.1.1 hf zf).2)) → F_9017 (ma 0) = .inl (G.2 0, 89, .inl zf1) → F_9017 (ma 4) = pcE G pl1 → (∀ q, q ≠ b → q ≠ (ma 6) → q ≠ (ma 1) → q ≠ (ma 0) → q ≠ (ma 4) → F_9017 q = F q) → ∀ ls : Array Slot, lv_has ls 3 [(0, .ref b), (2, .int (nI (k9)))] → W p l e rm_X6_run s m args below meth c H locs 0 0 Q (F0 m 58 ls []) := by
            intro n
            induction n with
            | zero => intro k9 zf1 pl1 st1 hk hz1 hS1 hrs hm; exact absurd hm (Nat.not_lt_zero _)
            | succ n ih_58 =>
              intro k9 zf1 pl1 st1 hk hz1 hS1 hrs hm F_9017 H locs hw f_9018 f_9019 f_9020 f_9021 f_9022 fr_9023 ls hl
              have hbc : F_9017 b = mO ma (va_up (va_up (va_up (va_up (va_up mi_8979 0 (nI (svM A.2.1.1 hf zf).1)) 1 (nI 0)) 2 (nI 0)) 3 (nI g_8982)) 4 (nI 5)) hh := f_9018
              refine lv_iload_n hx hb dX6_run_58 rfl (lv_at hl 1 rfl) ?_
              refine lv_aload_n hx hb dX6_run_59 rfl (lv_at hl 0 rfl) ?_
              refine q_get C0 hw mb f_9018 fw_X6_171 rfl dX6_run_60 ?_
              refine n_icmp_gt (tgt := 80) hx hb dX6_run_63 (by decide) (by omega) (by omega) (fun c_63 => ?_) (fun c_63 => ?_)
              · skip
                have hk9 : k9 = g_8982 + 1 := by omega
                have hrun : runS A.2.2.2 61 0 0 A.1 = (k9, st1) := hrs.symm.trans (run_end (by rw [hk9]; exact hend))
                refine lv_iload_n hx hb dX6_run_80 rfl (lv_at hl 1 rfl) ?_
                have hb_9024 : F_9017 b = mO ma (va_up (va_up (va_up (va_up (va_up mi_8979 0 ((nI (svM A.2.1.1 hf zf).1))) 1 (nI 0)) 2 (nI 0)) 3 (nI (g_8982))) 4 (nI 5)) (hh) := f_9018
                have f_9025 : F_9017 (ma 2) = .inl (G.2 0, 178, .inl sf) := (fr_9023 (ma 2) (ne_ao fs fb) (ne_aa (by decide) fs fq) (ne_aa (by decide) fs fh) (ne_aa (by decide) fs fz) (ne_aa (by decide) fs fp)).trans fs
                have f_9026 : F_9017 (ma 3) = .inl (G.2 0, 2, .inl kf) := (fr_9023 (ma 3) (ne_ao fk fb) (ne_aa (by decide) fk fq) (ne_aa (by decide) fk fh) (ne_aa (by decide) fk fz) (ne_aa (by decide) fk fp)).trans fk
                have f_9027 : F_9017 (ma 5) = .inl (G.2 0, 60, .inl tf) := (fr_9023 (ma 5) (ne_ao ft fb) (ne_aa (by decide) ft fq) (ne_aa (by decide) ft fh) (ne_aa (by decide) ft fz) (ne_aa (by decide) ft fp)).trans ft
                exact r_i C0 hr hlk hw (v := nI (k9)) rfl ⟨by rw [hrun], ⟨_, _, _, _, _, _, _, _, _, hb_9024, ⟨(congrArg nI (sv_n (st := A.1) hA.2.1.1)), rfl, rfl⟩, ⟨f_9021, (by rw [hrun]; exact hz1)⟩, ⟨f_9020, (sv_h hA.2.1.1 hz hhf)⟩, ⟨f_9025, hsf⟩, ⟨f_9026, hkf⟩, f_9022, ⟨f_9027, (fun i hi => absurd hi (Nat.not_lt_zero i))⟩, f_9019⟩, (fun q k0 k1 => (fr_9023 q k0 (k1 6 (by decide)) (k1 1 (by decide)) (k1 0 (by decide)) (k1 4 (by decide))))⟩ (Nat.le_refl _) (Nat.le_refl _) dX6_run_81 hQ
              · skip
                have hpk := hpa k9 (by omega)
                have hdg := dg_lt hpk.1
                have hkord := dig_ord (cdA_le hA.2.2.2.2 _) hpk.1
                refine lv_aload_n hx hb dX6_run_66 rfl (lv_at hl 0 rfl) ?_
                refine lv_iload_n hx hb dX6_run_67 rfl (lv_at hl 1 rfl) ?_
                refine q_calli hw (q_runV (As := [.int (nI (k9))]) (c_X6_carries l G L F_9017 b ma (va_up (va_up (va_up (va_up (va_up mi_8979 0 (nI (svM A.2.1.1 hf zf).1)) 1 (nI 0)) 2 (nI 0)) 3 (nI g_8982)) 4 (nI 5)) hh pf_8980 zf1 pl1 A.2.2.2 k9 st1 mb hbc hma f_9019 f_9021 f_9022 hz1 hS1 (by omega) hA.2.2.2.2 hpk) C0 hw vw_X6_193 mb f_9018 rfl rfl rfl hl.1 rfl (Nat.le_of_ble_eq_true rfl) dX6_run_68 ⟨by decide, by decide⟩ ⟨by decide, by decide⟩) rfl rfl (fun r_9030 F_9028 H locs hw hp_9029 => ?_)
                rcases hp_9029 with ⟨hc0, hc1, hc2x⟩ | ⟨hc0, hc1, ⟨zf2, pl2, hcz, hcA, hcp⟩, hco⟩
                · skip
                  subst hc0
                  have hrun : runS A.2.2.2 61 0 0 A.1 = (k9, st1) := hrs.symm.trans (run_p hc1)
                  refine n_if_eq (tgt := 80) hx hb dX6_run_71 (by decide) (by decide) (fun c_71 => ?_) (fun c_71 => ?_)
                  · skip
                    refine lv_iload_n hx hb dX6_run_80 rfl (lv_at hl 1 rfl) ?_
                    have f_9031 : F_9028 b = .inr (6, [.ref (ma 0), .int (nI (svM A.2.1.1 hf zf).1), .ref (ma 1), .ref (ma 2), .ref (ma 3), .ref (ma 4), .int (nI (0)), .ref (ma 5), .int (nI (0)), .ref (ma 6), .int (nI (g_8982)), .int (nI (5)), .long (hh)]) := (hc2x b ).trans f_9018
                    have hb_9032 : F_9028 b = mO ma (va_up (va_up (va_up (va_up (va_up mi_8979 0 ((nI (svM A.2.1.1 hf zf).1))) 1 (nI 0)) 2 (nI 0)) 3 (nI (g_8982))) 4 (nI 5)) (hh) := f_9031
                    have f_9033 : F_9028 (ma 0) = .inl (G.2 0, 89, .inl zf1) := (hc2x (ma 0) ).trans f_9021
                    have f_9034 : F_9028 (ma 1) = .inl (G.2 0, 534, .inl ((svM A.2.1.1 hf zf).2)) := (hc2x (ma 1) ).trans f_9020
                    have f_9035 : F_9017 (ma 2) = .inl (G.2 0, 178, .inl sf) := (fr_9023 (ma 2) (ne_ao fs fb) (ne_aa (by decide) fs fq) (ne_aa (by decide) fs fh) (ne_aa (by decide) fs fz) (ne_aa (by decide) fs fp)).trans fs
                    have f_9036 : F_9028 (ma 2) = .inl (G.2 0, 178, .inl sf) := (hc2x (ma 2) ).trans f_9035
                    have f_9037 : F_9017 (ma 3) = .inl (G.2 0, 2, .inl kf) := (fr_9023 (ma 3) (ne_ao fk fb) (ne_aa (by decide) fk fq) (ne_aa (by decide) fk fh) (ne_aa (by decide) fk fz) (ne_aa (by decide) fk fp)).trans fk
                    have f_9038 : F_9028 (ma 3) = .inl (G.2 0, 2, .inl kf) := (hc2x (ma 3) ).trans f_9037
                    have f_9039 : F_9028 (ma 4) = pcE G pl1 := (hc2x (ma 4) ).trans f_9022
                    have f_9040 : F_9017 (ma 5) = .inl (G.2 0, 60, .inl tf) := (fr_9023 (ma 5) (ne_ao ft fb) (ne_aa (by decide) ft fq) (ne_aa (by decide) ft fh) (ne_aa (by decide) ft fz) (ne_aa (by decide) ft fp)).trans ft
                    have f_9041 : F_9028 (ma 5) = .inl (G.2 0, 60, .inl tf) := (hc2x (ma 5) ).trans f_9040
                    have f_9042 : F_9028 (ma 6) = .inl (G.2 0, 52, .inl pf_8980) := (hc2x (ma 6) ).trans f_9019
                    exact r_i C0 hr hlk hw (v := nI (k9)) rfl ⟨by rw [hrun], ⟨_, _, _, _, _, _, _, _, _, hb_9032, ⟨(congrArg nI (sv_n (st := A.1) hA.2.1.1)), rfl, rfl⟩, ⟨f_9033, (by rw [hrun]; exact hz1)⟩, ⟨f_9034, (sv_h hA.2.1.1 hz hhf)⟩, ⟨f_9036, hsf⟩, ⟨f_9038, hkf⟩, f_9039, ⟨f_9041, (fun i hi => absurd hi (Nat.not_lt_zero i))⟩, f_9042⟩, (fun q k0 k1 => ((hc2x q ).trans (fr_9023 q k0 (k1 6 (by decide)) (k1 1 (by decide)) (k1 0 (by decide)) (k1 4 (by decide)))))⟩ (Nat.le_refl _) (Nat.le_refl _) dX6_run_81 hQ
                  · skip
                    exact absurd c_71 (by omega)
                · skip
                  subst hc0
                  refine n_if_eq (tgt := 80) hx hb dX6_run_71 (by decide) (by decide) (fun c_71 => ?_) (fun c_71 => ?_)
                  · skip
                    exact absurd c_71 (by omega)
                  · skip
                    refine lv_iinc (v := nI (k9 + 1)) (lv' := [(2, .int (nI (k9 + 1))), (0, .ref b)]) hx hb dX6_run_74 hl (k := 1) rfl (nI_add _ _) (by decide) rfl (fun ls hl => ?_)
                    refine lv_goto (tgt := 58) hx hb dX6_run_77 (by decide) ?_
                    have f_9043 : F_9028 b = .inr (6, [.ref (ma 0), .int (nI (svM A.2.1.1 hf zf).1), .ref (ma 1), .ref (ma 2), .ref (ma 3), .ref (ma 4), .int (nI (0)), .ref (ma 5), .int (nI (0)), .ref (ma 6), .int (nI (g_8982)), .int (nI (5)), .long (hh)]) := (hco b (ne_oa f_9018 f_9021) (ne_oa f_9018 f_9022)).trans f_9018
                    have f_9044 : F_9028 (ma 6) = .inl (G.2 0, 52, .inl pf_8980) := (hco (ma 6) (ne_aa (by decide) f_9019 f_9021) (ne_aa (by decide) f_9019 f_9022)).trans f_9019
                    have f_9045 : F_9028 (ma 1) = .inl (G.2 0, 534, .inl ((svM A.2.1.1 hf zf).2)) := (hco (ma 1) (ne_aa (by decide) f_9020 f_9021) (ne_aa (by decide) f_9020 f_9022)).trans f_9020
                    exact ih_58 (k9 + 1) (zf2) (pl2) (ordS (cdA A.2.2.2 (stt A.2.2.2 k9)) (slA A.2.2.2 (stt A.2.2.2 k9 + 1)) (slA A.2.2.2 (stt A.2.2.2 k9 + dgA A.2.2.2 (stt A.2.2.2 k9))) (slA A.2.2.2 (stt A.2.2.2 k9 + dgA A.2.2.2 (stt A.2.2.2 k9) + 2)) st1) (by omega) (hcA) (okS_ord hkord (slA_lt _ _) (slA_lt _ _) hS1) (((run_s (by omega) hc1).symm.trans (by rw [show 61 - (k9 + 1) + 1 = 61 - k9 by omega])).trans hrs) (by omega) F_9028 _ _ hw (f_9043) (f_9044) (f_9045) (hcz) (hcp) (fun q k0 k1 k2 k3 k4 => ((hco q k3 k4).trans (fr_9023 q k0 k1 k2 k3 k4))) ls (lv_sub hl [1, 0] rfl)
          exact lp58 _ (0) (zf) (pl) (A.1) (Nat.zero_le _) (hz) (hA.1) (rfl) (Nat.lt_succ_self _) F_9004 _ _ hw (f_9005) (f_9009) (f_9010) (f_9012) (f_9016) (fun q k0 k1 k2 k3 k4 => ((o_9006 q k0).trans ((o_9002 q k0 k2).trans ((o_8991 q k0).trans (f_8975 q k0 k1))))) ls (lv_sub hl [2, 0] rfl)
        · skip
          exact absurd c_42 (by omega)
