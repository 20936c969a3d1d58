abbrev rm_X6_bracketTo : Room := { frames := 3, cells := 0, slots := 0, locals := 70 }
set_option maxHeartbeats 4000000 in
set_option maxRecDepth 100000 in
theorem c_X6_bracketTo (l : Launch) (G : Gl) (L : List Nat) (F : Nat → va_E) (b : Nat) (ma : Nat → Nat) (mi : Nat → Int32) (hh : Int64) (pl : Nat → Nat → ZP) (zf : Nat → Int32) (cu : Nat) (r1 r2 t : Nat) (mb : b ∈ L) (fb : F b = mO ma mi hh) (hma : ∀ i, i < 7 → ma i ∈ L) (fp : F (ma 4) = pcE G pl) (fz : F (ma 0) = .inl (G.2 0, 89, .inl zf)) (hz0 : zf 0 = nI cu) (hc : cu ≤ 6) (hc2 : 2 ≤ cu) (h19 : r1 < 20) (h29 : r2 < 20) (ht9 : t < 20) (h1t : r1 ≠ t) (h2t : r2 ≠ t) (h1a : r1 ≠ 10 ∧ r1 ≠ 13 ∧ r1 ≠ 14) (h2a : r2 ≠ 10 ∧ r2 ≠ 13 ∧ r2 ≠ 14) (hta : t ≠ 10 ∧ t ≠ 13 ∧ t ≠ 14) : CV l yX6_bracketTo cX6_bracketTo 4 none rm_X6_bracketTo G L F [.ref b, .int (nI (r1)), .int (nI (r2)), .int (nI (t))] (fun F1 => (∃ P9, F1 (ma 4) = pcE G P9 ∧ P9 t = m_brM (pl r1) (pl r2) cu ∧ ∀ q, q ≠ t → q ≠ 10 → q ≠ 13 → q ≠ 14 → P9 q = pl q) ∧ ∀ q, q ≠ ma 4 → F1 q = F q) := by
  refine CG_of (by decide) (Nat.le_of_ble_eq_true rfl) rfl ?_
  intro p e s m args below meth c Q C0 hr hlk hnm hQ hw ls hl
  have hx := C0.x
  have hb := C0.b
  refine lv_aload_n hx hb dX6_bracketTo_0 rfl (lv_at hl 0 rfl) ?_
  refine lv_iload_n hx hb dX6_bracketTo_1 rfl (lv_at hl 2 rfl) ?_
  refine lv_bipush (v := nI 10) hx hb dX6_bracketTo_2 (by decide) ?_
  refine q_callv hw (q_runV (As := [.int (nI (r2)), .int (nI (10))]) (c_X6_derive l G L F b ma mi hh pl zf cu r2 10 mb fb hma fp fz hz0 (by omega) (by omega) (by omega) (by omega) (by omega)) C0 hw vw_X6_74 mb fb rfl rfl rfl hl.1 rfl (Nat.le_of_ble_eq_true rfl) dX6_bracketTo_4 ⟨by decide, by decide⟩ ⟨by decide, by decide⟩) rfl rfl (fun F_923 H locs hw hp_924 => ?_)
  obtain ⟨P_925, eP_925⟩ : ∃ P9, P9 = va_up pl 10 (m_der (pl r2)) := ⟨_, rfl⟩
  have f_928 : F_923 (ma 4) = pcE G P_925 := by rw [eP_925]; exact hp_924.1
  have r_926 : P_925 10 = m_der (pl r2) := by rw [eP_925, va_up_self]
  have ro_927 : ∀ q, q ≠ 10 → P_925 q = pl q := fun q hq => by rw [eP_925]; exact va_up_ne _ _ hq
  refine lv_aload_n hx hb dX6_bracketTo_7 rfl (lv_at hl 0 rfl) ?_
  refine lv_iload_n hx hb dX6_bracketTo_8 rfl (lv_at hl 1 rfl) ?_
  refine lv_bipush (v := nI 10) hx hb dX6_bracketTo_9 (by decide) ?_
  refine lv_bipush (v := nI 13) hx hb dX6_bracketTo_11 (by decide) ?_
  have r_929 : P_925 r1 = pl r1 := (ro_927 r1 (by omega)).trans rfl
  have f_930 : F_923 b = mO ma mi hh := (hp_924.2 b (ne_oa fb fp)).trans fb
  have f_931 : F_923 (ma 0) = .inl (G.2 0, 89, .inl zf) := (hp_924.2 (ma 0) (ne_aa (by decide) fz fp)).trans fz
  refine q_callv hw (q_runV (As := [.int (nI (r1)), .int (nI (10)), .int (nI (13))]) (c_X6_multiply l G L F_923 b ma mi hh P_925 zf cu r1 10 13 mb f_930 hma f_928 f_931 hz0 (by omega) (by omega) (by omega) (by omega) (by omega) (by omega) (by omega)) C0 hw vw_X6_61 mb f_930 rfl rfl rfl hl.1 rfl (Nat.le_of_ble_eq_true rfl) dX6_bracketTo_13 ⟨by decide, by decide⟩ ⟨by decide, by decide⟩) rfl rfl (fun F_932 H locs hw hp_933 => ?_)
  obtain ⟨P_934, eP_934⟩ : ∃ P9, P9 = va_up P_925 13 (m_mulT (P_925 r1) (P_925 10) cu) := ⟨_, rfl⟩
  have f_937 : F_932 (ma 4) = pcE G P_934 := by rw [eP_934]; exact hp_933.1
  have r_935 : P_934 13 = m_mulT (pl r1) (m_der (pl r2)) cu := by rw [eP_934, va_up_self]; rw [r_929, r_926]
  have ro_936 : ∀ q, q ≠ 13 → P_934 q = P_925 q := fun q hq => by rw [eP_934]; exact va_up_ne _ _ hq
  have r_938 : P_925 r2 = pl r2 := (ro_927 r2 (by omega)).trans rfl
  refine lv_aload_n hx hb dX6_bracketTo_16 rfl (lv_at hl 0 rfl) ?_
  refine lv_iload_n hx hb dX6_bracketTo_17 rfl (lv_at hl 1 rfl) ?_
  refine lv_bipush (v := nI 10) hx hb dX6_bracketTo_18 (by decide) ?_
  have r_939 : P_934 r1 = pl r1 := (ro_936 r1 (by omega)).trans r_929
  have f_940 : F_932 b = mO ma mi hh := (hp_933.2 b (ne_oa f_930 f_928)).trans f_930
  have f_941 : F_932 (ma 0) = .inl (G.2 0, 89, .inl zf) := (hp_933.2 (ma 0) (ne_aa (by decide) f_931 f_928)).trans f_931
  refine q_callv hw (q_runV (As := [.int (nI (r1)), .int (nI (10))]) (c_X6_derive l G L F_932 b ma mi hh P_934 zf cu r1 10 mb f_940 hma f_937 f_941 hz0 (by omega) (by omega) (by omega) (by omega) (by omega)) C0 hw vw_X6_74 mb f_940 rfl rfl rfl hl.1 rfl (Nat.le_of_ble_eq_true rfl) dX6_bracketTo_20 ⟨by decide, by decide⟩ ⟨by decide, by decide⟩) rfl rfl (fun F_942 H locs hw hp_943 => ?_)
  obtain ⟨P_944, eP_944⟩ : ∃ P9, P9 = va_up P_934 10 (m_der (P_934 r1)) := ⟨_, rfl⟩
  have f_947 : F_942 (ma 4) = pcE G P_944 := by rw [eP_944]; exact hp_943.1
  have r_945 : P_944 10 = m_der (pl r1) := by rw [eP_944, va_up_self]; rw [r_939]
  have ro_946 : ∀ q, q ≠ 10 → P_944 q = P_934 q := fun q hq => by rw [eP_944]; exact va_up_ne _ _ hq
  have r_948 : P_934 r2 = pl r2 := (ro_936 r2 (by omega)).trans r_938
  refine lv_aload_n hx hb dX6_bracketTo_23 rfl (lv_at hl 0 rfl) ?_
  refine lv_iload_n hx hb dX6_bracketTo_24 rfl (lv_at hl 2 rfl) ?_
  refine lv_bipush (v := nI 10) hx hb dX6_bracketTo_25 (by decide) ?_
  refine lv_bipush (v := nI 14) hx hb dX6_bracketTo_27 (by decide) ?_
  have r_949 : P_944 r2 = pl r2 := (ro_946 r2 (by omega)).trans r_948
  have f_950 : F_942 b = mO ma mi hh := (hp_943.2 b (ne_oa f_940 f_937)).trans f_940
  have f_951 : F_942 (ma 0) = .inl (G.2 0, 89, .inl zf) := (hp_943.2 (ma 0) (ne_aa (by decide) f_941 f_937)).trans f_941
  refine q_callv hw (q_runV (As := [.int (nI (r2)), .int (nI (10)), .int (nI (14))]) (c_X6_multiply l G L F_942 b ma mi hh P_944 zf cu r2 10 14 mb f_950 hma f_947 f_951 hz0 (by omega) (by omega) (by omega) (by omega) (by omega) (by omega) (by omega)) C0 hw vw_X6_61 mb f_950 rfl rfl rfl hl.1 rfl (Nat.le_of_ble_eq_true rfl) dX6_bracketTo_29 ⟨by decide, by decide⟩ ⟨by decide, by decide⟩) rfl rfl (fun F_952 H locs hw hp_953 => ?_)
  obtain ⟨P_954, eP_954⟩ : ∃ P9, P9 = va_up P_944 14 (m_mulT (P_944 r2) (P_944 10) cu) := ⟨_, rfl⟩
  have f_957 : F_952 (ma 4) = pcE G P_954 := by rw [eP_954]; exact hp_953.1
  have r_955 : P_954 14 = m_mulT (pl r2) (m_der (pl r1)) cu := by rw [eP_954, va_up_self]; rw [r_949, r_945]
  have ro_956 : ∀ q, q ≠ 14 → P_954 q = P_944 q := fun q hq => by rw [eP_954]; exact va_up_ne _ _ hq
  have r_958 : P_944 r1 = pl r1 := (ro_946 r1 (by omega)).trans r_939
  have r_959 : P_944 13 = m_mulT (pl r1) (m_der (pl r2)) cu := (ro_946 13 (by omega)).trans r_935
  refine lv_aload_n hx hb dX6_bracketTo_32 rfl (lv_at hl 0 rfl) ?_
  refine lv_bipush (v := nI 13) hx hb dX6_bracketTo_33 (by decide) ?_
  refine lv_iload_n hx hb dX6_bracketTo_35 rfl (lv_at hl 3 rfl) ?_
  have r_960 : P_954 13 = m_mulT (pl r1) (m_der (pl r2)) cu := (ro_956 13 (by omega)).trans r_959
  have f_961 : F_952 b = mO ma mi hh := (hp_953.2 b (ne_oa f_950 f_947)).trans f_950
  have f_962 : F_952 (ma 0) = .inl (G.2 0, 89, .inl zf) := (hp_953.2 (ma 0) (ne_aa (by decide) f_951 f_947)).trans f_951
  refine q_callv hw (q_runV (As := [.int (nI (13)), .int (nI (t))]) (c_X6_copy l G L F_952 b ma mi hh P_954 zf cu 13 t mb f_961 hma f_957 f_962 hz0 (by omega) (by omega) (by omega) (by omega) (by omega)) C0 hw vw_X6_64 mb f_961 rfl rfl rfl hl.1 rfl (Nat.le_of_ble_eq_true rfl) dX6_bracketTo_36 ⟨by decide, by decide⟩ ⟨by decide, by decide⟩) rfl rfl (fun F_963 H locs hw hp_964 => ?_)
  obtain ⟨P_965, eP_965⟩ : ∃ P9, P9 = va_up P_954 t (P_954 13) := ⟨_, rfl⟩
  have f_968 : F_963 (ma 4) = pcE G P_965 := by rw [eP_965]; exact hp_964.1
  have r_966 : P_965 t = m_mulT (pl r1) (m_der (pl r2)) cu := by rw [eP_965, va_up_self]; rw [r_960]
  have ro_967 : ∀ q, q ≠ t → P_965 q = P_954 q := fun q hq => by rw [eP_965]; exact va_up_ne _ _ hq
  have r_969 : P_954 r1 = pl r1 := (ro_956 r1 (by omega)).trans r_958
  have r_970 : P_954 r2 = pl r2 := (ro_956 r2 (by omega)).trans r_949
  have r_971 : P_954 10 = m_der (pl r1) := (ro_956 10 (by omega)).trans r_945
  refine lv_aload_n hx hb dX6_bracketTo_39 rfl (lv_at hl 0 rfl) ?_
  refine lv_bipush (v := nI 14) hx hb dX6_bracketTo_40 (by decide) ?_
  refine lv_sipush (v := nI 10006) hx hb dX6_bracketTo_42 (by decide) ?_
  refine lv_iload_n hx hb dX6_bracketTo_45 rfl (lv_at hl 3 rfl) ?_
  have r_972 : P_965 14 = m_mulT (pl r2) (m_der (pl r1)) cu := (ro_967 14 (by omega)).trans r_955
  have f_973 : F_963 b = mO ma mi hh := (hp_964.2 b (ne_oa f_961 f_957)).trans f_961
  have f_974 : F_963 (ma 0) = .inl (G.2 0, 89, .inl zf) := (hp_964.2 (ma 0) (ne_aa (by decide) f_962 f_957)).trans f_962
  refine q_callv hw (q_runV (As := [.int (nI (14)), .int (nI (10006)), .int (nI (t))]) (c_X6_addTimes l G L F_963 b ma mi hh P_965 zf cu 14 10006 t mb f_973 hma f_968 f_974 hz0 (by omega) (by omega) (by omega) (by omega) (by omega) (by omega)) C0 hw vw_X6_58 mb f_973 rfl rfl rfl hl.1 rfl (Nat.le_of_ble_eq_true rfl) dX6_bracketTo_46 ⟨by decide, by decide⟩ ⟨by decide, by decide⟩) rfl rfl (fun F_975 H locs hw hp_976 => ?_)
  obtain ⟨P_977, eP_977⟩ : ∃ P9, P9 = va_up P_965 t (m_am (P_965 t) (P_965 14) (zc 10006)) := ⟨_, rfl⟩
  have f_980 : F_975 (ma 4) = pcE G P_977 := by rw [eP_977]; exact hp_976.1
  have r_978 : P_977 t = m_am (m_mulT (pl r1) (m_der (pl r2)) cu) (m_mulT (pl r2) (m_der (pl r1)) cu) (zc 10006) := by rw [eP_977, va_up_self]; rw [r_972, r_966]
  have ro_979 : ∀ q, q ≠ t → P_977 q = P_965 q := fun q hq => by rw [eP_977]; exact va_up_ne _ _ hq
  have r_981 : P_965 r1 = pl r1 := (ro_967 r1 (by omega)).trans r_969
  have r_982 : P_965 r2 = pl r2 := (ro_967 r2 (by omega)).trans r_970
  have r_983 : P_965 13 = m_mulT (pl r1) (m_der (pl r2)) cu := (ro_967 13 (by omega)).trans r_960
  have r_984 : P_965 10 = m_der (pl r1) := (ro_967 10 (by omega)).trans r_971
  exact r_v C0 hr hlk hw ⟨⟨_, f_980, r_978, (fun q j0 j1 j2 j3 => ((ro_979 q j0).trans ((ro_967 q j0).trans ((ro_956 q j3).trans ((ro_946 q j1).trans ((ro_936 q j2).trans (ro_927 q j1)))))))⟩, (fun q k0 => ((hp_976.2 q k0).trans ((hp_964.2 q k0).trans ((hp_953.2 q k0).trans ((hp_943.2 q k0).trans ((hp_933.2 q k0).trans (hp_924.2 q k0)))))))⟩ (Nat.le_refl _) (Nat.le_refl _) dX6_bracketTo_49 hQ
abbrev rm_X6_wayTo : Room := { frames := 4, cells := 0, slots := 0, locals := 93 }
set_option maxHeartbeats 4000000 in
set_option maxRecDepth 100000 in
theorem c_X6_wayTo (l : Launch) (G : Gl) (L : List Nat) (F : Nat → va_E) (b : Nat) (ma : Nat → Nat) (mi : Nat → Int32) (hh : Int64) (pl : Nat → Nat → ZP) (zf : Nat → Int32) (cu : Nat) (y t : Nat) (mb : b ∈ L) (fb : F b = mO ma mi hh) (hma : ∀ i, i < 7 → ma i ∈ L) (fp : F (ma 4) = pcE G pl) (fz : F (ma 0) = .inl (G.2 0, 89, .inl zf)) (hz0 : zf 0 = nI cu) (hc : cu ≤ 6) (hc2 : 2 ≤ cu) (hy1 : 2 ≤ y) (hy2 : y ≤ 5) (ht9 : t = 2) : CV l yX6_wayTo cX6_wayTo 3 none rm_X6_wayTo G L F [.ref b, .int (nI (y)), .int (nI (t))] (fun F1 => (∃ P9, F1 (ma 4) = pcE G P9 ∧ P9 t = m_wayM (pl 0) (pl 1) y cu ∧ ∀ q, q ≠ t → q ≠ 10 → q ≠ 13 → q ≠ 14 → q ≠ 16 → q ≠ 17 → q ≠ 18 → q ≠ 19 → P9 q = pl q) ∧ ∀ q, q ≠ ma 4 → F1 q = F q) := by
  refine CG_of (by decide) (Nat.le_of_ble_eq_true rfl) rfl ?_
  intro p e s m args below meth c Q C0 hr hlk hnm hQ hw ls hl
  have hx := C0.x
  have hb := C0.b
  refine lv_aload_n hx hb dX6_wayTo_0 rfl (lv_at hl 0 rfl) ?_
  refine lv_iconst (v := nI 0) hx hb dX6_wayTo_1 (by decide) ?_
  refine lv_iconst (v := nI 1) hx hb dX6_wayTo_2 (by decide) ?_
  refine lv_bipush (v := nI 16) hx hb dX6_wayTo_3 (by decide) ?_
  refine q_callv hw (q_runV (As := [.int (nI (0)), .int (nI (1)), .int (nI (16))]) (c_X6_bracketTo l G L F b ma mi hh pl zf cu 0 1 16 mb fb hma fp fz hz0 (by omega) (by omega) (by omega) (by omega) (by omega) (by omega) (by omega) (by omega) (by omega) (by omega)) C0 hw vw_X6_84 mb fb rfl rfl rfl hl.1 rfl (Nat.le_of_ble_eq_true rfl) dX6_wayTo_5 ⟨by decide, by decide⟩ ⟨by decide, by decide⟩) rfl rfl (fun F_985 H locs hw hp_986 => ?_)
  obtain ⟨⟨P_987, f_990, r_988, ro_989⟩, o_991⟩ := hp_986
  refine lv_aload_n hx hb dX6_wayTo_8 rfl (lv_at hl 0 rfl) ?_
  refine lv_iconst (v := nI 0) hx hb dX6_wayTo_9 (by decide) ?_
  refine lv_bipush (v := nI 16) hx hb dX6_wayTo_10 (by decide) ?_
  refine lv_bipush (v := nI 17) hx hb dX6_wayTo_12 (by decide) ?_
  have r_992 : P_987 0 = pl 0 := (ro_989 0 (by omega) (by omega) (by omega) (by omega)).trans rfl
  have f_993 : F_985 b = mO ma mi hh := (o_991 b (ne_oa fb fp)).trans fb
  have f_994 : F_985 (ma 0) = .inl (G.2 0, 89, .inl zf) := (o_991 (ma 0) (ne_aa (by decide) fz fp)).trans fz
  refine q_callv hw (q_runV (As := [.int (nI (0)), .int (nI (16)), .int (nI (17))]) (c_X6_bracketTo l G L F_985 b ma mi hh P_987 zf cu 0 16 17 mb f_993 hma f_990 f_994 hz0 (by omega) (by omega) (by omega) (by omega) (by omega) (by omega) (by omega) (by omega) (by omega) (by omega)) C0 hw vw_X6_84 mb f_993 rfl rfl rfl hl.1 rfl (Nat.le_of_ble_eq_true rfl) dX6_wayTo_14 ⟨by decide, by decide⟩ ⟨by decide, by decide⟩) rfl rfl (fun F_995 H locs hw hp_996 => ?_)
  obtain ⟨⟨P_997, f_1000, r_998, ro_999⟩, o_1001⟩ := hp_996
  rw [r_992, r_988] at r_998
  have r_1002 : P_987 1 = pl 1 := (ro_989 1 (by omega) (by omega) (by omega) (by omega)).trans rfl
  refine lv_aload_n hx hb dX6_wayTo_17 rfl (lv_at hl 0 rfl) ?_
  refine lv_iconst (v := nI 1) hx hb dX6_wayTo_18 (by decide) ?_
  refine lv_bipush (v := nI 16) hx hb dX6_wayTo_19 (by decide) ?_
  refine lv_bipush (v := nI 18) hx hb dX6_wayTo_21 (by decide) ?_
  have r_1003 : P_997 1 = pl 1 := (ro_999 1 (by omega) (by omega) (by omega) (by omega)).trans r_1002
  have r_1004 : P_997 16 = m_brM (pl 0) (pl 1) cu := (ro_999 16 (by omega) (by omega) (by omega) (by omega)).trans r_988
  have f_1005 : F_995 b = mO ma mi hh := (o_1001 b (ne_oa f_993 f_990)).trans f_993
  have f_1006 : F_995 (ma 0) = .inl (G.2 0, 89, .inl zf) := (o_1001 (ma 0) (ne_aa (by decide) f_994 f_990)).trans f_994
  refine q_callv hw (q_runV (As := [.int (nI (1)), .int (nI (16)), .int (nI (18))]) (c_X6_bracketTo l G L F_995 b ma mi hh P_997 zf cu 1 16 18 mb f_1005 hma f_1000 f_1006 hz0 (by omega) (by omega) (by omega) (by omega) (by omega) (by omega) (by omega) (by omega) (by omega) (by omega)) C0 hw vw_X6_84 mb f_1005 rfl rfl rfl hl.1 rfl (Nat.le_of_ble_eq_true rfl) dX6_wayTo_23 ⟨by decide, by decide⟩ ⟨by decide, by decide⟩) rfl rfl (fun F_1007 H locs hw hp_1008 => ?_)
  obtain ⟨⟨P_1009, f_1012, r_1010, ro_1011⟩, o_1013⟩ := hp_1008
  rw [r_1003, r_1004] at r_1010
  have r_1014 : P_997 0 = pl 0 := (ro_999 0 (by omega) (by omega) (by omega) (by omega)).trans r_992
  refine lv_aload_n hx hb dX6_wayTo_26 rfl (lv_at hl 0 rfl) ?_
  refine lv_iconst (v := nI 1) hx hb dX6_wayTo_27 (by decide) ?_
  refine lv_bipush (v := nI 17) hx hb dX6_wayTo_28 (by decide) ?_
  refine lv_bipush (v := nI 19) hx hb dX6_wayTo_30 (by decide) ?_
  have r_1015 : P_1009 1 = pl 1 := (ro_1011 1 (by omega) (by omega) (by omega) (by omega)).trans r_1003
  have r_1016 : P_1009 17 = m_brM (pl 0) (m_brM (pl 0) (pl 1) cu) cu := (ro_1011 17 (by omega) (by omega) (by omega) (by omega)).trans r_998
  have f_1017 : F_1007 b = mO ma mi hh := (o_1013 b (ne_oa f_1005 f_1000)).trans f_1005
  have f_1018 : F_1007 (ma 0) = .inl (G.2 0, 89, .inl zf) := (o_1013 (ma 0) (ne_aa (by decide) f_1006 f_1000)).trans f_1006
  refine q_callv hw (q_runV (As := [.int (nI (1)), .int (nI (17)), .int (nI (19))]) (c_X6_bracketTo l G L F_1007 b ma mi hh P_1009 zf cu 1 17 19 mb f_1017 hma f_1012 f_1018 hz0 (by omega) (by omega) (by omega) (by omega) (by omega) (by omega) (by omega) (by omega) (by omega) (by omega)) C0 hw vw_X6_84 mb f_1017 rfl rfl rfl hl.1 rfl (Nat.le_of_ble_eq_true rfl) dX6_wayTo_32 ⟨by decide, by decide⟩ ⟨by decide, by decide⟩) rfl rfl (fun F_1019 H locs hw hp_1020 => ?_)
  obtain ⟨⟨P_1021, f_1024, r_1022, ro_1023⟩, o_1025⟩ := hp_1020
  rw [r_1015, r_1016] at r_1022
  have r_1026 : P_1009 0 = pl 0 := (ro_1011 0 (by omega) (by omega) (by omega) (by omega)).trans r_1014
  have r_1027 : P_1009 16 = m_brM (pl 0) (pl 1) cu := (ro_1011 16 (by omega) (by omega) (by omega) (by omega)).trans r_1004
  refine lv_aload_n hx hb dX6_wayTo_35 rfl (lv_at hl 0 rfl) ?_
  refine lv_iconst (v := nI 0) hx hb dX6_wayTo_36 (by decide) ?_
  refine lv_iload_n hx hb dX6_wayTo_37 rfl (lv_at hl 2 rfl) ?_
  have r_1028 : P_1021 0 = pl 0 := (ro_1023 0 (by omega) (by omega) (by omega) (by omega)).trans r_1026
  have f_1029 : F_1019 b = mO ma mi hh := (o_1025 b (ne_oa f_1017 f_1012)).trans f_1017
  have f_1030 : F_1019 (ma 0) = .inl (G.2 0, 89, .inl zf) := (o_1025 (ma 0) (ne_aa (by decide) f_1018 f_1012)).trans f_1018
  refine q_callv hw (q_runV (As := [.int (nI (0)), .int (nI (t))]) (c_X6_copy l G L F_1019 b ma mi hh P_1021 zf cu 0 t mb f_1029 hma f_1024 f_1030 hz0 (by omega) (by omega) (by omega) (by omega) (by omega)) C0 hw vw_X6_64 mb f_1029 rfl rfl rfl hl.1 rfl (Nat.le_of_ble_eq_true rfl) dX6_wayTo_38 ⟨by decide, by decide⟩ ⟨by decide, by decide⟩) rfl rfl (fun F_1031 H locs hw hp_1032 => ?_)
  obtain ⟨P_1033, eP_1033⟩ : ∃ P9, P9 = va_up P_1021 t (P_1021 0) := ⟨_, rfl⟩
  have f_1036 : F_1031 (ma 4) = pcE G P_1033 := by rw [eP_1033]; exact hp_1032.1
  have r_1034 : P_1033 t = pl 0 := by rw [eP_1033, va_up_self]; rw [r_1028]
  have ro_1035 : ∀ q, q ≠ t → P_1033 q = P_1021 q := fun q hq => by rw [eP_1033]; exact va_up_ne _ _ hq
  have r_1037 : P_1021 1 = pl 1 := (ro_1023 1 (by omega) (by omega) (by omega) (by omega)).trans r_1015
  have r_1038 : P_1021 16 = m_brM (pl 0) (pl 1) cu := (ro_1023 16 (by omega) (by omega) (by omega) (by omega)).trans r_1027
  have r_1039 : P_1021 17 = m_brM (pl 0) (m_brM (pl 0) (pl 1) cu) cu := (ro_1023 17 (by omega) (by omega) (by omega) (by omega)).trans r_1016
  have r_1040 : P_1021 18 = m_brM (pl 1) (m_brM (pl 0) (pl 1) cu) cu := (ro_1023 18 (by omega) (by omega) (by omega) (by omega)).trans r_1010
  refine lv_aload_n hx hb dX6_wayTo_41 rfl (lv_at hl 0 rfl) ?_
  refine lv_iconst (v := nI 1) hx hb dX6_wayTo_42 (by decide) ?_
  refine lv_iconst (v := nI 1) hx hb dX6_wayTo_43 (by decide) ?_
  refine lv_iload_n hx hb dX6_wayTo_44 rfl (lv_at hl 2 rfl) ?_
  have r_1041 : P_1033 1 = pl 1 := (ro_1035 1 (by omega)).trans r_1037
  have f_1042 : F_1031 b = mO ma mi hh := (hp_1032.2 b (ne_oa f_1029 f_1024)).trans f_1029
  have f_1043 : F_1031 (ma 0) = .inl (G.2 0, 89, .inl zf) := (hp_1032.2 (ma 0) (ne_aa (by decide) f_1030 f_1024)).trans f_1030
  refine q_callv hw (q_runV (As := [.int (nI (1)), .int (nI (1)), .int (nI (t))]) (c_X6_addTimes l G L F_1031 b ma mi hh P_1033 zf cu 1 1 t mb f_1042 hma f_1036 f_1043 hz0 (by omega) (by omega) (by omega) (by omega) (by omega) (by omega)) C0 hw vw_X6_58 mb f_1042 rfl rfl rfl hl.1 rfl (Nat.le_of_ble_eq_true rfl) dX6_wayTo_45 ⟨by decide, by decide⟩ ⟨by decide, by decide⟩) rfl rfl (fun F_1044 H locs hw hp_1045 => ?_)
  obtain ⟨P_1046, eP_1046⟩ : ∃ P9, P9 = va_up P_1033 t (m_am (P_1033 t) (P_1033 1) (zc 1)) := ⟨_, rfl⟩
  have f_1049 : F_1044 (ma 4) = pcE G P_1046 := by rw [eP_1046]; exact hp_1045.1
  have r_1047 : P_1046 t = m_am (pl 0) (pl 1) (zc 1) := by rw [eP_1046, va_up_self]; rw [r_1041, r_1034]
  have ro_1048 : ∀ q, q ≠ t → P_1046 q = P_1033 q := fun q hq => by rw [eP_1046]; exact va_up_ne _ _ hq
  have r_1050 : P_1033 0 = pl 0 := (ro_1035 0 (by omega)).trans r_1028
  have r_1051 : P_1033 16 = m_brM (pl 0) (pl 1) cu := (ro_1035 16 (by omega)).trans r_1038
  have r_1052 : P_1033 17 = m_brM (pl 0) (m_brM (pl 0) (pl 1) cu) cu := (ro_1035 17 (by omega)).trans r_1039
  have r_1053 : P_1033 18 = m_brM (pl 1) (m_brM (pl 0) (pl 1) cu) cu := (ro_1035 18 (by omega)).trans r_1040
  have r_1054 : P_1033 19 = m_brM (pl 1) (m_brM (pl 0) (m_brM (pl 0) (pl 1) cu) cu) cu := (ro_1035 19 (by omega)).trans r_1022
  refine lv_iload_n hx hb dX6_wayTo_48 rfl (lv_at hl 1 rfl) ?_
  refine lv_iconst (v := nI 2) hx hb dX6_wayTo_49 (by decide) ?_
  refine n_icmp_le (tgt := 64) hx hb dX6_wayTo_50 (by decide) (by omega) (by decide) (fun c_50 => ?_) (fun c_50 => ?_)
  · skip
    refine lv_iload_n hx hb dX6_wayTo_64 rfl (lv_at hl 1 rfl) ?_
    refine lv_iconst (v := nI 3) hx hb dX6_wayTo_65 (by decide) ?_
    refine n_icmp_le (tgt := 97) hx hb dX6_wayTo_66 (by decide) (by omega) (by decide) (fun c_66 => ?_) (fun c_66 => ?_)
    · skip
      refine lv_iload_n hx hb dX6_wayTo_97 rfl (lv_at hl 1 rfl) ?_
      refine lv_iconst (v := nI 4) hx hb dX6_wayTo_98 (by decide) ?_
      refine n_icmp_le (tgt := 118) hx hb dX6_wayTo_99 (by decide) (by omega) (by decide) (fun c_99 => ?_) (fun c_99 => ?_)
      · skip
        exact r_v C0 hr hlk hw ⟨⟨_, f_1049, r_1047.trans (by simp only [m_wayM]; rw [if_pos (by omega)]), (fun q j0 j1 j2 j3 j4 j5 j6 j7 => ((ro_1048 q j0).trans ((ro_1035 q j0).trans ((ro_1023 q j7 j1 j2 j3).trans ((ro_1011 q j6 j1 j2 j3).trans ((ro_999 q j5 j1 j2 j3).trans (ro_989 q j4 j1 j2 j3)))))))⟩, (fun q k0 => ((hp_1045.2 q k0).trans ((hp_1032.2 q k0).trans ((o_1025 q k0).trans ((o_1013 q k0).trans ((o_1001 q k0).trans (o_991 q k0)))))))⟩ (Nat.le_refl _) (Nat.le_refl _) dX6_wayTo_118 hQ
      · skip
        exact absurd c_99 (by omega)
    · skip
      exact absurd c_66 (by omega)
  · skip
    refine lv_aload_n hx hb dX6_wayTo_53 rfl (lv_at hl 0 rfl) ?_
    refine lv_bipush (v := nI 16) hx hb dX6_wayTo_54 (by decide) ?_
    refine lv_iconst (v := nI 2) hx hb dX6_wayTo_56 (by decide) ?_
    refine q_calli hw (q_runS (As := [.int (nI (2))]) (c_X6_inverse l G L F_1044 2 (by decide)) C0 hw sw_X6_77 rfl hl.1 rfl (Nat.le_of_ble_eq_true rfl) dX6_wayTo_57 ⟨by decide, by decide⟩ ⟨by decide, by decide⟩) rfl rfl (fun r_1057 F_1055 H locs hw hp_1056 => ?_)
    obtain ⟨he_1058, o_1059⟩ := hp_1056
    subst he_1058
    refine lv_iload_n hx hb dX6_wayTo_60 rfl (lv_at hl 2 rfl) ?_
    have r_1060 : P_1046 16 = m_brM (pl 0) (pl 1) cu := (ro_1048 16 (by omega)).trans r_1051
    have f_1061 : F_1044 b = mO ma mi hh := (hp_1045.2 b (ne_oa f_1042 f_1036)).trans f_1042
    have f_1062 : F_1055 b = mO ma mi hh := (o_1059 b ).trans f_1061
    have f_1063 : F_1055 (ma 4) = pcE G P_1046 := (o_1059 (ma 4) ).trans f_1049
    have f_1064 : F_1044 (ma 0) = .inl (G.2 0, 89, .inl zf) := (hp_1045.2 (ma 0) (ne_aa (by decide) f_1043 f_1036)).trans f_1043
    have f_1065 : F_1055 (ma 0) = .inl (G.2 0, 89, .inl zf) := (o_1059 (ma 0) ).trans f_1064
    refine q_callv hw (q_runV (As := [.int (nI (16)), .int (nI ((m_finv (zc 2)).val)), .int (nI (t))]) (c_X6_addTimes l G L F_1055 b ma mi hh P_1046 zf cu 16 ((m_finv (zc 2)).val) t mb f_1062 hma f_1063 f_1065 hz0 (by omega) (by omega) (by omega) (by omega) (by omega) (by omega)) C0 hw vw_X6_58 mb f_1062 rfl rfl rfl hl.1 rfl (Nat.le_of_ble_eq_true rfl) dX6_wayTo_61 ⟨by decide, by decide⟩ ⟨by decide, by decide⟩) rfl rfl (fun F_1066 H locs hw hp_1067 => ?_)
    obtain ⟨P_1068, eP_1068⟩ : ∃ P9, P9 = va_up P_1046 t (m_am (P_1046 t) (P_1046 16) (zc ((m_finv (zc 2)).val))) := ⟨_, rfl⟩
    have f_1071 : F_1066 (ma 4) = pcE G P_1068 := by rw [eP_1068]; exact hp_1067.1
    have r_1069 : P_1068 t = m_am (m_am (pl 0) (pl 1) (zc 1)) (m_brM (pl 0) (pl 1) cu) (zc ((m_finv (zc 2)).val)) := by rw [eP_1068, va_up_self]; rw [r_1060, r_1047]
    have ro_1070 : ∀ q, q ≠ t → P_1068 q = P_1046 q := fun q hq => by rw [eP_1068]; exact va_up_ne _ _ hq
    have r_1072 : P_1046 0 = pl 0 := (ro_1048 0 (by omega)).trans r_1050
    have r_1073 : P_1046 1 = pl 1 := (ro_1048 1 (by omega)).trans r_1041
    have r_1074 : P_1046 17 = m_brM (pl 0) (m_brM (pl 0) (pl 1) cu) cu := (ro_1048 17 (by omega)).trans r_1052
    have r_1075 : P_1046 18 = m_brM (pl 1) (m_brM (pl 0) (pl 1) cu) cu := (ro_1048 18 (by omega)).trans r_1053
    have r_1076 : P_1046 19 = m_brM (pl 1) (m_brM (pl 0) (m_brM (pl 0) (pl 1) cu) cu) cu := (ro_1048 19 (by omega)).trans r_1054
    refine lv_iload_n hx hb dX6_wayTo_64 rfl (lv_at hl 1 rfl) ?_
    refine lv_iconst (v := nI 3) hx hb dX6_wayTo_65 (by decide) ?_
    refine n_icmp_le (tgt := 97) hx hb dX6_wayTo_66 (by decide) (by omega) (by decide) (fun c_66 => ?_) (fun c_66 => ?_)
    · skip
      refine lv_iload_n hx hb dX6_wayTo_97 rfl (lv_at hl 1 rfl) ?_
      refine lv_iconst (v := nI 4) hx hb dX6_wayTo_98 (by decide) ?_
      refine n_icmp_le (tgt := 118) hx hb dX6_wayTo_99 (by decide) (by omega) (by decide) (fun c_99 => ?_) (fun c_99 => ?_)
      · skip
        exact r_v C0 hr hlk hw ⟨⟨_, f_1071, r_1069.trans (by simp only [m_wayM]; rw [if_neg (by omega), if_pos (by omega), zc_z]), (fun q j0 j1 j2 j3 j4 j5 j6 j7 => ((ro_1070 q j0).trans ((ro_1048 q j0).trans ((ro_1035 q j0).trans ((ro_1023 q j7 j1 j2 j3).trans ((ro_1011 q j6 j1 j2 j3).trans ((ro_999 q j5 j1 j2 j3).trans (ro_989 q j4 j1 j2 j3))))))))⟩, (fun q k0 => ((hp_1067.2 q k0).trans ((o_1059 q ).trans ((hp_1045.2 q k0).trans ((hp_1032.2 q k0).trans ((o_1025 q k0).trans ((o_1013 q k0).trans ((o_1001 q k0).trans (o_991 q k0)))))))))⟩ (Nat.le_refl _) (Nat.le_refl _) dX6_wayTo_118 hQ
      · skip
        exact absurd c_99 (by omega)
    · skip
      refine lv_aload_n hx hb dX6_wayTo_69 rfl (lv_at hl 0 rfl) ?_
      refine lv_bipush (v := nI 17) hx hb dX6_wayTo_70 (by decide) ?_
      refine lv_bipush (v := nI 12) hx hb dX6_wayTo_72 (by decide) ?_
      refine q_calli hw (q_runS (As := [.int (nI (12))]) (c_X6_inverse l G L F_1066 12 (by decide)) C0 hw sw_X6_77 rfl hl.1 rfl (Nat.le_of_ble_eq_true rfl) dX6_wayTo_74 ⟨by decide, by decide⟩ ⟨by decide, by decide⟩) rfl rfl (fun r_1079 F_1077 H locs hw hp_1078 => ?_)
      obtain ⟨he_1080, o_1081⟩ := hp_1078
      subst he_1080
      refine lv_iload_n hx hb dX6_wayTo_77 rfl (lv_at hl 2 rfl) ?_
      have r_1082 : P_1068 17 = m_brM (pl 0) (m_brM (pl 0) (pl 1) cu) cu := (ro_1070 17 (by omega)).trans r_1074
      have f_1083 : F_1066 b = mO ma mi hh := (hp_1067.2 b (ne_oa f_1062 f_1063)).trans f_1062
      have f_1084 : F_1077 b = mO ma mi hh := (o_1081 b ).trans f_1083
      have f_1085 : F_1077 (ma 4) = pcE G P_1068 := (o_1081 (ma 4) ).trans f_1071
      have f_1086 : F_1066 (ma 0) = .inl (G.2 0, 89, .inl zf) := (hp_1067.2 (ma 0) (ne_aa (by decide) f_1065 f_1063)).trans f_1065
      have f_1087 : F_1077 (ma 0) = .inl (G.2 0, 89, .inl zf) := (o_1081 (ma 0) ).trans f_1086
      refine q_callv hw (q_runV (As := [.int (nI (17)), .int (nI ((m_finv (zc 12)).val)), .int (nI (t))]) (c_X6_addTimes l G L F_1077 b ma mi hh P_1068 zf cu 17 ((m_finv (zc 12)).val) t mb f_1084 hma f_1085 f_1087 hz0 (by omega) (by omega) (by omega) (by omega) (by omega) (by omega)) C0 hw vw_X6_58 mb f_1084 rfl rfl rfl hl.1 rfl (Nat.le_of_ble_eq_true rfl) dX6_wayTo_78 ⟨by decide, by decide⟩ ⟨by decide, by decide⟩) rfl rfl (fun F_1088 H locs hw hp_1089 => ?_)
      obtain ⟨P_1090, eP_1090⟩ : ∃ P9, P9 = va_up P_1068 t (m_am (P_1068 t) (P_1068 17) (zc ((m_finv (zc 12)).val))) := ⟨_, rfl⟩
      have f_1093 : F_1088 (ma 4) = pcE G P_1090 := by rw [eP_1090]; exact hp_1089.1
      have r_1091 : P_1090 t = m_am (m_am (m_am (pl 0) (pl 1) (zc 1)) (m_brM (pl 0) (pl 1) cu) (zc ((m_finv (zc 2)).val))) (m_brM (pl 0) (m_brM (pl 0) (pl 1) cu) cu) (zc ((m_finv (zc 12)).val)) := by rw [eP_1090, va_up_self]; rw [r_1082, r_1069]
      have ro_1092 : ∀ q, q ≠ t → P_1090 q = P_1068 q := fun q hq => by rw [eP_1090]; exact va_up_ne _ _ hq
      have r_1094 : P_1068 0 = pl 0 := (ro_1070 0 (by omega)).trans r_1072
      have r_1095 : P_1068 1 = pl 1 := (ro_1070 1 (by omega)).trans r_1073
      have r_1096 : P_1068 16 = m_brM (pl 0) (pl 1) cu := (ro_1070 16 (by omega)).trans r_1060
      have r_1097 : P_1068 18 = m_brM (pl 1) (m_brM (pl 0) (pl 1) cu) cu := (ro_1070 18 (by omega)).trans r_1075
      have r_1098 : P_1068 19 = m_brM (pl 1) (m_brM (pl 0) (m_brM (pl 0) (pl 1) cu) cu) cu := (ro_1070 19 (by omega)).trans r_1076
      refine lv_aload_n hx hb dX6_wayTo_81 rfl (lv_at hl 0 rfl) ?_
      refine lv_bipush (v := nI 18) hx hb dX6_wayTo_82 (by decide) ?_
      refine lv_sipush (v := nI 10007) hx hb dX6_wayTo_84 (by decide) ?_
      refine lv_bipush (v := nI 12) hx hb dX6_wayTo_87 (by decide) ?_
      refine q_calli hw (q_runS (As := [.int (nI (12))]) (c_X6_inverse l G L F_1088 12 (by decide)) C0 hw sw_X6_77 rfl hl.1 rfl (Nat.le_of_ble_eq_true rfl) dX6_wayTo_89 ⟨by decide, by decide⟩ ⟨by decide, by decide⟩) rfl rfl (fun r_1101 F_1099 H locs hw hp_1100 => ?_)
      obtain ⟨he_1102, o_1103⟩ := hp_1100
      subst he_1102
      refine n_isub hx hb (by omega) dX6_wayTo_92 ?_
      refine lv_iload_n hx hb dX6_wayTo_93 rfl (lv_at hl 2 rfl) ?_
      have r_1104 : P_1090 18 = m_brM (pl 1) (m_brM (pl 0) (pl 1) cu) cu := (ro_1092 18 (by omega)).trans r_1097
      have f_1105 : F_1088 b = mO ma mi hh := (hp_1089.2 b (ne_oa f_1084 f_1085)).trans f_1084
      have f_1106 : F_1099 b = mO ma mi hh := (o_1103 b ).trans f_1105
      have f_1107 : F_1099 (ma 4) = pcE G P_1090 := (o_1103 (ma 4) ).trans f_1093
      have f_1108 : F_1088 (ma 0) = .inl (G.2 0, 89, .inl zf) := (hp_1089.2 (ma 0) (ne_aa (by decide) f_1087 f_1085)).trans f_1087
      have f_1109 : F_1099 (ma 0) = .inl (G.2 0, 89, .inl zf) := (o_1103 (ma 0) ).trans f_1108
      refine q_callv hw (q_runV (As := [.int (nI (18)), .int (nI (10007 - ((m_finv (zc 12)).val))), .int (nI (t))]) (c_X6_addTimes l G L F_1099 b ma mi hh P_1090 zf cu 18 (10007 - ((m_finv (zc 12)).val)) t mb f_1106 hma f_1107 f_1109 hz0 (by omega) (by omega) (by omega) (by omega) (by omega) (by omega)) C0 hw vw_X6_58 mb f_1106 rfl rfl rfl hl.1 rfl (Nat.le_of_ble_eq_true rfl) dX6_wayTo_94 ⟨by decide, by decide⟩ ⟨by decide, by decide⟩) rfl rfl (fun F_1110 H locs hw hp_1111 => ?_)
      obtain ⟨P_1112, eP_1112⟩ : ∃ P9, P9 = va_up P_1090 t (m_am (P_1090 t) (P_1090 18) (zc (10007 - ((m_finv (zc 12)).val)))) := ⟨_, rfl⟩
      have f_1115 : F_1110 (ma 4) = pcE G P_1112 := by rw [eP_1112]; exact hp_1111.1
      have r_1113 : P_1112 t = m_am (m_am (m_am (m_am (pl 0) (pl 1) (zc 1)) (m_brM (pl 0) (pl 1) cu) (zc ((m_finv (zc 2)).val))) (m_brM (pl 0) (m_brM (pl 0) (pl 1) cu) cu) (zc ((m_finv (zc 12)).val))) (m_brM (pl 1) (m_brM (pl 0) (pl 1) cu) cu) (zc (10007 - ((m_finv (zc 12)).val))) := by rw [eP_1112, va_up_self]; rw [r_1104, r_1091]
      have ro_1114 : ∀ q, q ≠ t → P_1112 q = P_1090 q := fun q hq => by rw [eP_1112]; exact va_up_ne _ _ hq
      have r_1116 : P_1090 0 = pl 0 := (ro_1092 0 (by omega)).trans r_1094
      have r_1117 : P_1090 1 = pl 1 := (ro_1092 1 (by omega)).trans r_1095
      have r_1118 : P_1090 16 = m_brM (pl 0) (pl 1) cu := (ro_1092 16 (by omega)).trans r_1096
      have r_1119 : P_1090 17 = m_brM (pl 0) (m_brM (pl 0) (pl 1) cu) cu := (ro_1092 17 (by omega)).trans r_1082
      have r_1120 : P_1090 19 = m_brM (pl 1) (m_brM (pl 0) (m_brM (pl 0) (pl 1) cu) cu) cu := (ro_1092 19 (by omega)).trans r_1098
      refine lv_iload_n hx hb dX6_wayTo_97 rfl (lv_at hl 1 rfl) ?_
      refine lv_iconst (v := nI 4) hx hb dX6_wayTo_98 (by decide) ?_
      refine n_icmp_le (tgt := 118) hx hb dX6_wayTo_99 (by decide) (by omega) (by decide) (fun c_99 => ?_) (fun c_99 => ?_)
      · skip
        exact r_v C0 hr hlk hw ⟨⟨_, f_1115, r_1113.trans (by simp only [m_wayM]; rw [if_neg (by omega), if_neg (by omega), if_pos (by omega), zc_z, zc_z]), (fun q j0 j1 j2 j3 j4 j5 j6 j7 => ((ro_1114 q j0).trans ((ro_1092 q j0).trans ((ro_1070 q j0).trans ((ro_1048 q j0).trans ((ro_1035 q j0).trans ((ro_1023 q j7 j1 j2 j3).trans ((ro_1011 q j6 j1 j2 j3).trans ((ro_999 q j5 j1 j2 j3).trans (ro_989 q j4 j1 j2 j3))))))))))⟩, (fun q k0 => ((hp_1111.2 q k0).trans ((o_1103 q ).trans ((hp_1089.2 q k0).trans ((o_1081 q ).trans ((hp_1067.2 q k0).trans ((o_1059 q ).trans ((hp_1045.2 q k0).trans ((hp_1032.2 q k0).trans ((o_1025 q k0).trans ((o_1013 q k0).trans ((o_1001 q k0).trans (o_991 q k0)))))))))))))⟩ (Nat.le_refl _) (Nat.le_refl _) dX6_wayTo_118 hQ
      · skip
        refine lv_aload_n hx hb dX6_wayTo_102 rfl (lv_at hl 0 rfl) ?_
        refine lv_bipush (v := nI 19) hx hb dX6_wayTo_103 (by decide) ?_
        refine lv_sipush (v := nI 10007) hx hb dX6_wayTo_105 (by decide) ?_
        refine lv_bipush (v := nI 24) hx hb dX6_wayTo_108 (by decide) ?_
        refine q_calli hw (q_runS (As := [.int (nI (24))]) (c_X6_inverse l G L F_1110 24 (by decide)) C0 hw sw_X6_77 rfl hl.1 rfl (Nat.le_of_ble_eq_true rfl) dX6_wayTo_110 ⟨by decide, by decide⟩ ⟨by decide, by decide⟩) rfl rfl (fun r_1123 F_1121 H locs hw hp_1122 => ?_)
        obtain ⟨he_1124, o_1125⟩ := hp_1122
        subst he_1124
        refine n_isub hx hb (by omega) dX6_wayTo_113 ?_
        refine lv_iload_n hx hb dX6_wayTo_114 rfl (lv_at hl 2 rfl) ?_
        have r_1126 : P_1112 19 = m_brM (pl 1) (m_brM (pl 0) (m_brM (pl 0) (pl 1) cu) cu) cu := (ro_1114 19 (by omega)).trans r_1120
        have f_1127 : F_1110 b = mO ma mi hh := (hp_1111.2 b (ne_oa f_1106 f_1107)).trans f_1106
        have f_1128 : F_1121 b = mO ma mi hh := (o_1125 b ).trans f_1127
        have f_1129 : F_1121 (ma 4) = pcE G P_1112 := (o_1125 (ma 4) ).trans f_1115
        have f_1130 : F_1110 (ma 0) = .inl (G.2 0, 89, .inl zf) := (hp_1111.2 (ma 0) (ne_aa (by decide) f_1109 f_1107)).trans f_1109
        have f_1131 : F_1121 (ma 0) = .inl (G.2 0, 89, .inl zf) := (o_1125 (ma 0) ).trans f_1130
        refine q_callv hw (q_runV (As := [.int (nI (19)), .int (nI (10007 - ((m_finv (zc 24)).val))), .int (nI (t))]) (c_X6_addTimes l G L F_1121 b ma mi hh P_1112 zf cu 19 (10007 - ((m_finv (zc 24)).val)) t mb f_1128 hma f_1129 f_1131 hz0 (by omega) (by omega) (by omega) (by omega) (by omega) (by omega)) C0 hw vw_X6_58 mb f_1128 rfl rfl rfl hl.1 rfl (Nat.le_of_ble_eq_true rfl) dX6_wayTo_115 ⟨by decide, by decide⟩ ⟨by decide, by decide⟩) rfl rfl (fun F_1132 H locs hw hp_1133 => ?_)
        obtain ⟨P_1134, eP_1134⟩ : ∃ P9, P9 = va_up P_1112 t (m_am (P_1112 t) (P_1112 19) (zc (10007 - ((m_finv (zc 24)).val)))) := ⟨_, rfl⟩
        have f_1137 : F_1132 (ma 4) = pcE G P_1134 := by rw [eP_1134]; exact hp_1133.1
        have r_1135 : P_1134 t = m_am (m_am (m_am (m_am (m_am (pl 0) (pl 1) (zc 1)) (m_brM (pl 0) (pl 1) cu) (zc ((m_finv (zc 2)).val))) (m_brM (pl 0) (m_brM (pl 0) (pl 1) cu) cu) (zc ((m_finv (zc 12)).val))) (m_brM (pl 1) (m_brM (pl 0) (pl 1) cu) cu) (zc (10007 - ((m_finv (zc 12)).val)))) (m_brM (pl 1) (m_brM (pl 0) (m_brM (pl 0) (pl 1) cu) cu) cu) (zc (10007 - ((m_finv (zc 24)).val))) := by rw [eP_1134, va_up_self]; rw [r_1126, r_1113]
        have ro_1136 : ∀ q, q ≠ t → P_1134 q = P_1112 q := fun q hq => by rw [eP_1134]; exact va_up_ne _ _ hq
        have r_1138 : P_1112 0 = pl 0 := (ro_1114 0 (by omega)).trans r_1116
        have r_1139 : P_1112 1 = pl 1 := (ro_1114 1 (by omega)).trans r_1117
        have r_1140 : P_1112 16 = m_brM (pl 0) (pl 1) cu := (ro_1114 16 (by omega)).trans r_1118
        have r_1141 : P_1112 17 = m_brM (pl 0) (m_brM (pl 0) (pl 1) cu) cu := (ro_1114 17 (by omega)).trans r_1119
        have r_1142 : P_1112 18 = m_brM (pl 1) (m_brM (pl 0) (pl 1) cu) cu := (ro_1114 18 (by omega)).trans r_1104
        exact r_v C0 hr hlk hw ⟨⟨_, f_1137, r_1135.trans (by simp only [m_wayM]; rw [if_neg (by omega), if_neg (by omega), if_neg (by omega), zc_z, zc_z]), (fun q j0 j1 j2 j3 j4 j5 j6 j7 => ((ro_1136 q j0).trans ((ro_1114 q j0).trans ((ro_1092 q j0).trans ((ro_1070 q j0).trans ((ro_1048 q j0).trans ((ro_1035 q j0).trans ((ro_1023 q j7 j1 j2 j3).trans ((ro_1011 q j6 j1 j2 j3).trans ((ro_999 q j5 j1 j2 j3).trans (ro_989 q j4 j1 j2 j3)))))))))))⟩, (fun q k0 => ((hp_1133.2 q k0).trans ((o_1125 q ).trans ((hp_1111.2 q k0).trans ((o_1103 q ).trans ((hp_1089.2 q k0).trans ((o_1081 q ).trans ((hp_1067.2 q k0).trans ((o_1059 q ).trans ((hp_1045.2 q k0).trans ((hp_1032.2 q k0).trans ((o_1025 q k0).trans ((o_1013 q k0).trans ((o_1001 q k0).trans (o_991 q k0)))))))))))))))⟩ (Nat.le_refl _) (Nat.le_refl _) dX6_wayTo_118 hQ
abbrev rm_X6_lowest : Room := { frames := 1, cells := 0, slots := 0, locals := 22 }
set_option maxHeartbeats 4000000 in
set_option maxRecDepth 100000 in
theorem c_X6_lowest (l : Launch) (G : Gl) (L : List Nat) (F : Nat → va_E) (b : Nat) (ma : Nat → Nat) (mi : Nat → Int32) (hh : Int64) (pl : Nat → Nat → ZP) (zf : Nat → Int32) (cu : Nat) (rr : Nat) (mb : b ∈ L) (fb : F b = mO ma mi hh) (hma : ∀ i, i < 7 → ma i ∈ L) (fp : F (ma 4) = pcE G pl) (fz : F (ma 0) = .inl (G.2 0, 89, .inl zf)) (hz0 : zf 0 = nI cu) (hc : cu ≤ 6) (hc2 : 2 ≤ cu) (hr9 : rr < 20) : CI l yX6_lowest cX6_lowest 3 (some .int) rm_X6_lowest G L F [.ref b, .int (nI (rr))] (fun r F1 => r = m_low (fun k => decide (pl rr k ≠ 0)) ∧ ∀ q, F1 q = F q) := by
  refine CG_of (by decide) (Nat.le_of_ble_eq_true rfl) rfl ?_
  intro p e s m args below meth c Q C0 hr hlk hnm hQ hw ls hl
  have hx := C0.x
  have hb := C0.b
  refine lv_iconst (v := nI 2) hx hb dX6_lowest_0 (by decide) ?_
  refine lv_istore_n (lv' := [(2, .int (nI (2))), (0, .ref b), (1, .int (nI (rr)))]) hx hb dX6_lowest_1 rfl hl (by decide) rfl (fun ls hl => ?_)
  have lp2 : ∀ (n : Nat) (i : Nat), 2 ≤ i → i ≤ 7 → (∀ j, 2 ≤ j → j < i → (fun k => decide (pl rr k ≠ 0)) j = false) → 7 + 1 - i < n → ∀ (F_1143 : Nat → va_E) (H : Heap) (locs : List Loc), wD G L F_1143 s H locs → (∀ q, F_1143 q = F q) → ∀ ls : Array Slot, lv_has ls 3 [(0, .ref b), (1, .int (nI (rr))), (2, .int (nI (i)))] → W p l e rm_X6_lowest s m args below meth c H locs 0 0 Q (F0 m 2 ls []) := by
    intro n
    induction n with
    | zero => intro i hlo hhi hall hm; exact absurd hm (Nat.not_lt_zero _)
    | succ n ih_2 =>
      intro i hlo hhi hall hm F_1143 H locs hw  fr_1144 ls hl
      refine lv_iload_n hx hb dX6_lowest_2 rfl (lv_at hl 2 rfl) ?_
      refine lv_bipush (v := nI 7) hx hb dX6_lowest_3 (by decide) ?_
      refine n_icmp_ge (tgt := 25) hx hb dX6_lowest_5 (by decide) (by omega) (by decide) (fun c_5 => ?_) (fun c_5 => ?_)
      · skip
        obtain rfl : i = 7 := by omega
        refine lv_iconst (v := (-1)) hx hb dX6_lowest_25 (by decide) ?_
        exact r_i C0 hr hlk hw (v := (-1)) rfl ⟨(m_low_no hall).symm, (fun q  => (fr_1144 q ))⟩ (Nat.le_refl _) (Nat.le_refl _) dX6_lowest_26 hQ
      · skip
        refine lv_aload_n hx hb dX6_lowest_8 rfl (lv_at hl 0 rfl) ?_
        refine lv_iload_n hx hb dX6_lowest_9 rfl (lv_at hl 1 rfl) ?_
        refine lv_iload_n hx hb dX6_lowest_10 rfl (lv_at hl 2 rfl) ?_
        have f_1145 : F_1143 b = mO ma mi hh := (fr_1144 b ).trans fb
        have f_1146 : F_1143 (ma 4) = pcE G pl := (fr_1144 (ma 4) ).trans fp
        have f_1147 : F_1143 (ma 0) = .inl (G.2 0, 89, .inl zf) := (fr_1144 (ma 0) ).trans fz
        refine q_calli hw (q_runV (As := [.int (nI (rr)), .int (nI (i))]) (c_X6_at l G L F_1143 b ma mi hh pl zf cu rr i mb f_1145 hma f_1146 f_1147 hz0 (by omega) (by omega) (by omega) (by omega)) C0 hw vw_X6_50 mb f_1145 rfl rfl rfl hl.1 rfl (Nat.le_of_ble_eq_true rfl) dX6_lowest_11 ⟨by decide, by decide⟩ ⟨by decide, by decide⟩) rfl rfl (fun r_1150 F_1148 H locs hw hp_1149 => ?_)
        obtain ⟨he_1151, o_1152⟩ := hp_1149
        have he_1151 : r_1150 = nI (((pl rr) i).val) := he_1151
        subst he_1151
        have z_1153 := ((pl rr) i).isLt
        refine n_if_eq (tgt := 19) hx hb dX6_lowest_14 (by decide) (by omega) (fun c_14 => ?_) (fun c_14 => ?_)
        · skip
          refine lv_iinc (v := nI (i + 1)) (lv' := [(2, .int (nI (i + 1))), (0, .ref b), (1, .int (nI (rr)))]) hx hb dX6_lowest_19 hl (k := 2) rfl (nI_add _ _) (by decide) rfl (fun ls hl => ?_)
          refine lv_goto (tgt := 2) hx hb dX6_lowest_22 (by decide) ?_
          exact ih_2 (i + 1) ((by omega)) ((by omega)) ((m_low_ext hall (by simp only [decide_eq_false_iff_not, Decidable.not_not]; exact Fin.ext c_14))) (by omega) F_1148 _ _ hw  (fun q  => ((o_1152 q ).trans (fr_1144 q ))) ls (lv_sub hl [1, 2, 0] rfl)
        · skip
          refine lv_iload_n hx hb dX6_lowest_17 rfl (lv_at hl 2 rfl) ?_
          exact r_i C0 hr hlk hw (v := nI (i)) rfl ⟨(m_low_at (by omega) (by omega) hall (by simp only [decide_eq_true_eq]; intro h9; exact c_14 (by rw [h9]; rfl))).symm, (fun q  => ((o_1152 q ).trans (fr_1144 q )))⟩ (Nat.le_refl _) (Nat.le_refl _) dX6_lowest_18 hQ
  exact lp2 _ (2) ((by omega)) ((by omega)) ((fun j h1 h2 => absurd h1 (by omega))) (Nat.lt_succ_self _) F _ _ hw  (fun q  => rfl) ls (lv_sub hl [1, 2, 0] rfl)
abbrev rm_X6_lowestApart : Room := { frames := 1, cells := 0, slots := 0, locals := 22 }
set_option maxHeartbeats 4000000 in
set_option maxRecDepth 100000 in
theorem c_X6_lowestApart (l : Launch) (G : Gl) (L : List Nat) (F : Nat → va_E) (b : Nat) (ma : Nat → Nat) (mi : Nat → Int32) (hh : Int64) (pl : Nat → Nat → ZP) (zf : Nat → Int32) (cu : Nat) (r1 r2 : Nat) (mb : b ∈ L) (fb : F b = mO ma mi hh) (hma : ∀ i, i < 7 → ma i ∈ L) (fp : F (ma 4) = pcE G pl) (fz : F (ma 0) = .inl (G.2 0, 89, .inl zf)) (hz0 : zf 0 = nI cu) (hc : cu ≤ 6) (hc2 : 2 ≤ cu) (hr9 : r1 < 20) (hr8 : r2 < 20) : CI l yX6_lowestApart cX6_lowestApart 4 (some .int) rm_X6_lowestApart G L F [.ref b, .int (nI (r1)), .int (nI (r2))] (fun r F1 => r = m_low (fun k => decide (pl r1 k ≠ pl r2 k)) ∧ ∀ q, F1 q = F q) := by
  refine CG_of (by decide) (Nat.le_of_ble_eq_true rfl) rfl ?_
  intro p e s m args below meth c Q C0 hr hlk hnm hQ hw ls hl
  have hx := C0.x
  have hb := C0.b
  refine lv_iconst (v := nI 2) hx hb dX6_lowestApart_0 (by decide) ?_
  refine lv_istore_n (lv' := [(3, .int (nI (2))), (0, .ref b), (1, .int (nI (r1))), (2, .int (nI (r2)))]) hx hb dX6_lowestApart_1 rfl hl (by decide) rfl (fun ls hl => ?_)
  have lp2 : ∀ (n : Nat) (i : Nat), 2 ≤ i → i ≤ 7 → (∀ j, 2 ≤ j → j < i → (fun k => decide (pl r1 k ≠ pl r2 k)) j = false) → 7 + 1 - i < n → ∀ (F_1154 : Nat → va_E) (H : Heap) (locs : List Loc), wD G L F_1154 s H locs → (∀ q, F_1154 q = F q) → ∀ ls : Array Slot, lv_has ls 4 [(0, .ref b), (1, .int (nI (r1))), (2, .int (nI (r2))), (3, .int (nI (i)))] → W p l e rm_X6_lowestApart s m args below meth c H locs 0 0 Q (F0 m 2 ls []) := by
    intro n
    induction n with
    | zero => intro i hlo hhi hall hm; exact absurd hm (Nat.not_lt_zero _)
    | succ n ih_2 =>
      intro i hlo hhi hall hm F_1154 H locs hw  fr_1155 ls hl
      refine lv_iload_n hx hb dX6_lowestApart_2 rfl (lv_at hl 3 rfl) ?_
      refine lv_bipush (v := nI 7) hx hb dX6_lowestApart_3 (by decide) ?_
      refine n_icmp_ge (tgt := 31) hx hb dX6_lowestApart_5 (by decide) (by omega) (by decide) (fun c_5 => ?_) (fun c_5 => ?_)
      · skip
        obtain rfl : i = 7 := by omega
        refine lv_iconst (v := (-1)) hx hb dX6_lowestApart_31 (by decide) ?_
        exact r_i C0 hr hlk hw (v := (-1)) rfl ⟨(m_low_no hall).symm, (fun q  => (fr_1155 q ))⟩ (Nat.le_refl _) (Nat.le_refl _) dX6_lowestApart_32 hQ
      · skip
        refine lv_aload_n hx hb dX6_lowestApart_8 rfl (lv_at hl 0 rfl) ?_
        refine lv_iload_n hx hb dX6_lowestApart_9 rfl (lv_at hl 1 rfl) ?_
        refine lv_iload_n hx hb dX6_lowestApart_10 rfl (lv_at hl 3 rfl) ?_
        have f_1156 : F_1154 b = mO ma mi hh := (fr_1155 b ).trans fb
        have f_1157 : F_1154 (ma 4) = pcE G pl := (fr_1155 (ma 4) ).trans fp
        have f_1158 : F_1154 (ma 0) = .inl (G.2 0, 89, .inl zf) := (fr_1155 (ma 0) ).trans fz
        refine q_calli hw (q_runV (As := [.int (nI (r1)), .int (nI (i))]) (c_X6_at l G L F_1154 b ma mi hh pl zf cu r1 i mb f_1156 hma f_1157 f_1158 hz0 (by omega) (by omega) (by omega) (by omega)) C0 hw vw_X6_50 mb f_1156 rfl rfl rfl hl.1 rfl (Nat.le_of_ble_eq_true rfl) dX6_lowestApart_11 ⟨by decide, by decide⟩ ⟨by decide, by decide⟩) rfl rfl (fun r_1161 F_1159 H locs hw hp_1160 => ?_)
        obtain ⟨he_1162, o_1163⟩ := hp_1160
        have he_1162 : r_1161 = nI (((pl r1) i).val) := he_1162
        subst he_1162
        have z_1164 := ((pl r1) i).isLt
        refine lv_aload_n hx hb dX6_lowestApart_14 rfl (lv_at hl 0 rfl) ?_
        refine lv_iload_n hx hb dX6_lowestApart_15 rfl (lv_at hl 2 rfl) ?_
        refine lv_iload_n hx hb dX6_lowestApart_16 rfl (lv_at hl 3 rfl) ?_
        have f_1165 : F_1159 b = mO ma mi hh := (o_1163 b ).trans f_1156
        have f_1166 : F_1159 (ma 4) = pcE G pl := (o_1163 (ma 4) ).trans f_1157
        have f_1167 : F_1159 (ma 0) = .inl (G.2 0, 89, .inl zf) := (o_1163 (ma 0) ).trans f_1158
        refine q_calli hw (q_runV (As := [.int (nI (r2)), .int (nI (i))]) (c_X6_at l G L F_1159 b ma mi hh pl zf cu r2 i mb f_1165 hma f_1166 f_1167 hz0 (by omega) (by omega) (by omega) (by omega)) C0 hw vw_X6_50 mb f_1165 rfl rfl rfl hl.1 rfl (Nat.le_of_ble_eq_true rfl) dX6_lowestApart_17 ⟨by decide, by decide⟩ ⟨by decide, by decide⟩) rfl rfl (fun r_1170 F_1168 H locs hw hp_1169 => ?_)
        obtain ⟨he_1171, o_1172⟩ := hp_1169
        have he_1171 : r_1170 = nI (((pl r2) i).val) := he_1171
        subst he_1171
        have z_1173 := ((pl r2) i).isLt
        refine n_icmp_eq (tgt := 25) hx hb dX6_lowestApart_20 (by decide) (by omega) (by omega) (fun c_20 => ?_) (fun c_20 => ?_)
        · skip
          refine lv_iinc (v := nI (i + 1)) (lv' := [(3, .int (nI (i + 1))), (0, .ref b), (1, .int (nI (r1))), (2, .int (nI (r2)))]) hx hb dX6_lowestApart_25 hl (k := 3) rfl (nI_add _ _) (by decide) rfl (fun ls hl => ?_)
          refine lv_goto (tgt := 2) hx hb dX6_lowestApart_28 (by decide) ?_
          exact ih_2 (i + 1) ((by omega)) ((by omega)) ((m_low_ext hall (by simp only [decide_eq_false_iff_not, Decidable.not_not]; exact Fin.ext c_20))) (by omega) F_1168 _ _ hw  (fun q  => ((o_1172 q ).trans ((o_1163 q ).trans (fr_1155 q )))) ls (lv_sub hl [1, 2, 3, 0] rfl)
        · skip
          refine lv_iload_n hx hb dX6_lowestApart_23 rfl (lv_at hl 3 rfl) ?_
          exact r_i C0 hr hlk hw (v := nI (i)) rfl ⟨(m_low_at (by omega) (by omega) hall (by simp only [decide_eq_true_eq]; intro h9; exact c_20 (by rw [h9]))).symm, (fun q  => ((o_1172 q ).trans ((o_1163 q ).trans (fr_1155 q ))))⟩ (Nat.le_refl _) (Nat.le_refl _) dX6_lowestApart_24 hQ
  exact lp2 _ (2) ((by omega)) ((by omega)) ((fun j h1 h2 => absurd h1 (by omega))) (Nat.lt_succ_self _) F _ _ hw  (fun q  => rfl) ls (lv_sub hl [1, 2, 3, 0] rfl)
