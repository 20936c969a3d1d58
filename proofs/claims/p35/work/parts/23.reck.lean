theorem m_hn_r (u v : Nat → ZP) (cu r : Nat) (w : Nat → ZP) (hr : r + 1 ≤ cu + 1) : (fun q => if q < cu + 1 then va_up (m_upto (m_mulc (m_hn u v cu (cu + 1 - (r + 1))) u) w (cu + 1)) 0 (zc ((m_upto (m_mulc (m_hn u v cu (cu + 1 - (r + 1))) u) w (cu + 1) 0).val + (v r).val)) q else m_hn u v cu (cu + 1 - (r + 1)) q) = m_hn u v cu (cu + 1 - r) := by
  rw [show cu + 1 - r = (cu + 1 - (r + 1)) + 1 by omega]
  refine m_hn_s u v cu (cu + 1 - (r + 1)) w ?_
  rw [zc_add, zc_z, zc_z, show cu - (cu + 1 - (r + 1)) = r by omega]
  congr 1
theorem m_hn_0 (u v : Nat → ZP) (cu : Nat) : (fun _ => zc 0) = m_hn u v cu (cu + 1 - (cu + 1)) := by
  rw [Nat.sub_self]
  funext q
  rw [zc_0]
  simp only [m_hn]
theorem m_inn_s (u : Nat → ZP) (j : Nat) : va_up (m_inn u j) (j + 2) (zc (10007 - (m_sub u (m_inn u j) (j + 2) (j + 2)).val)) = m_inn u (j + 1) := by
  rw [zc_neg]
  rfl
theorem m_lon_s (u : Nat → ZP) (j : Nat) : va_up (m_lon u j) (j + 2) (zc ((u (j + 2)).val + 10007 - (m_exp (m_lon u j) (j + 2) (j + 2)).val)) = m_lon u (j + 1) := by
  rw [zc_sub, zc_z]
  rfl
abbrev rm_X1_takeBracket : Room := { frames := 2, cells := 0, slots := 0, locals := 51 }
set_option maxHeartbeats 4000000 in
set_option maxRecDepth 100000 in
theorem c_X1_takeBracket (l : Launch) (G : Gl) (L : List Nat) (F : Nat → va_E) (k : Nat) (ra : Nat → Nat) (a : Nat) (b : Nat) (o cu : Nat) (u : Nat → ZP) (v : Nat → ZP) (w : Nat → ZP) (s0 : Nat → ZP) (mk : k ∈ L) (fk : F k = rkO ra) (hra : ∀ i, i < 14 → ra i ∈ L) (hin : ∀ i j, i < 14 → j < 14 → ra i = ra j → i = j) (ma : a ∈ L) (fa : F a = rw7 G u) (mb : b ∈ L) (fb : F b = rw7 G v) (mo : o ∈ L) (fo : F o = rw7 G w) (fs0 : F (ra 0) = rw7 G s0) (nao : a ≠ o) (nbo : b ≠ o) (na0 : a ≠ ra 0) (nb0 : b ≠ ra 0) (no0 : o ≠ ra 0) (hc : cu ≤ 6) (hc2 : 2 ≤ cu) : CV l yX1_takeBracket cX1_takeBracket 5 none rm_X1_takeBracket G L F [.ref k, .ref a, .ref b, .int (nI (cu)), .ref o] (fun F1 => F1 o = rw7 G (m_br u v cu) ∧ (∃ t, F1 (ra 0) = rw7 G t) ∧ ∀ q, q ≠ o → q ≠ ra 0 → F1 q = F q) := by
  refine CG_of (by decide) (Nat.le_of_ble_eq_true rfl) rfl ?_
  intro p e s m args below meth c Q C0 hr hlk hnm hQ hw ls hl
  have hx := C0.x
  have hb := C0.b
  refine lv_aload_n hx hb dX1_takeBracket_0 rfl (lv_at hl 1 rfl) ?_
  refine lv_aload_n hx hb dX1_takeBracket_1 rfl (lv_at hl 2 rfl) ?_
  refine lv_iload_n hx hb dX1_takeBracket_2 rfl (lv_at hl 3 rfl) ?_
  refine lv_aload hx hb dX1_takeBracket_3 (lv_at hl 4 rfl) ?_
  refine q_callv hw (q_runS (As := [.ref a, .ref b, .int (nI (cu)), .ref o]) (c_X1_act l G L F a b o cu u v w ma fa mb fb mo fo (nao) (nbo) (by omega) (by omega)) C0 hw sw_X1_68 rfl hl.1 rfl (Nat.le_of_ble_eq_true rfl) dX1_takeBracket_5 ⟨by decide, by decide⟩ ⟨by decide, by decide⟩) rfl rfl (fun F_99 H locs hw hp_100 => ?_)
  refine lv_aload_n hx hb dX1_takeBracket_8 rfl (lv_at hl 2 rfl) ?_
  refine lv_aload_n hx hb dX1_takeBracket_9 rfl (lv_at hl 1 rfl) ?_
  refine lv_iload_n hx hb dX1_takeBracket_10 rfl (lv_at hl 3 rfl) ?_
  refine lv_aload_n hx hb dX1_takeBracket_11 rfl (lv_at hl 0 rfl) ?_
  have f_101 : F_99 k = rkO ra := (hp_100.2 k (ne_oa fk fo)).trans fk
  refine q_get C0 hw mk f_101 fw_X1_9 rfl dX1_takeBracket_12 ?_
  have f_102 : F_99 b = rw7 G v := (hp_100.2 b (nbo)).trans fb
  have f_103 : F_99 a = rw7 G u := (hp_100.2 a (nao)).trans fa
  have f_104 : F_99 (ra 0) = rw7 G s0 := (hp_100.2 (ra 0) (Ne.symm (no0))).trans fs0
  refine q_callv hw (q_runS (As := [.ref b, .ref a, .int (nI (cu)), .ref (ra 0)]) (c_X1_act l G L F_99 b a (ra 0) cu v u s0 mb f_102 ma f_103 ((hra 0 (by decide))) f_104 (nb0) (na0) (by omega) (by omega)) C0 hw sw_X1_68 rfl hl.1 rfl (Nat.le_of_ble_eq_true rfl) dX1_takeBracket_15 ⟨by decide, by decide⟩ ⟨by decide, by decide⟩) rfl rfl (fun F_105 H locs hw hp_106 => ?_)
  refine lv_aload hx hb dX1_takeBracket_18 (lv_at hl 4 rfl) ?_
  refine lv_aload_n hx hb dX1_takeBracket_20 rfl (lv_at hl 0 rfl) ?_
  have f_107 : F_105 k = rkO ra := (hp_106.2 k (ne_oa f_101 f_104)).trans f_101
  refine q_get C0 hw mk f_107 fw_X1_9 rfl dX1_takeBracket_21 ?_
  refine lv_sipush (v := nI 10006) hx hb dX1_takeBracket_24 (by decide) ?_
  have f_108 : F_105 o = rw7 G ((m_act u v cu)) := (hp_106.2 o (no0)).trans hp_100.1
  refine q_callv hw (q_runS (As := [.ref o, .ref (ra 0), .int (nI (10006))]) (c_X1_addMultiple l G L F_105 o (ra 0) ((m_act u v cu)) ((m_act v u cu)) (zc 10006) mo f_108 ((hra 0 (by decide))) hp_106.1 (Ne.symm (no0))) C0 hw sw_X1_72 rfl hl.1 rfl (Nat.le_of_ble_eq_true rfl) dX1_takeBracket_27 ⟨by decide, by decide⟩ ⟨by decide, by decide⟩) rfl rfl (fun F_109 H locs hw hp_110 => ?_)
  have f_111 : F_109 (ra 0) = rw7 G ((m_act v u cu)) := (hp_110.2 (ra 0) (Ne.symm (no0))).trans hp_106.1
  exact r_v C0 hr hlk hw ⟨hp_110.1, ⟨_, f_111⟩, (fun q k0 k1 => ((hp_110.2 q k0).trans ((hp_106.2 q k1).trans (hp_100.2 q k0))))⟩ (Nat.le_refl _) (Nat.le_refl _) dX1_takeBracket_30 hQ
theorem g_inv_at {i : Nat} (h : i < 6) : g_inv i = .int (nI (m_iv i).val) := by
  rcases (show i = 0 ∨ i = 1 ∨ i = 2 ∨ i = 3 ∨ i = 4 ∨ i = 5 by omega) with rfl | rfl | rfl | rfl | rfl | rfl <;> rfl
theorem m_exO_s (u : Nat → ZP) (cu j : Nat) : m_am (m_exO u cu j) (m_scale (m_act u (m_exT u cu j) cu) (m_iv (j + 1))) (zc 1) = m_exO u cu (j + 1) := rfl
theorem m_exT_s (u : Nat → ZP) (cu j : Nat) : m_scale (m_act u (m_exT u cu j) cu) (m_iv (j + 1)) = m_exT u cu (j + 1) := rfl
abbrev rm_X1_exponential : Room := { frames := 2, cells := 0, slots := 0, locals := 51 }
set_option maxHeartbeats 4000000 in
set_option maxRecDepth 100000 in
theorem c_X1_exponential (l : Launch) (G : Gl) (L : List Nat) (F : Nat → va_E) (k : Nat) (ra : Nat → Nat) (a : Nat) (o cu : Nat) (u : Nat → ZP) (w : Nat → ZP) (s1 : Nat → ZP) (s2 : Nat → ZP) (mk : k ∈ L) (fk : F k = rkO ra) (hra : ∀ i, i < 14 → ra i ∈ L) (hin : ∀ i j, i < 14 → j < 14 → ra i = ra j → i = j) (ma : a ∈ L) (fa : F a = rw7 G u) (mo : o ∈ L) (fo : F o = rw7 G w) (fs1 : F (ra 1) = rw7 G s1) (fs2 : F (ra 2) = rw7 G s2) (nao : a ≠ o) (na1 : a ≠ ra 1) (no1 : o ≠ ra 1) (na2 : a ≠ ra 2) (no2 : o ≠ ra 2) (hc : cu ≤ 6) (hc2 : 2 ≤ cu) : CV l yX1_exponential cX1_exponential 5 none rm_X1_exponential G L F [.ref k, .ref a, .int (nI (cu)), .ref o] (fun F1 => F1 o = rw7 G (m_exp u cu) ∧ (∃ t, F1 (ra 1) = rw7 G t) ∧ (∃ t, F1 (ra 2) = rw7 G t) ∧ ∀ q, q ≠ o → q ≠ ra 1 → q ≠ ra 2 → F1 q = F q) := by
  refine CG_of (by decide) (Nat.le_of_ble_eq_true rfl) rfl ?_
  intro p e s m args below meth c Q C0 hr hlk hnm hQ hw ls hl
  have hx := C0.x
  have hb := C0.b
  refine lv_aload_n hx hb dX1_exponential_0 rfl (lv_at hl 3 rfl) ?_
  refine q_callv hw (q_runS (As := [.ref o]) (c_X1_makeX l G L F o w mo fo) C0 hw sw_X1_76 rfl hl.1 rfl (Nat.le_of_ble_eq_true rfl) dX1_exponential_1 ⟨by decide, by decide⟩ ⟨by decide, by decide⟩) rfl rfl (fun F_112 H locs hw hp_113 => ?_)
  refine lv_aload_n hx hb dX1_exponential_4 rfl (lv_at hl 0 rfl) ?_
  have f_114 : F_112 k = rkO ra := (hp_113.2 k (ne_oa fk fo)).trans fk
  refine q_get C0 hw mk f_114 fw_X1_15 rfl dX1_exponential_5 ?_
  have f_115 : F_112 (ra 1) = rw7 G s1 := (hp_113.2 (ra 1) (Ne.symm (no1))).trans fs1
  refine q_callv hw (q_runS (As := [.ref (ra 1)]) (c_X1_makeX l G L F_112 (ra 1) s1 ((hra 1 (by decide))) f_115) C0 hw sw_X1_76 rfl hl.1 rfl (Nat.le_of_ble_eq_true rfl) dX1_exponential_8 ⟨by decide, by decide⟩ ⟨by decide, by decide⟩) rfl rfl (fun F_116 H locs hw hp_117 => ?_)
  refine lv_iconst (v := nI 1) hx hb dX1_exponential_11 (by decide) ?_
  refine lv_istore (lv' := [(4, .int (nI (1))), (0, .ref k), (1, .ref a), (2, .int (nI (cu))), (3, .ref o)]) hx hb dX1_exponential_12 hl (by decide) rfl (fun ls hl => ?_)
  have lp14 : ∀ (n : Nat) (j : Nat) (t2 : Nat → ZP), 0 ≤ j → j ≤ cu - 1 → (cu - 1) + 1 - j < n → ∀ (F_118 : Nat → va_E) (H : Heap) (locs : List Loc), wD G L F_118 s H locs → F_118 o = rw7 G (m_exO u cu j) → F_118 (ra 1) = rw7 G (m_exT u cu j) → F_118 (ra 2) = rw7 G t2 → (∀ q, q ≠ o → q ≠ (ra 1) → q ≠ (ra 2) → F_118 q = F q) → ∀ ls : Array Slot, lv_has ls 5 [(0, .ref k), (1, .ref a), (2, .int (nI (cu))), (3, .ref o), (4, .int (nI (j + 1)))] → W p l e rm_X1_exponential s m args below meth c H locs 0 0 Q (F0 m 14 ls []) := by
    intro n
    induction n with
    | zero => intro j t2 hlo hhi hm; exact absurd hm (Nat.not_lt_zero _)
    | succ n ih_14 =>
      intro j t2 hlo hhi hm F_118 H locs hw f_119 f_120 f_121 fr_122 ls hl
      refine lv_iload hx hb dX1_exponential_14 (lv_at hl 4 rfl) ?_
      refine lv_iload_n hx hb dX1_exponential_16 rfl (lv_at hl 2 rfl) ?_
      refine n_icmp_ge (tgt := 74) hx hb dX1_exponential_17 (by decide) (by omega) (by omega) (fun c_17 => ?_) (fun c_17 => ?_)
      · skip
        obtain rfl : j = cu - 1 := by omega
        exact r_v C0 hr hlk hw ⟨f_119, ⟨_, f_120⟩, ⟨_, f_121⟩, (fun q k0 k1 k2 => (fr_122 q k0 k1 k2))⟩ (Nat.le_refl _) (Nat.le_refl _) dX1_exponential_74 hQ
      · skip
        refine lv_iload hx hb dX1_exponential_20 (lv_at hl 4 rfl) ?_
        refine q_inv C0 hw fwi dX1_exponential_22 (fun t_123 hT_124 => ?_)
        refine q_invlen C0 hw hT_124 dX1_exponential_25 ?_
        refine n_icmp_ge (tgt := 74) hx hb dX1_exponential_26 (by decide) (by omega) (by decide) (fun c_26 => ?_) (fun c_26 => ?_)
        · skip
          exact absurd c_26 (by omega)
        · skip
          refine lv_aload_n hx hb dX1_exponential_29 rfl (lv_at hl 1 rfl) ?_
          refine lv_aload_n hx hb dX1_exponential_30 rfl (lv_at hl 0 rfl) ?_
          have f_125 : F_118 k = rkO ra := (fr_122 k (ne_oa fk fo) (ne_oa fk fs1) (ne_oa fk fs2)).trans fk
          refine q_get C0 hw mk f_125 fw_X1_15 rfl dX1_exponential_31 ?_
          refine lv_iload_n hx hb dX1_exponential_34 rfl (lv_at hl 2 rfl) ?_
          refine lv_aload_n hx hb dX1_exponential_35 rfl (lv_at hl 0 rfl) ?_
          refine q_get C0 hw mk f_125 fw_X1_18 rfl dX1_exponential_36 ?_
          have f_126 : F_118 a = rw7 G u := (fr_122 a (nao) (na1) (na2)).trans fa
          refine q_callv hw (q_runS (As := [.ref a, .ref (ra 1), .int (nI (cu)), .ref (ra 2)]) (c_X1_act l G L F_118 a (ra 1) (ra 2) cu u (m_exT u cu j) t2 ma f_126 ((hra 1 (by decide))) f_120 ((hra 2 (by decide))) f_121 (na2) (fun h => absurd (hin 1 2 (by decide) (by decide) h) (by decide)) (by omega) (by omega)) C0 hw sw_X1_68 rfl hl.1 rfl (Nat.le_of_ble_eq_true rfl) dX1_exponential_39 ⟨by decide, by decide⟩ ⟨by decide, by decide⟩) rfl rfl (fun F_127 H locs hw hp_128 => ?_)
          refine lv_aload_n hx hb dX1_exponential_42 rfl (lv_at hl 0 rfl) ?_
          have f_129 : F_127 k = rkO ra := (hp_128.2 k (ne_oa f_125 f_121)).trans f_125
          refine q_get C0 hw mk f_129 fw_X1_18 rfl dX1_exponential_43 ?_
          refine q_inv C0 hw fwi dX1_exponential_46 (fun t_130 hT_131 => ?_)
          refine lv_iload hx hb dX1_exponential_49 (lv_at hl 4 rfl) ?_
          refine q_invld C0 hw hT_131 (j + 1) (by omega) (g_inv_at (by omega)) dX1_exponential_51 ?_
          refine lv_aload_n hx hb dX1_exponential_52 rfl (lv_at hl 0 rfl) ?_
          refine q_get C0 hw mk f_129 fw_X1_15 rfl dX1_exponential_53 ?_
          have f_132 : F_127 (ra 1) = rw7 G (m_exT u cu j) := (hp_128.2 (ra 1) (fun h => absurd (hin 1 2 (by decide) (by decide) h) (by decide))).trans f_120
          refine q_callv hw (q_runS (As := [.ref (ra 2), .int (nI ((m_iv (j + 1)).val)), .ref (ra 1)]) (c_X1_scaleRow l G L F_127 (ra 2) (ra 1) ((m_act u (m_exT u cu j) cu)) (m_exT u cu j) (m_iv (j + 1)) ((hra 2 (by decide))) hp_128.1 ((hra 1 (by decide))) f_132 (fun h => absurd (hin 2 1 (by decide) (by decide) h) (by decide))) C0 hw sw_X1_83 rfl hl.1 rfl (Nat.le_of_ble_eq_true rfl) dX1_exponential_56 ⟨by decide, by decide⟩ ⟨by decide, by decide⟩) rfl rfl (fun F_133 H locs hw hp_134 => ?_)
          refine lv_aload_n hx hb dX1_exponential_59 rfl (lv_at hl 3 rfl) ?_
          refine lv_aload_n hx hb dX1_exponential_60 rfl (lv_at hl 0 rfl) ?_
          have f_135 : F_133 k = rkO ra := (hp_134.2 k (ne_oa f_129 f_132)).trans f_129
          refine q_get C0 hw mk f_135 fw_X1_15 rfl dX1_exponential_61 ?_
          refine lv_iconst (v := nI 1) hx hb dX1_exponential_64 (by decide) ?_
          have f_136 : F_127 o = rw7 G (m_exO u cu j) := (hp_128.2 o (no2)).trans f_119
          have f_137 : F_133 o = rw7 G (m_exO u cu j) := (hp_134.2 o (no1)).trans f_136
          refine q_callv hw (q_runS (As := [.ref o, .ref (ra 1), .int (nI (1))]) (c_X1_addMultiple l G L F_133 o (ra 1) (m_exO u cu j) ((m_scale ((m_act u (m_exT u cu j) cu)) (m_iv (j + 1)))) (zc 1) mo f_137 ((hra 1 (by decide))) hp_134.1 (Ne.symm (no1))) C0 hw sw_X1_72 rfl hl.1 rfl (Nat.le_of_ble_eq_true rfl) dX1_exponential_65 ⟨by decide, by decide⟩ ⟨by decide, by decide⟩) rfl rfl (fun F_138 H locs hw hp_139 => ?_)
          refine lv_iinc (v := nI (j + 1 + 1)) (lv' := [(4, .int (nI (j + 1 + 1))), (0, .ref k), (1, .ref a), (2, .int (nI (cu))), (3, .ref o)]) hx hb dX1_exponential_68 hl (k := 4) rfl (nI_add _ _) (by decide) rfl (fun ls hl => ?_)
          refine lv_goto (tgt := 14) hx hb dX1_exponential_71 (by decide) ?_
          have f_140 : F_133 (ra 2) = rw7 G ((m_act u (m_exT u cu j) cu)) := (hp_134.2 (ra 2) (fun h => absurd (hin 2 1 (by decide) (by decide) h) (by decide))).trans hp_128.1
          have f_141 : F_138 (ra 2) = rw7 G ((m_act u (m_exT u cu j) cu)) := (hp_139.2 (ra 2) (Ne.symm (no2))).trans f_140
          have f_142 : F_138 (ra 1) = rw7 G ((m_scale ((m_act u (m_exT u cu j) cu)) (m_iv (j + 1)))) := (hp_139.2 (ra 1) (Ne.symm (no1))).trans hp_134.1
          exact ih_14 (j + 1) ((m_act u (m_exT u cu j) cu)) ((by omega)) ((by omega)) (by omega) F_138 _ _ hw (hp_139.1.trans (congrArg (rw7 G) ((m_exO_s u cu j)))) (f_142.trans (congrArg (rw7 G) ((m_exT_s u cu j)))) (f_141) (fun q k0 k1 k2 => ((hp_139.2 q k0).trans ((hp_134.2 q k1).trans ((hp_128.2 q k2).trans (fr_122 q k0 k1 k2))))) ls (lv_sub hl [1, 2, 3, 4, 0] rfl)
  have f_143 : F_116 o = rw7 G m_x := (hp_117.2 o (no1)).trans hp_113.1
  have f_144 : F_112 (ra 2) = rw7 G s2 := (hp_113.2 (ra 2) (Ne.symm (no2))).trans fs2
  have f_145 : F_116 (ra 2) = rw7 G s2 := (hp_117.2 (ra 2) (fun h => absurd (hin 2 1 (by decide) (by decide) h) (by decide))).trans f_144
  exact lp14 _ (0) (s2) ((by omega)) ((by omega)) (Nat.lt_succ_self _) F_116 _ _ hw (f_143) (hp_117.1) (f_145) (fun q k0 k1 k2 => ((hp_117.2 q k1).trans (hp_113.2 q k0))) ls (lv_sub hl [1, 2, 3, 4, 0] rfl)
abbrev rm_X1_substitute : Room := { frames := 1, cells := 0, slots := 0, locals := 40 }
set_option maxHeartbeats 4000000 in
set_option maxRecDepth 100000 in
theorem c_X1_substitute (l : Launch) (G : Gl) (L : List Nat) (F : Nat → va_E) (k : Nat) (ra : Nat → Nat) (a : Nat) (b : Nat) (o cu : Nat) (u : Nat → ZP) (v : Nat → ZP) (w : Nat → ZP) (s3 : Nat → ZP) (mk : k ∈ L) (fk : F k = rkO ra) (hra : ∀ i, i < 14 → ra i ∈ L) (hin : ∀ i j, i < 14 → j < 14 → ra i = ra j → i = j) (ma : a ∈ L) (fa : F a = rw7 G u) (mb : b ∈ L) (fb : F b = rw7 G v) (mo : o ∈ L) (fo : F o = rw7 G w) (fs3 : F (ra 3) = rw7 G s3) (nao : a ≠ o) (nbo : b ≠ o) (na3 : a ≠ ra 3) (nb3 : b ≠ ra 3) (no3 : o ≠ ra 3) (hc : cu ≤ 6) (hc2 : 2 ≤ cu) : CV l yX1_substitute cX1_substitute 6 none rm_X1_substitute G L F [.ref k, .ref a, .ref b, .int (nI (cu)), .ref o] (fun F1 => F1 o = rw7 G (m_sub u v cu) ∧ (∃ t, F1 (ra 3) = rw7 G t) ∧ ∀ q, q ≠ o → q ≠ ra 3 → F1 q = F q) := by
  refine CG_of (by decide) (Nat.le_of_ble_eq_true rfl) rfl ?_
  intro p e s m args below meth c Q C0 hr hlk hnm hQ hw ls hl
  have hx := C0.x
  have hb := C0.b
  refine lv_aload hx hb dX1_substitute_0 (lv_at hl 4 rfl) ?_
  refine lv_iconst (v := nI 0) hx hb dX1_substitute_2 (by decide) ?_
  refine q_callv hw (q_runS (As := [.ref o, .int (nI (0))]) (c_J7_fill_53178 l G L F o w (zc 0) mo fo) C0 hw sw_X1_62 rfl hl.1 rfl (Nat.le_of_ble_eq_true rfl) dX1_substitute_3 ⟨by decide, by decide⟩ ⟨by decide, by decide⟩) rfl rfl (fun F_146 H locs hw hp_147 => ?_)
  refine lv_iload_n hx hb dX1_substitute_6 rfl (lv_at hl 3 rfl) ?_
  refine lv_istore (lv' := [(5, .int (nI (cu))), (0, .ref k), (1, .ref a), (2, .ref b), (3, .int (nI (cu))), (4, .ref o)]) hx hb dX1_substitute_7 hl (by decide) rfl (fun ls hl => ?_)
  have hl : lv_has ls 6 [(5, .int (nI (cu + 1) + (-1))), (0, .ref k), (1, .ref a), (2, .ref b), (3, .int (nI (cu))), (4, .ref o)] := (by rw [pk_m1]; exact hl)
  have lp9 : ∀ (n : Nat) (r : Nat) (t3 : Nat → ZP), r ≤ cu + 1 → r < n → ∀ (F_148 : Nat → va_E) (H : Heap) (locs : List Loc), wD G L F_148 s H locs → F_148 o = rw7 G (m_hn u v cu (cu + 1 - r)) → F_148 (ra 3) = rw7 G t3 → (∀ q, q ≠ o → q ≠ (ra 3) → F_148 q = F q) → ∀ ls : Array Slot, lv_has ls 6 [(0, .ref k), (1, .ref a), (2, .ref b), (3, .int (nI (cu))), (4, .ref o), (5, .int (nI (r) + (-1)))] → W p l e rm_X1_substitute s m args below meth c H locs 0 0 Q (F0 m 9 ls []) := by
    intro n
    induction n with
    | zero => intro r t3 hr9 hm; exact absurd hm (Nat.not_lt_zero _)
    | succ n ih_9 =>
      intro r t3 hr9 hm F_148 H locs hw f_149 f_150 fr_151 ls hl
      rcases r with _ | r
      · skip
        have hl : lv_has ls 6 [(0, .ref k), (1, .ref a), (2, .ref b), (3, .int (nI (cu))), (4, .ref o), (5, .int ((-1)))] := hl
        refine lv_iload hx hb dX1_substitute_9 (lv_at hl 5 rfl) ?_
        refine lv_if_lt (tgt := 66) hx hb dX1_substitute_11 (by decide) (fun c_11 => ?_) (fun c_11 => ?_)
        · skip
          exact r_v C0 hr hlk hw ⟨f_149, ⟨_, f_150⟩, (fun q k0 k1 => (fr_151 q k0 k1))⟩ (Nat.le_refl _) (Nat.le_refl _) dX1_substitute_66 hQ
        · skip
          exact absurd (by decide) c_11
      · skip
        have hl : lv_has ls 6 [(0, .ref k), (1, .ref a), (2, .ref b), (3, .int (nI (cu))), (4, .ref o), (5, .int (nI (r)))] := (by rw [pk_m1] at hl; exact hl)
        refine lv_iload hx hb dX1_substitute_9 (lv_at hl 5 rfl) ?_
        refine n_if_lt (tgt := 66) hx hb dX1_substitute_11 (by decide) (by omega) ?_
        refine lv_aload hx hb dX1_substitute_14 (lv_at hl 4 rfl) ?_
        refine lv_aload_n hx hb dX1_substitute_16 rfl (lv_at hl 1 rfl) ?_
        refine lv_iload_n hx hb dX1_substitute_17 rfl (lv_at hl 3 rfl) ?_
        refine lv_aload_n hx hb dX1_substitute_18 rfl (lv_at hl 0 rfl) ?_
        have f_152 : F_148 k = .inr (1, [.ref (ra 0), .ref (ra 1), .ref (ra 2), .ref (ra 3), .ref (ra 4), .ref (ra 5), .ref (ra 6), .ref (ra 7), .ref (ra 8), .ref (ra 9), .ref (ra 10), .ref (ra 11), .ref (ra 12), .ref (ra 13)]) := (fr_151 k (ne_oa fk fo) (ne_oa fk fs3)).trans fk
        refine q_get C0 hw mk f_152 fw_X1_21 rfl dX1_substitute_19 ?_
        have f_153 : F_148 a = rw7 G u := (fr_151 a (nao) (na3)).trans fa
        refine q_callv hw (q_runS (As := [.ref o, .ref a, .int (nI (cu)), .ref (ra 3)]) (c_X1_multiply l G L F_148 o a (ra 3) cu (m_hn u v cu (cu + 1 - (r + 1))) u t3 mo f_149 ma f_153 ((hra 3 (by decide))) f_150 (no3) (na3) (by omega)) C0 hw sw_X1_87 rfl hl.1 rfl (Nat.le_of_ble_eq_true rfl) dX1_substitute_22 ⟨by decide, by decide⟩ ⟨by decide, by decide⟩) rfl rfl (fun F_154 H locs hw hp_155 => ?_)
        refine lv_aload_n hx hb dX1_substitute_25 rfl (lv_at hl 0 rfl) ?_
        have f_156 : F_154 k = .inr (1, [.ref (ra 0), .ref (ra 1), .ref (ra 2), .ref (ra 3), .ref (ra 4), .ref (ra 5), .ref (ra 6), .ref (ra 7), .ref (ra 8), .ref (ra 9), .ref (ra 10), .ref (ra 11), .ref (ra 12), .ref (ra 13)]) := (hp_155.2 k (ne_oa f_152 f_150)).trans f_152
        refine q_get C0 hw mk f_156 fw_X1_21 rfl dX1_substitute_26 ?_
        refine lv_iconst (v := nI 0) hx hb dX1_substitute_29 (by decide) ?_
        refine lv_aload_n hx hb dX1_substitute_30 rfl (lv_at hl 0 rfl) ?_
        refine q_get C0 hw mk f_156 fw_X1_21 rfl dX1_substitute_31 ?_
        refine lv_iconst (v := nI 0) hx hb dX1_substitute_34 (by decide) ?_
        refine q_rld C0 hw ((hra 3 (by decide))) hp_155.1 (0) (by omega) dX1_substitute_35 (fun z_157 => ?_)
        refine lv_aload_n hx hb dX1_substitute_36 rfl (lv_at hl 2 rfl) ?_
        refine lv_iload hx hb dX1_substitute_37 (lv_at hl 5 rfl) ?_
        have f_158 : F_148 b = rw7 G v := (fr_151 b (nbo) (nb3)).trans fb
        have f_159 : F_154 b = rw7 G v := (hp_155.2 b (nb3)).trans f_158
        refine q_rld C0 hw mb f_159 (r) (by omega) dX1_substitute_39 (fun z_160 => ?_)
        refine n_iadd hx hb dX1_substitute_40 ?_
        refine lv_sipush (v := nI 10007) hx hb dX1_substitute_41 (by decide) ?_
        refine n_iremP hx hb (by omega) dX1_substitute_44 ?_
        refine q_rst C0 hw ((hra 3 (by decide))) hp_155.1 (0) (by omega) (z := zc ((((m_upto (m_mulc (m_hn u v cu (cu + 1 - (r + 1))) u) t3 (cu + 1))) (0)).val + ((v (r)).val))) dX1_substitute_45 (fun F_161 H locs hw f_162 o_163 => ?_)
        refine lv_aload_n hx hb dX1_substitute_46 rfl (lv_at hl 0 rfl) ?_
        have f_164 : F_161 k = .inr (1, [.ref (ra 0), .ref (ra 1), .ref (ra 2), .ref (ra 3), .ref (ra 4), .ref (ra 5), .ref (ra 6), .ref (ra 7), .ref (ra 8), .ref (ra 9), .ref (ra 10), .ref (ra 11), .ref (ra 12), .ref (ra 13)]) := (o_163 k (ne_oa f_156 hp_155.1)).trans f_156
        refine q_get C0 hw mk f_164 fw_X1_21 rfl dX1_substitute_47 ?_
        refine lv_iconst (v := nI 0) hx hb dX1_substitute_50 (by decide) ?_
        refine lv_aload hx hb dX1_substitute_51 (lv_at hl 4 rfl) ?_
        refine lv_iconst (v := nI 0) hx hb dX1_substitute_53 (by decide) ?_
        refine lv_iload_n hx hb dX1_substitute_54 rfl (lv_at hl 3 rfl) ?_
        refine lv_iconst (v := nI 1) hx hb dX1_substitute_55 (by decide) ?_
        refine n_iadd hx hb dX1_substitute_56 ?_
        have f_165 : F_154 o = rw7 G (m_hn u v cu (cu + 1 - (r + 1))) := (hp_155.2 o (no3)).trans f_149
        have f_166 : F_161 o = rw7 G (m_hn u v cu (cu + 1 - (r + 1))) := (o_163 o (no3)).trans f_165
        refine q_copy C0 hw hl.1 aw_X1_90 ((hra 3 (by decide))) mo f_162 f_166 (n := cu + 1) (by omega) (by decide) (by decide) dX1_substitute_57 (fun F_167 H locs hw f_168 o_169 => ?_)
        refine lv_iinc (v := nI (r) + (-1)) (lv' := [(5, .int (nI (r) + (-1))), (0, .ref k), (1, .ref a), (2, .ref b), (3, .int (nI (cu))), (4, .ref o)]) hx hb dX1_substitute_60 hl (k := 5) rfl rfl (by decide) rfl (fun ls hl => ?_)
        refine lv_goto (tgt := 9) hx hb dX1_substitute_63 (by decide) ?_
        have f_170 : F_167 (ra 3) = rw7 G (va_up ((m_upto (m_mulc (m_hn u v cu (cu + 1 - (r + 1))) u) t3 (cu + 1))) (0) (zc ((((m_upto (m_mulc (m_hn u v cu (cu + 1 - (r + 1))) u) t3 (cu + 1))) (0)).val + ((v (r)).val)))) := (o_169 (ra 3) (Ne.symm (no3))).trans f_162
        exact ih_9 (r) (va_up ((m_upto (m_mulc (m_hn u v cu (cu + 1 - (r + 1))) u) t3 (cu + 1))) (0) (zc ((((m_upto (m_mulc (m_hn u v cu (cu + 1 - (r + 1))) u) t3 (cu + 1))) (0)).val + ((v (r)).val)))) ((by omega)) (by omega) F_167 _ _ hw (f_168.trans (congrArg (rw7 G) ((m_hn_r u v cu r _ hr9)))) (f_170) (fun q k0 k1 => ((o_169 q k0).trans ((o_163 q k1).trans ((hp_155.2 q k1).trans (fr_151 q k0 k1))))) ls (lv_sub hl [1, 2, 3, 4, 5, 0] rfl)
  have f_171 : F_146 (ra 3) = rw7 G s3 := (hp_147.2 (ra 3) (Ne.symm (no3))).trans fs3
  exact lp9 _ (cu + 1) (s3) ((Nat.le_refl _)) (Nat.lt_succ_self _) F_146 _ _ hw (hp_147.1.trans (congrArg (rw7 G) ((m_hn_0 u v cu)))) (f_171) (fun q k0 k1 => (hp_147.2 q k0)) ls (lv_sub hl [1, 2, 3, 4, 5, 0] rfl)
abbrev rm_X1_inverse : Room := { frames := 2, cells := 0, slots := 0, locals := 65 }
set_option maxHeartbeats 4000000 in
set_option maxRecDepth 100000 in
theorem c_X1_inverse (l : Launch) (G : Gl) (L : List Nat) (F : Nat → va_E) (k : Nat) (ra : Nat → Nat) (a : Nat) (o cu : Nat) (u : Nat → ZP) (w : Nat → ZP) (s4 : Nat → ZP) (s3 : Nat → ZP) (mk : k ∈ L) (fk : F k = rkO ra) (hra : ∀ i, i < 14 → ra i ∈ L) (hin : ∀ i j, i < 14 → j < 14 → ra i = ra j → i = j) (ma : a ∈ L) (fa : F a = rw7 G u) (mo : o ∈ L) (fo : F o = rw7 G w) (fs4 : F (ra 4) = rw7 G s4) (fs3 : F (ra 3) = rw7 G s3) (nao : a ≠ o) (na4 : a ≠ ra 4) (no4 : o ≠ ra 4) (na3 : a ≠ ra 3) (no3 : o ≠ ra 3) (hc : cu ≤ 6) (hc2 : 2 ≤ cu) : CV l yX1_inverse cX1_inverse 5 none rm_X1_inverse G L F [.ref k, .ref a, .int (nI (cu)), .ref o] (fun F1 => F1 o = rw7 G (m_inv u cu) ∧ (∃ t, F1 (ra 4) = rw7 G t) ∧ (∃ t, F1 (ra 3) = rw7 G t) ∧ ∀ q, q ≠ o → q ≠ ra 4 → q ≠ ra 3 → F1 q = F q) := by
  refine CG_of (by decide) (Nat.le_of_ble_eq_true rfl) rfl ?_
  intro p e s m args below meth c Q C0 hr hlk hnm hQ hw ls hl
  have hx := C0.x
  have hb := C0.b
  refine lv_aload_n hx hb dX1_inverse_0 rfl (lv_at hl 3 rfl) ?_
  refine q_callv hw (q_runS (As := [.ref o]) (c_X1_makeX l G L F o w mo fo) C0 hw sw_X1_76 rfl hl.1 rfl (Nat.le_of_ble_eq_true rfl) dX1_inverse_1 ⟨by decide, by decide⟩ ⟨by decide, by decide⟩) rfl rfl (fun F_172 H locs hw hp_173 => ?_)
  refine lv_iconst (v := nI 2) hx hb dX1_inverse_4 (by decide) ?_
  refine lv_istore (lv' := [(4, .int (nI (2))), (0, .ref k), (1, .ref a), (2, .int (nI (cu))), (3, .ref o)]) hx hb dX1_inverse_5 hl (by decide) rfl (fun ls hl => ?_)
  have lp7 : ∀ (n : Nat) (j : Nat) (t4 : Nat → ZP) (t3 : Nat → ZP), 0 ≤ j → j ≤ cu - 1 → (cu - 1) + 1 - j < n → ∀ (F_174 : Nat → va_E) (H : Heap) (locs : List Loc), wD G L F_174 s H locs → F_174 o = rw7 G (m_inn u j) → F_174 (ra 4) = rw7 G t4 → F_174 (ra 3) = rw7 G t3 → (∀ q, q ≠ o → q ≠ (ra 4) → q ≠ (ra 3) → F_174 q = F q) → ∀ ls : Array Slot, lv_has ls 5 [(0, .ref k), (1, .ref a), (2, .int (nI (cu))), (3, .ref o), (4, .int (nI (j + 2)))] → W p l e rm_X1_inverse s m args below meth c H locs 0 0 Q (F0 m 7 ls []) := by
    intro n
    induction n with
    | zero => intro j t4 t3 hlo hhi hm; exact absurd hm (Nat.not_lt_zero _)
    | succ n ih_7 =>
      intro j t4 t3 hlo hhi hm F_174 H locs hw f_175 f_176 f_177 fr_178 ls hl
      refine lv_iload hx hb dX1_inverse_7 (lv_at hl 4 rfl) ?_
      refine lv_iload_n hx hb dX1_inverse_9 rfl (lv_at hl 2 rfl) ?_
      refine n_icmp_gt (tgt := 50) hx hb dX1_inverse_10 (by decide) (by omega) (by omega) (fun c_10 => ?_) (fun c_10 => ?_)
      · skip
        obtain rfl : j = cu - 1 := by omega
        exact r_v C0 hr hlk hw ⟨f_175, ⟨_, f_176⟩, ⟨_, f_177⟩, (fun q k0 k1 k2 => (fr_178 q k0 k1 k2))⟩ (Nat.le_refl _) (Nat.le_refl _) dX1_inverse_50 hQ
      · skip
        refine lv_aload_n hx hb dX1_inverse_13 rfl (lv_at hl 0 rfl) ?_
        refine lv_aload_n hx hb dX1_inverse_14 rfl (lv_at hl 1 rfl) ?_
        refine lv_aload_n hx hb dX1_inverse_15 rfl (lv_at hl 3 rfl) ?_
        refine lv_iload hx hb dX1_inverse_16 (lv_at hl 4 rfl) ?_
        refine lv_aload_n hx hb dX1_inverse_18 rfl (lv_at hl 0 rfl) ?_
        have f_179 : F_174 k = rkO ra := (fr_178 k (ne_oa fk fo) (ne_oa fk fs4) (ne_oa fk fs3)).trans fk
        refine q_get C0 hw mk f_179 fw_X1_24 rfl dX1_inverse_19 ?_
        have f_180 : F_174 a = rw7 G u := (fr_178 a (nao) (na4) (na3)).trans fa
        refine q_callv hw (q_runV (As := [.ref a, .ref o, .int (nI (j + 2)), .ref (ra 4)]) (c_X1_substitute l G L F_174 k ra a o (ra 4) (j + 2) u (m_inn u j) t4 t3  mk f_179 hra hin ma f_180 mo f_175 ((hra 4 (by decide))) f_176 f_177 (na4) (no4) (na3) (no3) (fun h => absurd (hin 4 3 (by decide) (by decide) h) (by decide)) (by omega) (by omega) ) C0 hw vw_X1_96 mk f_179 rfl rfl rfl hl.1 rfl (Nat.le_of_ble_eq_true rfl) dX1_inverse_22 ⟨by decide, by decide⟩ ⟨by decide, by decide⟩) rfl rfl (fun F_181 H locs hw hp_182 => ?_)
        obtain ⟨f_183, ⟨t_185, f_184⟩, o_186⟩ := hp_182
        refine lv_aload_n hx hb dX1_inverse_25 rfl (lv_at hl 3 rfl) ?_
        refine lv_iload hx hb dX1_inverse_26 (lv_at hl 4 rfl) ?_
        refine lv_sipush (v := nI 10007) hx hb dX1_inverse_28 (by decide) ?_
        refine lv_aload_n hx hb dX1_inverse_31 rfl (lv_at hl 0 rfl) ?_
        have f_187 : F_181 k = rkO ra := (o_186 k (ne_oa f_179 f_176) (ne_oa f_179 f_177)).trans f_179
        refine q_get C0 hw mk f_187 fw_X1_24 rfl dX1_inverse_32 ?_
        refine lv_iload hx hb dX1_inverse_35 (lv_at hl 4 rfl) ?_
        refine q_rld C0 hw ((hra 4 (by decide))) f_183 (j + 2) (by omega) dX1_inverse_37 (fun z_188 => ?_)
        refine n_isub hx hb (by omega) dX1_inverse_38 ?_
        refine lv_sipush (v := nI 10007) hx hb dX1_inverse_39 (by decide) ?_
        refine n_iremP hx hb (by omega) dX1_inverse_42 ?_
        have f_189 : F_181 o = rw7 G (m_inn u j) := (o_186 o (no4) (no3)).trans f_175
        refine q_rst C0 hw mo f_189 (j + 2) (by omega) (z := zc (10007 - ((((m_sub u (m_inn u j) (j + 2))) (j + 2)).val))) dX1_inverse_43 (fun F_190 H locs hw f_191 o_192 => ?_)
        refine lv_iinc (v := nI (j + 2 + 1)) (lv' := [(4, .int (nI (j + 2 + 1))), (0, .ref k), (1, .ref a), (2, .int (nI (cu))), (3, .ref o)]) hx hb dX1_inverse_44 hl (k := 4) rfl (nI_add _ _) (by decide) rfl (fun ls hl => ?_)
        refine lv_goto (tgt := 7) hx hb dX1_inverse_47 (by decide) ?_
        have f_193 : F_190 (ra 4) = rw7 G ((m_sub u (m_inn u j) (j + 2))) := (o_192 (ra 4) (Ne.symm (no4))).trans f_183
        have f_194 : F_190 (ra 3) = rw7 G t_185 := (o_192 (ra 3) (Ne.symm (no3))).trans f_184
        exact ih_7 (j + 1) ((m_sub u (m_inn u j) (j + 2))) (t_185) ((by omega)) ((by omega)) (by omega) F_190 _ _ hw (f_191.trans (congrArg (rw7 G) ((m_inn_s u j)))) (f_193) (f_194) (fun q k0 k1 k2 => ((o_192 q k0).trans ((o_186 q k1 k2).trans (fr_178 q k0 k1 k2)))) ls (lv_sub hl [1, 2, 3, 4, 0] rfl)
  have f_195 : F_172 (ra 4) = rw7 G s4 := (hp_173.2 (ra 4) (Ne.symm (no4))).trans fs4
  have f_196 : F_172 (ra 3) = rw7 G s3 := (hp_173.2 (ra 3) (Ne.symm (no3))).trans fs3
  exact lp7 _ (0) (s4) (s3) ((by omega)) ((by omega)) (Nat.lt_succ_self _) F_172 _ _ hw (hp_173.1) (f_195) (f_196) (fun q k0 k1 k2 => (hp_173.2 q k0)) ls (lv_sub hl [1, 2, 3, 4, 0] rfl)
abbrev rm_X1_logarithm : Room := { frames := 3, cells := 0, slots := 0, locals := 75 }
set_option maxHeartbeats 4000000 in
set_option maxRecDepth 100000 in
theorem c_X1_logarithm (l : Launch) (G : Gl) (L : List Nat) (F : Nat → va_E) (k : Nat) (ra : Nat → Nat) (a : Nat) (o cu : Nat) (u : Nat → ZP) (w : Nat → ZP) (s4 : Nat → ZP) (s1 : Nat → ZP) (s2 : Nat → ZP) (mk : k ∈ L) (fk : F k = rkO ra) (hra : ∀ i, i < 14 → ra i ∈ L) (hin : ∀ i j, i < 14 → j < 14 → ra i = ra j → i = j) (ma : a ∈ L) (fa : F a = rw7 G u) (mo : o ∈ L) (fo : F o = rw7 G w) (fs4 : F (ra 4) = rw7 G s4) (fs1 : F (ra 1) = rw7 G s1) (fs2 : F (ra 2) = rw7 G s2) (nao : a ≠ o) (na4 : a ≠ ra 4) (no4 : o ≠ ra 4) (na1 : a ≠ ra 1) (no1 : o ≠ ra 1) (na2 : a ≠ ra 2) (no2 : o ≠ ra 2) (hc : cu ≤ 6) (hc2 : 2 ≤ cu) : CV l yX1_logarithm cX1_logarithm 5 none rm_X1_logarithm G L F [.ref k, .ref a, .int (nI (cu)), .ref o] (fun F1 => F1 o = rw7 G (m_log u cu) ∧ (∃ t, F1 (ra 4) = rw7 G t) ∧ (∃ t, F1 (ra 1) = rw7 G t) ∧ (∃ t, F1 (ra 2) = rw7 G t) ∧ ∀ q, q ≠ o → q ≠ ra 4 → q ≠ ra 1 → q ≠ ra 2 → F1 q = F q) := by
  refine CG_of (by decide) (Nat.le_of_ble_eq_true rfl) rfl ?_
  intro p e s m args below meth c Q C0 hr hlk hnm hQ hw ls hl
  have hx := C0.x
  have hb := C0.b
  refine lv_aload_n hx hb dX1_logarithm_0 rfl (lv_at hl 3 rfl) ?_
  refine lv_iconst (v := nI 0) hx hb dX1_logarithm_1 (by decide) ?_
  refine q_callv hw (q_runS (As := [.ref o, .int (nI (0))]) (c_J7_fill_53178 l G L F o w (zc 0) mo fo) C0 hw sw_X1_62 rfl hl.1 rfl (Nat.le_of_ble_eq_true rfl) dX1_logarithm_2 ⟨by decide, by decide⟩ ⟨by decide, by decide⟩) rfl rfl (fun F_197 H locs hw hp_198 => ?_)
  refine lv_iconst (v := nI 2) hx hb dX1_logarithm_5 (by decide) ?_
  refine lv_istore (lv' := [(4, .int (nI (2))), (0, .ref k), (1, .ref a), (2, .int (nI (cu))), (3, .ref o)]) hx hb dX1_logarithm_6 hl (by decide) rfl (fun ls hl => ?_)
  have lp8 : ∀ (n : Nat) (j : Nat) (t4 : Nat → ZP) (t1 : Nat → ZP) (t2 : Nat → ZP), 0 ≤ j → j ≤ cu - 1 → (cu - 1) + 1 - j < n → ∀ (F_199 : Nat → va_E) (H : Heap) (locs : List Loc), wD G L F_199 s H locs → F_199 o = rw7 G (m_lon u j) → F_199 (ra 4) = rw7 G t4 → F_199 (ra 1) = rw7 G t1 → F_199 (ra 2) = rw7 G t2 → (∀ q, q ≠ o → q ≠ (ra 4) → q ≠ (ra 1) → q ≠ (ra 2) → F_199 q = F q) → ∀ ls : Array Slot, lv_has ls 5 [(0, .ref k), (1, .ref a), (2, .int (nI (cu))), (3, .ref o), (4, .int (nI (j + 2)))] → W p l e rm_X1_logarithm s m args below meth c H locs 0 0 Q (F0 m 8 ls []) := by
    intro n
    induction n with
    | zero => intro j t4 t1 t2 hlo hhi hm; exact absurd hm (Nat.not_lt_zero _)
    | succ n ih_8 =>
      intro j t4 t1 t2 hlo hhi hm F_199 H locs hw f_200 f_201 f_202 f_203 fr_204 ls hl
      refine lv_iload hx hb dX1_logarithm_8 (lv_at hl 4 rfl) ?_
      refine lv_iload_n hx hb dX1_logarithm_10 rfl (lv_at hl 2 rfl) ?_
      refine n_icmp_gt (tgt := 55) hx hb dX1_logarithm_11 (by decide) (by omega) (by omega) (fun c_11 => ?_) (fun c_11 => ?_)
      · skip
        obtain rfl : j = cu - 1 := by omega
        exact r_v C0 hr hlk hw ⟨f_200, ⟨_, f_201⟩, ⟨_, f_202⟩, ⟨_, f_203⟩, (fun q k0 k1 k2 k3 => (fr_204 q k0 k1 k2 k3))⟩ (Nat.le_refl _) (Nat.le_refl _) dX1_logarithm_55 hQ
      · skip
        refine lv_aload_n hx hb dX1_logarithm_14 rfl (lv_at hl 0 rfl) ?_
        refine lv_aload_n hx hb dX1_logarithm_15 rfl (lv_at hl 3 rfl) ?_
        refine lv_iload hx hb dX1_logarithm_16 (lv_at hl 4 rfl) ?_
        refine lv_aload_n hx hb dX1_logarithm_18 rfl (lv_at hl 0 rfl) ?_
        have f_205 : F_199 k = rkO ra := (fr_204 k (ne_oa fk fo) (ne_oa fk fs4) (ne_oa fk fs1) (ne_oa fk fs2)).trans fk
        refine q_get C0 hw mk f_205 fw_X1_24 rfl dX1_logarithm_19 ?_
        refine q_callv hw (q_runV (As := [.ref o, .int (nI (j + 2)), .ref (ra 4)]) (c_X1_exponential l G L F_199 k ra o (ra 4) (j + 2) (m_lon u j) t4 t1 t2  mk f_205 hra hin mo f_200 ((hra 4 (by decide))) f_201 f_202 f_203 (no4) (no1) (fun h => absurd (hin 4 1 (by decide) (by decide) h) (by decide)) (no2) (fun h => absurd (hin 4 2 (by decide) (by decide) h) (by decide)) (by omega) (by omega) ) C0 hw vw_X1_99 mk f_205 rfl rfl rfl hl.1 rfl (Nat.le_of_ble_eq_true rfl) dX1_logarithm_22 ⟨by decide, by decide⟩ ⟨by decide, by decide⟩) rfl rfl (fun F_206 H locs hw hp_207 => ?_)
        obtain ⟨f_208, ⟨t_211, f_209⟩, ⟨t_212, f_210⟩, o_213⟩ := hp_207
        refine lv_aload_n hx hb dX1_logarithm_25 rfl (lv_at hl 3 rfl) ?_
        refine lv_iload hx hb dX1_logarithm_26 (lv_at hl 4 rfl) ?_
        refine lv_aload_n hx hb dX1_logarithm_28 rfl (lv_at hl 1 rfl) ?_
        refine lv_iload hx hb dX1_logarithm_29 (lv_at hl 4 rfl) ?_
        have f_214 : F_199 a = rw7 G u := (fr_204 a (nao) (na4) (na1) (na2)).trans fa
        have f_215 : F_206 a = rw7 G u := (o_213 a (na4) (na1) (na2)).trans f_214
        refine q_rld C0 hw ma f_215 (j + 2) (by omega) dX1_logarithm_31 (fun z_216 => ?_)
        refine lv_sipush (v := nI 10007) hx hb dX1_logarithm_32 (by decide) ?_
        refine n_iadd hx hb dX1_logarithm_35 ?_
        refine lv_aload_n hx hb dX1_logarithm_36 rfl (lv_at hl 0 rfl) ?_
        have f_217 : F_206 k = rkO ra := (o_213 k (ne_oa f_205 f_201) (ne_oa f_205 f_202) (ne_oa f_205 f_203)).trans f_205
        refine q_get C0 hw mk f_217 fw_X1_24 rfl dX1_logarithm_37 ?_
        refine lv_iload hx hb dX1_logarithm_40 (lv_at hl 4 rfl) ?_
        refine q_rld C0 hw ((hra 4 (by decide))) f_208 (j + 2) (by omega) dX1_logarithm_42 (fun z_218 => ?_)
        refine n_isub hx hb (by omega) dX1_logarithm_43 ?_
        refine lv_sipush (v := nI 10007) hx hb dX1_logarithm_44 (by decide) ?_
        refine n_iremP hx hb (by omega) dX1_logarithm_47 ?_
        have f_219 : F_206 o = rw7 G (m_lon u j) := (o_213 o (no4) (no1) (no2)).trans f_200
        refine q_rst C0 hw mo f_219 (j + 2) (by omega) (z := zc ((u (j + 2)).val + 10007 - ((((m_exp (m_lon u j) (j + 2))) (j + 2)).val))) dX1_logarithm_48 (fun F_220 H locs hw f_221 o_222 => ?_)
        refine lv_iinc (v := nI (j + 2 + 1)) (lv' := [(4, .int (nI (j + 2 + 1))), (0, .ref k), (1, .ref a), (2, .int (nI (cu))), (3, .ref o)]) hx hb dX1_logarithm_49 hl (k := 4) rfl (nI_add _ _) (by decide) rfl (fun ls hl => ?_)
        refine lv_goto (tgt := 8) hx hb dX1_logarithm_52 (by decide) ?_
        have f_223 : F_220 (ra 4) = rw7 G ((m_exp (m_lon u j) (j + 2))) := (o_222 (ra 4) (Ne.symm (no4))).trans f_208
        have f_224 : F_220 (ra 1) = rw7 G t_211 := (o_222 (ra 1) (Ne.symm (no1))).trans f_209
        have f_225 : F_220 (ra 2) = rw7 G t_212 := (o_222 (ra 2) (Ne.symm (no2))).trans f_210
        exact ih_8 (j + 1) ((m_exp (m_lon u j) (j + 2))) (t_211) (t_212) ((by omega)) ((by omega)) (by omega) F_220 _ _ hw (f_221.trans (congrArg (rw7 G) ((m_lon_s u j)))) (f_223) (f_224) (f_225) (fun q k0 k1 k2 k3 => ((o_222 q k0).trans ((o_213 q k1 k2 k3).trans (fr_204 q k0 k1 k2 k3)))) ls (lv_sub hl [1, 2, 3, 4, 0] rfl)
  have f_226 : F_197 (ra 4) = rw7 G s4 := (hp_198.2 (ra 4) (Ne.symm (no4))).trans fs4
  have f_227 : F_197 (ra 1) = rw7 G s1 := (hp_198.2 (ra 1) (Ne.symm (no1))).trans fs1
  have f_228 : F_197 (ra 2) = rw7 G s2 := (hp_198.2 (ra 2) (Ne.symm (no2))).trans fs2
  exact lp8 _ (0) (s4) (s1) (s2) ((by omega)) ((by omega)) (Nat.lt_succ_self _) F_197 _ _ hw (hp_198.1) (f_226) (f_227) (f_228) (fun q k0 k1 k2 k3 => (hp_198.2 q k0)) ls (lv_sub hl [1, 2, 3, 4, 0] rfl)
abbrev rm_X1_repeatFlow : Room := { frames := 4, cells := 0, slots := 0, locals := 99 }
set_option maxHeartbeats 4000000 in
set_option maxRecDepth 100000 in
theorem c_X1_repeatFlow (l : Launch) (G : Gl) (L : List Nat) (F : Nat → va_E) (k : Nat) (ra : Nat → Nat) (a : Nat) (o cu : Nat) (u : Nat → ZP) (w : Nat → ZP) (s7 : Nat → ZP) (s4 : Nat → ZP) (s1 : Nat → ZP) (s2 : Nat → ZP) (z : ZP) (mk : k ∈ L) (fk : F k = rkO ra) (hra : ∀ i, i < 14 → ra i ∈ L) (hin : ∀ i j, i < 14 → j < 14 → ra i = ra j → i = j) (ma : a ∈ L) (fa : F a = rw7 G u) (mo : o ∈ L) (fo : F o = rw7 G w) (fs7 : F (ra 7) = rw7 G s7) (fs4 : F (ra 4) = rw7 G s4) (fs1 : F (ra 1) = rw7 G s1) (fs2 : F (ra 2) = rw7 G s2) (nao : a ≠ o) (na7 : a ≠ ra 7) (no7 : o ≠ ra 7) (na4 : a ≠ ra 4) (no4 : o ≠ ra 4) (na1 : a ≠ ra 1) (no1 : o ≠ ra 1) (na2 : a ≠ ra 2) (no2 : o ≠ ra 2) (hc : cu ≤ 6) (hc2 : 2 ≤ cu) : CV l yX1_repeatFlow cX1_repeatFlow 5 none rm_X1_repeatFlow G L F [.ref k, .ref a, .int (nI (z.val)), .int (nI (cu)), .ref o] (fun F1 => F1 o = rw7 G (m_rep u z cu) ∧ (∃ t, F1 (ra 7) = rw7 G t) ∧ (∃ t, F1 (ra 4) = rw7 G t) ∧ (∃ t, F1 (ra 1) = rw7 G t) ∧ (∃ t, F1 (ra 2) = rw7 G t) ∧ ∀ q, q ≠ o → q ≠ ra 7 → q ≠ ra 4 → q ≠ ra 1 → q ≠ ra 2 → F1 q = F q) := by
  refine CG_of (by decide) (Nat.le_of_ble_eq_true rfl) rfl ?_
  intro p e s m args below meth c Q C0 hr hlk hnm hQ hw ls hl
  have hx := C0.x
  have hb := C0.b
  have hz := z.isLt
  refine lv_aload_n hx hb dX1_repeatFlow_0 rfl (lv_at hl 0 rfl) ?_
  refine lv_aload_n hx hb dX1_repeatFlow_1 rfl (lv_at hl 1 rfl) ?_
  refine lv_iload_n hx hb dX1_repeatFlow_2 rfl (lv_at hl 3 rfl) ?_
  refine lv_aload_n hx hb dX1_repeatFlow_3 rfl (lv_at hl 0 rfl) ?_
  refine q_get C0 hw mk fk fw_X1_33 rfl dX1_repeatFlow_4 ?_
  refine q_callv hw (q_runV (As := [.ref a, .int (nI (cu)), .ref (ra 7)]) (c_X1_logarithm l G L F k ra a (ra 7) cu u s7 s4 s1 s2  mk fk hra hin ma fa ((hra 7 (by decide))) fs7 fs4 fs1 fs2 (na7) (na4) (fun h => absurd (hin 7 4 (by decide) (by decide) h) (by decide)) (na1) (fun h => absurd (hin 7 1 (by decide) (by decide) h) (by decide)) (na2) (fun h => absurd (hin 7 2 (by decide) (by decide) h) (by decide)) (by omega) (by omega) ) C0 hw vw_X1_102 mk fk rfl rfl rfl hl.1 rfl (Nat.le_of_ble_eq_true rfl) dX1_repeatFlow_7 ⟨by decide, by decide⟩ ⟨by decide, by decide⟩) rfl rfl (fun F_229 H locs hw hp_230 => ?_)
  obtain ⟨f_231, ⟨t_235, f_232⟩, ⟨t_236, f_233⟩, ⟨t_237, f_234⟩, o_238⟩ := hp_230
  refine lv_aload_n hx hb dX1_repeatFlow_10 rfl (lv_at hl 0 rfl) ?_
  have f_239 : F_229 k = rkO ra := (o_238 k (ne_oa fk fs7) (ne_oa fk fs4) (ne_oa fk fs1) (ne_oa fk fs2)).trans fk
  refine q_get C0 hw mk f_239 fw_X1_33 rfl dX1_repeatFlow_11 ?_
  refine lv_iload_n hx hb dX1_repeatFlow_14 rfl (lv_at hl 2 rfl) ?_
  refine lv_aload_n hx hb dX1_repeatFlow_15 rfl (lv_at hl 0 rfl) ?_
  refine q_get C0 hw mk f_239 fw_X1_33 rfl dX1_repeatFlow_16 ?_
  refine q_callv hw (q_runS (As := [.ref (ra 7), .int (nI (z.val)), .ref (ra 7)]) (c_X1_scaleRow_s l G L F_229 (ra 7) ((m_log u cu)) z ((hra 7 (by decide))) f_231) C0 hw sw_X1_83 rfl hl.1 rfl (Nat.le_of_ble_eq_true rfl) dX1_repeatFlow_19 ⟨by decide, by decide⟩ ⟨by decide, by decide⟩) rfl rfl (fun F_240 H locs hw hp_241 => ?_)
  refine lv_aload_n hx hb dX1_repeatFlow_22 rfl (lv_at hl 0 rfl) ?_
  refine lv_aload_n hx hb dX1_repeatFlow_23 rfl (lv_at hl 0 rfl) ?_
  have f_242 : F_240 k = rkO ra := (hp_241.2 k (ne_oa f_239 f_231)).trans f_239
  refine q_get C0 hw mk f_242 fw_X1_33 rfl dX1_repeatFlow_24 ?_
  refine lv_iload_n hx hb dX1_repeatFlow_27 rfl (lv_at hl 3 rfl) ?_
  refine lv_aload hx hb dX1_repeatFlow_28 (lv_at hl 4 rfl) ?_
  have f_243 : F_229 o = rw7 G w := (o_238 o (no7) (no4) (no1) (no2)).trans fo
  have f_244 : F_240 o = rw7 G w := (hp_241.2 o (no7)).trans f_243
  have f_245 : F_240 (ra 1) = rw7 G t_236 := (hp_241.2 (ra 1) (fun h => absurd (hin 1 7 (by decide) (by decide) h) (by decide))).trans f_233
  have f_246 : F_240 (ra 2) = rw7 G t_237 := (hp_241.2 (ra 2) (fun h => absurd (hin 2 7 (by decide) (by decide) h) (by decide))).trans f_234
  refine q_callv hw (q_runV (As := [.ref (ra 7), .int (nI (cu)), .ref o]) (c_X1_exponential l G L F_240 k ra (ra 7) o cu ((m_scale ((m_log u cu)) z)) w t_236 t_237  mk f_242 hra hin ((hra 7 (by decide))) hp_241.1 mo f_244 f_245 f_246 (Ne.symm (no7)) (fun h => absurd (hin 7 1 (by decide) (by decide) h) (by decide)) (no1) (fun h => absurd (hin 7 2 (by decide) (by decide) h) (by decide)) (no2) (by omega) (by omega) ) C0 hw vw_X1_99 mk f_242 rfl rfl rfl hl.1 rfl (Nat.le_of_ble_eq_true rfl) dX1_repeatFlow_30 ⟨by decide, by decide⟩ ⟨by decide, by decide⟩) rfl rfl (fun F_247 H locs hw hp_248 => ?_)
  obtain ⟨f_249, ⟨t_252, f_250⟩, ⟨t_253, f_251⟩, o_254⟩ := hp_248
  have f_255 : F_247 (ra 7) = rw7 G ((m_scale ((m_log u cu)) z)) := (o_254 (ra 7) (Ne.symm (no7)) (fun h => absurd (hin 7 1 (by decide) (by decide) h) (by decide)) (fun h => absurd (hin 7 2 (by decide) (by decide) h) (by decide))).trans hp_241.1
  have f_256 : F_240 (ra 4) = rw7 G t_235 := (hp_241.2 (ra 4) (fun h => absurd (hin 4 7 (by decide) (by decide) h) (by decide))).trans f_232
  have f_257 : F_247 (ra 4) = rw7 G t_235 := (o_254 (ra 4) (Ne.symm (no4)) (fun h => absurd (hin 4 1 (by decide) (by decide) h) (by decide)) (fun h => absurd (hin 4 2 (by decide) (by decide) h) (by decide))).trans f_256
  exact r_v C0 hr hlk hw ⟨f_249, ⟨_, f_255⟩, ⟨_, f_257⟩, ⟨_, f_250⟩, ⟨_, f_251⟩, (fun q k0 k1 k2 k3 k4 => ((o_254 q k0 k3 k4).trans ((hp_241.2 q k1).trans (o_238 q k1 k2 k3 k4))))⟩ (Nat.le_refl _) (Nat.le_refl _) dX1_repeatFlow_33 hQ
abbrev rm_X1_pushField : Room := { frames := 3, cells := 0, slots := 0, locals := 89 }
set_option maxHeartbeats 4000000 in
set_option maxRecDepth 100000 in
theorem c_X1_pushField (l : Launch) (G : Gl) (L : List Nat) (F : Nat → va_E) (k : Nat) (ra : Nat → Nat) (a : Nat) (b : Nat) (o cu : Nat) (u : Nat → ZP) (v : Nat → ZP) (w : Nat → ZP) (s6 : Nat → ZP) (s5 : Nat → ZP) (s4 : Nat → ZP) (s3 : Nat → ZP) (mk : k ∈ L) (fk : F k = rkO ra) (hra : ∀ i, i < 14 → ra i ∈ L) (hin : ∀ i j, i < 14 → j < 14 → ra i = ra j → i = j) (ma : a ∈ L) (fa : F a = rw7 G u) (mb : b ∈ L) (fb : F b = rw7 G v) (mo : o ∈ L) (fo : F o = rw7 G w) (fs6 : F (ra 6) = rw7 G s6) (fs5 : F (ra 5) = rw7 G s5) (fs4 : F (ra 4) = rw7 G s4) (fs3 : F (ra 3) = rw7 G s3) (nao : a ≠ o) (nbo : b ≠ o) (na6 : a ≠ ra 6) (nb6 : b ≠ ra 6) (no6 : o ≠ ra 6) (na5 : a ≠ ra 5) (nb5 : b ≠ ra 5) (no5 : o ≠ ra 5) (na4 : a ≠ ra 4) (nb4 : b ≠ ra 4) (no4 : o ≠ ra 4) (na3 : a ≠ ra 3) (nb3 : b ≠ ra 3) (no3 : o ≠ ra 3) (hc : cu ≤ 6) (hc2 : 2 ≤ cu) : CV l yX1_pushField cX1_pushField 5 none rm_X1_pushField G L F [.ref k, .ref a, .ref b, .int (nI (cu)), .ref o] (fun F1 => F1 o = rw7 G (m_push u v cu) ∧ (∃ t, F1 (ra 6) = rw7 G t) ∧ (∃ t, F1 (ra 5) = rw7 G t) ∧ (∃ t, F1 (ra 4) = rw7 G t) ∧ (∃ t, F1 (ra 3) = rw7 G t) ∧ ∀ q, q ≠ o → q ≠ ra 6 → q ≠ ra 5 → q ≠ ra 4 → q ≠ ra 3 → F1 q = F q) := by
  refine CG_of (by decide) (Nat.le_of_ble_eq_true rfl) rfl ?_
  intro p e s m args below meth c Q C0 hr hlk hnm hQ hw ls hl
  have hx := C0.x
  have hb := C0.b
  refine lv_aload_n hx hb dX1_pushField_0 rfl (lv_at hl 0 rfl) ?_
  refine lv_aload_n hx hb dX1_pushField_1 rfl (lv_at hl 1 rfl) ?_
  refine lv_iload_n hx hb dX1_pushField_2 rfl (lv_at hl 3 rfl) ?_
  refine lv_aload_n hx hb dX1_pushField_3 rfl (lv_at hl 0 rfl) ?_
  refine q_get C0 hw mk fk fw_X1_30 rfl dX1_pushField_4 ?_
  refine q_callv hw (q_runV (As := [.ref a, .int (nI (cu)), .ref (ra 6)]) (c_X1_inverse l G L F k ra a (ra 6) cu u s6 s4 s3  mk fk hra hin ma fa ((hra 6 (by decide))) fs6 fs4 fs3 (na6) (na4) (fun h => absurd (hin 6 4 (by decide) (by decide) h) (by decide)) (na3) (fun h => absurd (hin 6 3 (by decide) (by decide) h) (by decide)) (by omega) (by omega) ) C0 hw vw_X1_105 mk fk rfl rfl rfl hl.1 rfl (Nat.le_of_ble_eq_true rfl) dX1_pushField_7 ⟨by decide, by decide⟩ ⟨by decide, by decide⟩) rfl rfl (fun F_258 H locs hw hp_259 => ?_)
  obtain ⟨f_260, ⟨t_263, f_261⟩, ⟨t_264, f_262⟩, o_265⟩ := hp_259
  refine lv_aload_n hx hb dX1_pushField_10 rfl (lv_at hl 2 rfl) ?_
  refine lv_aload_n hx hb dX1_pushField_11 rfl (lv_at hl 1 rfl) ?_
  refine lv_iload_n hx hb dX1_pushField_12 rfl (lv_at hl 3 rfl) ?_
  refine lv_aload_n hx hb dX1_pushField_13 rfl (lv_at hl 0 rfl) ?_
  have f_266 : F_258 k = rkO ra := (o_265 k (ne_oa fk fs6) (ne_oa fk fs4) (ne_oa fk fs3)).trans fk
  refine q_get C0 hw mk f_266 fw_X1_27 rfl dX1_pushField_14 ?_
  have f_267 : F_258 b = rw7 G v := (o_265 b (nb6) (nb4) (nb3)).trans fb
  have f_268 : F_258 a = rw7 G u := (o_265 a (na6) (na4) (na3)).trans fa
  have f_269 : F_258 (ra 5) = rw7 G s5 := (o_265 (ra 5) (fun h => absurd (hin 5 6 (by decide) (by decide) h) (by decide)) (fun h => absurd (hin 5 4 (by decide) (by decide) h) (by decide)) (fun h => absurd (hin 5 3 (by decide) (by decide) h) (by decide))).trans fs5
  refine q_callv hw (q_runS (As := [.ref b, .ref a, .int (nI (cu)), .ref (ra 5)]) (c_X1_act l G L F_258 b a (ra 5) cu v u s5 mb f_267 ma f_268 ((hra 5 (by decide))) f_269 (nb5) (na5) (by omega) (by omega)) C0 hw sw_X1_68 rfl hl.1 rfl (Nat.le_of_ble_eq_true rfl) dX1_pushField_17 ⟨by decide, by decide⟩ ⟨by decide, by decide⟩) rfl rfl (fun F_270 H locs hw hp_271 => ?_)
  refine lv_aload_n hx hb dX1_pushField_20 rfl (lv_at hl 0 rfl) ?_
  refine lv_aload_n hx hb dX1_pushField_21 rfl (lv_at hl 0 rfl) ?_
  have f_272 : F_270 k = rkO ra := (hp_271.2 k (ne_oa f_266 f_269)).trans f_266
  refine q_get C0 hw mk f_272 fw_X1_30 rfl dX1_pushField_22 ?_
  refine lv_aload_n hx hb dX1_pushField_25 rfl (lv_at hl 0 rfl) ?_
  refine q_get C0 hw mk f_272 fw_X1_27 rfl dX1_pushField_26 ?_
  refine lv_iload_n hx hb dX1_pushField_29 rfl (lv_at hl 3 rfl) ?_
  refine lv_aload hx hb dX1_pushField_30 (lv_at hl 4 rfl) ?_
  have f_273 : F_270 (ra 6) = rw7 G ((m_inv u cu)) := (hp_271.2 (ra 6) (fun h => absurd (hin 6 5 (by decide) (by decide) h) (by decide))).trans f_260
  have f_274 : F_258 o = rw7 G w := (o_265 o (no6) (no4) (no3)).trans fo
  have f_275 : F_270 o = rw7 G w := (hp_271.2 o (no5)).trans f_274
  have f_276 : F_270 (ra 3) = rw7 G t_264 := (hp_271.2 (ra 3) (fun h => absurd (hin 3 5 (by decide) (by decide) h) (by decide))).trans f_262
  refine q_callv hw (q_runV (As := [.ref (ra 6), .ref (ra 5), .int (nI (cu)), .ref o]) (c_X1_substitute l G L F_270 k ra (ra 6) (ra 5) o cu ((m_inv u cu)) ((m_act v u cu)) w t_264  mk f_272 hra hin ((hra 6 (by decide))) f_273 ((hra 5 (by decide))) hp_271.1 mo f_275 f_276 (Ne.symm (no6)) (Ne.symm (no5)) (fun h => absurd (hin 6 3 (by decide) (by decide) h) (by decide)) (fun h => absurd (hin 5 3 (by decide) (by decide) h) (by decide)) (no3) (by omega) (by omega) ) C0 hw vw_X1_96 mk f_272 rfl rfl rfl hl.1 rfl (Nat.le_of_ble_eq_true rfl) dX1_pushField_32 ⟨by decide, by decide⟩ ⟨by decide, by decide⟩) rfl rfl (fun F_277 H locs hw hp_278 => ?_)
  obtain ⟨f_279, ⟨t_281, f_280⟩, o_282⟩ := hp_278
  have f_283 : F_277 (ra 6) = rw7 G ((m_inv u cu)) := (o_282 (ra 6) (Ne.symm (no6)) (fun h => absurd (hin 6 3 (by decide) (by decide) h) (by decide))).trans f_273
  have f_284 : F_277 (ra 5) = rw7 G ((m_act v u cu)) := (o_282 (ra 5) (Ne.symm (no5)) (fun h => absurd (hin 5 3 (by decide) (by decide) h) (by decide))).trans hp_271.1
  have f_285 : F_270 (ra 4) = rw7 G t_263 := (hp_271.2 (ra 4) (fun h => absurd (hin 4 5 (by decide) (by decide) h) (by decide))).trans f_261
  have f_286 : F_277 (ra 4) = rw7 G t_263 := (o_282 (ra 4) (Ne.symm (no4)) (fun h => absurd (hin 4 3 (by decide) (by decide) h) (by decide))).trans f_285
  exact r_v C0 hr hlk hw ⟨f_279, ⟨_, f_283⟩, ⟨_, f_284⟩, ⟨_, f_286⟩, ⟨_, f_280⟩, (fun q k0 k1 k2 k3 k4 => ((o_282 q k0 k4).trans ((hp_271.2 q k2).trans (o_265 q k1 k3 k4))))⟩ (Nat.le_refl _) (Nat.le_refl _) dX1_pushField_35 hQ
abbrev rm_X1_secondWay : Room := { frames := 3, cells := 0, slots := 0, locals := 75 }
set_option maxHeartbeats 4000000 in
set_option maxRecDepth 100000 in
theorem c_X1_secondWay (l : Launch) (G : Gl) (L : List Nat) (F : Nat → va_E) (k : Nat) (ra : Nat → Nat) (a : Nat) (b : Nat) (o cu : Nat) (u : Nat → ZP) (v : Nat → ZP) (w : Nat → ZP) (s8 : Nat → ZP) (s9 : Nat → ZP) (s10 : Nat → ZP) (s0 : Nat → ZP) (y : Nat) (mk : k ∈ L) (fk : F k = rkO ra) (hra : ∀ i, i < 14 → ra i ∈ L) (hin : ∀ i j, i < 14 → j < 14 → ra i = ra j → i = j) (ma : a ∈ L) (fa : F a = rw7 G u) (mb : b ∈ L) (fb : F b = rw7 G v) (mo : o ∈ L) (fo : F o = rw7 G w) (fs8 : F (ra 8) = rw7 G s8) (fs9 : F (ra 9) = rw7 G s9) (fs10 : F (ra 10) = rw7 G s10) (fs0 : F (ra 0) = rw7 G s0) (nao : a ≠ o) (nbo : b ≠ o) (na8 : a ≠ ra 8) (nb8 : b ≠ ra 8) (no8 : o ≠ ra 8) (na9 : a ≠ ra 9) (nb9 : b ≠ ra 9) (no9 : o ≠ ra 9) (na10 : a ≠ ra 10) (nb10 : b ≠ ra 10) (no10 : o ≠ ra 10) (na0 : a ≠ ra 0) (nb0 : b ≠ ra 0) (no0 : o ≠ ra 0) (hc : cu ≤ 6) (hc2 : 2 ≤ cu) (hy1 : 2 ≤ y) (hy2 : y ≤ 5) : CV l yX1_secondWay cX1_secondWay 6 none rm_X1_secondWay G L F [.ref k, .ref a, .ref b, .int (nI (y)), .int (nI (cu)), .ref o] (fun F1 => F1 o = rw7 G (m_way u v y cu) ∧ (∃ t, F1 (ra 8) = rw7 G t) ∧ (∃ t, F1 (ra 9) = rw7 G t) ∧ (∃ t, F1 (ra 10) = rw7 G t) ∧ (∃ t, F1 (ra 0) = rw7 G t) ∧ ∀ q, q ≠ o → q ≠ ra 8 → q ≠ ra 9 → q ≠ ra 10 → q ≠ ra 0 → F1 q = F q) := by
  refine CG_of (by decide) (Nat.le_of_ble_eq_true rfl) rfl ?_
  intro p e s m args below meth c Q C0 hr hlk hnm hQ hw ls hl
  have hx := C0.x
  have hb := C0.b
  refine lv_aload_n hx hb dX1_secondWay_0 rfl (lv_at hl 1 rfl) ?_
  refine lv_aload_n hx hb dX1_secondWay_1 rfl (lv_at hl 2 rfl) ?_
  refine lv_aload hx hb dX1_secondWay_2 (lv_at hl 5 rfl) ?_
  refine q_callv hw (q_runS (As := [.ref a, .ref b, .ref o]) (c_X1_addRows l G L F a b o u v w ma fa mb fb mo fo (nao) (nbo)) C0 hw sw_X1_108 rfl hl.1 rfl (Nat.le_of_ble_eq_true rfl) dX1_secondWay_4 ⟨by decide, by decide⟩ ⟨by decide, by decide⟩) rfl rfl (fun F_287 H locs hw hp_288 => ?_)
  refine lv_iload_n hx hb dX1_secondWay_7 rfl (lv_at hl 3 rfl) ?_
  refine lv_iconst (v := nI 3) hx hb dX1_secondWay_8 (by decide) ?_
  refine n_icmp_ge (tgt := 13) hx hb dX1_secondWay_9 (by decide) (by omega) (by decide) (fun c_9 => ?_) (fun c_9 => ?_)
  · skip
    refine lv_aload_n hx hb dX1_secondWay_13 rfl (lv_at hl 0 rfl) ?_
    refine lv_aload_n hx hb dX1_secondWay_14 rfl (lv_at hl 1 rfl) ?_
    refine lv_aload_n hx hb dX1_secondWay_15 rfl (lv_at hl 2 rfl) ?_
    refine lv_iload hx hb dX1_secondWay_16 (lv_at hl 4 rfl) ?_
    refine lv_aload_n hx hb dX1_secondWay_18 rfl (lv_at hl 0 rfl) ?_
    have f_289 : F_287 k = rkO ra := (hp_288.2 k (ne_oa fk fo)).trans fk
    refine q_get C0 hw mk f_289 fw_X1_36 rfl dX1_secondWay_19 ?_
    have f_290 : F_287 a = rw7 G u := (hp_288.2 a (nao)).trans fa
    have f_291 : F_287 b = rw7 G v := (hp_288.2 b (nbo)).trans fb
    have f_292 : F_287 (ra 8) = rw7 G s8 := (hp_288.2 (ra 8) (Ne.symm (no8))).trans fs8
    have f_293 : F_287 (ra 0) = rw7 G s0 := (hp_288.2 (ra 0) (Ne.symm (no0))).trans fs0
    refine q_callv hw (q_runV (As := [.ref a, .ref b, .int (nI (cu)), .ref (ra 8)]) (c_X1_takeBracket l G L F_287 k ra a b (ra 8) cu u v s8 s0  mk f_289 hra hin ma f_290 mb f_291 ((hra 8 (by decide))) f_292 f_293 (na8) (nb8) (na0) (nb0) (fun h => absurd (hin 8 0 (by decide) (by decide) h) (by decide)) (by omega) (by omega) ) C0 hw vw_X1_112 mk f_289 rfl rfl rfl hl.1 rfl (Nat.le_of_ble_eq_true rfl) dX1_secondWay_22 ⟨by decide, by decide⟩ ⟨by decide, by decide⟩) rfl rfl (fun F_294 H locs hw hp_295 => ?_)
    obtain ⟨f_296, ⟨t_298, f_297⟩, o_299⟩ := hp_295
    refine lv_aload hx hb dX1_secondWay_25 (lv_at hl 5 rfl) ?_
    refine lv_aload_n hx hb dX1_secondWay_27 rfl (lv_at hl 0 rfl) ?_
    have f_300 : F_294 k = rkO ra := (o_299 k (ne_oa f_289 f_292) (ne_oa f_289 f_293)).trans f_289
    refine q_get C0 hw mk f_300 fw_X1_36 rfl dX1_secondWay_28 ?_
    refine lv_sipush (v := nI 5004) hx hb dX1_secondWay_31 (by decide) ?_
    have f_301 : F_294 o = rw7 G ((m_add u v)) := (o_299 o (no8) (no0)).trans hp_288.1
    refine q_callv hw (q_runS (As := [.ref o, .ref (ra 8), .int (nI (5004))]) (c_X1_addMultiple l G L F_294 o (ra 8) ((m_add u v)) ((m_br u v cu)) (zc 5004) mo f_301 ((hra 8 (by decide))) f_296 (Ne.symm (no8))) C0 hw sw_X1_72 rfl hl.1 rfl (Nat.le_of_ble_eq_true rfl) dX1_secondWay_34 ⟨by decide, by decide⟩ ⟨by decide, by decide⟩) rfl rfl (fun F_302 H locs hw hp_303 => ?_)
    refine lv_iload_n hx hb dX1_secondWay_37 rfl (lv_at hl 3 rfl) ?_
    refine lv_iconst (v := nI 4) hx hb dX1_secondWay_38 (by decide) ?_
    refine n_icmp_ge (tgt := 43) hx hb dX1_secondWay_39 (by decide) (by omega) (by decide) (fun c_39 => ?_) (fun c_39 => ?_)
    · skip
      refine lv_aload_n hx hb dX1_secondWay_43 rfl (lv_at hl 0 rfl) ?_
      refine lv_aload_n hx hb dX1_secondWay_44 rfl (lv_at hl 1 rfl) ?_
      refine lv_aload_n hx hb dX1_secondWay_45 rfl (lv_at hl 0 rfl) ?_
      have f_304 : F_302 k = rkO ra := (hp_303.2 k (ne_oa f_300 f_301)).trans f_300
      refine q_get C0 hw mk f_304 fw_X1_36 rfl dX1_secondWay_46 ?_
      refine lv_iload hx hb dX1_secondWay_49 (lv_at hl 4 rfl) ?_
      refine lv_aload_n hx hb dX1_secondWay_51 rfl (lv_at hl 0 rfl) ?_
      refine q_get C0 hw mk f_304 fw_X1_39 rfl dX1_secondWay_52 ?_
      have f_305 : F_294 a = rw7 G u := (o_299 a (na8) (na0)).trans f_290
      have f_306 : F_302 a = rw7 G u := (hp_303.2 a (nao)).trans f_305
      have f_307 : F_302 (ra 8) = rw7 G ((m_br u v cu)) := (hp_303.2 (ra 8) (Ne.symm (no8))).trans f_296
      have f_308 : F_287 (ra 9) = rw7 G s9 := (hp_288.2 (ra 9) (Ne.symm (no9))).trans fs9
      have f_309 : F_294 (ra 9) = rw7 G s9 := (o_299 (ra 9) (fun h => absurd (hin 9 8 (by decide) (by decide) h) (by decide)) (fun h => absurd (hin 9 0 (by decide) (by decide) h) (by decide))).trans f_308
      have f_310 : F_302 (ra 9) = rw7 G s9 := (hp_303.2 (ra 9) (Ne.symm (no9))).trans f_309
      have f_311 : F_302 (ra 0) = rw7 G t_298 := (hp_303.2 (ra 0) (Ne.symm (no0))).trans f_297
      refine q_callv hw (q_runV (As := [.ref a, .ref (ra 8), .int (nI (cu)), .ref (ra 9)]) (c_X1_takeBracket l G L F_302 k ra a (ra 8) (ra 9) cu u ((m_br u v cu)) s9 t_298  mk f_304 hra hin ma f_306 ((hra 8 (by decide))) f_307 ((hra 9 (by decide))) f_310 f_311 (na9) (fun h => absurd (hin 8 9 (by decide) (by decide) h) (by decide)) (na0) (fun h => absurd (hin 8 0 (by decide) (by decide) h) (by decide)) (fun h => absurd (hin 9 0 (by decide) (by decide) h) (by decide)) (by omega) (by omega) ) C0 hw vw_X1_112 mk f_304 rfl rfl rfl hl.1 rfl (Nat.le_of_ble_eq_true rfl) dX1_secondWay_55 ⟨by decide, by decide⟩ ⟨by decide, by decide⟩) rfl rfl (fun F_312 H locs hw hp_313 => ?_)
      obtain ⟨f_314, ⟨t_316, f_315⟩, o_317⟩ := hp_313
      refine lv_aload_n hx hb dX1_secondWay_58 rfl (lv_at hl 0 rfl) ?_
      refine lv_aload_n hx hb dX1_secondWay_59 rfl (lv_at hl 2 rfl) ?_
      refine lv_aload_n hx hb dX1_secondWay_60 rfl (lv_at hl 0 rfl) ?_
      have f_318 : F_312 k = rkO ra := (o_317 k (ne_oa f_304 f_310) (ne_oa f_304 f_311)).trans f_304
      refine q_get C0 hw mk f_318 fw_X1_36 rfl dX1_secondWay_61 ?_
      refine lv_iload hx hb dX1_secondWay_64 (lv_at hl 4 rfl) ?_
      refine lv_aload_n hx hb dX1_secondWay_66 rfl (lv_at hl 0 rfl) ?_
      refine q_get C0 hw mk f_318 fw_X1_42 rfl dX1_secondWay_67 ?_
      have f_319 : F_294 b = rw7 G v := (o_299 b (nb8) (nb0)).trans f_291
      have f_320 : F_302 b = rw7 G v := (hp_303.2 b (nbo)).trans f_319
      have f_321 : F_312 b = rw7 G v := (o_317 b (nb9) (nb0)).trans f_320
      have f_322 : F_312 (ra 8) = rw7 G ((m_br u v cu)) := (o_317 (ra 8) (fun h => absurd (hin 8 9 (by decide) (by decide) h) (by decide)) (fun h => absurd (hin 8 0 (by decide) (by decide) h) (by decide))).trans f_307
      have f_323 : F_287 (ra 10) = rw7 G s10 := (hp_288.2 (ra 10) (Ne.symm (no10))).trans fs10
      have f_324 : F_294 (ra 10) = rw7 G s10 := (o_299 (ra 10) (fun h => absurd (hin 10 8 (by decide) (by decide) h) (by decide)) (fun h => absurd (hin 10 0 (by decide) (by decide) h) (by decide))).trans f_323
      have f_325 : F_302 (ra 10) = rw7 G s10 := (hp_303.2 (ra 10) (Ne.symm (no10))).trans f_324
      have f_326 : F_312 (ra 10) = rw7 G s10 := (o_317 (ra 10) (fun h => absurd (hin 10 9 (by decide) (by decide) h) (by decide)) (fun h => absurd (hin 10 0 (by decide) (by decide) h) (by decide))).trans f_325
      refine q_callv hw (q_runV (As := [.ref b, .ref (ra 8), .int (nI (cu)), .ref (ra 10)]) (c_X1_takeBracket l G L F_312 k ra b (ra 8) (ra 10) cu v ((m_br u v cu)) s10 t_316  mk f_318 hra hin mb f_321 ((hra 8 (by decide))) f_322 ((hra 10 (by decide))) f_326 f_315 (nb10) (fun h => absurd (hin 8 10 (by decide) (by decide) h) (by decide)) (nb0) (fun h => absurd (hin 8 0 (by decide) (by decide) h) (by decide)) (fun h => absurd (hin 10 0 (by decide) (by decide) h) (by decide)) (by omega) (by omega) ) C0 hw vw_X1_112 mk f_318 rfl rfl rfl hl.1 rfl (Nat.le_of_ble_eq_true rfl) dX1_secondWay_70 ⟨by decide, by decide⟩ ⟨by decide, by decide⟩) rfl rfl (fun F_327 H locs hw hp_328 => ?_)
      obtain ⟨f_329, ⟨t_331, f_330⟩, o_332⟩ := hp_328
      refine lv_aload hx hb dX1_secondWay_73 (lv_at hl 5 rfl) ?_
      refine lv_aload_n hx hb dX1_secondWay_75 rfl (lv_at hl 0 rfl) ?_
      have f_333 : F_327 k = rkO ra := (o_332 k (ne_oa f_318 f_326) (ne_oa f_318 f_315)).trans f_318
      refine q_get C0 hw mk f_333 fw_X1_39 rfl dX1_secondWay_76 ?_
      refine lv_sipush (v := nI 834) hx hb dX1_secondWay_79 (by decide) ?_
      have f_334 : F_312 o = rw7 G ((m_am ((m_add u v)) ((m_br u v cu)) (zc 5004))) := (o_317 o (no9) (no0)).trans hp_303.1
      have f_335 : F_327 o = rw7 G ((m_am ((m_add u v)) ((m_br u v cu)) (zc 5004))) := (o_332 o (no10) (no0)).trans f_334
      have f_336 : F_327 (ra 9) = rw7 G ((m_br u ((m_br u v cu)) cu)) := (o_332 (ra 9) (fun h => absurd (hin 9 10 (by decide) (by decide) h) (by decide)) (fun h => absurd (hin 9 0 (by decide) (by decide) h) (by decide))).trans f_314
      refine q_callv hw (q_runS (As := [.ref o, .ref (ra 9), .int (nI (834))]) (c_X1_addMultiple l G L F_327 o (ra 9) ((m_am ((m_add u v)) ((m_br u v cu)) (zc 5004))) ((m_br u ((m_br u v cu)) cu)) (zc 834) mo f_335 ((hra 9 (by decide))) f_336 (Ne.symm (no9))) C0 hw sw_X1_72 rfl hl.1 rfl (Nat.le_of_ble_eq_true rfl) dX1_secondWay_82 ⟨by decide, by decide⟩ ⟨by decide, by decide⟩) rfl rfl (fun F_337 H locs hw hp_338 => ?_)
      refine lv_aload hx hb dX1_secondWay_85 (lv_at hl 5 rfl) ?_
      refine lv_aload_n hx hb dX1_secondWay_87 rfl (lv_at hl 0 rfl) ?_
      have f_339 : F_337 k = rkO ra := (hp_338.2 k (ne_oa f_333 f_335)).trans f_333
      refine q_get C0 hw mk f_339 fw_X1_42 rfl dX1_secondWay_88 ?_
      refine lv_sipush (v := nI 9173) hx hb dX1_secondWay_91 (by decide) ?_
      have f_340 : F_337 (ra 10) = rw7 G ((m_br v ((m_br u v cu)) cu)) := (hp_338.2 (ra 10) (Ne.symm (no10))).trans f_329
      refine q_callv hw (q_runS (As := [.ref o, .ref (ra 10), .int (nI (9173))]) (c_X1_addMultiple l G L F_337 o (ra 10) ((m_am ((m_am ((m_add u v)) ((m_br u v cu)) (zc 5004))) ((m_br u ((m_br u v cu)) cu)) (zc 834))) ((m_br v ((m_br u v cu)) cu)) (zc 9173) mo hp_338.1 ((hra 10 (by decide))) f_340 (Ne.symm (no10))) C0 hw sw_X1_72 rfl hl.1 rfl (Nat.le_of_ble_eq_true rfl) dX1_secondWay_94 ⟨by decide, by decide⟩ ⟨by decide, by decide⟩) rfl rfl (fun F_341 H locs hw hp_342 => ?_)
      refine lv_iload_n hx hb dX1_secondWay_97 rfl (lv_at hl 3 rfl) ?_
      refine lv_iconst (v := nI 5) hx hb dX1_secondWay_98 (by decide) ?_
      refine n_icmp_ge (tgt := 103) hx hb dX1_secondWay_99 (by decide) (by omega) (by decide) (fun c_99 => ?_) (fun c_99 => ?_)
      · skip
        refine lv_aload_n hx hb dX1_secondWay_103 rfl (lv_at hl 0 rfl) ?_
        refine lv_aload_n hx hb dX1_secondWay_104 rfl (lv_at hl 2 rfl) ?_
        refine lv_aload_n hx hb dX1_secondWay_105 rfl (lv_at hl 0 rfl) ?_
        have f_343 : F_341 k = rkO ra := (hp_342.2 k (ne_oa f_339 hp_338.1)).trans f_339
        refine q_get C0 hw mk f_343 fw_X1_39 rfl dX1_secondWay_106 ?_
        refine lv_iload hx hb dX1_secondWay_109 (lv_at hl 4 rfl) ?_
        refine lv_aload_n hx hb dX1_secondWay_111 rfl (lv_at hl 0 rfl) ?_
        refine q_get C0 hw mk f_343 fw_X1_42 rfl dX1_secondWay_112 ?_
        have f_344 : F_327 b = rw7 G v := (o_332 b (nb10) (nb0)).trans f_321
        have f_345 : F_337 b = rw7 G v := (hp_338.2 b (nbo)).trans f_344
        have f_346 : F_341 b = rw7 G v := (hp_342.2 b (nbo)).trans f_345
        have f_347 : F_337 (ra 9) = rw7 G ((m_br u ((m_br u v cu)) cu)) := (hp_338.2 (ra 9) (Ne.symm (no9))).trans f_336
        have f_348 : F_341 (ra 9) = rw7 G ((m_br u ((m_br u v cu)) cu)) := (hp_342.2 (ra 9) (Ne.symm (no9))).trans f_347
        have f_349 : F_341 (ra 10) = rw7 G ((m_br v ((m_br u v cu)) cu)) := (hp_342.2 (ra 10) (Ne.symm (no10))).trans f_340
        have f_350 : F_337 (ra 0) = rw7 G t_331 := (hp_338.2 (ra 0) (Ne.symm (no0))).trans f_330
        have f_351 : F_341 (ra 0) = rw7 G t_331 := (hp_342.2 (ra 0) (Ne.symm (no0))).trans f_350
        refine q_callv hw (q_runV (As := [.ref b, .ref (ra 9), .int (nI (cu)), .ref (ra 10)]) (c_X1_takeBracket l G L F_341 k ra b (ra 9) (ra 10) cu v ((m_br u ((m_br u v cu)) cu)) ((m_br v ((m_br u v cu)) cu)) t_331  mk f_343 hra hin mb f_346 ((hra 9 (by decide))) f_348 ((hra 10 (by decide))) f_349 f_351 (nb10) (fun h => absurd (hin 9 10 (by decide) (by decide) h) (by decide)) (nb0) (fun h => absurd (hin 9 0 (by decide) (by decide) h) (by decide)) (fun h => absurd (hin 10 0 (by decide) (by decide) h) (by decide)) (by omega) (by omega) ) C0 hw vw_X1_112 mk f_343 rfl rfl rfl hl.1 rfl (Nat.le_of_ble_eq_true rfl) dX1_secondWay_115 ⟨by decide, by decide⟩ ⟨by decide, by decide⟩) rfl rfl (fun F_352 H locs hw hp_353 => ?_)
        obtain ⟨f_354, ⟨t_356, f_355⟩, o_357⟩ := hp_353
        refine lv_aload hx hb dX1_secondWay_118 (lv_at hl 5 rfl) ?_
        refine lv_aload_n hx hb dX1_secondWay_120 rfl (lv_at hl 0 rfl) ?_
        have f_358 : F_352 k = rkO ra := (o_357 k (ne_oa f_343 f_349) (ne_oa f_343 f_351)).trans f_343
        refine q_get C0 hw mk f_358 fw_X1_42 rfl dX1_secondWay_121 ?_
        refine lv_sipush (v := nI 9590) hx hb dX1_secondWay_124 (by decide) ?_
        have f_359 : F_352 o = rw7 G ((m_am ((m_am ((m_am ((m_add u v)) ((m_br u v cu)) (zc 5004))) ((m_br u ((m_br u v cu)) cu)) (zc 834))) ((m_br v ((m_br u v cu)) cu)) (zc 9173))) := (o_357 o (no10) (no0)).trans hp_342.1
        refine q_callv hw (q_runS (As := [.ref o, .ref (ra 10), .int (nI (9590))]) (c_X1_addMultiple l G L F_352 o (ra 10) ((m_am ((m_am ((m_am ((m_add u v)) ((m_br u v cu)) (zc 5004))) ((m_br u ((m_br u v cu)) cu)) (zc 834))) ((m_br v ((m_br u v cu)) cu)) (zc 9173))) ((m_br v ((m_br u ((m_br u v cu)) cu)) cu)) (zc 9590) mo f_359 ((hra 10 (by decide))) f_354 (Ne.symm (no10))) C0 hw sw_X1_72 rfl hl.1 rfl (Nat.le_of_ble_eq_true rfl) dX1_secondWay_127 ⟨by decide, by decide⟩ ⟨by decide, by decide⟩) rfl rfl (fun F_360 H locs hw hp_361 => ?_)
        have h9o : F_360 o = rw7 G (m_way u v y cu) := hp_361.1.trans (congrArg (rw7 G) (by unfold m_way; rw [if_neg (by omega), if_neg (by omega), if_neg (by omega)]; rfl))
        have f_362 : F_327 (ra 8) = rw7 G ((m_br u v cu)) := (o_332 (ra 8) (fun h => absurd (hin 8 10 (by decide) (by decide) h) (by decide)) (fun h => absurd (hin 8 0 (by decide) (by decide) h) (by decide))).trans f_322
        have f_363 : F_337 (ra 8) = rw7 G ((m_br u v cu)) := (hp_338.2 (ra 8) (Ne.symm (no8))).trans f_362
        have f_364 : F_341 (ra 8) = rw7 G ((m_br u v cu)) := (hp_342.2 (ra 8) (Ne.symm (no8))).trans f_363
        have f_365 : F_352 (ra 8) = rw7 G ((m_br u v cu)) := (o_357 (ra 8) (fun h => absurd (hin 8 10 (by decide) (by decide) h) (by decide)) (fun h => absurd (hin 8 0 (by decide) (by decide) h) (by decide))).trans f_364
        have f_366 : F_360 (ra 8) = rw7 G ((m_br u v cu)) := (hp_361.2 (ra 8) (Ne.symm (no8))).trans f_365
        have f_367 : F_352 (ra 9) = rw7 G ((m_br u ((m_br u v cu)) cu)) := (o_357 (ra 9) (fun h => absurd (hin 9 10 (by decide) (by decide) h) (by decide)) (fun h => absurd (hin 9 0 (by decide) (by decide) h) (by decide))).trans f_348
        have f_368 : F_360 (ra 9) = rw7 G ((m_br u ((m_br u v cu)) cu)) := (hp_361.2 (ra 9) (Ne.symm (no9))).trans f_367
        have f_369 : F_360 (ra 10) = rw7 G ((m_br v ((m_br u ((m_br u v cu)) cu)) cu)) := (hp_361.2 (ra 10) (Ne.symm (no10))).trans f_354
        have f_370 : F_360 (ra 0) = rw7 G t_356 := (hp_361.2 (ra 0) (Ne.symm (no0))).trans f_355
        exact r_v C0 hr hlk hw ⟨h9o, ⟨_, f_366⟩, ⟨_, f_368⟩, ⟨_, f_369⟩, ⟨_, f_370⟩, (fun q k0 k1 k2 k3 k4 => ((hp_361.2 q k0).trans ((o_357 q k3 k4).trans ((hp_342.2 q k0).trans ((hp_338.2 q k0).trans ((o_332 q k3 k4).trans ((o_317 q k2 k4).trans ((hp_303.2 q k0).trans ((o_299 q k1 k4).trans (hp_288.2 q k0))))))))))⟩ (Nat.le_refl _) (Nat.le_refl _) dX1_secondWay_130 hQ
      · skip
        have h9o : F_341 o = rw7 G (m_way u v y cu) := hp_342.1.trans (congrArg (rw7 G) (by unfold m_way; rw [if_neg (by omega), if_neg (by omega), if_pos (by omega)]; rfl))
        have f_371 : F_327 (ra 8) = rw7 G ((m_br u v cu)) := (o_332 (ra 8) (fun h => absurd (hin 8 10 (by decide) (by decide) h) (by decide)) (fun h => absurd (hin 8 0 (by decide) (by decide) h) (by decide))).trans f_322
        have f_372 : F_337 (ra 8) = rw7 G ((m_br u v cu)) := (hp_338.2 (ra 8) (Ne.symm (no8))).trans f_371
        have f_373 : F_341 (ra 8) = rw7 G ((m_br u v cu)) := (hp_342.2 (ra 8) (Ne.symm (no8))).trans f_372
        have f_374 : F_337 (ra 9) = rw7 G ((m_br u ((m_br u v cu)) cu)) := (hp_338.2 (ra 9) (Ne.symm (no9))).trans f_336
        have f_375 : F_341 (ra 9) = rw7 G ((m_br u ((m_br u v cu)) cu)) := (hp_342.2 (ra 9) (Ne.symm (no9))).trans f_374
        have f_376 : F_341 (ra 10) = rw7 G ((m_br v ((m_br u v cu)) cu)) := (hp_342.2 (ra 10) (Ne.symm (no10))).trans f_340
        have f_377 : F_337 (ra 0) = rw7 G t_331 := (hp_338.2 (ra 0) (Ne.symm (no0))).trans f_330
        have f_378 : F_341 (ra 0) = rw7 G t_331 := (hp_342.2 (ra 0) (Ne.symm (no0))).trans f_377
        exact r_v C0 hr hlk hw ⟨h9o, ⟨_, f_373⟩, ⟨_, f_375⟩, ⟨_, f_376⟩, ⟨_, f_378⟩, (fun q k0 k1 k2 k3 k4 => ((hp_342.2 q k0).trans ((hp_338.2 q k0).trans ((o_332 q k3 k4).trans ((o_317 q k2 k4).trans ((hp_303.2 q k0).trans ((o_299 q k1 k4).trans (hp_288.2 q k0))))))))⟩ (Nat.le_refl _) (Nat.le_refl _) dX1_secondWay_102 hQ
    · skip
      have h9o : F_302 o = rw7 G (m_way u v y cu) := hp_303.1.trans (congrArg (rw7 G) (by unfold m_way; rw [if_neg (by omega), if_pos (by omega)]; rfl))
      have f_379 : F_302 (ra 8) = rw7 G ((m_br u v cu)) := (hp_303.2 (ra 8) (Ne.symm (no8))).trans f_296
      have f_380 : F_287 (ra 9) = rw7 G s9 := (hp_288.2 (ra 9) (Ne.symm (no9))).trans fs9
      have f_381 : F_294 (ra 9) = rw7 G s9 := (o_299 (ra 9) (fun h => absurd (hin 9 8 (by decide) (by decide) h) (by decide)) (fun h => absurd (hin 9 0 (by decide) (by decide) h) (by decide))).trans f_380
      have f_382 : F_302 (ra 9) = rw7 G s9 := (hp_303.2 (ra 9) (Ne.symm (no9))).trans f_381
      have f_383 : F_287 (ra 10) = rw7 G s10 := (hp_288.2 (ra 10) (Ne.symm (no10))).trans fs10
      have f_384 : F_294 (ra 10) = rw7 G s10 := (o_299 (ra 10) (fun h => absurd (hin 10 8 (by decide) (by decide) h) (by decide)) (fun h => absurd (hin 10 0 (by decide) (by decide) h) (by decide))).trans f_383
      have f_385 : F_302 (ra 10) = rw7 G s10 := (hp_303.2 (ra 10) (Ne.symm (no10))).trans f_384
      have f_386 : F_302 (ra 0) = rw7 G t_298 := (hp_303.2 (ra 0) (Ne.symm (no0))).trans f_297
      exact r_v C0 hr hlk hw ⟨h9o, ⟨_, f_379⟩, ⟨_, f_382⟩, ⟨_, f_385⟩, ⟨_, f_386⟩, (fun q k0 k1 k2 k3 k4 => ((hp_303.2 q k0).trans ((o_299 q k1 k4).trans (hp_288.2 q k0))))⟩ (Nat.le_refl _) (Nat.le_refl _) dX1_secondWay_42 hQ
  · skip
    have h9o : F_287 o = rw7 G (m_way u v y cu) := hp_288.1.trans (congrArg (rw7 G) (by unfold m_way; rw [if_pos (by omega)]; rfl))
    have f_387 : F_287 (ra 8) = rw7 G s8 := (hp_288.2 (ra 8) (Ne.symm (no8))).trans fs8
    have f_388 : F_287 (ra 9) = rw7 G s9 := (hp_288.2 (ra 9) (Ne.symm (no9))).trans fs9
    have f_389 : F_287 (ra 10) = rw7 G s10 := (hp_288.2 (ra 10) (Ne.symm (no10))).trans fs10
    have f_390 : F_287 (ra 0) = rw7 G s0 := (hp_288.2 (ra 0) (Ne.symm (no0))).trans fs0
    exact r_v C0 hr hlk hw ⟨h9o, ⟨_, f_387⟩, ⟨_, f_388⟩, ⟨_, f_389⟩, ⟨_, f_390⟩, (fun q k0 k1 k2 k3 k4 => (hp_288.2 q k0))⟩ (Nat.le_refl _) (Nat.le_refl _) dX1_secondWay_12 hQ
