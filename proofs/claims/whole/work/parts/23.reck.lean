theorem m_hn_r (u v : Nat → ZP) (cu r : Nat) (w : Nat → ZP) (hr : r + 1 ≤ cu + 1) : (fun q => if q < cu + 1 then va_up (m_upto (m_mulc (m_hn u v cu (cu + 1 - (r + 1))) u) w (cu + 1)) 0 (zc ((m_upto (m_mulc (m_hn u v cu (cu + 1 - (r + 1))) u) w (cu + 1) 0).val + (v r).val)) q else m_hn u v cu (cu + 1 - (r + 1)) q) = m_hn u v cu (cu + 1 - r) := by
  rw [show cu + 1 - r = (cu + 1 - (r + 1)) + 1 by omega]
  refine m_hn_s u v cu (cu + 1 - (r + 1)) w ?_
  rw [zc_add, zc_z, zc_z, show cu - (cu + 1 - (r + 1)) = r by omega]
  congr 1
theorem m_hn_0 (u v : Nat → ZP) (cu : Nat) : (fun _ => zc 0) = m_hn u v cu (cu + 1 - (cu + 1)) := by
  rw [Nat.sub_self]
  funext q
  rw [zc_0]
  simp only [m_hn]
theorem m_inn_s (u : Nat → ZP) (j : Nat) : va_up (m_inn u j) (j + 2) (zc (10007 - (m_sub u (m_inn u j) (j + 2) (j + 2)).val)) = m_inn u (j + 1) := by
  rw [zc_neg]
  rfl
theorem m_lon_s (u : Nat → ZP) (j : Nat) : va_up (m_lon u j) (j + 2) (zc ((u (j + 2)).val + 10007 - (m_exp (m_lon u j) (j + 2) (j + 2)).val)) = m_lon u (j + 1) := by
  rw [zc_sub, zc_z]
  rfl
abbrev rm_X1_takeBracket : Room := { frames := 2, cells := 0, slots := 0, locals := 51 }
set_option maxHeartbeats 4000000 in
set_option maxRecDepth 100000 in
theorem c_X1_takeBracket (l : Launch) (G : Gl) (L : List Nat) (F : Nat → va_E) (k : Nat) (ra : Nat → Nat) (a : Nat) (b : Nat) (o cu : Nat) (u : Nat → ZP) (v : Nat → ZP) (w : Nat → ZP) (s0 : Nat → ZP) (mk : k ∈ L) (fk : F k = rkO ra) (hra : ∀ i, i < 14 → ra i ∈ L) (hin : ∀ i j, i < 14 → j < 14 → ra i = ra j → i = j) (ma : a ∈ L) (fa : F a = rw7 G u) (mb : b ∈ L) (fb : F b = rw7 G v) (mo : o ∈ L) (fo : F o = rw7 G w) (fs0 : F (ra 0) = rw7 G s0) (nao : a ≠ o) (nbo : b ≠ o) (na0 : a ≠ ra 0) (nb0 : b ≠ ra 0) (no0 : o ≠ ra 0) (hc : cu ≤ 6) (hc2 : 2 ≤ cu) : CV l yX1_takeBracket cX1_takeBracket 5 none rm_X1_takeBracket G L F [.ref k, .ref a, .ref b, .int (nI (cu)), .ref o] (fun F1 => F1 o = rw7 G (m_br u v cu) ∧ (∃ t, F1 (ra 0) = rw7 G t) ∧ ∀ q, q ≠ o → q ≠ ra 0 → F1 q = F q) := by
  refine CG_of (by decide) (Nat.le_of_ble_eq_true rfl) rfl ?_
  intro p e s m args below meth c Q C0 hr hlk hnm hQ hw ls hl
  have hx := C0.x
  have hb := C0.b
  refine lv_aload_n hx hb dX1_takeBracket_0 rfl (lv_at hl 1 rfl) ?_
  refine lv_aload_n hx hb dX1_takeBracket_1 rfl (lv_at hl 2 rfl) ?_
  refine lv_iload_n hx hb dX1_takeBracket_2 rfl (lv_at hl 3 rfl) ?_
  refine lv_aload hx hb dX1_takeBracket_3 (lv_at hl 4 rfl) ?_
  refine q_callv hw (q_runS (As := [.ref a, .ref b, .int (nI (cu)), .ref o]) (c_X1_act l G L F a b o cu u v w ma fa mb fb mo fo (nao) (nbo) (by omega) (by omega)) C0 hw sw_X1_68 rfl hl.1 rfl (by decide) dX1_takeBracket_5 ⟨by decide, by decide⟩ ⟨by decide, by decide⟩) rfl rfl (fun F_120 H locs hw hp_121 => ?_)
  refine lv_aload_n hx hb dX1_takeBracket_8 rfl (lv_at hl 2 rfl) ?_
  refine lv_aload_n hx hb dX1_takeBracket_9 rfl (lv_at hl 1 rfl) ?_
  refine lv_iload_n hx hb dX1_takeBracket_10 rfl (lv_at hl 3 rfl) ?_
  refine lv_aload_n hx hb dX1_takeBracket_11 rfl (lv_at hl 0 rfl) ?_
  have f_122 : F_120 k = rkO ra := (hp_121.2 k (ne_oa fk fo)).trans fk
  refine q_get C0 hw mk f_122 fw_X1_9 rfl dX1_takeBracket_12 ?_
  have f_123 : F_120 b = rw7 G v := (hp_121.2 b (nbo)).trans fb
  have f_124 : F_120 a = rw7 G u := (hp_121.2 a (nao)).trans fa
  have f_125 : F_120 (ra 0) = rw7 G s0 := (hp_121.2 (ra 0) (Ne.symm (no0))).trans fs0
  refine q_callv hw (q_runS (As := [.ref b, .ref a, .int (nI (cu)), .ref (ra 0)]) (c_X1_act l G L F_120 b a (ra 0) cu v u s0 mb f_123 ma f_124 ((hra 0 (by decide))) f_125 (nb0) (na0) (by omega) (by omega)) C0 hw sw_X1_68 rfl hl.1 rfl (by decide) dX1_takeBracket_15 ⟨by decide, by decide⟩ ⟨by decide, by decide⟩) rfl rfl (fun F_126 H locs hw hp_127 => ?_)
  refine lv_aload hx hb dX1_takeBracket_18 (lv_at hl 4 rfl) ?_
  refine lv_aload_n hx hb dX1_takeBracket_20 rfl (lv_at hl 0 rfl) ?_
  have f_128 : F_126 k = rkO ra := (hp_127.2 k (ne_oa f_122 f_125)).trans f_122
  refine q_get C0 hw mk f_128 fw_X1_9 rfl dX1_takeBracket_21 ?_
  refine lv_sipush (v := nI 10006) hx hb dX1_takeBracket_24 (by decide) ?_
  have f_129 : F_126 o = rw7 G ((m_act u v cu)) := (hp_127.2 o (no0)).trans hp_121.1
  refine q_callv hw (q_runS (As := [.ref o, .ref (ra 0), .int (nI (10006))]) (c_X1_addMultiple l G L F_126 o (ra 0) ((m_act u v cu)) ((m_act v u cu)) (zc 10006) mo f_129 ((hra 0 (by decide))) hp_127.1 (Ne.symm (no0))) C0 hw sw_X1_72 rfl hl.1 rfl (by decide) dX1_takeBracket_27 ⟨by decide, by decide⟩ ⟨by decide, by decide⟩) rfl rfl (fun F_130 H locs hw hp_131 => ?_)
  have f_132 : F_130 (ra 0) = rw7 G ((m_act v u cu)) := (hp_131.2 (ra 0) (Ne.symm (no0))).trans hp_127.1
  exact r_v C0 hr hlk hw ⟨hp_131.1, ⟨_, f_132⟩, (fun q k0 k1 => ((hp_131.2 q k0).trans ((hp_127.2 q k1).trans (hp_121.2 q k0))))⟩ (Nat.le_refl _) (Nat.le_refl _) dX1_takeBracket_30 hQ
theorem g_inv_at {i : Nat} (h : i < 6) : g_inv i = .int (nI (m_iv i).val) := by
  rcases (show i = 0 ∨ i = 1 ∨ i = 2 ∨ i = 3 ∨ i = 4 ∨ i = 5 by omega) with rfl | rfl | rfl | rfl | rfl | rfl <;> rfl
theorem m_exO_s (u : Nat → ZP) (cu j : Nat) : m_am (m_exO u cu j) (m_scale (m_act u (m_exT u cu j) cu) (m_iv (j + 1))) (zc 1) = m_exO u cu (j + 1) := rfl
theorem m_exT_s (u : Nat → ZP) (cu j : Nat) : m_scale (m_act u (m_exT u cu j) cu) (m_iv (j + 1)) = m_exT u cu (j + 1) := rfl
abbrev rm_X1_exponential : Room := { frames := 2, cells := 0, slots := 0, locals := 51 }
set_option maxHeartbeats 4000000 in
set_option maxRecDepth 100000 in
theorem c_X1_exponential (l : Launch) (G : Gl) (L : List Nat) (F : Nat → va_E) (k : Nat) (ra : Nat → Nat) (a : Nat) (o cu : Nat) (u : Nat → ZP) (w : Nat → ZP) (s1 : Nat → ZP) (s2 : Nat → ZP) (mk : k ∈ L) (fk : F k = rkO ra) (hra : ∀ i, i < 14 → ra i ∈ L) (hin : ∀ i j, i < 14 → j < 14 → ra i = ra j → i = j) (ma : a ∈ L) (fa : F a = rw7 G u) (mo : o ∈ L) (fo : F o = rw7 G w) (fs1 : F (ra 1) = rw7 G s1) (fs2 : F (ra 2) = rw7 G s2) (nao : a ≠ o) (na1 : a ≠ ra 1) (no1 : o ≠ ra 1) (na2 : a ≠ ra 2) (no2 : o ≠ ra 2) (hc : cu ≤ 6) (hc2 : 2 ≤ cu) : CV l yX1_exponential cX1_exponential 5 none rm_X1_exponential G L F [.ref k, .ref a, .int (nI (cu)), .ref o] (fun F1 => F1 o = rw7 G (m_exp u cu) ∧ (∃ t, F1 (ra 1) = rw7 G t) ∧ (∃ t, F1 (ra 2) = rw7 G t) ∧ ∀ q, q ≠ o → q ≠ ra 1 → q ≠ ra 2 → F1 q = F q) := by
  refine CG_of (by decide) (Nat.le_of_ble_eq_true rfl) rfl ?_
  intro p e s m args below meth c Q C0 hr hlk hnm hQ hw ls hl
  have hx := C0.x
  have hb := C0.b
  refine lv_aload_n hx hb dX1_exponential_0 rfl (lv_at hl 3 rfl) ?_
  refine q_callv hw (q_runS (As := [.ref o]) (c_X1_makeX l G L F o w mo fo) C0 hw sw_X1_76 rfl hl.1 rfl (by decide) dX1_exponential_1 ⟨by decide, by decide⟩ ⟨by decide, by decide⟩) rfl rfl (fun F_133 H locs hw hp_134 => ?_)
  refine lv_aload_n hx hb dX1_exponential_4 rfl (lv_at hl 0 rfl) ?_
  have f_135 : F_133 k = rkO ra := (hp_134.2 k (ne_oa fk fo)).trans fk
  refine q_get C0 hw mk f_135 fw_X1_15 rfl dX1_exponential_5 ?_
  have f_136 : F_133 (ra 1) = rw7 G s1 := (hp_134.2 (ra 1) (Ne.symm (no1))).trans fs1
  refine q_callv hw (q_runS (As := [.ref (ra 1)]) (c_X1_makeX l G L F_133 (ra 1) s1 ((hra 1 (by decide))) f_136) C0 hw sw_X1_76 rfl hl.1 rfl (by decide) dX1_exponential_8 ⟨by decide, by decide⟩ ⟨by decide, by decide⟩) rfl rfl (fun F_137 H locs hw hp_138 => ?_)
  refine lv_iconst (v := nI 1) hx hb dX1_exponential_11 (by decide) ?_
  refine lv_istore (lv' := [(4, .int (nI (1))), (0, .ref k), (1, .ref a), (2, .int (nI (cu))), (3, .ref o)]) hx hb dX1_exponential_12 hl (by decide) rfl (fun ls hl => ?_)
  have lp14 : ∀ (n : Nat) (j : Nat) (t2 : Nat → ZP), 0 ≤ j → j ≤ cu - 1 → (cu - 1) + 1 - j < n → ∀ (F_139 : Nat → va_E) (H : Heap) (locs : List Loc), wD G L F_139 s H locs → F_139 o = rw7 G (m_exO u cu j) → F_139 (ra 1) = rw7 G (m_exT u cu j) → F_139 (ra 2) = rw7 G t2 → (∀ q, q ≠ o → q ≠ (ra 1) → q ≠ (ra 2) → F_139 q = F q) → ∀ ls : Array Slot, lv_has ls 5 [(0, .ref k), (1, .ref a), (2, .int (nI (cu))), (3, .ref o), (4, .int (nI (j + 1)))] → W p l e rm_X1_exponential s m args below meth c H locs 0 0 Q (F0 m 14 ls []) := by
    intro n
    induction n with
    | zero => intro j t2 hlo hhi hm; exact absurd hm (Nat.not_lt_zero _)
    | succ n ih_14 =>
      intro j t2 hlo hhi hm F_139 H locs hw f_140 f_141 f_142 fr_143 ls hl
      refine lv_iload hx hb dX1_exponential_14 (lv_at hl 4 rfl) ?_
      refine lv_iload_n hx hb dX1_exponential_16 rfl (lv_at hl 2 rfl) ?_
      refine n_icmp_ge (tgt := 74) hx hb dX1_exponential_17 (by decide) (by omega) (by omega) (fun c_17 => ?_) (fun c_17 => ?_)
      · skip
        obtain rfl : j = cu - 1 := by omega
        exact r_v C0 hr hlk hw ⟨f_140, ⟨_, f_141⟩, ⟨_, f_142⟩, (fun q k0 k1 k2 => (fr_143 q k0 k1 k2))⟩ (Nat.le_refl _) (Nat.le_refl _) dX1_exponential_74 hQ
      · skip
        refine lv_iload hx hb dX1_exponential_20 (lv_at hl 4 rfl) ?_
        refine q_inv C0 hw fwi dX1_exponential_22 (fun t_144 hT_145 => ?_)
        refine q_invlen C0 hw hT_145 dX1_exponential_25 ?_
        refine n_icmp_ge (tgt := 74) hx hb dX1_exponential_26 (by decide) (by omega) (by decide) (fun c_26 => ?_) (fun c_26 => ?_)
        · skip
          exact absurd c_26 (by omega)
        · skip
          refine lv_aload_n hx hb dX1_exponential_29 rfl (lv_at hl 1 rfl) ?_
          refine lv_aload_n hx hb dX1_exponential_30 rfl (lv_at hl 0 rfl) ?_
          have f_146 : F_139 k = rkO ra := (fr_143 k (ne_oa fk fo) (ne_oa fk fs1) (ne_oa fk fs2)).trans fk
          refine q_get C0 hw mk f_146 fw_X1_15 rfl dX1_exponential_31 ?_
          refine lv_iload_n hx hb dX1_exponential_34 rfl (lv_at hl 2 rfl) ?_
          refine lv_aload_n hx hb dX1_exponential_35 rfl (lv_at hl 0 rfl) ?_
          refine q_get C0 hw mk f_146 fw_X1_18 rfl dX1_exponential_36 ?_
          have f_147 : F_139 a = rw7 G u := (fr_143 a (nao) (na1) (na2)).trans fa
          refine q_callv hw (q_runS (As := [.ref a, .ref (ra 1), .int (nI (cu)), .ref (ra 2)]) (c_X1_act l G L F_139 a (ra 1) (ra 2) cu u (m_exT u cu j) t2 ma f_147 ((hra 1 (by decide))) f_141 ((hra 2 (by decide))) f_142 (na2) (fun h => absurd (hin 1 2 (by decide) (by decide) h) (by decide)) (by omega) (by omega)) C0 hw sw_X1_68 rfl hl.1 rfl (by decide) dX1_exponential_39 ⟨by decide, by decide⟩ ⟨by decide, by decide⟩) rfl rfl (fun F_148 H locs hw hp_149 => ?_)
          refine lv_aload_n hx hb dX1_exponential_42 rfl (lv_at hl 0 rfl) ?_
          have f_150 : F_148 k = rkO ra := (hp_149.2 k (ne_oa f_146 f_142)).trans f_146
          refine q_get C0 hw mk f_150 fw_X1_18 rfl dX1_exponential_43 ?_
          refine q_inv C0 hw fwi dX1_exponential_46 (fun t_151 hT_152 => ?_)
          refine lv_iload hx hb dX1_exponential_49 (lv_at hl 4 rfl) ?_
          refine q_invld C0 hw hT_152 (j + 1) (by omega) (g_inv_at (by omega)) dX1_exponential_51 ?_
          refine lv_aload_n hx hb dX1_exponential_52 rfl (lv_at hl 0 rfl) ?_
          refine q_get C0 hw mk f_150 fw_X1_15 rfl dX1_exponential_53 ?_
          have f_153 : F_148 (ra 1) = rw7 G (m_exT u cu j) := (hp_149.2 (ra 1) (fun h => absurd (hin 1 2 (by decide) (by decide) h) (by decide))).trans f_141
          refine q_callv hw (q_runS (As := [.ref (ra 2), .int (nI ((m_iv (j + 1)).val)), .ref (ra 1)]) (c_X1_scaleRow l G L F_148 (ra 2) (ra 1) ((m_act u (m_exT u cu j) cu)) (m_exT u cu j) (m_iv (j + 1)) ((hra 2 (by decide))) hp_149.1 ((hra 1 (by decide))) f_153 (fun h => absurd (hin 2 1 (by decide) (by decide) h) (by decide))) C0 hw sw_X1_83 rfl hl.1 rfl (by decide) dX1_exponential_56 ⟨by decide, by decide⟩ ⟨by decide, by decide⟩) rfl rfl (fun F_154 H locs hw hp_155 => ?_)
          refine lv_aload_n hx hb dX1_exponential_59 rfl (lv_at hl 3 rfl) ?_
          refine lv_aload_n hx hb dX1_exponential_60 rfl (lv_at hl 0 rfl) ?_
          have f_156 : F_154 k = rkO ra := (hp_155.2 k (ne_oa f_150 f_153)).trans f_150
          refine q_get C0 hw mk f_156 fw_X1_15 rfl dX1_exponential_61 ?_
          refine lv_iconst (v := nI 1) hx hb dX1_exponential_64 (by decide) ?_
          have f_157 : F_148 o = rw7 G (m_exO u cu j) := (hp_149.2 o (no2)).trans f_140
          have f_158 : F_154 o = rw7 G (m_exO u cu j) := (hp_155.2 o (no1)).trans f_157
          refine q_callv hw (q_runS (As := [.ref o, .ref (ra 1), .int (nI (1))]) (c_X1_addMultiple l G L F_154 o (ra 1) (m_exO u cu j) ((m_scale ((m_act u (m_exT u cu j) cu)) (m_iv (j + 1)))) (zc 1) mo f_158 ((hra 1 (by decide))) hp_155.1 (Ne.symm (no1))) C0 hw sw_X1_72 rfl hl.1 rfl (by decide) dX1_exponential_65 ⟨by decide, by decide⟩ ⟨by decide, by decide⟩) rfl rfl (fun F_159 H locs hw hp_160 => ?_)
          refine lv_iinc (v := nI (j + 1 + 1)) (lv' := [(4, .int (nI (j + 1 + 1))), (0, .ref k), (1, .ref a), (2, .int (nI (cu))), (3, .ref o)]) hx hb dX1_exponential_68 hl (k := 4) rfl (nI_add _ _) (by decide) rfl (fun ls hl => ?_)
          refine lv_goto (tgt := 14) hx hb dX1_exponential_71 (by decide) ?_
          have f_161 : F_154 (ra 2) = rw7 G ((m_act u (m_exT u cu j) cu)) := (hp_155.2 (ra 2) (fun h => absurd (hin 2 1 (by decide) (by decide) h) (by decide))).trans hp_149.1
          have f_162 : F_159 (ra 2) = rw7 G ((m_act u (m_exT u cu j) cu)) := (hp_160.2 (ra 2) (Ne.symm (no2))).trans f_161
          have f_163 : F_159 (ra 1) = rw7 G ((m_scale ((m_act u (m_exT u cu j) cu)) (m_iv (j + 1)))) := (hp_160.2 (ra 1) (Ne.symm (no1))).trans hp_155.1
          exact ih_14 (j + 1) ((m_act u (m_exT u cu j) cu)) ((by omega)) ((by omega)) (by omega) F_159 _ _ hw (hp_160.1.trans (congrArg (rw7 G) ((m_exO_s u cu j)))) (f_163.trans (congrArg (rw7 G) ((m_exT_s u cu j)))) (f_162) (fun q k0 k1 k2 => ((hp_160.2 q k0).trans ((hp_155.2 q k1).trans ((hp_149.2 q k2).trans (fr_143 q k0 k1 k2))))) ls (lv_sub hl [1, 2, 3, 4, 0] rfl)
  have f_164 : F_137 o = rw7 G m_x := (hp_138.2 o (no1)).trans hp_134.1
  have f_165 : F_133 (ra 2) = rw7 G s2 := (hp_134.2 (ra 2) (Ne.symm (no2))).trans fs2
  have f_166 : F_137 (ra 2) = rw7 G s2 := (hp_138.2 (ra 2) (fun h => absurd (hin 2 1 (by decide) (by decide) h) (by decide))).trans f_165
  exact lp14 _ (0) (s2) ((by omega)) ((by omega)) (Nat.lt_succ_self _) F_137 _ _ hw (f_164) (hp_138.1) (f_166) (fun q k0 k1 k2 => ((hp_138.2 q k1).trans (hp_134.2 q k0))) ls (lv_sub hl [1, 2, 3, 4, 0] rfl)
abbrev rm_X1_substitute : Room := { frames := 1, cells := 0, slots := 0, locals := 40 }
set_option maxHeartbeats 4000000 in
set_option maxRecDepth 100000 in
theorem c_X1_substitute (l : Launch) (G : Gl) (L : List Nat) (F : Nat → va_E) (k : Nat) (ra : Nat → Nat) (a : Nat) (b : Nat) (o cu : Nat) (u : Nat → ZP) (v : Nat → ZP) (w : Nat → ZP) (s3 : Nat → ZP) (mk : k ∈ L) (fk : F k = rkO ra) (hra : ∀ i, i < 14 → ra i ∈ L) (hin : ∀ i j, i < 14 → j < 14 → ra i = ra j → i = j) (ma : a ∈ L) (fa : F a = rw7 G u) (mb : b ∈ L) (fb : F b = rw7 G v) (mo : o ∈ L) (fo : F o = rw7 G w) (fs3 : F (ra 3) = rw7 G s3) (nao : a ≠ o) (nbo : b ≠ o) (na3 : a ≠ ra 3) (nb3 : b ≠ ra 3) (no3 : o ≠ ra 3) (hc : cu ≤ 6) (hc2 : 2 ≤ cu) : CV l yX1_substitute cX1_substitute 6 none rm_X1_substitute G L F [.ref k, .ref a, .ref b, .int (nI (cu)), .ref o] (fun F1 => F1 o = rw7 G (m_sub u v cu) ∧ (∃ t, F1 (ra 3) = rw7 G t) ∧ ∀ q, q ≠ o → q ≠ ra 3 → F1 q = F q) := by
  refine CG_of (by decide) (Nat.le_of_ble_eq_true rfl) rfl ?_
  intro p e s m args below meth c Q C0 hr hlk hnm hQ hw ls hl
  have hx := C0.x
  have hb := C0.b
  refine lv_aload hx hb dX1_substitute_0 (lv_at hl 4 rfl) ?_
  refine lv_iconst (v := nI 0) hx hb dX1_substitute_2 (by decide) ?_
  refine q_callv hw (q_runS (As := [.ref o, .int (nI (0))]) (c_J7_fill_53178 l G L F o w (zc 0) mo fo) C0 hw sw_X1_62 rfl hl.1 rfl (by decide) dX1_substitute_3 ⟨by decide, by decide⟩ ⟨by decide, by decide⟩) rfl rfl (fun F_167 H locs hw hp_168 => ?_)
  refine lv_iload_n hx hb dX1_substitute_6 rfl (lv_at hl 3 rfl) ?_
  refine lv_istore (lv' := [(5, .int (nI (cu))), (0, .ref k), (1, .ref a), (2, .ref b), (3, .int (nI (cu))), (4, .ref o)]) hx hb dX1_substitute_7 hl (by decide) rfl (fun ls hl => ?_)
  have hl : lv_has ls 6 [(5, .int (nI (cu + 1) + (-1))), (0, .ref k), (1, .ref a), (2, .ref b), (3, .int (nI (cu))), (4, .ref o)] := (by rw [pk_m1]; exact hl)
  have lp9 : ∀ (n : Nat) (r : Nat) (t3 : Nat → ZP), r ≤ cu + 1 → r < n → ∀ (F_169 : Nat → va_E) (H : Heap) (locs : List Loc), wD G L F_169 s H locs → F_169 o = rw7 G (m_hn u v cu (cu + 1 - r)) → F_169 (ra 3) = rw7 G t3 → (∀ q, q ≠ o → q ≠ (ra 3) → F_169 q = F q) → ∀ ls : Array Slot, lv_has ls 6 [(0, .ref k), (1, .ref a), (2, .ref b), (3, .int (nI (cu))), (4, .ref o), (5, .int (nI (r) + (-1)))] → W p l e rm_X1_substitute s m args below meth c H locs 0 0 Q (F0 m 9 ls []) := by
    intro n
    induction n with
    | zero => intro r t3 hr9 hm; exact absurd hm (Nat.not_lt_zero _)
    | succ n ih_9 =>
      intro r t3 hr9 hm F_169 H locs hw f_170 f_171 fr_172 ls hl
      rcases r with _ | r
      · skip
        have hl : lv_has ls 6 [(0, .ref k), (1, .ref a), (2, .ref b), (3, .int (nI (cu))), (4, .ref o), (5, .int ((-1)))] := hl
        refine lv_iload hx hb dX1_substitute_9 (lv_at hl 5 rfl) ?_
        refine lv_if_lt (tgt := 66) hx hb dX1_substitute_11 (by decide) (fun c_11 => ?_) (fun c_11 => ?_)
        · skip
          exact r_v C0 hr hlk hw ⟨f_170, ⟨_, f_171⟩, (fun q k0 k1 => (fr_172 q k0 k1))⟩ (Nat.le_refl _) (Nat.le_refl _) dX1_substitute_66 hQ
        · skip
          exact absurd (by decide) c_11
      · skip
        have hl : lv_has ls 6 [(0, .ref k), (1, .ref a), (2, .ref b), (3, .int (nI (cu))), (4, .ref o), (5, .int (nI (r)))] := (by rw [pk_m1] at hl; exact hl)
        refine lv_iload hx hb dX1_substitute_9 (lv_at hl 5 rfl) ?_
        refine n_if_lt (tgt := 66) hx hb dX1_substitute_11 (by decide) (by omega) ?_
        refine lv_aload hx hb dX1_substitute_14 (lv_at hl 4 rfl) ?_
        refine lv_aload_n hx hb dX1_substitute_16 rfl (lv_at hl 1 rfl) ?_
        refine lv_iload_n hx hb dX1_substitute_17 rfl (lv_at hl 3 rfl) ?_
        refine lv_aload_n hx hb dX1_substitute_18 rfl (lv_at hl 0 rfl) ?_
        have f_173 : F_169 k = .inr (1, [.ref (ra 0), .ref (ra 1), .ref (ra 2), .ref (ra 3), .ref (ra 4), .ref (ra 5), .ref (ra 6), .ref (ra 7), .ref (ra 8), .ref (ra 9), .ref (ra 10), .ref (ra 11), .ref (ra 12), .ref (ra 13)]) := (fr_172 k (ne_oa fk fo) (ne_oa fk fs3)).trans fk
        refine q_get C0 hw mk f_173 fw_X1_21 rfl dX1_substitute_19 ?_
        have f_174 : F_169 a = rw7 G u := (fr_172 a (nao) (na3)).trans fa
        refine q_callv hw (q_runS (As := [.ref o, .ref a, .int (nI (cu)), .ref (ra 3)]) (c_X1_multiply l G L F_169 o a (ra 3) cu (m_hn u v cu (cu + 1 - (r + 1))) u t3 mo f_170 ma f_174 ((hra 3 (by decide))) f_171 (no3) (na3) (by omega)) C0 hw sw_X1_87 rfl hl.1 rfl (by decide) dX1_substitute_22 ⟨by decide, by decide⟩ ⟨by decide, by decide⟩) rfl rfl (fun F_175 H locs hw hp_176 => ?_)
        refine lv_aload_n hx hb dX1_substitute_25 rfl (lv_at hl 0 rfl) ?_
        have f_177 : F_175 k = .inr (1, [.ref (ra 0), .ref (ra 1), .ref (ra 2), .ref (ra 3), .ref (ra 4), .ref (ra 5), .ref (ra 6), .ref (ra 7), .ref (ra 8), .ref (ra 9), .ref (ra 10), .ref (ra 11), .ref (ra 12), .ref (ra 13)]) := (hp_176.2 k (ne_oa f_173 f_171)).trans f_173
        refine q_get C0 hw mk f_177 fw_X1_21 rfl dX1_substitute_26 ?_
        refine lv_iconst (v := nI 0) hx hb dX1_substitute_29 (by decide) ?_
        refine lv_aload_n hx hb dX1_substitute_30 rfl (lv_at hl 0 rfl) ?_
        refine q_get C0 hw mk f_177 fw_X1_21 rfl dX1_substitute_31 ?_
        refine lv_iconst (v := nI 0) hx hb dX1_substitute_34 (by decide) ?_
        refine q_rld C0 hw ((hra 3 (by decide))) hp_176.1 (0) (by omega) dX1_substitute_35 (fun z_178 => ?_)
        refine lv_aload_n hx hb dX1_substitute_36 rfl (lv_at hl 2 rfl) ?_
        refine lv_iload hx hb dX1_substitute_37 (lv_at hl 5 rfl) ?_
        have f_179 : F_169 b = rw7 G v := (fr_172 b (nbo) (nb3)).trans fb
        have f_180 : F_175 b = rw7 G v := (hp_176.2 b (nb3)).trans f_179
        refine q_rld C0 hw mb f_180 (r) (by omega) dX1_substitute_39 (fun z_181 => ?_)
        refine n_iadd hx hb dX1_substitute_40 ?_
        refine lv_sipush (v := nI 10007) hx hb dX1_substitute_41 (by decide) ?_
        refine n_iremP hx hb (by omega) dX1_substitute_44 ?_
        refine q_rst C0 hw ((hra 3 (by decide))) hp_176.1 (0) (by omega) (z := zc ((((m_upto (m_mulc (m_hn u v cu (cu + 1 - (r + 1))) u) t3 (cu + 1))) (0)).val + ((v (r)).val))) dX1_substitute_45 (fun F_182 H locs hw f_183 o_184 => ?_)
        refine lv_aload_n hx hb dX1_substitute_46 rfl (lv_at hl 0 rfl) ?_
        have f_185 : F_182 k = .inr (1, [.ref (ra 0), .ref (ra 1), .ref (ra 2), .ref (ra 3), .ref (ra 4), .ref (ra 5), .ref (ra 6), .ref (ra 7), .ref (ra 8), .ref (ra 9), .ref (ra 10), .ref (ra 11), .ref (ra 12), .ref (ra 13)]) := (o_184 k (ne_oa f_177 hp_176.1)).trans f_177
        refine q_get C0 hw mk f_185 fw_X1_21 rfl dX1_substitute_47 ?_
        refine lv_iconst (v := nI 0) hx hb dX1_substitute_50 (by decide) ?_
        refine lv_aload hx hb dX1_substitute_51 (lv_at hl 4 rfl) ?_
        refine lv_iconst (v := nI 0) hx hb dX1_substitute_53 (by decide) ?_
        refine lv_iload_n hx hb dX1_substitute_54 rfl (lv_at hl 3 rfl) ?_
        refine lv_iconst (v := nI 1) hx hb dX1_substitute_55 (by decide) ?_
        refine n_iadd hx hb dX1_substitute_56 ?_
        have f_186 : F_175 o = rw7 G (m_hn u v cu (cu + 1 - (r + 1))) := (hp_176.2 o (no3)).trans f_170
        have f_187 : F_182 o = rw7 G (m_hn u v cu (cu + 1 - (r + 1))) := (o_184 o (no3)).trans f_186
        refine q_copy C0 hw hl.1 aw_X1_90 ((hra 3 (by decide))) mo f_183 f_187 (n := cu + 1) (by omega) (by decide) (by decide) dX1_substitute_57 (fun F_188 H locs hw f_189 o_190 => ?_)
        refine lv_iinc (v := nI (r) + (-1)) (lv' := [(5, .int (nI (r) + (-1))), (0, .ref k), (1, .ref a), (2, .ref b), (3, .int (nI (cu))), (4, .ref o)]) hx hb dX1_substitute_60 hl (k := 5) rfl rfl (by decide) rfl (fun ls hl => ?_)
        refine lv_goto (tgt := 9) hx hb dX1_substitute_63 (by decide) ?_
        have f_191 : F_188 (ra 3) = rw7 G (va_up ((m_upto (m_mulc (m_hn u v cu (cu + 1 - (r + 1))) u) t3 (cu + 1))) (0) (zc ((((m_upto (m_mulc (m_hn u v cu (cu + 1 - (r + 1))) u) t3 (cu + 1))) (0)).val + ((v (r)).val)))) := (o_190 (ra 3) (Ne.symm (no3))).trans f_183
        exact ih_9 (r) (va_up ((m_upto (m_mulc (m_hn u v cu (cu + 1 - (r + 1))) u) t3 (cu + 1))) (0) (zc ((((m_upto (m_mulc (m_hn u v cu (cu + 1 - (r + 1))) u) t3 (cu + 1))) (0)).val + ((v (r)).val)))) ((by omega)) (by omega) F_188 _ _ hw (f_189.trans (congrArg (rw7 G) ((m_hn_r u v cu r _ hr9)))) (f_191) (fun q k0 k1 => ((o_190 q k0).trans ((o_184 q k1).trans ((hp_176.2 q k1).trans (fr_172 q k0 k1))))) ls (lv_sub hl [1, 2, 3, 4, 5, 0] rfl)
  have f_192 : F_167 (ra 3) = rw7 G s3 := (hp_168.2 (ra 3) (Ne.symm (no3))).trans fs3
  exact lp9 _ (cu + 1) (s3) ((Nat.le_refl _)) (Nat.lt_succ_self _) F_167 _ _ hw (hp_168.1.trans (congrArg (rw7 G) ((m_hn_0 u v cu)))) (f_192) (fun q k0 k1 => (hp_168.2 q k0)) ls (lv_sub hl [1, 2, 3, 4, 5, 0] rfl)
abbrev rm_X1_inverse : Room := { frames := 2, cells := 0, slots := 0, locals := 65 }
set_option maxHeartbeats 4000000 in
set_option maxRecDepth 100000 in
theorem c_X1_inverse (l : Launch) (G : Gl) (L : List Nat) (F : Nat → va_E) (k : Nat) (ra : Nat → Nat) (a : Nat) (o cu : Nat) (u : Nat → ZP) (w : Nat → ZP) (s4 : Nat → ZP) (s3 : Nat → ZP) (mk : k ∈ L) (fk : F k = rkO ra) (hra : ∀ i, i < 14 → ra i ∈ L) (hin : ∀ i j, i < 14 → j < 14 → ra i = ra j → i = j) (ma : a ∈ L) (fa : F a = rw7 G u) (mo : o ∈ L) (fo : F o = rw7 G w) (fs4 : F (ra 4) = rw7 G s4) (fs3 : F (ra 3) = rw7 G s3) (nao : a ≠ o) (na4 : a ≠ ra 4) (no4 : o ≠ ra 4) (na3 : a ≠ ra 3) (no3 : o ≠ ra 3) (hc : cu ≤ 6) (hc2 : 2 ≤ cu) : CV l yX1_inverse cX1_inverse 5 none rm_X1_inverse G L F [.ref k, .ref a, .int (nI (cu)), .ref o] (fun F1 => F1 o = rw7 G (m_inv u cu) ∧ (∃ t, F1 (ra 4) = rw7 G t) ∧ (∃ t, F1 (ra 3) = rw7 G t) ∧ ∀ q, q ≠ o → q ≠ ra 4 → q ≠ ra 3 → F1 q = F q) := by
  refine CG_of (by decide) (Nat.le_of_ble_eq_true rfl) rfl ?_
  intro p e s m args below meth c Q C0 hr hlk hnm hQ hw ls hl
  have hx := C0.x
  have hb := C0.b
  refine lv_aload_n hx hb dX1_inverse_0 rfl (lv_at hl 3 rfl) ?_
  refine q_callv hw (q_runS (As := [.ref o]) (c_X1_makeX l G L F o w mo fo) C0 hw sw_X1_76 rfl hl.1 rfl (by decide) dX1_inverse_1 ⟨by decide, by decide⟩ ⟨by decide, by decide⟩) rfl rfl (fun F_193 H locs hw hp_194 => ?_)
  refine lv_iconst (v := nI 2) hx hb dX1_inverse_4 (by decide) ?_
  refine lv_istore (lv' := [(4, .int (nI (2))), (0, .ref k), (1, .ref a), (2, .int (nI (cu))), (3, .ref o)]) hx hb dX1_inverse_5 hl (by decide) rfl (fun ls hl => ?_)
  have lp7 : ∀ (n : Nat) (j : Nat) (t4 : Nat → ZP) (t3 : Nat → ZP), 0 ≤ j → j ≤ cu - 1 → (cu - 1) + 1 - j < n → ∀ (F_195 : Nat → va_E) (H : Heap) (locs : List Loc), wD G L F_195 s H locs → F_195 o = rw7 G (m_inn u j) → F_195 (ra 4) = rw7 G t4 → F_195 (ra 3) = rw7 G t3 → (∀ q, q ≠ o → q ≠ (ra 4) → q ≠ (ra 3) → F_195 q = F q) → ∀ ls : Array Slot, lv_has ls 5 [(0, .ref k), (1, .ref a), (2, .int (nI (cu))), (3, .ref o), (4, .int (nI (j + 2)))] → W p l e rm_X1_inverse s m args below meth c H locs 0 0 Q (F0 m 7 ls []) := by
    intro n
    induction n with
    | zero => intro j t4 t3 hlo hhi hm; exact absurd hm (Nat.not_lt_zero _)
    | succ n ih_7 =>
      intro j t4 t3 hlo hhi hm F_195 H locs hw f_196 f_197 f_198 fr_199 ls hl
      refine lv_iload hx hb dX1_inverse_7 (lv_at hl 4 rfl) ?_
      refine lv_iload_n hx hb dX1_inverse_9 rfl (lv_at hl 2 rfl) ?_
      refine n_icmp_gt (tgt := 50) hx hb dX1_inverse_10 (by decide) (by omega) (by omega) (fun c_10 => ?_) (fun c_10 => ?_)
      · skip
        obtain rfl : j = cu - 1 := by omega
        exact r_v C0 hr hlk hw ⟨f_196, ⟨_, f_197⟩, ⟨_, f_198⟩, (fun q k0 k1 k2 => (fr_199 q k0 k1 k2))⟩ (Nat.le_refl _) (Nat.le_refl _) dX1_inverse_50 hQ
      · skip
        refine lv_aload_n hx hb dX1_inverse_13 rfl (lv_at hl 0 rfl) ?_
        refine lv_aload_n hx hb dX1_inverse_14 rfl (lv_at hl 1 rfl) ?_
        refine lv_aload_n hx hb dX1_inverse_15 rfl (lv_at hl 3 rfl) ?_
        refine lv_iload hx hb dX1_inverse_16 (lv_at hl 4 rfl) ?_
        refine lv_aload_n hx hb dX1_inverse_18 rfl (lv_at hl 0 rfl) ?_
        have f_200 : F_195 k = rkO ra := (fr_199 k (ne_oa fk fo) (ne_oa fk fs4) (ne_oa fk fs3)).trans fk
        refine q_get C0 hw mk f_200 fw_X1_24 rfl dX1_inverse_19 ?_
        have f_201 : F_195 a = rw7 G u := (fr_199 a (nao) (na4) (na3)).trans fa
        refine q_callv hw (q_runV (As := [.ref a, .ref o, .int (nI (j + 2)), .ref (ra 4)]) (c_X1_substitute l G L F_195 k ra a o (ra 4) (j + 2) u (m_inn u j) t4 t3  mk f_200 hra hin ma f_201 mo f_196 ((hra 4 (by decide))) f_197 f_198 (na4) (no4) (na3) (no3) (fun h => absurd (hin 4 3 (by decide) (by decide) h) (by decide)) (by omega) (by omega)) C0 hw vw_X1_96 mk f_200 rfl rfl rfl hl.1 rfl (by decide) dX1_inverse_22 ⟨by decide, by decide⟩ ⟨by decide, by decide⟩) rfl rfl (fun F_202 H locs hw hp_203 => ?_)
        obtain ⟨f_204, ⟨t_206, f_205⟩, o_207⟩ := hp_203
        refine lv_aload_n hx hb dX1_inverse_25 rfl (lv_at hl 3 rfl) ?_
        refine lv_iload hx hb dX1_inverse_26 (lv_at hl 4 rfl) ?_
        refine lv_sipush (v := nI 10007) hx hb dX1_inverse_28 (by decide) ?_
        refine lv_aload_n hx hb dX1_inverse_31 rfl (lv_at hl 0 rfl) ?_
        have f_208 : F_202 k = rkO ra := (o_207 k (ne_oa f_200 f_197) (ne_oa f_200 f_198)).trans f_200
        refine q_get C0 hw mk f_208 fw_X1_24 rfl dX1_inverse_32 ?_
        refine lv_iload hx hb dX1_inverse_35 (lv_at hl 4 rfl) ?_
        refine q_rld C0 hw ((hra 4 (by decide))) f_204 (j + 2) (by omega) dX1_inverse_37 (fun z_209 => ?_)
        refine n_isub hx hb (by omega) dX1_inverse_38 ?_
        refine lv_sipush (v := nI 10007) hx hb dX1_inverse_39 (by decide) ?_
        refine n_iremP hx hb (by omega) dX1_inverse_42 ?_
        have f_210 : F_202 o = rw7 G (m_inn u j) := (o_207 o (no4) (no3)).trans f_196
        refine q_rst C0 hw mo f_210 (j + 2) (by omega) (z := zc (10007 - ((((m_sub u (m_inn u j) (j + 2))) (j + 2)).val))) dX1_inverse_43 (fun F_211 H locs hw f_212 o_213 => ?_)
        refine lv_iinc (v := nI (j + 2 + 1)) (lv' := [(4, .int (nI (j + 2 + 1))), (0, .ref k), (1, .ref a), (2, .int (nI (cu))), (3, .ref o)]) hx hb dX1_inverse_44 hl (k := 4) rfl (nI_add _ _) (by decide) rfl (fun ls hl => ?_)
        refine lv_goto (tgt := 7) hx hb dX1_inverse_47 (by decide) ?_
        have f_214 : F_211 (ra 4) = rw7 G ((m_sub u (m_inn u j) (j + 2))) := (o_213 (ra 4) (Ne.symm (no4))).trans f_204
        have f_215 : F_211 (ra 3) = rw7 G t_206 := (o_213 (ra 3) (Ne.symm (no3))).trans f_205
        exact ih_7 (j + 1) ((m_sub u (m_inn u j) (j + 2))) (t_206) ((by omega)) ((by omega)) (by omega) F_211 _ _ hw (f_212.trans (congrArg (rw7 G) ((m_inn_s u j)))) (f_214) (f_215) (fun q k0 k1 k2 => ((o_213 q k0).trans ((o_207 q k1 k2).trans (fr_199 q k0 k1 k2)))) ls (lv_sub hl [1, 2, 3, 4, 0] rfl)
  have f_216 : F_193 (ra 4) = rw7 G s4 := (hp_194.2 (ra 4) (Ne.symm (no4))).trans fs4
  have f_217 : F_193 (ra 3) = rw7 G s3 := (hp_194.2 (ra 3) (Ne.symm (no3))).trans fs3
  exact lp7 _ (0) (s4) (s3) ((by omega)) ((by omega)) (Nat.lt_succ_self _) F_193 _ _ hw (hp_194.1) (f_216) (f_217) (fun q k0 k1 k2 => (hp_194.2 q k0)) ls (lv_sub hl [1, 2, 3, 4, 0] rfl)
abbrev rm_X1_logarithm : Room := { frames := 3, cells := 0, slots := 0, locals := 75 }
set_option maxHeartbeats 4000000 in
set_option maxRecDepth 100000 in
theorem c_X1_logarithm (l : Launch) (G : Gl) (L : List Nat) (F : Nat → va_E) (k : Nat) (ra : Nat → Nat) (a : Nat) (o cu : Nat) (u : Nat → ZP) (w : Nat → ZP) (s4 : Nat → ZP) (s1 : Nat → ZP) (s2 : Nat → ZP) (mk : k ∈ L) (fk : F k = rkO ra) (hra : ∀ i, i < 14 → ra i ∈ L) (hin : ∀ i j, i < 14 → j < 14 → ra i = ra j → i = j) (ma : a ∈ L) (fa : F a = rw7 G u) (mo : o ∈ L) (fo : F o = rw7 G w) (fs4 : F (ra 4) = rw7 G s4) (fs1 : F (ra 1) = rw7 G s1) (fs2 : F (ra 2) = rw7 G s2) (nao : a ≠ o) (na4 : a ≠ ra 4) (no4 : o ≠ ra 4) (na1 : a ≠ ra 1) (no1 : o ≠ ra 1) (na2 : a ≠ ra 2) (no2 : o ≠ ra 2) (hc : cu ≤ 6) (hc2 : 2 ≤ cu) : CV l yX1_logarithm cX1_logarithm 5 none rm_X1_logarithm G L F [.ref k, .ref a, .int (nI (cu)), .ref o] (fun F1 => F1 o = rw7 G (m_log u cu) ∧ (∃ t, F1 (ra 4) = rw7 G t) ∧ (∃ t, F1 (ra 1) = rw7 G t) ∧ (∃ t, F1 (ra 2) = rw7 G t) ∧ ∀ q, q ≠ o → q ≠ ra 4 → q ≠ ra 1 → q ≠ ra 2 → F1 q = F q) := by
  refine CG_of (by decide) (Nat.le_of_ble_eq_true rfl) rfl ?_
  intro p e s m args below meth c Q C0 hr hlk hnm hQ hw ls hl
  have hx := C0.x
  have hb := C0.b
  refine lv_aload_n hx hb dX1_logarithm_0 rfl (lv_at hl 3 rfl) ?_
  refine lv_iconst (v := nI 0) hx hb dX1_logarithm_1 (by decide) ?_
  refine q_callv hw (q_runS (As := [.ref o, .int (nI (0))]) (c_J7_fill_53178 l G L F o w (zc 0) mo fo) C0 hw sw_X1_62 rfl hl.1 rfl (by decide) dX1_logarithm_2 ⟨by decide, by decide⟩ ⟨by decide, by decide⟩) rfl rfl (fun F_218 H locs hw hp_219 => ?_)
  refine lv_iconst (v := nI 2) hx hb dX1_logarithm_5 (by decide) ?_
  refine lv_istore (lv' := [(4, .int (nI (2))), (0, .ref k), (1, .ref a), (2, .int (nI (cu))), (3, .ref o)]) hx hb dX1_logarithm_6 hl (by decide) rfl (fun ls hl => ?_)
  have lp8 : ∀ (n : Nat) (j : Nat) (t4 : Nat → ZP) (t1 : Nat → ZP) (t2 : Nat → ZP), 0 ≤ j → j ≤ cu - 1 → (cu - 1) + 1 - j < n → ∀ (F_220 : Nat → va_E) (H : Heap) (locs : List Loc), wD G L F_220 s H locs → F_220 o = rw7 G (m_lon u j) → F_220 (ra 4) = rw7 G t4 → F_220 (ra 1) = rw7 G t1 → F_220 (ra 2) = rw7 G t2 → (∀ q, q ≠ o → q ≠ (ra 4) → q ≠ (ra 1) → q ≠ (ra 2) → F_220 q = F q) → ∀ ls : Array Slot, lv_has ls 5 [(0, .ref k), (1, .ref a), (2, .int (nI (cu))), (3, .ref o), (4, .int (nI (j + 2)))] → W p l e rm_X1_logarithm s m args below meth c H locs 0 0 Q (F0 m 8 ls []) := by
    intro n
    induction n with
    | zero => intro j t4 t1 t2 hlo hhi hm; exact absurd hm (Nat.not_lt_zero _)
    | succ n ih_8 =>
      intro j t4 t1 t2 hlo hhi hm F_220 H locs hw f_221 f_222 f_223 f_224 fr_225 ls hl
      refine lv_iload hx hb dX1_logarithm_8 (lv_at hl 4 rfl) ?_
      refine lv_iload_n hx hb dX1_logarithm_10 rfl (lv_at hl 2 rfl) ?_
      refine n_icmp_gt (tgt := 55) hx hb dX1_logarithm_11 (by decide) (by omega) (by omega) (fun c_11 => ?_) (fun c_11 => ?_)
      · skip
        obtain rfl : j = cu - 1 := by omega
        exact r_v C0 hr hlk hw ⟨f_221, ⟨_, f_222⟩, ⟨_, f_223⟩, ⟨_, f_224⟩, (fun q k0 k1 k2 k3 => (fr_225 q k0 k1 k2 k3))⟩ (Nat.le_refl _) (Nat.le_refl _) dX1_logarithm_55 hQ
      · skip
        refine lv_aload_n hx hb dX1_logarithm_14 rfl (lv_at hl 0 rfl) ?_
        refine lv_aload_n hx hb dX1_logarithm_15 rfl (lv_at hl 3 rfl) ?_
        refine lv_iload hx hb dX1_logarithm_16 (lv_at hl 4 rfl) ?_
        refine lv_aload_n hx hb dX1_logarithm_18 rfl (lv_at hl 0 rfl) ?_
        have f_226 : F_220 k = rkO ra := (fr_225 k (ne_oa fk fo) (ne_oa fk fs4) (ne_oa fk fs1) (ne_oa fk fs2)).trans fk
        refine q_get C0 hw mk f_226 fw_X1_24 rfl dX1_logarithm_19 ?_
        refine q_callv hw (q_runV (As := [.ref o, .int (nI (j + 2)), .ref (ra 4)]) (c_X1_exponential l G L F_220 k ra o (ra 4) (j + 2) (m_lon u j) t4 t1 t2  mk f_226 hra hin mo f_221 ((hra 4 (by decide))) f_222 f_223 f_224 (no4) (no1) (fun h => absurd (hin 4 1 (by decide) (by decide) h) (by decide)) (no2) (fun h => absurd (hin 4 2 (by decide) (by decide) h) (by decide)) (by omega) (by omega)) C0 hw vw_X1_99 mk f_226 rfl rfl rfl hl.1 rfl (by decide) dX1_logarithm_22 ⟨by decide, by decide⟩ ⟨by decide, by decide⟩) rfl rfl (fun F_227 H locs hw hp_228 => ?_)
        obtain ⟨f_229, ⟨t_232, f_230⟩, ⟨t_233, f_231⟩, o_234⟩ := hp_228
        refine lv_aload_n hx hb dX1_logarithm_25 rfl (lv_at hl 3 rfl) ?_
        refine lv_iload hx hb dX1_logarithm_26 (lv_at hl 4 rfl) ?_
        refine lv_aload_n hx hb dX1_logarithm_28 rfl (lv_at hl 1 rfl) ?_
        refine lv_iload hx hb dX1_logarithm_29 (lv_at hl 4 rfl) ?_
        have f_235 : F_220 a = rw7 G u := (fr_225 a (nao) (na4) (na1) (na2)).trans fa
        have f_236 : F_227 a = rw7 G u := (o_234 a (na4) (na1) (na2)).trans f_235
        refine q_rld C0 hw ma f_236 (j + 2) (by omega) dX1_logarithm_31 (fun z_237 => ?_)
        refine lv_sipush (v := nI 10007) hx hb dX1_logarithm_32 (by decide) ?_
        refine n_iadd hx hb dX1_logarithm_35 ?_
        refine lv_aload_n hx hb dX1_logarithm_36 rfl (lv_at hl 0 rfl) ?_
        have f_238 : F_227 k = rkO ra := (o_234 k (ne_oa f_226 f_222) (ne_oa f_226 f_223) (ne_oa f_226 f_224)).trans f_226
        refine q_get C0 hw mk f_238 fw_X1_24 rfl dX1_logarithm_37 ?_
        refine lv_iload hx hb dX1_logarithm_40 (lv_at hl 4 rfl) ?_
        refine q_rld C0 hw ((hra 4 (by decide))) f_229 (j + 2) (by omega) dX1_logarithm_42 (fun z_239 => ?_)
        refine n_isub hx hb (by omega) dX1_logarithm_43 ?_
        refine lv_sipush (v := nI 10007) hx hb dX1_logarithm_44 (by decide) ?_
        refine n_iremP hx hb (by omega) dX1_logarithm_47 ?_
        have f_240 : F_227 o = rw7 G (m_lon u j) := (o_234 o (no4) (no1) (no2)).trans f_221
        refine q_rst C0 hw mo f_240 (j + 2) (by omega) (z := zc ((u (j + 2)).val + 10007 - ((((m_exp (m_lon u j) (j + 2))) (j + 2)).val))) dX1_logarithm_48 (fun F_241 H locs hw f_242 o_243 => ?_)
        refine lv_iinc (v := nI (j + 2 + 1)) (lv' := [(4, .int (nI (j + 2 + 1))), (0, .ref k), (1, .ref a), (2, .int (nI (cu))), (3, .ref o)]) hx hb dX1_logarithm_49 hl (k := 4) rfl (nI_add _ _) (by decide) rfl (fun ls hl => ?_)
        refine lv_goto (tgt := 8) hx hb dX1_logarithm_52 (by decide) ?_
        have f_244 : F_241 (ra 4) = rw7 G ((m_exp (m_lon u j) (j + 2))) := (o_243 (ra 4) (Ne.symm (no4))).trans f_229
        have f_245 : F_241 (ra 1) = rw7 G t_232 := (o_243 (ra 1) (Ne.symm (no1))).trans f_230
        have f_246 : F_241 (ra 2) = rw7 G t_233 := (o_243 (ra 2) (Ne.symm (no2))).trans f_231
        exact ih_8 (j + 1) ((m_exp (m_lon u j) (j + 2))) (t_232) (t_233) ((by omega)) ((by omega)) (by omega) F_241 _ _ hw (f_242.trans (congrArg (rw7 G) ((m_lon_s u j)))) (f_244) (f_245) (f_246) (fun q k0 k1 k2 k3 => ((o_243 q k0).trans ((o_234 q k1 k2 k3).trans (fr_225 q k0 k1 k2 k3)))) ls (lv_sub hl [1, 2, 3, 4, 0] rfl)
  have f_247 : F_218 (ra 4) = rw7 G s4 := (hp_219.2 (ra 4) (Ne.symm (no4))).trans fs4
  have f_248 : F_218 (ra 1) = rw7 G s1 := (hp_219.2 (ra 1) (Ne.symm (no1))).trans fs1
  have f_249 : F_218 (ra 2) = rw7 G s2 := (hp_219.2 (ra 2) (Ne.symm (no2))).trans fs2
  exact lp8 _ (0) (s4) (s1) (s2) ((by omega)) ((by omega)) (Nat.lt_succ_self _) F_218 _ _ hw (hp_219.1) (f_247) (f_248) (f_249) (fun q k0 k1 k2 k3 => (hp_219.2 q k0)) ls (lv_sub hl [1, 2, 3, 4, 0] rfl)
abbrev rm_X1_repeatFlow : Room := { frames := 4, cells := 0, slots := 0, locals := 99 }
set_option maxHeartbeats 4000000 in
set_option maxRecDepth 100000 in
theorem c_X1_repeatFlow (l : Launch) (G : Gl) (L : List Nat) (F : Nat → va_E) (k : Nat) (ra : Nat → Nat) (a : Nat) (o cu : Nat) (u : Nat → ZP) (w : Nat → ZP) (s7 : Nat → ZP) (s4 : Nat → ZP) (s1 : Nat → ZP) (s2 : Nat → ZP) (z : ZP) (mk : k ∈ L) (fk : F k = rkO ra) (hra : ∀ i, i < 14 → ra i ∈ L) (hin : ∀ i j, i < 14 → j < 14 → ra i = ra j → i = j) (ma : a ∈ L) (fa : F a = rw7 G u) (mo : o ∈ L) (fo : F o = rw7 G w) (fs7 : F (ra 7) = rw7 G s7) (fs4 : F (ra 4) = rw7 G s4) (fs1 : F (ra 1) = rw7 G s1) (fs2 : F (ra 2) = rw7 G s2) (nao : a ≠ o) (na7 : a ≠ ra 7) (no7 : o ≠ ra 7) (na4 : a ≠ ra 4) (no4 : o ≠ ra 4) (na1 : a ≠ ra 1) (no1 : o ≠ ra 1) (na2 : a ≠ ra 2) (no2 : o ≠ ra 2) (hc : cu ≤ 6) (hc2 : 2 ≤ cu) : CV l yX1_repeatFlow cX1_repeatFlow 5 none rm_X1_repeatFlow G L F [.ref k, .ref a, .int (nI (z.val)), .int (nI (cu)), .ref o] (fun F1 => F1 o = rw7 G (m_rep u z cu) ∧ (∃ t, F1 (ra 7) = rw7 G t) ∧ (∃ t, F1 (ra 4) = rw7 G t) ∧ (∃ t, F1 (ra 1) = rw7 G t) ∧ (∃ t, F1 (ra 2) = rw7 G t) ∧ ∀ q, q ≠ o → q ≠ ra 7 → q ≠ ra 4 → q ≠ ra 1 → q ≠ ra 2 → F1 q = F q) := by
  refine CG_of (by decide) (Nat.le_of_ble_eq_true rfl) rfl ?_
  intro p e s m args below meth c Q C0 hr hlk hnm hQ hw ls hl
  have hx := C0.x
  have hb := C0.b
  have hz := z.isLt
  refine lv_aload_n hx hb dX1_repeatFlow_0 rfl (lv_at hl 0 rfl) ?_
  refine lv_aload_n hx hb dX1_repeatFlow_1 rfl (lv_at hl 1 rfl) ?_
  refine lv_iload_n hx hb dX1_repeatFlow_2 rfl (lv_at hl 3 rfl) ?_
  refine lv_aload_n hx hb dX1_repeatFlow_3 rfl (lv_at hl 0 rfl) ?_
  refine q_get C0 hw mk fk fw_X1_33 rfl dX1_repeatFlow_4 ?_
  refine q_callv hw (q_runV (As := [.ref a, .int (nI (cu)), .ref (ra 7)]) (c_X1_logarithm l G L F k ra a (ra 7) cu u s7 s4 s1 s2  mk fk hra hin ma fa ((hra 7 (by decide))) fs7 fs4 fs1 fs2 (na7) (na4) (fun h => absurd (hin 7 4 (by decide) (by decide) h) (by decide)) (na1) (fun h => absurd (hin 7 1 (by decide) (by decide) h) (by decide)) (na2) (fun h => absurd (hin 7 2 (by decide) (by decide) h) (by decide)) (by omega) (by omega)) C0 hw vw_X1_102 mk fk rfl rfl rfl hl.1 rfl (by decide) dX1_repeatFlow_7 ⟨by decide, by decide⟩ ⟨by decide, by decide⟩) rfl rfl (fun F_250 H locs hw hp_251 => ?_)
  obtain ⟨f_252, ⟨t_256, f_253⟩, ⟨t_257, f_254⟩, ⟨t_258, f_255⟩, o_259⟩ := hp_251
  refine lv_aload_n hx hb dX1_repeatFlow_10 rfl (lv_at hl 0 rfl) ?_
  have f_260 : F_250 k = rkO ra := (o_259 k (ne_oa fk fs7) (ne_oa fk fs4) (ne_oa fk fs1) (ne_oa fk fs2)).trans fk
  refine q_get C0 hw mk f_260 fw_X1_33 rfl dX1_repeatFlow_11 ?_
  refine lv_iload_n hx hb dX1_repeatFlow_14 rfl (lv_at hl 2 rfl) ?_
  refine lv_aload_n hx hb dX1_repeatFlow_15 rfl (lv_at hl 0 rfl) ?_
  refine q_get C0 hw mk f_260 fw_X1_33 rfl dX1_repeatFlow_16 ?_
  refine q_callv hw (q_runS (As := [.ref (ra 7), .int (nI (z.val)), .ref (ra 7)]) (c_X1_scaleRow_s l G L F_250 (ra 7) ((m_log u cu)) z ((hra 7 (by decide))) f_252) C0 hw sw_X1_83 rfl hl.1 rfl (by decide) dX1_repeatFlow_19 ⟨by decide, by decide⟩ ⟨by decide, by decide⟩) rfl rfl (fun F_261 H locs hw hp_262 => ?_)
  refine lv_aload_n hx hb dX1_repeatFlow_22 rfl (lv_at hl 0 rfl) ?_
  refine lv_aload_n hx hb dX1_repeatFlow_23 rfl (lv_at hl 0 rfl) ?_
  have f_263 : F_261 k = rkO ra := (hp_262.2 k (ne_oa f_260 f_252)).trans f_260
  refine q_get C0 hw mk f_263 fw_X1_33 rfl dX1_repeatFlow_24 ?_
  refine lv_iload_n hx hb dX1_repeatFlow_27 rfl (lv_at hl 3 rfl) ?_
  refine lv_aload hx hb dX1_repeatFlow_28 (lv_at hl 4 rfl) ?_
  have f_264 : F_250 o = rw7 G w := (o_259 o (no7) (no4) (no1) (no2)).trans fo
  have f_265 : F_261 o = rw7 G w := (hp_262.2 o (no7)).trans f_264
  have f_266 : F_261 (ra 1) = rw7 G t_257 := (hp_262.2 (ra 1) (fun h => absurd (hin 1 7 (by decide) (by decide) h) (by decide))).trans f_254
  have f_267 : F_261 (ra 2) = rw7 G t_258 := (hp_262.2 (ra 2) (fun h => absurd (hin 2 7 (by decide) (by decide) h) (by decide))).trans f_255
  refine q_callv hw (q_runV (As := [.ref (ra 7), .int (nI (cu)), .ref o]) (c_X1_exponential l G L F_261 k ra (ra 7) o cu ((m_scale ((m_log u cu)) z)) w t_257 t_258  mk f_263 hra hin ((hra 7 (by decide))) hp_262.1 mo f_265 f_266 f_267 (Ne.symm (no7)) (fun h => absurd (hin 7 1 (by decide) (by decide) h) (by decide)) (no1) (fun h => absurd (hin 7 2 (by decide) (by decide) h) (by decide)) (no2) (by omega) (by omega)) C0 hw vw_X1_99 mk f_263 rfl rfl rfl hl.1 rfl (by decide) dX1_repeatFlow_30 ⟨by decide, by decide⟩ ⟨by decide, by decide⟩) rfl rfl (fun F_268 H locs hw hp_269 => ?_)
  obtain ⟨f_270, ⟨t_273, f_271⟩, ⟨t_274, f_272⟩, o_275⟩ := hp_269
  have f_276 : F_268 (ra 7) = rw7 G ((m_scale ((m_log u cu)) z)) := (o_275 (ra 7) (Ne.symm (no7)) (fun h => absurd (hin 7 1 (by decide) (by decide) h) (by decide)) (fun h => absurd (hin 7 2 (by decide) (by decide) h) (by decide))).trans hp_262.1
  have f_277 : F_261 (ra 4) = rw7 G t_256 := (hp_262.2 (ra 4) (fun h => absurd (hin 4 7 (by decide) (by decide) h) (by decide))).trans f_253
  have f_278 : F_268 (ra 4) = rw7 G t_256 := (o_275 (ra 4) (Ne.symm (no4)) (fun h => absurd (hin 4 1 (by decide) (by decide) h) (by decide)) (fun h => absurd (hin 4 2 (by decide) (by decide) h) (by decide))).trans f_277
  exact r_v C0 hr hlk hw ⟨f_270, ⟨_, f_276⟩, ⟨_, f_278⟩, ⟨_, f_271⟩, ⟨_, f_272⟩, (fun q k0 k1 k2 k3 k4 => ((o_275 q k0 k3 k4).trans ((hp_262.2 q k1).trans (o_259 q k1 k2 k3 k4))))⟩ (Nat.le_refl _) (Nat.le_refl _) dX1_repeatFlow_33 hQ
abbrev rm_X1_pushField : Room := { frames := 3, cells := 0, slots := 0, locals := 89 }
set_option maxHeartbeats 4000000 in
set_option maxRecDepth 100000 in
theorem c_X1_pushField (l : Launch) (G : Gl) (L : List Nat) (F : Nat → va_E) (k : Nat) (ra : Nat → Nat) (a : Nat) (b : Nat) (o cu : Nat) (u : Nat → ZP) (v : Nat → ZP) (w : Nat → ZP) (s6 : Nat → ZP) (s5 : Nat → ZP) (s4 : Nat → ZP) (s3 : Nat → ZP) (mk : k ∈ L) (fk : F k = rkO ra) (hra : ∀ i, i < 14 → ra i ∈ L) (hin : ∀ i j, i < 14 → j < 14 → ra i = ra j → i = j) (ma : a ∈ L) (fa : F a = rw7 G u) (mb : b ∈ L) (fb : F b = rw7 G v) (mo : o ∈ L) (fo : F o = rw7 G w) (fs6 : F (ra 6) = rw7 G s6) (fs5 : F (ra 5) = rw7 G s5) (fs4 : F (ra 4) = rw7 G s4) (fs3 : F (ra 3) = rw7 G s3) (nao : a ≠ o) (nbo : b ≠ o) (na6 : a ≠ ra 6) (nb6 : b ≠ ra 6) (no6 : o ≠ ra 6) (na5 : a ≠ ra 5) (nb5 : b ≠ ra 5) (no5 : o ≠ ra 5) (na4 : a ≠ ra 4) (nb4 : b ≠ ra 4) (no4 : o ≠ ra 4) (na3 : a ≠ ra 3) (nb3 : b ≠ ra 3) (no3 : o ≠ ra 3) (hc : cu ≤ 6) (hc2 : 2 ≤ cu) : CV l yX1_pushField cX1_pushField 5 none rm_X1_pushField G L F [.ref k, .ref a, .ref b, .int (nI (cu)), .ref o] (fun F1 => F1 o = rw7 G (m_push u v cu) ∧ (∃ t, F1 (ra 6) = rw7 G t) ∧ (∃ t, F1 (ra 5) = rw7 G t) ∧ (∃ t, F1 (ra 4) = rw7 G t) ∧ (∃ t, F1 (ra 3) = rw7 G t) ∧ ∀ q, q ≠ o → q ≠ ra 6 → q ≠ ra 5 → q ≠ ra 4 → q ≠ ra 3 → F1 q = F q) := by
  refine CG_of (by decide) (Nat.le_of_ble_eq_true rfl) rfl ?_
  intro p e s m args below meth c Q C0 hr hlk hnm hQ hw ls hl
  have hx := C0.x
  have hb := C0.b
  refine lv_aload_n hx hb dX1_pushField_0 rfl (lv_at hl 0 rfl) ?_
  refine lv_aload_n hx hb dX1_pushField_1 rfl (lv_at hl 1 rfl) ?_
  refine lv_iload_n hx hb dX1_pushField_2 rfl (lv_at hl 3 rfl) ?_
  refine lv_aload_n hx hb dX1_pushField_3 rfl (lv_at hl 0 rfl) ?_
  refine q_get C0 hw mk fk fw_X1_30 rfl dX1_pushField_4 ?_
  refine q_callv hw (q_runV (As := [.ref a, .int (nI (cu)), .ref (ra 6)]) (c_X1_inverse l G L F k ra a (ra 6) cu u s6 s4 s3  mk fk hra hin ma fa ((hra 6 (by decide))) fs6 fs4 fs3 (na6) (na4) (fun h => absurd (hin 6 4 (by decide) (by decide) h) (by decide)) (na3) (fun h => absurd (hin 6 3 (by decide) (by decide) h) (by decide)) (by omega) (by omega)) C0 hw vw_X1_105 mk fk rfl rfl rfl hl.1 rfl (by decide) dX1_pushField_7 ⟨by decide, by decide⟩ ⟨by decide, by decide⟩) rfl rfl (fun F_279 H locs hw hp_280 => ?_)
  obtain ⟨f_281, ⟨t_284, f_282⟩, ⟨t_285, f_283⟩, o_286⟩ := hp_280
  refine lv_aload_n hx hb dX1_pushField_10 rfl (lv_at hl 2 rfl) ?_
  refine lv_aload_n hx hb dX1_pushField_11 rfl (lv_at hl 1 rfl) ?_
  refine lv_iload_n hx hb dX1_pushField_12 rfl (lv_at hl 3 rfl) ?_
  refine lv_aload_n hx hb dX1_pushField_13 rfl (lv_at hl 0 rfl) ?_
  have f_287 : F_279 k = rkO ra := (o_286 k (ne_oa fk fs6) (ne_oa fk fs4) (ne_oa fk fs3)).trans fk
  refine q_get C0 hw mk f_287 fw_X1_27 rfl dX1_pushField_14 ?_
  have f_288 : F_279 b = rw7 G v := (o_286 b (nb6) (nb4) (nb3)).trans fb
  have f_289 : F_279 a = rw7 G u := (o_286 a (na6) (na4) (na3)).trans fa
  have f_290 : F_279 (ra 5) = rw7 G s5 := (o_286 (ra 5) (fun h => absurd (hin 5 6 (by decide) (by decide) h) (by decide)) (fun h => absurd (hin 5 4 (by decide) (by decide) h) (by decide)) (fun h => absurd (hin 5 3 (by decide) (by decide) h) (by decide))).trans fs5
  refine q_callv hw (q_runS (As := [.ref b, .ref a, .int (nI (cu)), .ref (ra 5)]) (c_X1_act l G L F_279 b a (ra 5) cu v u s5 mb f_288 ma f_289 ((hra 5 (by decide))) f_290 (nb5) (na5) (by omega) (by omega)) C0 hw sw_X1_68 rfl hl.1 rfl (by decide) dX1_pushField_17 ⟨by decide, by decide⟩ ⟨by decide, by decide⟩) rfl rfl (fun F_291 H locs hw hp_292 => ?_)
  refine lv_aload_n hx hb dX1_pushField_20 rfl (lv_at hl 0 rfl) ?_
  refine lv_aload_n hx hb dX1_pushField_21 rfl (lv_at hl 0 rfl) ?_
  have f_293 : F_291 k = rkO ra := (hp_292.2 k (ne_oa f_287 f_290)).trans f_287
  refine q_get C0 hw mk f_293 fw_X1_30 rfl dX1_pushField_22 ?_
  refine lv_aload_n hx hb dX1_pushField_25 rfl (lv_at hl 0 rfl) ?_
  refine q_get C0 hw mk f_293 fw_X1_27 rfl dX1_pushField_26 ?_
  refine lv_iload_n hx hb dX1_pushField_29 rfl (lv_at hl 3 rfl) ?_
  refine lv_aload hx hb dX1_pushField_30 (lv_at hl 4 rfl) ?_
  have f_294 : F_291 (ra 6) = rw7 G ((m_inv u cu)) := (hp_292.2 (ra 6) (fun h => absurd (hin 6 5 (by decide) (by decide) h) (by decide))).trans f_281
  have f_295 : F_279 o = rw7 G w := (o_286 o (no6) (no4) (no3)).trans fo
  have f_296 : F_291 o = rw7 G w := (hp_292.2 o (no5)).trans f_295
  have f_297 : F_291 (ra 3) = rw7 G t_285 := (hp_292.2 (ra 3) (fun h => absurd (hin 3 5 (by decide) (by decide) h) (by decide))).trans f_283
  refine q_callv hw (q_runV (As := [.ref (ra 6), .ref (ra 5), .int (nI (cu)), .ref o]) (c_X1_substitute l G L F_291 k ra (ra 6) (ra 5) o cu ((m_inv u cu)) ((m_act v u cu)) w t_285  mk f_293 hra hin ((hra 6 (by decide))) f_294 ((hra 5 (by decide))) hp_292.1 mo f_296 f_297 (Ne.symm (no6)) (Ne.symm (no5)) (fun h => absurd (hin 6 3 (by decide) (by decide) h) (by decide)) (fun h => absurd (hin 5 3 (by decide) (by decide) h) (by decide)) (no3) (by omega) (by omega)) C0 hw vw_X1_96 mk f_293 rfl rfl rfl hl.1 rfl (by decide) dX1_pushField_32 ⟨by decide, by decide⟩ ⟨by decide, by decide⟩) rfl rfl (fun F_298 H locs hw hp_299 => ?_)
  obtain ⟨f_300, ⟨t_302, f_301⟩, o_303⟩ := hp_299
  have f_304 : F_298 (ra 6) = rw7 G ((m_inv u cu)) := (o_303 (ra 6) (Ne.symm (no6)) (fun h => absurd (hin 6 3 (by decide) (by decide) h) (by decide))).trans f_294
  have f_305 : F_298 (ra 5) = rw7 G ((m_act v u cu)) := (o_303 (ra 5) (Ne.symm (no5)) (fun h => absurd (hin 5 3 (by decide) (by decide) h) (by decide))).trans hp_292.1
  have f_306 : F_291 (ra 4) = rw7 G t_284 := (hp_292.2 (ra 4) (fun h => absurd (hin 4 5 (by decide) (by decide) h) (by decide))).trans f_282
  have f_307 : F_298 (ra 4) = rw7 G t_284 := (o_303 (ra 4) (Ne.symm (no4)) (fun h => absurd (hin 4 3 (by decide) (by decide) h) (by decide))).trans f_306
  exact r_v C0 hr hlk hw ⟨f_300, ⟨_, f_304⟩, ⟨_, f_305⟩, ⟨_, f_307⟩, ⟨_, f_301⟩, (fun q k0 k1 k2 k3 k4 => ((o_303 q k0 k4).trans ((hp_292.2 q k2).trans (o_286 q k1 k3 k4))))⟩ (Nat.le_refl _) (Nat.le_refl _) dX1_pushField_35 hQ
abbrev rm_X1_secondWay : Room := { frames := 3, cells := 0, slots := 0, locals := 75 }
set_option maxHeartbeats 4000000 in
set_option maxRecDepth 100000 in
theorem c_X1_secondWay (l : Launch) (G : Gl) (L : List Nat) (F : Nat → va_E) (k : Nat) (ra : Nat → Nat) (a : Nat) (b : Nat) (o cu : Nat) (u : Nat → ZP) (v : Nat → ZP) (w : Nat → ZP) (s8 : Nat → ZP) (s9 : Nat → ZP) (s10 : Nat → ZP) (s0 : Nat → ZP) (y : Nat) (mk : k ∈ L) (fk : F k = rkO ra) (hra : ∀ i, i < 14 → ra i ∈ L) (hin : ∀ i j, i < 14 → j < 14 → ra i = ra j → i = j) (ma : a ∈ L) (fa : F a = rw7 G u) (mb : b ∈ L) (fb : F b = rw7 G v) (mo : o ∈ L) (fo : F o = rw7 G w) (fs8 : F (ra 8) = rw7 G s8) (fs9 : F (ra 9) = rw7 G s9) (fs10 : F (ra 10) = rw7 G s10) (fs0 : F (ra 0) = rw7 G s0) (nao : a ≠ o) (nbo : b ≠ o) (na8 : a ≠ ra 8) (nb8 : b ≠ ra 8) (no8 : o ≠ ra 8) (na9 : a ≠ ra 9) (nb9 : b ≠ ra 9) (no9 : o ≠ ra 9) (na10 : a ≠ ra 10) (nb10 : b ≠ ra 10) (no10 : o ≠ ra 10) (na0 : a ≠ ra 0) (nb0 : b ≠ ra 0) (no0 : o ≠ ra 0) (hc : cu ≤ 6) (hc2 : 2 ≤ cu) (hy1 : 2 ≤ y) (hy2 : y ≤ 5) : CV l yX1_secondWay cX1_secondWay 6 none rm_X1_secondWay G L F [.ref k, .ref a, .ref b, .int (nI (y)), .int (nI (cu)), .ref o] (fun F1 => F1 o = rw7 G (m_way u v y cu) ∧ (∃ t, F1 (ra 8) = rw7 G t) ∧ (∃ t, F1 (ra 9) = rw7 G t) ∧ (∃ t, F1 (ra 10) = rw7 G t) ∧ (∃ t, F1 (ra 0) = rw7 G t) ∧ ∀ q, q ≠ o → q ≠ ra 8 → q ≠ ra 9 → q ≠ ra 10 → q ≠ ra 0 → F1 q = F q) := by
  refine CG_of (by decide) (Nat.le_of_ble_eq_true rfl) rfl ?_
  intro p e s m args below meth c Q C0 hr hlk hnm hQ hw ls hl
  have hx := C0.x
  have hb := C0.b
  refine lv_aload_n hx hb dX1_secondWay_0 rfl (lv_at hl 1 rfl) ?_
  refine lv_aload_n hx hb dX1_secondWay_1 rfl (lv_at hl 2 rfl) ?_
  refine lv_aload hx hb dX1_secondWay_2 (lv_at hl 5 rfl) ?_
  refine q_callv hw (q_runS (As := [.ref a, .ref b, .ref o]) (c_X1_addRows l G L F a b o u v w ma fa mb fb mo fo (nao) (nbo)) C0 hw sw_X1_108 rfl hl.1 rfl (by decide) dX1_secondWay_4 ⟨by decide, by decide⟩ ⟨by decide, by decide⟩) rfl rfl (fun F_308 H locs hw hp_309 => ?_)
  refine lv_iload_n hx hb dX1_secondWay_7 rfl (lv_at hl 3 rfl) ?_
  refine lv_iconst (v := nI 3) hx hb dX1_secondWay_8 (by decide) ?_
  refine n_icmp_ge (tgt := 13) hx hb dX1_secondWay_9 (by decide) (by omega) (by decide) (fun c_9 => ?_) (fun c_9 => ?_)
  · skip
    refine lv_aload_n hx hb dX1_secondWay_13 rfl (lv_at hl 0 rfl) ?_
    refine lv_aload_n hx hb dX1_secondWay_14 rfl (lv_at hl 1 rfl) ?_
    refine lv_aload_n hx hb dX1_secondWay_15 rfl (lv_at hl 2 rfl) ?_
    refine lv_iload hx hb dX1_secondWay_16 (lv_at hl 4 rfl) ?_
    refine lv_aload_n hx hb dX1_secondWay_18 rfl (lv_at hl 0 rfl) ?_
    have f_310 : F_308 k = rkO ra := (hp_309.2 k (ne_oa fk fo)).trans fk
    refine q_get C0 hw mk f_310 fw_X1_36 rfl dX1_secondWay_19 ?_
    have f_311 : F_308 a = rw7 G u := (hp_309.2 a (nao)).trans fa
    have f_312 : F_308 b = rw7 G v := (hp_309.2 b (nbo)).trans fb
    have f_313 : F_308 (ra 8) = rw7 G s8 := (hp_309.2 (ra 8) (Ne.symm (no8))).trans fs8
    have f_314 : F_308 (ra 0) = rw7 G s0 := (hp_309.2 (ra 0) (Ne.symm (no0))).trans fs0
    refine q_callv hw (q_runV (As := [.ref a, .ref b, .int (nI (cu)), .ref (ra 8)]) (c_X1_takeBracket l G L F_308 k ra a b (ra 8) cu u v s8 s0  mk f_310 hra hin ma f_311 mb f_312 ((hra 8 (by decide))) f_313 f_314 (na8) (nb8) (na0) (nb0) (fun h => absurd (hin 8 0 (by decide) (by decide) h) (by decide)) (by omega) (by omega)) C0 hw vw_X1_112 mk f_310 rfl rfl rfl hl.1 rfl (by decide) dX1_secondWay_22 ⟨by decide, by decide⟩ ⟨by decide, by decide⟩) rfl rfl (fun F_315 H locs hw hp_316 => ?_)
    obtain ⟨f_317, ⟨t_319, f_318⟩, o_320⟩ := hp_316
    refine lv_aload hx hb dX1_secondWay_25 (lv_at hl 5 rfl) ?_
    refine lv_aload_n hx hb dX1_secondWay_27 rfl (lv_at hl 0 rfl) ?_
    have f_321 : F_315 k = rkO ra := (o_320 k (ne_oa f_310 f_313) (ne_oa f_310 f_314)).trans f_310
    refine q_get C0 hw mk f_321 fw_X1_36 rfl dX1_secondWay_28 ?_
    refine lv_sipush (v := nI 5004) hx hb dX1_secondWay_31 (by decide) ?_
    have f_322 : F_315 o = rw7 G ((m_add u v)) := (o_320 o (no8) (no0)).trans hp_309.1
    refine q_callv hw (q_runS (As := [.ref o, .ref (ra 8), .int (nI (5004))]) (c_X1_addMultiple l G L F_315 o (ra 8) ((m_add u v)) ((m_br u v cu)) (zc 5004) mo f_322 ((hra 8 (by decide))) f_317 (Ne.symm (no8))) C0 hw sw_X1_72 rfl hl.1 rfl (by decide) dX1_secondWay_34 ⟨by decide, by decide⟩ ⟨by decide, by decide⟩) rfl rfl (fun F_323 H locs hw hp_324 => ?_)
    refine lv_iload_n hx hb dX1_secondWay_37 rfl (lv_at hl 3 rfl) ?_
    refine lv_iconst (v := nI 4) hx hb dX1_secondWay_38 (by decide) ?_
    refine n_icmp_ge (tgt := 43) hx hb dX1_secondWay_39 (by decide) (by omega) (by decide) (fun c_39 => ?_) (fun c_39 => ?_)
    · skip
      refine lv_aload_n hx hb dX1_secondWay_43 rfl (lv_at hl 0 rfl) ?_
      refine lv_aload_n hx hb dX1_secondWay_44 rfl (lv_at hl 1 rfl) ?_
      refine lv_aload_n hx hb dX1_secondWay_45 rfl (lv_at hl 0 rfl) ?_
      have f_325 : F_323 k = rkO ra := (hp_324.2 k (ne_oa f_321 f_322)).trans f_321
      refine q_get C0 hw mk f_325 fw_X1_36 rfl dX1_secondWay_46 ?_
      refine lv_iload hx hb dX1_secondWay_49 (lv_at hl 4 rfl) ?_
      refine lv_aload_n hx hb dX1_secondWay_51 rfl (lv_at hl 0 rfl) ?_
      refine q_get C0 hw mk f_325 fw_X1_39 rfl dX1_secondWay_52 ?_
      have f_326 : F_315 a = rw7 G u := (o_320 a (na8) (na0)).trans f_311
      have f_327 : F_323 a = rw7 G u := (hp_324.2 a (nao)).trans f_326
      have f_328 : F_323 (ra 8) = rw7 G ((m_br u v cu)) := (hp_324.2 (ra 8) (Ne.symm (no8))).trans f_317
      have f_329 : F_308 (ra 9) = rw7 G s9 := (hp_309.2 (ra 9) (Ne.symm (no9))).trans fs9
      have f_330 : F_315 (ra 9) = rw7 G s9 := (o_320 (ra 9) (fun h => absurd (hin 9 8 (by decide) (by decide) h) (by decide)) (fun h => absurd (hin 9 0 (by decide) (by decide) h) (by decide))).trans f_329
      have f_331 : F_323 (ra 9) = rw7 G s9 := (hp_324.2 (ra 9) (Ne.symm (no9))).trans f_330
      have f_332 : F_323 (ra 0) = rw7 G t_319 := (hp_324.2 (ra 0) (Ne.symm (no0))).trans f_318
      refine q_callv hw (q_runV (As := [.ref a, .ref (ra 8), .int (nI (cu)), .ref (ra 9)]) (c_X1_takeBracket l G L F_323 k ra a (ra 8) (ra 9) cu u ((m_br u v cu)) s9 t_319  mk f_325 hra hin ma f_327 ((hra 8 (by decide))) f_328 ((hra 9 (by decide))) f_331 f_332 (na9) (fun h => absurd (hin 8 9 (by decide) (by decide) h) (by decide)) (na0) (fun h => absurd (hin 8 0 (by decide) (by decide) h) (by decide)) (fun h => absurd (hin 9 0 (by decide) (by decide) h) (by decide)) (by omega) (by omega)) C0 hw vw_X1_112 mk f_325 rfl rfl rfl hl.1 rfl (by decide) dX1_secondWay_55 ⟨by decide, by decide⟩ ⟨by decide, by decide⟩) rfl rfl (fun F_333 H locs hw hp_334 => ?_)
      obtain ⟨f_335, ⟨t_337, f_336⟩, o_338⟩ := hp_334
      refine lv_aload_n hx hb dX1_secondWay_58 rfl (lv_at hl 0 rfl) ?_
      refine lv_aload_n hx hb dX1_secondWay_59 rfl (lv_at hl 2 rfl) ?_
      refine lv_aload_n hx hb dX1_secondWay_60 rfl (lv_at hl 0 rfl) ?_
      have f_339 : F_333 k = rkO ra := (o_338 k (ne_oa f_325 f_331) (ne_oa f_325 f_332)).trans f_325
      refine q_get C0 hw mk f_339 fw_X1_36 rfl dX1_secondWay_61 ?_
      refine lv_iload hx hb dX1_secondWay_64 (lv_at hl 4 rfl) ?_
      refine lv_aload_n hx hb dX1_secondWay_66 rfl (lv_at hl 0 rfl) ?_
      refine q_get C0 hw mk f_339 fw_X1_42 rfl dX1_secondWay_67 ?_
      have f_340 : F_315 b = rw7 G v := (o_320 b (nb8) (nb0)).trans f_312
      have f_341 : F_323 b = rw7 G v := (hp_324.2 b (nbo)).trans f_340
      have f_342 : F_333 b = rw7 G v := (o_338 b (nb9) (nb0)).trans f_341
      have f_343 : F_333 (ra 8) = rw7 G ((m_br u v cu)) := (o_338 (ra 8) (fun h => absurd (hin 8 9 (by decide) (by decide) h) (by decide)) (fun h => absurd (hin 8 0 (by decide) (by decide) h) (by decide))).trans f_328
      have f_344 : F_308 (ra 10) = rw7 G s10 := (hp_309.2 (ra 10) (Ne.symm (no10))).trans fs10
      have f_345 : F_315 (ra 10) = rw7 G s10 := (o_320 (ra 10) (fun h => absurd (hin 10 8 (by decide) (by decide) h) (by decide)) (fun h => absurd (hin 10 0 (by decide) (by decide) h) (by decide))).trans f_344
      have f_346 : F_323 (ra 10) = rw7 G s10 := (hp_324.2 (ra 10) (Ne.symm (no10))).trans f_345
      have f_347 : F_333 (ra 10) = rw7 G s10 := (o_338 (ra 10) (fun h => absurd (hin 10 9 (by decide) (by decide) h) (by decide)) (fun h => absurd (hin 10 0 (by decide) (by decide) h) (by decide))).trans f_346
      refine q_callv hw (q_runV (As := [.ref b, .ref (ra 8), .int (nI (cu)), .ref (ra 10)]) (c_X1_takeBracket l G L F_333 k ra b (ra 8) (ra 10) cu v ((m_br u v cu)) s10 t_337  mk f_339 hra hin mb f_342 ((hra 8 (by decide))) f_343 ((hra 10 (by decide))) f_347 f_336 (nb10) (fun h => absurd (hin 8 10 (by decide) (by decide) h) (by decide)) (nb0) (fun h => absurd (hin 8 0 (by decide) (by decide) h) (by decide)) (fun h => absurd (hin 10 0 (by decide) (by decide) h) (by decide)) (by omega) (by omega)) C0 hw vw_X1_112 mk f_339 rfl rfl rfl hl.1 rfl (by decide) dX1_secondWay_70 ⟨by decide, by decide⟩ ⟨by decide, by decide⟩) rfl rfl (fun F_348 H locs hw hp_349 => ?_)
      obtain ⟨f_350, ⟨t_352, f_351⟩, o_353⟩ := hp_349
      refine lv_aload hx hb dX1_secondWay_73 (lv_at hl 5 rfl) ?_
      refine lv_aload_n hx hb dX1_secondWay_75 rfl (lv_at hl 0 rfl) ?_
      have f_354 : F_348 k = rkO ra := (o_353 k (ne_oa f_339 f_347) (ne_oa f_339 f_336)).trans f_339
      refine q_get C0 hw mk f_354 fw_X1_39 rfl dX1_secondWay_76 ?_
      refine lv_sipush (v := nI 834) hx hb dX1_secondWay_79 (by decide) ?_
      have f_355 : F_333 o = rw7 G ((m_am ((m_add u v)) ((m_br u v cu)) (zc 5004))) := (o_338 o (no9) (no0)).trans hp_324.1
      have f_356 : F_348 o = rw7 G ((m_am ((m_add u v)) ((m_br u v cu)) (zc 5004))) := (o_353 o (no10) (no0)).trans f_355
      have f_357 : F_348 (ra 9) = rw7 G ((m_br u ((m_br u v cu)) cu)) := (o_353 (ra 9) (fun h => absurd (hin 9 10 (by decide) (by decide) h) (by decide)) (fun h => absurd (hin 9 0 (by decide) (by decide) h) (by decide))).trans f_335
      refine q_callv hw (q_runS (As := [.ref o, .ref (ra 9), .int (nI (834))]) (c_X1_addMultiple l G L F_348 o (ra 9) ((m_am ((m_add u v)) ((m_br u v cu)) (zc 5004))) ((m_br u ((m_br u v cu)) cu)) (zc 834) mo f_356 ((hra 9 (by decide))) f_357 (Ne.symm (no9))) C0 hw sw_X1_72 rfl hl.1 rfl (by decide) dX1_secondWay_82 ⟨by decide, by decide⟩ ⟨by decide, by decide⟩) rfl rfl (fun F_358 H locs hw hp_359 => ?_)
      refine lv_aload hx hb dX1_secondWay_85 (lv_at hl 5 rfl) ?_
      refine lv_aload_n hx hb dX1_secondWay_87 rfl (lv_at hl 0 rfl) ?_
      have f_360 : F_358 k = rkO ra := (hp_359.2 k (ne_oa f_354 f_356)).trans f_354
      refine q_get C0 hw mk f_360 fw_X1_42 rfl dX1_secondWay_88 ?_
      refine lv_sipush (v := nI 9173) hx hb dX1_secondWay_91 (by decide) ?_
      have f_361 : F_358 (ra 10) = rw7 G ((m_br v ((m_br u v cu)) cu)) := (hp_359.2 (ra 10) (Ne.symm (no10))).trans f_350
      refine q_callv hw (q_runS (As := [.ref o, .ref (ra 10), .int (nI (9173))]) (c_X1_addMultiple l G L F_358 o (ra 10) ((m_am ((m_am ((m_add u v)) ((m_br u v cu)) (zc 5004))) ((m_br u ((m_br u v cu)) cu)) (zc 834))) ((m_br v ((m_br u v cu)) cu)) (zc 9173) mo hp_359.1 ((hra 10 (by decide))) f_361 (Ne.symm (no10))) C0 hw sw_X1_72 rfl hl.1 rfl (by decide) dX1_secondWay_94 ⟨by decide, by decide⟩ ⟨by decide, by decide⟩) rfl rfl (fun F_362 H locs hw hp_363 => ?_)
      refine lv_iload_n hx hb dX1_secondWay_97 rfl (lv_at hl 3 rfl) ?_
      refine lv_iconst (v := nI 5) hx hb dX1_secondWay_98 (by decide) ?_
      refine n_icmp_ge (tgt := 103) hx hb dX1_secondWay_99 (by decide) (by omega) (by decide) (fun c_99 => ?_) (fun c_99 => ?_)
      · skip
        refine lv_aload_n hx hb dX1_secondWay_103 rfl (lv_at hl 0 rfl) ?_
        refine lv_aload_n hx hb dX1_secondWay_104 rfl (lv_at hl 2 rfl) ?_
        refine lv_aload_n hx hb dX1_secondWay_105 rfl (lv_at hl 0 rfl) ?_
        have f_364 : F_362 k = rkO ra := (hp_363.2 k (ne_oa f_360 hp_359.1)).trans f_360
        refine q_get C0 hw mk f_364 fw_X1_39 rfl dX1_secondWay_106 ?_
        refine lv_iload hx hb dX1_secondWay_109 (lv_at hl 4 rfl) ?_
        refine lv_aload_n hx hb dX1_secondWay_111 rfl (lv_at hl 0 rfl) ?_
        refine q_get C0 hw mk f_364 fw_X1_42 rfl dX1_secondWay_112 ?_
        have f_365 : F_348 b = rw7 G v := (o_353 b (nb10) (nb0)).trans f_342
        have f_366 : F_358 b = rw7 G v := (hp_359.2 b (nbo)).trans f_365
        have f_367 : F_362 b = rw7 G v := (hp_363.2 b (nbo)).trans f_366
        have f_368 : F_358 (ra 9) = rw7 G ((m_br u ((m_br u v cu)) cu)) := (hp_359.2 (ra 9) (Ne.symm (no9))).trans f_357
        have f_369 : F_362 (ra 9) = rw7 G ((m_br u ((m_br u v cu)) cu)) := (hp_363.2 (ra 9) (Ne.symm (no9))).trans f_368
        have f_370 : F_362 (ra 10) = rw7 G ((m_br v ((m_br u v cu)) cu)) := (hp_363.2 (ra 10) (Ne.symm (no10))).trans f_361
        have f_371 : F_358 (ra 0) = rw7 G t_352 := (hp_359.2 (ra 0) (Ne.symm (no0))).trans f_351
        have f_372 : F_362 (ra 0) = rw7 G t_352 := (hp_363.2 (ra 0) (Ne.symm (no0))).trans f_371
        refine q_callv hw (q_runV (As := [.ref b, .ref (ra 9), .int (nI (cu)), .ref (ra 10)]) (c_X1_takeBracket l G L F_362 k ra b (ra 9) (ra 10) cu v ((m_br u ((m_br u v cu)) cu)) ((m_br v ((m_br u v cu)) cu)) t_352  mk f_364 hra hin mb f_367 ((hra 9 (by decide))) f_369 ((hra 10 (by decide))) f_370 f_372 (nb10) (fun h => absurd (hin 9 10 (by decide) (by decide) h) (by decide)) (nb0) (fun h => absurd (hin 9 0 (by decide) (by decide) h) (by decide)) (fun h => absurd (hin 10 0 (by decide) (by decide) h) (by decide)) (by omega) (by omega)) C0 hw vw_X1_112 mk f_364 rfl rfl rfl hl.1 rfl (by decide) dX1_secondWay_115 ⟨by decide, by decide⟩ ⟨by decide, by decide⟩) rfl rfl (fun F_373 H locs hw hp_374 => ?_)
        obtain ⟨f_375, ⟨t_377, f_376⟩, o_378⟩ := hp_374
        refine lv_aload hx hb dX1_secondWay_118 (lv_at hl 5 rfl) ?_
        refine lv_aload_n hx hb dX1_secondWay_120 rfl (lv_at hl 0 rfl) ?_
        have f_379 : F_373 k = rkO ra := (o_378 k (ne_oa f_364 f_370) (ne_oa f_364 f_372)).trans f_364
        refine q_get C0 hw mk f_379 fw_X1_42 rfl dX1_secondWay_121 ?_
        refine lv_sipush (v := nI 9590) hx hb dX1_secondWay_124 (by decide) ?_
        have f_380 : F_373 o = rw7 G ((m_am ((m_am ((m_am ((m_add u v)) ((m_br u v cu)) (zc 5004))) ((m_br u ((m_br u v cu)) cu)) (zc 834))) ((m_br v ((m_br u v cu)) cu)) (zc 9173))) := (o_378 o (no10) (no0)).trans hp_363.1
        refine q_callv hw (q_runS (As := [.ref o, .ref (ra 10), .int (nI (9590))]) (c_X1_addMultiple l G L F_373 o (ra 10) ((m_am ((m_am ((m_am ((m_add u v)) ((m_br u v cu)) (zc 5004))) ((m_br u ((m_br u v cu)) cu)) (zc 834))) ((m_br v ((m_br u v cu)) cu)) (zc 9173))) ((m_br v ((m_br u ((m_br u v cu)) cu)) cu)) (zc 9590) mo f_380 ((hra 10 (by decide))) f_375 (Ne.symm (no10))) C0 hw sw_X1_72 rfl hl.1 rfl (by decide) dX1_secondWay_127 ⟨by decide, by decide⟩ ⟨by decide, by decide⟩) rfl rfl (fun F_381 H locs hw hp_382 => ?_)
        have h9o : F_381 o = rw7 G (m_way u v y cu) := hp_382.1.trans (congrArg (rw7 G) (by unfold m_way; rw [if_neg (by omega), if_neg (by omega), if_neg (by omega)]; rfl))
        have f_383 : F_348 (ra 8) = rw7 G ((m_br u v cu)) := (o_353 (ra 8) (fun h => absurd (hin 8 10 (by decide) (by decide) h) (by decide)) (fun h => absurd (hin 8 0 (by decide) (by decide) h) (by decide))).trans f_343
        have f_384 : F_358 (ra 8) = rw7 G ((m_br u v cu)) := (hp_359.2 (ra 8) (Ne.symm (no8))).trans f_383
        have f_385 : F_362 (ra 8) = rw7 G ((m_br u v cu)) := (hp_363.2 (ra 8) (Ne.symm (no8))).trans f_384
        have f_386 : F_373 (ra 8) = rw7 G ((m_br u v cu)) := (o_378 (ra 8) (fun h => absurd (hin 8 10 (by decide) (by decide) h) (by decide)) (fun h => absurd (hin 8 0 (by decide) (by decide) h) (by decide))).trans f_385
        have f_387 : F_381 (ra 8) = rw7 G ((m_br u v cu)) := (hp_382.2 (ra 8) (Ne.symm (no8))).trans f_386
        have f_388 : F_373 (ra 9) = rw7 G ((m_br u ((m_br u v cu)) cu)) := (o_378 (ra 9) (fun h => absurd (hin 9 10 (by decide) (by decide) h) (by decide)) (fun h => absurd (hin 9 0 (by decide) (by decide) h) (by decide))).trans f_369
        have f_389 : F_381 (ra 9) = rw7 G ((m_br u ((m_br u v cu)) cu)) := (hp_382.2 (ra 9) (Ne.symm (no9))).trans f_388
        have f_390 : F_381 (ra 10) = rw7 G ((m_br v ((m_br u ((m_br u v cu)) cu)) cu)) := (hp_382.2 (ra 10) (Ne.symm (no10))).trans f_375
        have f_391 : F_381 (ra 0) = rw7 G t_377 := (hp_382.2 (ra 0) (Ne.symm (no0))).trans f_376
        exact r_v C0 hr hlk hw ⟨h9o, ⟨_, f_387⟩, ⟨_, f_389⟩, ⟨_, f_390⟩, ⟨_, f_391⟩, (fun q k0 k1 k2 k3 k4 => ((hp_382.2 q k0).trans ((o_378 q k3 k4).trans ((hp_363.2 q k0).trans ((hp_359.2 q k0).trans ((o_353 q k3 k4).trans ((o_338 q k2 k4).trans ((hp_324.2 q k0).trans ((o_320 q k1 k4).trans (hp_309.2 q k0))))))))))⟩ (Nat.le_refl _) (Nat.le_refl _) dX1_secondWay_130 hQ
      · skip
        have h9o : F_362 o = rw7 G (m_way u v y cu) := hp_363.1.trans (congrArg (rw7 G) (by unfold m_way; rw [if_neg (by omega), if_neg (by omega), if_pos (by omega)]; rfl))
        have f_392 : F_348 (ra 8) = rw7 G ((m_br u v cu)) := (o_353 (ra 8) (fun h => absurd (hin 8 10 (by decide) (by decide) h) (by decide)) (fun h => absurd (hin 8 0 (by decide) (by decide) h) (by decide))).trans f_343
        have f_393 : F_358 (ra 8) = rw7 G ((m_br u v cu)) := (hp_359.2 (ra 8) (Ne.symm (no8))).trans f_392
        have f_394 : F_362 (ra 8) = rw7 G ((m_br u v cu)) := (hp_363.2 (ra 8) (Ne.symm (no8))).trans f_393
        have f_395 : F_358 (ra 9) = rw7 G ((m_br u ((m_br u v cu)) cu)) := (hp_359.2 (ra 9) (Ne.symm (no9))).trans f_357
        have f_396 : F_362 (ra 9) = rw7 G ((m_br u ((m_br u v cu)) cu)) := (hp_363.2 (ra 9) (Ne.symm (no9))).trans f_395
        have f_397 : F_362 (ra 10) = rw7 G ((m_br v ((m_br u v cu)) cu)) := (hp_363.2 (ra 10) (Ne.symm (no10))).trans f_361
        have f_398 : F_358 (ra 0) = rw7 G t_352 := (hp_359.2 (ra 0) (Ne.symm (no0))).trans f_351
        have f_399 : F_362 (ra 0) = rw7 G t_352 := (hp_363.2 (ra 0) (Ne.symm (no0))).trans f_398
        exact r_v C0 hr hlk hw ⟨h9o, ⟨_, f_394⟩, ⟨_, f_396⟩, ⟨_, f_397⟩, ⟨_, f_399⟩, (fun q k0 k1 k2 k3 k4 => ((hp_363.2 q k0).trans ((hp_359.2 q k0).trans ((o_353 q k3 k4).trans ((o_338 q k2 k4).trans ((hp_324.2 q k0).trans ((o_320 q k1 k4).trans (hp_309.2 q k0))))))))⟩ (Nat.le_refl _) (Nat.le_refl _) dX1_secondWay_102 hQ
    · skip
      have h9o : F_323 o = rw7 G (m_way u v y cu) := hp_324.1.trans (congrArg (rw7 G) (by unfold m_way; rw [if_neg (by omega), if_pos (by omega)]; rfl))
      have f_400 : F_323 (ra 8) = rw7 G ((m_br u v cu)) := (hp_324.2 (ra 8) (Ne.symm (no8))).trans f_317
      have f_401 : F_308 (ra 9) = rw7 G s9 := (hp_309.2 (ra 9) (Ne.symm (no9))).trans fs9
      have f_402 : F_315 (ra 9) = rw7 G s9 := (o_320 (ra 9) (fun h => absurd (hin 9 8 (by decide) (by decide) h) (by decide)) (fun h => absurd (hin 9 0 (by decide) (by decide) h) (by decide))).trans f_401
      have f_403 : F_323 (ra 9) = rw7 G s9 := (hp_324.2 (ra 9) (Ne.symm (no9))).trans f_402
      have f_404 : F_308 (ra 10) = rw7 G s10 := (hp_309.2 (ra 10) (Ne.symm (no10))).trans fs10
      have f_405 : F_315 (ra 10) = rw7 G s10 := (o_320 (ra 10) (fun h => absurd (hin 10 8 (by decide) (by decide) h) (by decide)) (fun h => absurd (hin 10 0 (by decide) (by decide) h) (by decide))).trans f_404
      have f_406 : F_323 (ra 10) = rw7 G s10 := (hp_324.2 (ra 10) (Ne.symm (no10))).trans f_405
      have f_407 : F_323 (ra 0) = rw7 G t_319 := (hp_324.2 (ra 0) (Ne.symm (no0))).trans f_318
      exact r_v C0 hr hlk hw ⟨h9o, ⟨_, f_400⟩, ⟨_, f_403⟩, ⟨_, f_406⟩, ⟨_, f_407⟩, (fun q k0 k1 k2 k3 k4 => ((hp_324.2 q k0).trans ((o_320 q k1 k4).trans (hp_309.2 q k0))))⟩ (Nat.le_refl _) (Nat.le_refl _) dX1_secondWay_42 hQ
  · skip
    have h9o : F_308 o = rw7 G (m_way u v y cu) := hp_309.1.trans (congrArg (rw7 G) (by unfold m_way; rw [if_pos (by omega)]; rfl))
    have f_408 : F_308 (ra 8) = rw7 G s8 := (hp_309.2 (ra 8) (Ne.symm (no8))).trans fs8
    have f_409 : F_308 (ra 9) = rw7 G s9 := (hp_309.2 (ra 9) (Ne.symm (no9))).trans fs9
    have f_410 : F_308 (ra 10) = rw7 G s10 := (hp_309.2 (ra 10) (Ne.symm (no10))).trans fs10
    have f_411 : F_308 (ra 0) = rw7 G s0 := (hp_309.2 (ra 0) (Ne.symm (no0))).trans fs0
    exact r_v C0 hr hlk hw ⟨h9o, ⟨_, f_408⟩, ⟨_, f_409⟩, ⟨_, f_410⟩, ⟨_, f_411⟩, (fun q k0 k1 k2 k3 k4 => (hp_309.2 q k0))⟩ (Nat.le_refl _) (Nat.le_refl _) dX1_secondWay_12 hQ
abbrev rm_X1_composedField : Room := { frames := 4, cells := 0, slots := 0, locals := 99 }
set_option maxHeartbeats 4000000 in
set_option maxRecDepth 100000 in
theorem c_X1_composedField (l : Launch) (G : Gl) (L : List Nat) (F : Nat → va_E) (k : Nat) (ra : Nat → Nat) (a : Nat) (b : Nat) (o cu : Nat) (u : Nat → ZP) (v : Nat → ZP) (w : Nat → ZP) (s11 : Nat → ZP) (s12 : Nat → ZP) (s13 : Nat → ZP) (s4 : Nat → ZP) (s3 : Nat → ZP) (s2 : Nat → ZP) (s1 : Nat → ZP) (mk : k ∈ L) (fk : F k = rkO ra) (hra : ∀ i, i < 14 → ra i ∈ L) (hin : ∀ i j, i < 14 → j < 14 → ra i = ra j → i = j) (ma : a ∈ L) (fa : F a = rw7 G u) (mb : b ∈ L) (fb : F b = rw7 G v) (mo : o ∈ L) (fo : F o = rw7 G w) (fs11 : F (ra 11) = rw7 G s11) (fs12 : F (ra 12) = rw7 G s12) (fs13 : F (ra 13) = rw7 G s13) (fs4 : F (ra 4) = rw7 G s4) (fs3 : F (ra 3) = rw7 G s3) (fs2 : F (ra 2) = rw7 G s2) (fs1 : F (ra 1) = rw7 G s1) (nao : a ≠ o) (nbo : b ≠ o) (na11 : a ≠ ra 11) (nb11 : b ≠ ra 11) (no11 : o ≠ ra 11) (na12 : a ≠ ra 12) (nb12 : b ≠ ra 12) (no12 : o ≠ ra 12) (na13 : a ≠ ra 13) (nb13 : b ≠ ra 13) (no13 : o ≠ ra 13) (na4 : a ≠ ra 4) (nb4 : b ≠ ra 4) (no4 : o ≠ ra 4) (na3 : a ≠ ra 3) (nb3 : b ≠ ra 3) (no3 : o ≠ ra 3) (na2 : a ≠ ra 2) (nb2 : b ≠ ra 2) (no2 : o ≠ ra 2) (na1 : a ≠ ra 1) (nb1 : b ≠ ra 1) (no1 : o ≠ ra 1) (hc : cu ≤ 6) (hc2 : 2 ≤ cu) : CV l yX1_composedField cX1_composedField 5 none rm_X1_composedField G L F [.ref k, .ref a, .ref b, .int (nI (cu)), .ref o] (fun F1 => F1 o = rw7 G (m_cf u v cu) ∧ (∃ t, F1 (ra 11) = rw7 G t) ∧ (∃ t, F1 (ra 12) = rw7 G t) ∧ (∃ t, F1 (ra 13) = rw7 G t) ∧ (∃ t, F1 (ra 4) = rw7 G t) ∧ (∃ t, F1 (ra 3) = rw7 G t) ∧ (∃ t, F1 (ra 2) = rw7 G t) ∧ (∃ t, F1 (ra 1) = rw7 G t) ∧ ∀ q, q ≠ o → q ≠ ra 11 → q ≠ ra 12 → q ≠ ra 13 → q ≠ ra 4 → q ≠ ra 3 → q ≠ ra 2 → q ≠ ra 1 → F1 q = F q) := by
  refine CG_of (by decide) (Nat.le_of_ble_eq_true rfl) rfl ?_
  intro p e s m args below meth c Q C0 hr hlk hnm hQ hw ls hl
  have hx := C0.x
  have hb := C0.b
  refine lv_aload_n hx hb dX1_composedField_0 rfl (lv_at hl 0 rfl) ?_
  refine lv_aload_n hx hb dX1_composedField_1 rfl (lv_at hl 1 rfl) ?_
  refine lv_iload_n hx hb dX1_composedField_2 rfl (lv_at hl 3 rfl) ?_
  refine lv_aload_n hx hb dX1_composedField_3 rfl (lv_at hl 0 rfl) ?_
  refine q_get C0 hw mk fk fw_X1_45 rfl dX1_composedField_4 ?_
  refine q_callv hw (q_runV (As := [.ref a, .int (nI (cu)), .ref (ra 11)]) (c_X1_exponential l G L F k ra a (ra 11) cu u s11 s1 s2  mk fk hra hin ma fa ((hra 11 (by decide))) fs11 fs1 fs2 (na11) (na1) (fun h => absurd (hin 11 1 (by decide) (by decide) h) (by decide)) (na2) (fun h => absurd (hin 11 2 (by decide) (by decide) h) (by decide)) (by omega) (by omega)) C0 hw vw_X1_99 mk fk rfl rfl rfl hl.1 rfl (by decide) dX1_composedField_7 ⟨by decide, by decide⟩ ⟨by decide, by decide⟩) rfl rfl (fun F_412 H locs hw hp_413 => ?_)
  obtain ⟨f_414, ⟨t_417, f_415⟩, ⟨t_418, f_416⟩, o_419⟩ := hp_413
  refine lv_aload_n hx hb dX1_composedField_10 rfl (lv_at hl 0 rfl) ?_
  refine lv_aload_n hx hb dX1_composedField_11 rfl (lv_at hl 2 rfl) ?_
  refine lv_iload_n hx hb dX1_composedField_12 rfl (lv_at hl 3 rfl) ?_
  refine lv_aload_n hx hb dX1_composedField_13 rfl (lv_at hl 0 rfl) ?_
  have f_420 : F_412 k = rkO ra := (o_419 k (ne_oa fk fs11) (ne_oa fk fs1) (ne_oa fk fs2)).trans fk
  refine q_get C0 hw mk f_420 fw_X1_48 rfl dX1_composedField_14 ?_
  have f_421 : F_412 b = rw7 G v := (o_419 b (nb11) (nb1) (nb2)).trans fb
  have f_422 : F_412 (ra 12) = rw7 G s12 := (o_419 (ra 12) (fun h => absurd (hin 12 11 (by decide) (by decide) h) (by decide)) (fun h => absurd (hin 12 1 (by decide) (by decide) h) (by decide)) (fun h => absurd (hin 12 2 (by decide) (by decide) h) (by decide))).trans fs12
  refine q_callv hw (q_runV (As := [.ref b, .int (nI (cu)), .ref (ra 12)]) (c_X1_exponential l G L F_412 k ra b (ra 12) cu v s12 t_417 t_418  mk f_420 hra hin mb f_421 ((hra 12 (by decide))) f_422 f_415 f_416 (nb12) (nb1) (fun h => absurd (hin 12 1 (by decide) (by decide) h) (by decide)) (nb2) (fun h => absurd (hin 12 2 (by decide) (by decide) h) (by decide)) (by omega) (by omega)) C0 hw vw_X1_99 mk f_420 rfl rfl rfl hl.1 rfl (by decide) dX1_composedField_17 ⟨by decide, by decide⟩ ⟨by decide, by decide⟩) rfl rfl (fun F_423 H locs hw hp_424 => ?_)
  obtain ⟨f_425, ⟨t_428, f_426⟩, ⟨t_429, f_427⟩, o_430⟩ := hp_424
  refine lv_aload_n hx hb dX1_composedField_20 rfl (lv_at hl 0 rfl) ?_
  refine lv_aload_n hx hb dX1_composedField_21 rfl (lv_at hl 0 rfl) ?_
  have f_431 : F_423 k = rkO ra := (o_430 k (ne_oa f_420 f_422) (ne_oa f_420 f_415) (ne_oa f_420 f_416)).trans f_420
  refine q_get C0 hw mk f_431 fw_X1_45 rfl dX1_composedField_22 ?_
  refine lv_aload_n hx hb dX1_composedField_25 rfl (lv_at hl 0 rfl) ?_
  refine q_get C0 hw mk f_431 fw_X1_48 rfl dX1_composedField_26 ?_
  refine lv_iload_n hx hb dX1_composedField_29 rfl (lv_at hl 3 rfl) ?_
  refine lv_aload_n hx hb dX1_composedField_30 rfl (lv_at hl 0 rfl) ?_
  refine q_get C0 hw mk f_431 fw_X1_51 rfl dX1_composedField_31 ?_
  have f_432 : F_423 (ra 11) = rw7 G ((m_exp u cu)) := (o_430 (ra 11) (fun h => absurd (hin 11 12 (by decide) (by decide) h) (by decide)) (fun h => absurd (hin 11 1 (by decide) (by decide) h) (by decide)) (fun h => absurd (hin 11 2 (by decide) (by decide) h) (by decide))).trans f_414
  have f_433 : F_412 (ra 13) = rw7 G s13 := (o_419 (ra 13) (fun h => absurd (hin 13 11 (by decide) (by decide) h) (by decide)) (fun h => absurd (hin 13 1 (by decide) (by decide) h) (by decide)) (fun h => absurd (hin 13 2 (by decide) (by decide) h) (by decide))).trans fs13
  have f_434 : F_423 (ra 13) = rw7 G s13 := (o_430 (ra 13) (fun h => absurd (hin 13 12 (by decide) (by decide) h) (by decide)) (fun h => absurd (hin 13 1 (by decide) (by decide) h) (by decide)) (fun h => absurd (hin 13 2 (by decide) (by decide) h) (by decide))).trans f_433
  have f_435 : F_412 (ra 3) = rw7 G s3 := (o_419 (ra 3) (fun h => absurd (hin 3 11 (by decide) (by decide) h) (by decide)) (fun h => absurd (hin 3 1 (by decide) (by decide) h) (by decide)) (fun h => absurd (hin 3 2 (by decide) (by decide) h) (by decide))).trans fs3
  have f_436 : F_423 (ra 3) = rw7 G s3 := (o_430 (ra 3) (fun h => absurd (hin 3 12 (by decide) (by decide) h) (by decide)) (fun h => absurd (hin 3 1 (by decide) (by decide) h) (by decide)) (fun h => absurd (hin 3 2 (by decide) (by decide) h) (by decide))).trans f_435
  refine q_callv hw (q_runV (As := [.ref (ra 11), .ref (ra 12), .int (nI (cu)), .ref (ra 13)]) (c_X1_substitute l G L F_423 k ra (ra 11) (ra 12) (ra 13) cu ((m_exp u cu)) ((m_exp v cu)) s13 s3  mk f_431 hra hin ((hra 11 (by decide))) f_432 ((hra 12 (by decide))) f_425 ((hra 13 (by decide))) f_434 f_436 (fun h => absurd (hin 11 13 (by decide) (by decide) h) (by decide)) (fun h => absurd (hin 12 13 (by decide) (by decide) h) (by decide)) (fun h => absurd (hin 11 3 (by decide) (by decide) h) (by decide)) (fun h => absurd (hin 12 3 (by decide) (by decide) h) (by decide)) (fun h => absurd (hin 13 3 (by decide) (by decide) h) (by decide)) (by omega) (by omega)) C0 hw vw_X1_96 mk f_431 rfl rfl rfl hl.1 rfl (by decide) dX1_composedField_34 ⟨by decide, by decide⟩ ⟨by decide, by decide⟩) rfl rfl (fun F_437 H locs hw hp_438 => ?_)
  obtain ⟨f_439, ⟨t_441, f_440⟩, o_442⟩ := hp_438
  refine lv_aload_n hx hb dX1_composedField_37 rfl (lv_at hl 0 rfl) ?_
  refine lv_aload_n hx hb dX1_composedField_38 rfl (lv_at hl 0 rfl) ?_
  have f_443 : F_437 k = rkO ra := (o_442 k (ne_oa f_431 f_434) (ne_oa f_431 f_436)).trans f_431
  refine q_get C0 hw mk f_443 fw_X1_51 rfl dX1_composedField_39 ?_
  refine lv_iload_n hx hb dX1_composedField_42 rfl (lv_at hl 3 rfl) ?_
  refine lv_aload hx hb dX1_composedField_43 (lv_at hl 4 rfl) ?_
  have f_444 : F_412 o = rw7 G w := (o_419 o (no11) (no1) (no2)).trans fo
  have f_445 : F_423 o = rw7 G w := (o_430 o (no12) (no1) (no2)).trans f_444
  have f_446 : F_437 o = rw7 G w := (o_442 o (no13) (no3)).trans f_445
  have f_447 : F_412 (ra 4) = rw7 G s4 := (o_419 (ra 4) (fun h => absurd (hin 4 11 (by decide) (by decide) h) (by decide)) (fun h => absurd (hin 4 1 (by decide) (by decide) h) (by decide)) (fun h => absurd (hin 4 2 (by decide) (by decide) h) (by decide))).trans fs4
  have f_448 : F_423 (ra 4) = rw7 G s4 := (o_430 (ra 4) (fun h => absurd (hin 4 12 (by decide) (by decide) h) (by decide)) (fun h => absurd (hin 4 1 (by decide) (by decide) h) (by decide)) (fun h => absurd (hin 4 2 (by decide) (by decide) h) (by decide))).trans f_447
  have f_449 : F_437 (ra 4) = rw7 G s4 := (o_442 (ra 4) (fun h => absurd (hin 4 13 (by decide) (by decide) h) (by decide)) (fun h => absurd (hin 4 3 (by decide) (by decide) h) (by decide))).trans f_448
  have f_450 : F_437 (ra 1) = rw7 G t_428 := (o_442 (ra 1) (fun h => absurd (hin 1 13 (by decide) (by decide) h) (by decide)) (fun h => absurd (hin 1 3 (by decide) (by decide) h) (by decide))).trans f_426
  have f_451 : F_437 (ra 2) = rw7 G t_429 := (o_442 (ra 2) (fun h => absurd (hin 2 13 (by decide) (by decide) h) (by decide)) (fun h => absurd (hin 2 3 (by decide) (by decide) h) (by decide))).trans f_427
  refine q_callv hw (q_runV (As := [.ref (ra 13), .int (nI (cu)), .ref o]) (c_X1_logarithm l G L F_437 k ra (ra 13) o cu ((m_sub ((m_exp u cu)) ((m_exp v cu)) cu)) w s4 t_428 t_429  mk f_443 hra hin ((hra 13 (by decide))) f_439 mo f_446 f_449 f_450 f_451 (Ne.symm (no13)) (fun h => absurd (hin 13 4 (by decide) (by decide) h) (by decide)) (no4) (fun h => absurd (hin 13 1 (by decide) (by decide) h) (by decide)) (no1) (fun h => absurd (hin 13 2 (by decide) (by decide) h) (by decide)) (no2) (by omega) (by omega)) C0 hw vw_X1_102 mk f_443 rfl rfl rfl hl.1 rfl (by decide) dX1_composedField_45 ⟨by decide, by decide⟩ ⟨by decide, by decide⟩) rfl rfl (fun F_452 H locs hw hp_453 => ?_)
  obtain ⟨f_454, ⟨t_458, f_455⟩, ⟨t_459, f_456⟩, ⟨t_460, f_457⟩, o_461⟩ := hp_453
  have f_462 : F_437 (ra 11) = rw7 G ((m_exp u cu)) := (o_442 (ra 11) (fun h => absurd (hin 11 13 (by decide) (by decide) h) (by decide)) (fun h => absurd (hin 11 3 (by decide) (by decide) h) (by decide))).trans f_432
  have f_463 : F_452 (ra 11) = rw7 G ((m_exp u cu)) := (o_461 (ra 11) (Ne.symm (no11)) (fun h => absurd (hin 11 4 (by decide) (by decide) h) (by decide)) (fun h => absurd (hin 11 1 (by decide) (by decide) h) (by decide)) (fun h => absurd (hin 11 2 (by decide) (by decide) h) (by decide))).trans f_462
  have f_464 : F_437 (ra 12) = rw7 G ((m_exp v cu)) := (o_442 (ra 12) (fun h => absurd (hin 12 13 (by decide) (by decide) h) (by decide)) (fun h => absurd (hin 12 3 (by decide) (by decide) h) (by decide))).trans f_425
  have f_465 : F_452 (ra 12) = rw7 G ((m_exp v cu)) := (o_461 (ra 12) (Ne.symm (no12)) (fun h => absurd (hin 12 4 (by decide) (by decide) h) (by decide)) (fun h => absurd (hin 12 1 (by decide) (by decide) h) (by decide)) (fun h => absurd (hin 12 2 (by decide) (by decide) h) (by decide))).trans f_464
  have f_466 : F_452 (ra 13) = rw7 G ((m_sub ((m_exp u cu)) ((m_exp v cu)) cu)) := (o_461 (ra 13) (Ne.symm (no13)) (fun h => absurd (hin 13 4 (by decide) (by decide) h) (by decide)) (fun h => absurd (hin 13 1 (by decide) (by decide) h) (by decide)) (fun h => absurd (hin 13 2 (by decide) (by decide) h) (by decide))).trans f_439
  have f_467 : F_452 (ra 3) = rw7 G t_441 := (o_461 (ra 3) (Ne.symm (no3)) (fun h => absurd (hin 3 4 (by decide) (by decide) h) (by decide)) (fun h => absurd (hin 3 1 (by decide) (by decide) h) (by decide)) (fun h => absurd (hin 3 2 (by decide) (by decide) h) (by decide))).trans f_440
  exact r_v C0 hr hlk hw ⟨f_454, ⟨_, f_463⟩, ⟨_, f_465⟩, ⟨_, f_466⟩, ⟨_, f_455⟩, ⟨_, f_467⟩, ⟨_, f_457⟩, ⟨_, f_456⟩, (fun q k0 k1 k2 k3 k4 k5 k6 k7 => ((o_461 q k0 k4 k7 k6).trans ((o_442 q k3 k5).trans ((o_430 q k2 k7 k6).trans (o_419 q k1 k7 k6)))))⟩ (Nat.le_refl _) (Nat.le_refl _) dX1_composedField_48 hQ
