theorem okFl_up {A A2 : AB} {t : Nat} {U : Nat → ZP} (h : A2.1.2.2.2.2.2 = va_up A.1.2.2.2.2.2 t U) (hF : okFl A) (hU : 6 ≤ t → U 0 = 0 ∧ U 1 = 1) : okFl A2 := by
  intro i hi
  rw [h]
  by_cases e : 6 + i = t
  · subst e
    rw [va_up_self]
    exact hU (by omega)
  · rw [va_up_ne _ _ e]
    exact hF i hi
theorem lpush_eq (u : Nat → ZP) {f : Nat → ZP} {cu : Nat} (f0 : f 0 = 0) (f1 : f 1 = 0) (h : 1 ≤ cu) (hc : cu ≤ 6) : m_sub (m_inv u cu) (m_mulT (m_der u) f cu) cu = m_push u f cu := by
  rw [← push_eq u f0 f1 h hc, pi_eq, inv_eq u h]
theorem ng_sub {z : Nat} (h : z ≤ 9) : nI z - nI 9 = - nI (9 - z) := by
  rw [← pk_sub h]
  grind
theorem zi_ng {k : Nat} (h : k < 2 ^ 30) : zi (- nI k) = - zc k := by
  have e : - nI k = nI 0 - nI k := by rw [nI_0]; grind
  rw [e, zi_sub (by decide) h, zc_0]
  grind
theorem ng_h1 {k : Nat} (h : k ≤ 9) : ¬ - nI k < -5000 := by
  intro h9
  have h2 := Int32.lt_iff_toInt_lt.mp h9
  rw [ng_to h] at h2
  have h0 : (-5000 : Int32).toInt = -5000 := by decide
  omega
theorem ng_h2 {k : Nat} (h : k ≤ 9) : - nI k ≤ nI 5000 := by
  rw [Int32.le_iff_toInt_le, ng_to h, nI_toInt (by decide)]
  omega
theorem ps_h1 {k : Nat} (h : k ≤ 9) : ¬ nI k < -5000 := by
  intro h9
  have h2 := Int32.lt_iff_toInt_lt.mp h9
  rw [nI_toInt (by omega)] at h2
  have h0 : (-5000 : Int32).toInt = -5000 := by decide
  omega
theorem ps_h2 {k : Nat} (h : k ≤ 9) : nI k ≤ nI 5000 := by
  rw [Int32.le_iff_toInt_le, nI_toInt (by omega), nI_toInt (by decide)]
  omega
abbrev rm_L_done : Room := { frames := 7, cells := 115, slots := 805, locals := 187 }
set_option maxHeartbeats 4000000 in
set_option maxRecDepth 100000 in
theorem c_L_done_0 (l : Launch) (G : Gl) (L : List Nat) (F : Nat → va_E) (ad : Nat → Nat) (nu fi fl : Nat) (hS : LSQ L ad nu fi fl) (A : AB) (hX : XW G F ad A) (hA : okA A) (hFl : okFl A) (hN : LNQ G F nu fi fl A) (f9 g9 t9 : Nat) (y9 : Int32) (hf9 : f9 < 6) (hg9 : g9 < 6) (ht9 : t9 < 6) : CI l yL_done cL_done 13 (some .boolean) rm_L_done G L F [.ref (ad 0), .int (nI (0)), .int (nI (f9)), .int (nI (g9)), .int (nI (t9)), .int (y9), .ref nu, .ref fi, .ref fl] (fun r F1 => r = nI 1 ∧ ∃ A2, LWQ G F1 ad nu fi fl A2 ∧ A2.1.2.1 ≤ A.1.2.1) := by
  refine CG_of (by decide) (Nat.le_of_ble_eq_true rfl) rfl ?_
  intro p e s m args below meth c Q C0 hr hlk hnm hQ hw ls hl
  obtain ⟨hL, hin, mnu, mfi, mfl, hnf, hnl, hff, hna, hfa, hga⟩ := id hS
  obtain ⟨fnu, ffi, ffl⟩ := id hN
  obtain ⟨⟨hc2, hc, hpu, hok⟩, ⟨hh6, hho⟩, -⟩ := id hA
  have had0 : ∀ i, i < 166 → F (ad i) = F (ad i) := fun _ _ => rfl
  have hx := C0.x
  have hb := C0.b
  have hg0 := gr.rfl (L := L) s.heap.size
  have hLs : ∀ q ∈ L, q < s.heap.size := fun q hq => hw.lt hq
  have hfr0 : ∀ q ∈ L, F q = F q := fun _ _ => rfl
  have hlt_nu := hLs nu mnu
  have hlt_fi := hLs fi mfi
  have hlt_fl := hLs fl mfl
  refine lv_aload hx hb dL_done_0 (lv_at hl 6 rfl) ?_
  refine lv_iconst (v := nI 0) hx hb dL_done_2 (by decide) ?_
  refine q_iald C0 hw mnu fnu (0) (by omega) (by decide) (v := nI (A.1.1)) rfl dL_done_3 ?_
  refine lv_istore (lv' := [(9, .int (nI (A.1.1))), (0, .ref (ad 0)), (1, .int (nI (0))), (2, .int (nI (f9))), (3, .int (nI (g9))), (4, .int (nI (t9))), (5, .int (y9)), (6, .ref nu), (7, .ref fi), (8, .ref fl)]) hx hb dL_done_4 hl (by decide) rfl (fun ls hl => ?_)
  refine lv_iload_n hx hb dL_done_6 rfl (lv_at hl 2 rfl) ?_
  refine n_if_ne (tgt := 14) hx hb dL_done_7 (by decide) (by decide) (fun c_7 => ?_) (fun c_7 => ?_)
  · skip
    exact absurd c_7 (by omega)
  · skip
    refine lv_iconst (v := nI 2) hx hb dL_done_10 (by decide) ?_
    refine lv_goto (tgt := 76) hx hb dL_done_11 (by decide) ?_
    refine lv_istore (lv' := [(10, .int (nI (2))), (9, .int (nI (A.1.1))), (0, .ref (ad 0)), (1, .int (nI (0))), (2, .int (nI (f9))), (3, .int (nI (g9))), (4, .int (nI (t9))), (5, .int (y9)), (6, .ref nu), (7, .ref fi), (8, .ref fl)]) hx hb dL_done_76 hl (by decide) rfl (fun ls hl => ?_)
    refine lv_aload hx hb dL_done_78 (lv_at hl 8 rfl) ?_
    refine lv_iconst (v := nI 1) hx hb dL_done_80 (by decide) ?_
    refine q_iald C0 hw mnu fnu (1) (by omega) (by decide) (v := nI (A.1.2.1)) rfl dL_done_81 ?_
    refine lv_iload hx hb dL_done_82 (lv_at hl 1 rfl) ?_
    refine lv_iload hx hb dL_done_84 (lv_at hl 0 rfl) ?_
    refine n_imul hx hb dL_done_86 ?_
    refine n_icmp_ge (tgt := 92) hx hb dL_done_87 (by decide) (by omega) (by omega) (fun c_87 => ?_) (fun c_87 => ?_)
    · skip
      refine lv_iload_n hx hb dL_done_92 rfl (lv_at hl 3 rfl) ?_
      refine lv_tableIn (off := 51) (tgt := 144) hx hb dL_done_93 (by decide) (by decide) rfl (by decide) ?_
      refine lv_aload hx hb dL_done_144 (lv_at hl 8 rfl) ?_
      refine lv_iconst (v := nI 4) hx hb dL_done_146 (by decide) ?_
      refine lv_dup2_11 hx hb dL_done_147 rfl rfl ?_
      refine q_iald C0 hw mnu fnu (4) (by omega) (by decide) (v := nI (A.1.2.2.2.2.1)) rfl dL_done_148 ?_
      refine lv_iconst (v := nI 1) hx hb dL_done_149 (by decide) ?_
      refine n_iadd hx hb dL_done_150 ?_
      refine q_iast C0 hw mnu fnu 4 (by decide) (by decide) dL_done_151 (fun F_5131 H locs hw f_5132 o_5133 => ?_)
      have f_5134 : F_5131 nu = nE G A.1.1 A.1.2.1 A.1.2.2.1 A.1.2.2.2.1 (A.1.2.2.2.2.1 + 1) A.2.1.1 := f_5132.trans (by rw [nG_u4])
      refine lv_aload_n hx hb dL_done_152 rfl (lv_at hl 2 rfl) ?_
      refine lv_iload_n hx hb dL_done_153 rfl (lv_at hl 4 rfl) ?_
      refine lv_iload_n hx hb dL_done_154 rfl (lv_at hl 5 rfl) ?_
      refine lv_iload hx hb dL_done_155 (lv_at hl 6 rfl) ?_
      have hX_5135 : XW G F_5131 ad A := (hX.keep (fun i hi => ((o_5133 (ad i) (Ne.symm (hna i hi))).trans (had0 i hi))))
      refine q_calli hw (q_runV (As := [.int (nI (f9)), .int (nI (g9)), .int (nI (t9))]) (c_X5_bracket l G L F_5131 ad hL hin A f9 g9 t9 hf9 hg9 ht9 (by omega) hX_5135 hA) C0 hw vw_L_43 (hL 0 (by decide)) hX_5135.1 rfl rfl rfl hl.1 rfl (Nat.le_of_ble_eq_true rfl) dL_done_157 ⟨by decide, by decide⟩ ⟨(by show 0 + 0 ≤ 115; omega), (by show 0 + 0 ≤ 805; omega)⟩) rfl rfl (fun r_5138 F_5136 H locs hw hp_5137 => ?_)
      obtain ⟨h_5139, h_5140, h_5141⟩ := hp_5137
      subst h_5139
      have f_5142 : F_5136 nu = nE G A.1.1 A.1.2.1 A.1.2.2.1 A.1.2.2.2.1 (A.1.2.2.2.2.1 + 1) A.2.1.1 := (h_5141 nu (fun i hi => hna i hi)).trans f_5134
      have f_5143 : F_5131 fi = pcF G ((loR A.1.2.2.2.2.2)) := (o_5133 fi (by omega)).trans ffi
      have f_5144 : F_5136 fi = pcF G ((loR A.1.2.2.2.2.2)) := (h_5141 fi (fun i hi => hfa i hi)).trans f_5143
      have f_5145 : F_5131 fl = pcF G ((hiR A.1.2.2.2.2.2)) := (o_5133 fl (by omega)).trans ffl
      have f_5146 : F_5136 fl = pcF G ((hiR A.1.2.2.2.2.2)) := (h_5141 fl (fun i hi => hga i hi)).trans f_5145
      have had_5147 : ∀ i, i < 166 → F_5136 (ad i) = F_5136 (ad i) := fun _ _ => rfl
      refine lv_aload hx hb dL_done_160 (lv_at hl 8 rfl) ?_
      refine lv_aload hx hb dL_done_162 (lv_at hl 9 rfl) ?_
      refine lv_iload hx hb dL_done_164 (lv_at hl 6 rfl) ?_
      refine lv_iload hx hb dL_done_166 (lv_at hl 1 rfl) ?_
      refine lv_aload hx hb dL_done_168 (lv_at hl 9 rfl) ?_
      refine lv_iload_n hx hb dL_done_170 rfl (lv_at hl 4 rfl) ?_
      refine q_callr hw (q_runS (As := [.ref fi, .int (nI (f9))]) (c_L_get l G L F_5136 fi f9 ((loR A.1.2.2.2.2.2)) mfi f_5144 (by omega)) C0 hw sw_L_48 rfl hl.1 rfl (Nat.le_of_ble_eq_true rfl) dL_done_171 ⟨by decide, by decide⟩ ⟨(by show 0 + 1 ≤ 115; omega), (by show 0 + 7 ≤ 805; omega)⟩) (fun L_5148 F_5149 a_5150 H locs g_5151 hw1 => ?_)
      have hge_a_5150 : s.heap.size ≤ a_5150 := Nat.le_trans hw.2.2.1 g_5151.2.2.2.2
      have f_5152 : F_5149 nu = nE G A.1.1 A.1.2.1 A.1.2.2.1 A.1.2.2.2.1 (A.1.2.2.2.2.1 + 1) A.2.1.1 := (g_5151.2.2.1 nu mnu).1.trans f_5142
      have lt_5154 := (g_5151.2.2.1 nu mnu).2
      have m_5153 : nu ∈ L_5148 := g_5151.1.1 nu mnu
      have f_5155 : F_5149 fi = pcF G ((loR A.1.2.2.2.2.2)) := (g_5151.2.2.1 fi mfi).1.trans f_5144
      have lt_5157 := (g_5151.2.2.1 fi mfi).2
      have m_5156 : fi ∈ L_5148 := g_5151.1.1 fi mfi
      have f_5158 : F_5149 fl = pcF G ((hiR A.1.2.2.2.2.2)) := (g_5151.2.2.1 fl mfl).1.trans f_5146
      have lt_5160 := (g_5151.2.2.1 fl mfl).2
      have m_5159 : fl ∈ L_5148 := g_5151.1.1 fl mfl
      have had_5161 : ∀ i, i < 166 → F_5149 (ad i) = _ := fun i hi => (g_5151.2.2.1 (ad i) (hg0.1 _ (hL i hi))).1.trans (had_5147 i hi)
      have hg_5162 := hg0.step g_5151.1 hw.2.2.1
      have C0 := C0.grow g_5151.1 hw.2.2.1
      have hw := hw1
      have m_5163 : a_5150 ∈ L_5148 := g_5151.2.2.2.1
      have f_5164 : F_5149 a_5150 = rw7 G (((loR A.1.2.2.2.2.2)) f9) := g_5151.2.1
      have f_5165 : F_5149 a_5150 = rw7 G ((A.1.2.2.2.2.2 f9)) := f_5164.trans (congrArg (rw7 G) (loR_at A.1.2.2.2.2.2 (by omega)))
      refine lv_aload hx hb dL_done_174 (lv_at hl 9 rfl) ?_
      refine lv_iload_n hx hb dL_done_176 rfl (lv_at hl 5 rfl) ?_
      refine q_callr hw (q_runS (As := [.ref fi, .int (nI (g9))]) (c_L_get l G L_5148 F_5149 fi g9 ((loR A.1.2.2.2.2.2)) m_5156 f_5155 (by omega)) C0 hw sw_L_48 rfl hl.1 rfl (Nat.le_of_ble_eq_true rfl) dL_done_177 ⟨by decide, by decide⟩ ⟨(by show 1 + 1 ≤ 115; omega), (by show 7 + 7 ≤ 805; omega)⟩) (fun L_5166 F_5167 a_5168 H locs g_5169 hw1 => ?_)
      have hge_a_5168 : s.heap.size ≤ a_5168 := Nat.le_trans hw.2.2.1 g_5169.2.2.2.2
      have f_5170 : F_5167 nu = nE G A.1.1 A.1.2.1 A.1.2.2.1 A.1.2.2.2.1 (A.1.2.2.2.2.1 + 1) A.2.1.1 := (g_5169.2.2.1 nu m_5153).1.trans f_5152
      have lt_5172 := (g_5169.2.2.1 nu m_5153).2
      have m_5171 : nu ∈ L_5166 := g_5169.1.1 nu m_5153
      have f_5173 : F_5167 fi = pcF G ((loR A.1.2.2.2.2.2)) := (g_5169.2.2.1 fi m_5156).1.trans f_5155
      have lt_5175 := (g_5169.2.2.1 fi m_5156).2
      have m_5174 : fi ∈ L_5166 := g_5169.1.1 fi m_5156
      have f_5176 : F_5167 fl = pcF G ((hiR A.1.2.2.2.2.2)) := (g_5169.2.2.1 fl m_5159).1.trans f_5158
      have lt_5178 := (g_5169.2.2.1 fl m_5159).2
      have m_5177 : fl ∈ L_5166 := g_5169.1.1 fl m_5159
      have f_5179 : F_5167 a_5150 = rw7 G ((A.1.2.2.2.2.2 f9)) := (g_5169.2.2.1 a_5150 m_5163).1.trans f_5165
      have lt_5181 := (g_5169.2.2.1 a_5150 m_5163).2
      have m_5180 : a_5150 ∈ L_5166 := g_5169.1.1 a_5150 m_5163
      have had_5182 : ∀ i, i < 166 → F_5167 (ad i) = _ := fun i hi => (g_5169.2.2.1 (ad i) (hg_5162.1 _ (hL i hi))).1.trans (had_5161 i hi)
      have hg_5183 := hg_5162.step g_5169.1 hw.2.2.1
      have C0 := C0.grow g_5169.1 hw.2.2.1
      have hw := hw1
      have m_5184 : a_5168 ∈ L_5166 := g_5169.2.2.2.1
      have f_5185 : F_5167 a_5168 = rw7 G (((loR A.1.2.2.2.2.2)) g9) := g_5169.2.1
      have f_5186 : F_5167 a_5168 = rw7 G ((A.1.2.2.2.2.2 g9)) := f_5185.trans (congrArg (rw7 G) (loR_at A.1.2.2.2.2.2 (by omega)))
      refine q_callr hw (q_runS (As := [.int (nI (A.1.1)), .ref a_5150, .ref a_5168]) (c_L_bracket l G L_5166 F_5167 A.1.1 a_5150 a_5168 ((A.1.2.2.2.2.2 f9)) ((A.1.2.2.2.2.2 g9)) m_5180 f_5179 m_5184 f_5186 (by omega)) C0 hw sw_L_40 rfl hl.1 rfl (Nat.le_of_ble_eq_true rfl) dL_done_180 ⟨by decide, by decide⟩ ⟨(by show 2 + 5 ≤ 115; omega), (by show 14 + 35 ≤ 805; omega)⟩) (fun L_5187 F_5188 a_5189 H locs g_5190 hw1 => ?_)
      have hge_a_5189 : s.heap.size ≤ a_5189 := Nat.le_trans hw.2.2.1 g_5190.2.2.2.2
      have f_5191 : F_5188 nu = nE G A.1.1 A.1.2.1 A.1.2.2.1 A.1.2.2.2.1 (A.1.2.2.2.2.1 + 1) A.2.1.1 := (g_5190.2.2.1 nu m_5171).1.trans f_5170
      have lt_5193 := (g_5190.2.2.1 nu m_5171).2
      have m_5192 : nu ∈ L_5187 := g_5190.1.1 nu m_5171
      have f_5194 : F_5188 fi = pcF G ((loR A.1.2.2.2.2.2)) := (g_5190.2.2.1 fi m_5174).1.trans f_5173
      have lt_5196 := (g_5190.2.2.1 fi m_5174).2
      have m_5195 : fi ∈ L_5187 := g_5190.1.1 fi m_5174
      have f_5197 : F_5188 fl = pcF G ((hiR A.1.2.2.2.2.2)) := (g_5190.2.2.1 fl m_5177).1.trans f_5176
      have lt_5199 := (g_5190.2.2.1 fl m_5177).2
      have m_5198 : fl ∈ L_5187 := g_5190.1.1 fl m_5177
      have had_5200 : ∀ i, i < 166 → F_5188 (ad i) = _ := fun i hi => (g_5190.2.2.1 (ad i) (hg_5183.1 _ (hL i hi))).1.trans (had_5182 i hi)
      have hg_5201 := hg_5183.step g_5190.1 hw.2.2.1
      have C0 := C0.grow g_5190.1 hw.2.2.1
      have hw := hw1
      have m_5202 : a_5189 ∈ L_5187 := g_5190.2.2.2.1
      have f_5203 : F_5188 a_5189 = rw7 G ((m_brM ((A.1.2.2.2.2.2 f9)) ((A.1.2.2.2.2.2 g9)) A.1.1)) := g_5190.2.1
      refine lv_iload hx hb dL_done_183 (lv_at hl 0 rfl) ?_
      obtain ⟨F_5204, hw, f_5205, o_5206⟩ := hw.rowE f_5203 (v := (ordR 98 f9 g9 A.1.1 A.1.2.2.2.2.2)) (fun k hk => congrFun (br_eq (hok f9 hf9).1 (hok f9 hf9).2 (hok g9 hg9).1 (hok g9 hg9).2 hc) k)
      have f_5207 : F_5204 nu = nE G A.1.1 A.1.2.1 A.1.2.2.1 A.1.2.2.2.1 (A.1.2.2.2.2.1 + 1) A.2.1.1 := (o_5206 nu (by omega)).trans f_5191
      have f_5208 : F_5204 fi = pcF G ((loR A.1.2.2.2.2.2)) := (o_5206 fi (by omega)).trans f_5194
      refine q_calli hw (q_runS (As := [.ref nu, .ref fi, .int (nI (t9)), .ref a_5189, .int (nI (2))]) (c_L_put l G L_5187 F_5204 nu fi a_5189 t9 2 A.1.1 A.1.2.1 A.1.2.2.1 A.1.2.2.2.1 (A.1.2.2.2.2.1 + 1) A.2.1.1 ((loR A.1.2.2.2.2.2)) ((ordR 98 f9 g9 A.1.1 A.1.2.2.2.2.2)) m_5192 m_5195 m_5202 f_5207 f_5208 f_5205  (by omega) (by omega) (by omega)) C0 hw sw_L_52 rfl hl.1 rfl (Nat.le_of_ble_eq_true rfl) dL_done_185 ⟨by decide, by decide⟩ ⟨(by show 7 + 0 ≤ 115; omega), (by show 49 + 0 ≤ 805; omega)⟩) rfl rfl (fun r_5211 F_5209 H locs hw hp_5210 => ?_)
      obtain ⟨h_5212, h_5213, h_5214, h_5215⟩ := hp_5210
      subst h_5212
      have f_5216 : F_5204 fl = pcF G ((hiR A.1.2.2.2.2.2)) := (o_5206 fl (by omega)).trans f_5197
      have had_5217 : ∀ i, i < 166 → F_5209 (ad i) = _ := fun i hi => (h_5215 (ad i) (Ne.symm (hna i hi)) (Ne.symm (hfa i hi))).trans ((o_5206 (ad i) (Ne.symm (show a_5189 ≠ ad i by have := hLs (ad i) (hL i hi); omega))).trans (had_5200 i hi))
      have f_5218 : F_5209 fl = pcF G ((hiR A.1.2.2.2.2.2)) := (h_5215 fl (by omega) (by omega)).trans f_5216
      refine lv_icmp_ne (tgt := 195) hx hb dL_done_188 (by decide) (fun c_188 => ?_) (fun c_188 => ?_)
      · skip
        exact absurd rfl c_188
      · skip
        refine lv_iconst (v := nI 1) hx hb dL_done_191 (by decide) ?_
        refine lv_goto (tgt := 196) hx hb dL_done_192 (by decide) ?_
        exact r_iG C0 hg_5201 hr hlk hw (v := nI 1) rfl ⟨rfl, (aSave A (ordS 98 f9 g9 t9 A.1)), ⟨(h_5140.keep (fun i hi => (had_5217 i hi))), okA_save hA (okS_ord (Or.inl rfl) hf9 hg9 hA.1), okFl_up (A := A) (t := t9) rfl hFl (fun h9 => absurd h9 (by omega)), h_5213.trans (by rw [← sv_1 A.2.1 A.1 hh6]; rfl), h_5214.trans (congrArg (pcF G) (loR_u A.1.2.2.2.2.2 ht9 _)), f_5218.trans (congrArg (pcF G) (hiR_k A.1.2.2.2.2.2 ht9 _))⟩, Nat.sub_le _ _⟩ (show 7 ≤ 115 by omega) (show 49 ≤ 805 by omega) dL_done_196 hQ
    · skip
      refine lv_iconst (v := nI 1) hx hb dL_done_90 (by decide) ?_
      exact r_iG C0 hg0 hr hlk hw (v := nI 1) rfl ⟨rfl, A, ⟨(hX.keep (fun i hi => (had0 i hi))), hA, hFl, fnu, ffi, ffl⟩, Nat.le_refl _⟩ (show 0 ≤ 115 by omega) (show 0 ≤ 805 by omega) dL_done_91 hQ
set_option maxHeartbeats 4000000 in
set_option maxRecDepth 100000 in
theorem c_L_done_1 (l : Launch) (G : Gl) (L : List Nat) (F : Nat → va_E) (ad : Nat → Nat) (nu fi fl : Nat) (hS : LSQ L ad nu fi fl) (A : AB) (hX : XW G F ad A) (hA : okA A) (hFl : okFl A) (hN : LNQ G F nu fi fl A) (f9 g9 t9 : Nat) (y9 : Int32) (hf9 : f9 < 6) (hg9 : g9 < 6) (ht9 : t9 < 6) : CI l yL_done cL_done 13 (some .boolean) rm_L_done G L F [.ref (ad 0), .int (nI (1)), .int (nI (f9)), .int (nI (g9)), .int (nI (t9)), .int (y9), .ref nu, .ref fi, .ref fl] (fun r F1 => r = nI 1 ∧ ∃ A2, LWQ G F1 ad nu fi fl A2 ∧ A2.1.2.1 ≤ A.1.2.1) := by
  refine CG_of (by decide) (Nat.le_of_ble_eq_true rfl) rfl ?_
  intro p e s m args below meth c Q C0 hr hlk hnm hQ hw ls hl
  obtain ⟨hL, hin, mnu, mfi, mfl, hnf, hnl, hff, hna, hfa, hga⟩ := id hS
  obtain ⟨fnu, ffi, ffl⟩ := id hN
  obtain ⟨⟨hc2, hc, hpu, hok⟩, ⟨hh6, hho⟩, -⟩ := id hA
  have had0 : ∀ i, i < 166 → F (ad i) = F (ad i) := fun _ _ => rfl
  have hx := C0.x
  have hb := C0.b
  have hg0 := gr.rfl (L := L) s.heap.size
  have hLs : ∀ q ∈ L, q < s.heap.size := fun q hq => hw.lt hq
  have hfr0 : ∀ q ∈ L, F q = F q := fun _ _ => rfl
  have hlt_nu := hLs nu mnu
  have hlt_fi := hLs fi mfi
  have hlt_fl := hLs fl mfl
  refine lv_aload hx hb dL_done_0 (lv_at hl 6 rfl) ?_
  refine lv_iconst (v := nI 0) hx hb dL_done_2 (by decide) ?_
  refine q_iald C0 hw mnu fnu (0) (by omega) (by decide) (v := nI (A.1.1)) rfl dL_done_3 ?_
  refine lv_istore (lv' := [(9, .int (nI (A.1.1))), (0, .ref (ad 0)), (1, .int (nI (1))), (2, .int (nI (f9))), (3, .int (nI (g9))), (4, .int (nI (t9))), (5, .int (y9)), (6, .ref nu), (7, .ref fi), (8, .ref fl)]) hx hb dL_done_4 hl (by decide) rfl (fun ls hl => ?_)
  refine lv_iload_n hx hb dL_done_6 rfl (lv_at hl 2 rfl) ?_
  refine n_if_ne (tgt := 14) hx hb dL_done_7 (by decide) (by decide) (fun c_7 => ?_) (fun c_7 => ?_)
  · skip
    refine lv_iload_n hx hb dL_done_14 rfl (lv_at hl 2 rfl) ?_
    refine lv_iconst (v := nI 3) hx hb dL_done_15 (by decide) ?_
    refine n_icmp_ge (tgt := 23) hx hb dL_done_16 (by decide) (by decide) (by decide) (fun c_16 => ?_) (fun c_16 => ?_)
    · skip
      exact absurd c_16 (by omega)
    · skip
      refine lv_iconst (v := nI 1) hx hb dL_done_19 (by decide) ?_
      refine lv_goto (tgt := 76) hx hb dL_done_20 (by decide) ?_
      refine lv_istore (lv' := [(10, .int (nI (1))), (9, .int (nI (A.1.1))), (0, .ref (ad 0)), (1, .int (nI (1))), (2, .int (nI (f9))), (3, .int (nI (g9))), (4, .int (nI (t9))), (5, .int (y9)), (6, .ref nu), (7, .ref fi), (8, .ref fl)]) hx hb dL_done_76 hl (by decide) rfl (fun ls hl => ?_)
      refine lv_aload hx hb dL_done_78 (lv_at hl 8 rfl) ?_
      refine lv_iconst (v := nI 1) hx hb dL_done_80 (by decide) ?_
      refine q_iald C0 hw mnu fnu (1) (by omega) (by decide) (v := nI (A.1.2.1)) rfl dL_done_81 ?_
      refine lv_iload hx hb dL_done_82 (lv_at hl 1 rfl) ?_
      refine lv_iload hx hb dL_done_84 (lv_at hl 0 rfl) ?_
      refine n_imul hx hb dL_done_86 ?_
      refine n_icmp_ge (tgt := 92) hx hb dL_done_87 (by decide) (by omega) (by omega) (fun c_87 => ?_) (fun c_87 => ?_)
      · skip
        refine lv_iload_n hx hb dL_done_92 rfl (lv_at hl 3 rfl) ?_
        refine lv_tableIn (off := 104) (tgt := 197) hx hb dL_done_93 (by decide) (by decide) rfl (by decide) ?_
        refine lv_aload_n hx hb dL_done_197 rfl (lv_at hl 2 rfl) ?_
        refine lv_iload_n hx hb dL_done_198 rfl (lv_at hl 4 rfl) ?_
        refine lv_iload_n hx hb dL_done_199 rfl (lv_at hl 5 rfl) ?_
        refine lv_iload hx hb dL_done_200 (lv_at hl 6 rfl) ?_
        have hX_5219 : XW G F ad A := (hX.keep (fun i hi => (had0 i hi)))
        refine q_calli hw (q_runV (As := [.int (nI (f9)), .int (nI (g9)), .int (nI (t9))]) (c_X5_sum l G L F ad hL hin A f9 g9 t9 hf9 hg9 ht9 (by omega) hX_5219 hA) C0 hw vw_L_56 (hL 0 (by decide)) hX_5219.1 rfl rfl rfl hl.1 rfl (Nat.le_of_ble_eq_true rfl) dL_done_202 ⟨by decide, by decide⟩ ⟨(by show 0 + 0 ≤ 115; omega), (by show 0 + 0 ≤ 805; omega)⟩) rfl rfl (fun r_5222 F_5220 H locs hw hp_5221 => ?_)
        obtain ⟨h_5223, h_5224, h_5225⟩ := hp_5221
        subst h_5223
        have f_5226 : F_5220 nu = nE G A.1.1 A.1.2.1 A.1.2.2.1 A.1.2.2.2.1 A.1.2.2.2.2.1 A.2.1.1 := (h_5225 nu (fun i hi => hna i hi)).trans fnu
        have f_5227 : F_5220 fi = pcF G ((loR A.1.2.2.2.2.2)) := (h_5225 fi (fun i hi => hfa i hi)).trans ffi
        have f_5228 : F_5220 fl = pcF G ((hiR A.1.2.2.2.2.2)) := (h_5225 fl (fun i hi => hga i hi)).trans ffl
        have had_5229 : ∀ i, i < 166 → F_5220 (ad i) = F_5220 (ad i) := fun _ _ => rfl
        refine lv_aload hx hb dL_done_205 (lv_at hl 8 rfl) ?_
        refine lv_aload hx hb dL_done_207 (lv_at hl 9 rfl) ?_
        refine lv_iload hx hb dL_done_209 (lv_at hl 6 rfl) ?_
        refine lv_aload hx hb dL_done_211 (lv_at hl 9 rfl) ?_
        refine lv_iload_n hx hb dL_done_213 rfl (lv_at hl 4 rfl) ?_
        refine q_callr hw (q_runS (As := [.ref fi, .int (nI (f9))]) (c_L_get l G L F_5220 fi f9 ((loR A.1.2.2.2.2.2)) mfi f_5227 (by omega)) C0 hw sw_L_48 rfl hl.1 rfl (Nat.le_of_ble_eq_true rfl) dL_done_214 ⟨by decide, by decide⟩ ⟨(by show 0 + 1 ≤ 115; omega), (by show 0 + 7 ≤ 805; omega)⟩) (fun L_5230 F_5231 a_5232 H locs g_5233 hw1 => ?_)
        have hge_a_5232 : s.heap.size ≤ a_5232 := Nat.le_trans hw.2.2.1 g_5233.2.2.2.2
        have f_5234 : F_5231 nu = nE G A.1.1 A.1.2.1 A.1.2.2.1 A.1.2.2.2.1 A.1.2.2.2.2.1 A.2.1.1 := (g_5233.2.2.1 nu mnu).1.trans f_5226
        have lt_5236 := (g_5233.2.2.1 nu mnu).2
        have m_5235 : nu ∈ L_5230 := g_5233.1.1 nu mnu
        have f_5237 : F_5231 fi = pcF G ((loR A.1.2.2.2.2.2)) := (g_5233.2.2.1 fi mfi).1.trans f_5227
        have lt_5239 := (g_5233.2.2.1 fi mfi).2
        have m_5238 : fi ∈ L_5230 := g_5233.1.1 fi mfi
        have f_5240 : F_5231 fl = pcF G ((hiR A.1.2.2.2.2.2)) := (g_5233.2.2.1 fl mfl).1.trans f_5228
        have lt_5242 := (g_5233.2.2.1 fl mfl).2
        have m_5241 : fl ∈ L_5230 := g_5233.1.1 fl mfl
        have had_5243 : ∀ i, i < 166 → F_5231 (ad i) = _ := fun i hi => (g_5233.2.2.1 (ad i) (hg0.1 _ (hL i hi))).1.trans (had_5229 i hi)
        have hg_5244 := hg0.step g_5233.1 hw.2.2.1
        have C0 := C0.grow g_5233.1 hw.2.2.1
        have hw := hw1
        have m_5245 : a_5232 ∈ L_5230 := g_5233.2.2.2.1
        have f_5246 : F_5231 a_5232 = rw7 G (((loR A.1.2.2.2.2.2)) f9) := g_5233.2.1
        have f_5247 : F_5231 a_5232 = rw7 G ((A.1.2.2.2.2.2 f9)) := f_5246.trans (congrArg (rw7 G) (loR_at A.1.2.2.2.2.2 (by omega)))
        refine lv_aload hx hb dL_done_217 (lv_at hl 9 rfl) ?_
        refine lv_iload_n hx hb dL_done_219 rfl (lv_at hl 5 rfl) ?_
        refine q_callr hw (q_runS (As := [.ref fi, .int (nI (g9))]) (c_L_get l G L_5230 F_5231 fi g9 ((loR A.1.2.2.2.2.2)) m_5238 f_5237 (by omega)) C0 hw sw_L_48 rfl hl.1 rfl (Nat.le_of_ble_eq_true rfl) dL_done_220 ⟨by decide, by decide⟩ ⟨(by show 1 + 1 ≤ 115; omega), (by show 7 + 7 ≤ 805; omega)⟩) (fun L_5248 F_5249 a_5250 H locs g_5251 hw1 => ?_)
        have hge_a_5250 : s.heap.size ≤ a_5250 := Nat.le_trans hw.2.2.1 g_5251.2.2.2.2
        have f_5252 : F_5249 nu = nE G A.1.1 A.1.2.1 A.1.2.2.1 A.1.2.2.2.1 A.1.2.2.2.2.1 A.2.1.1 := (g_5251.2.2.1 nu m_5235).1.trans f_5234
        have lt_5254 := (g_5251.2.2.1 nu m_5235).2
        have m_5253 : nu ∈ L_5248 := g_5251.1.1 nu m_5235
        have f_5255 : F_5249 fi = pcF G ((loR A.1.2.2.2.2.2)) := (g_5251.2.2.1 fi m_5238).1.trans f_5237
        have lt_5257 := (g_5251.2.2.1 fi m_5238).2
        have m_5256 : fi ∈ L_5248 := g_5251.1.1 fi m_5238
        have f_5258 : F_5249 fl = pcF G ((hiR A.1.2.2.2.2.2)) := (g_5251.2.2.1 fl m_5241).1.trans f_5240
        have lt_5260 := (g_5251.2.2.1 fl m_5241).2
        have m_5259 : fl ∈ L_5248 := g_5251.1.1 fl m_5241
        have f_5261 : F_5249 a_5232 = rw7 G ((A.1.2.2.2.2.2 f9)) := (g_5251.2.2.1 a_5232 m_5245).1.trans f_5247
        have lt_5263 := (g_5251.2.2.1 a_5232 m_5245).2
        have m_5262 : a_5232 ∈ L_5248 := g_5251.1.1 a_5232 m_5245
        have had_5264 : ∀ i, i < 166 → F_5249 (ad i) = _ := fun i hi => (g_5251.2.2.1 (ad i) (hg_5244.1 _ (hL i hi))).1.trans (had_5243 i hi)
        have hg_5265 := hg_5244.step g_5251.1 hw.2.2.1
        have C0 := C0.grow g_5251.1 hw.2.2.1
        have hw := hw1
        have m_5266 : a_5250 ∈ L_5248 := g_5251.2.2.2.1
        have f_5267 : F_5249 a_5250 = rw7 G (((loR A.1.2.2.2.2.2)) g9) := g_5251.2.1
        have f_5268 : F_5249 a_5250 = rw7 G ((A.1.2.2.2.2.2 g9)) := f_5267.trans (congrArg (rw7 G) (loR_at A.1.2.2.2.2.2 (by omega)))
        refine lv_iconst (v := nI 1) hx hb dL_done_223 (by decide) ?_
        refine q_callr hw (q_runS (As := [.ref a_5232, .ref a_5250, .int (nI (1))]) (c_L_plus l G L_5248 F_5249 a_5232 a_5250 ((A.1.2.2.2.2.2 f9)) ((A.1.2.2.2.2.2 g9)) (nI 1) m_5262 f_5261 m_5266 f_5268) C0 hw sw_L_22 rfl hl.1 rfl (Nat.le_of_ble_eq_true rfl) dL_done_224 ⟨by decide, by decide⟩ ⟨(by show 2 + 1 ≤ 115; omega), (by show 14 + 7 ≤ 805; omega)⟩) (fun L_5269 F_5270 a_5271 H locs g_5272 hw1 => ?_)
        have hge_a_5271 : s.heap.size ≤ a_5271 := Nat.le_trans hw.2.2.1 g_5272.2.2.2.2
        have f_5273 : F_5270 nu = nE G A.1.1 A.1.2.1 A.1.2.2.1 A.1.2.2.2.1 A.1.2.2.2.2.1 A.2.1.1 := (g_5272.2.2.1 nu m_5253).1.trans f_5252
        have lt_5275 := (g_5272.2.2.1 nu m_5253).2
        have m_5274 : nu ∈ L_5269 := g_5272.1.1 nu m_5253
        have f_5276 : F_5270 fi = pcF G ((loR A.1.2.2.2.2.2)) := (g_5272.2.2.1 fi m_5256).1.trans f_5255
        have lt_5278 := (g_5272.2.2.1 fi m_5256).2
        have m_5277 : fi ∈ L_5269 := g_5272.1.1 fi m_5256
        have f_5279 : F_5270 fl = pcF G ((hiR A.1.2.2.2.2.2)) := (g_5272.2.2.1 fl m_5259).1.trans f_5258
        have lt_5281 := (g_5272.2.2.1 fl m_5259).2
        have m_5280 : fl ∈ L_5269 := g_5272.1.1 fl m_5259
        have had_5282 : ∀ i, i < 166 → F_5270 (ad i) = _ := fun i hi => (g_5272.2.2.1 (ad i) (hg_5265.1 _ (hL i hi))).1.trans (had_5264 i hi)
        have hg_5283 := hg_5265.step g_5272.1 hw.2.2.1
        have C0 := C0.grow g_5272.1 hw.2.2.1
        have hw := hw1
        have m_5284 : a_5271 ∈ L_5269 := g_5272.2.2.2.1
        have f_5285 : F_5270 a_5271 = rw7 G ((m_am ((A.1.2.2.2.2.2 f9)) ((A.1.2.2.2.2.2 g9)) (zi (nI 1)))) := g_5272.2.1
        refine lv_iload hx hb dL_done_227 (lv_at hl 0 rfl) ?_
        obtain ⟨F_5286, hw, f_5287, o_5288⟩ := hw.rowE f_5285 (v := (ordR 115 f9 g9 A.1.1 A.1.2.2.2.2.2)) (fun k hk => congrFun ((congrArg (m_am (A.1.2.2.2.2.2 f9) (A.1.2.2.2.2.2 g9)) zi_1).trans (am_1 (A.1.2.2.2.2.2 f9) (A.1.2.2.2.2.2 g9))) k)
        have f_5289 : F_5286 nu = nE G A.1.1 A.1.2.1 A.1.2.2.1 A.1.2.2.2.1 A.1.2.2.2.2.1 A.2.1.1 := (o_5288 nu (by omega)).trans f_5273
        have f_5290 : F_5286 fi = pcF G ((loR A.1.2.2.2.2.2)) := (o_5288 fi (by omega)).trans f_5276
        refine q_calli hw (q_runS (As := [.ref nu, .ref fi, .int (nI (t9)), .ref a_5271, .int (nI (1))]) (c_L_put l G L_5269 F_5286 nu fi a_5271 t9 1 A.1.1 A.1.2.1 A.1.2.2.1 A.1.2.2.2.1 A.1.2.2.2.2.1 A.2.1.1 ((loR A.1.2.2.2.2.2)) ((ordR 115 f9 g9 A.1.1 A.1.2.2.2.2.2)) m_5274 m_5277 m_5284 f_5289 f_5290 f_5287  (by omega) (by omega) (by omega)) C0 hw sw_L_52 rfl hl.1 rfl (Nat.le_of_ble_eq_true rfl) dL_done_229 ⟨by decide, by decide⟩ ⟨(by show 3 + 0 ≤ 115; omega), (by show 21 + 0 ≤ 805; omega)⟩) rfl rfl (fun r_5293 F_5291 H locs hw hp_5292 => ?_)
        obtain ⟨h_5294, h_5295, h_5296, h_5297⟩ := hp_5292
        subst h_5294
        have f_5298 : F_5286 fl = pcF G ((hiR A.1.2.2.2.2.2)) := (o_5288 fl (by omega)).trans f_5279
        have had_5299 : ∀ i, i < 166 → F_5291 (ad i) = _ := fun i hi => (h_5297 (ad i) (Ne.symm (hna i hi)) (Ne.symm (hfa i hi))).trans ((o_5288 (ad i) (Ne.symm (show a_5271 ≠ ad i by have := hLs (ad i) (hL i hi); omega))).trans (had_5282 i hi))
        have f_5300 : F_5291 fl = pcF G ((hiR A.1.2.2.2.2.2)) := (h_5297 fl (by omega) (by omega)).trans f_5298
        refine lv_icmp_ne (tgt := 239) hx hb dL_done_232 (by decide) (fun c_232 => ?_) (fun c_232 => ?_)
        · skip
          exact absurd rfl c_232
        · skip
          refine lv_iconst (v := nI 1) hx hb dL_done_235 (by decide) ?_
          refine lv_goto (tgt := 240) hx hb dL_done_236 (by decide) ?_
          exact r_iG C0 hg_5283 hr hlk hw (v := nI 1) rfl ⟨rfl, (aSave A (ordS 115 f9 g9 t9 A.1)), ⟨(h_5224.keep (fun i hi => (had_5299 i hi))), okA_save hA (okS_ord (Or.inr (Or.inl rfl)) hf9 hg9 hA.1), okFl_up (A := A) (t := t9) rfl hFl (fun h9 => absurd h9 (by omega)), h_5295.trans (by rw [← sv_1 A.2.1 A.1 hh6]; rfl), h_5296.trans (congrArg (pcF G) (loR_u A.1.2.2.2.2.2 ht9 _)), f_5300.trans (congrArg (pcF G) (hiR_k A.1.2.2.2.2.2 ht9 _))⟩, Nat.sub_le _ _⟩ (show 3 ≤ 115 by omega) (show 21 ≤ 805 by omega) dL_done_240 hQ
      · skip
        refine lv_iconst (v := nI 1) hx hb dL_done_90 (by decide) ?_
        exact r_iG C0 hg0 hr hlk hw (v := nI 1) rfl ⟨rfl, A, ⟨(hX.keep (fun i hi => (had0 i hi))), hA, hFl, fnu, ffi, ffl⟩, Nat.le_refl _⟩ (show 0 ≤ 115 by omega) (show 0 ≤ 805 by omega) dL_done_91 hQ
  · skip
    exact absurd c_7 (by omega)
set_option maxHeartbeats 4000000 in
set_option maxRecDepth 100000 in
theorem c_L_done_2 (l : Launch) (G : Gl) (L : List Nat) (F : Nat → va_E) (ad : Nat → Nat) (nu fi fl : Nat) (hS : LSQ L ad nu fi fl) (A : AB) (hX : XW G F ad A) (hA : okA A) (hFl : okFl A) (hN : LNQ G F nu fi fl A) (f9 g9 t9 : Nat) (y9 : Int32) (hf9 : f9 < 6) (hg9 : g9 < 6) (ht9 : t9 < 6) : CI l yL_done cL_done 13 (some .boolean) rm_L_done G L F [.ref (ad 0), .int (nI (2)), .int (nI (f9)), .int (nI (g9)), .int (nI (t9)), .int (y9), .ref nu, .ref fi, .ref fl] (fun r F1 => r = nI 1 ∧ ∃ A2, LWQ G F1 ad nu fi fl A2 ∧ A2.1.2.1 ≤ A.1.2.1) := by
  refine CG_of (by decide) (Nat.le_of_ble_eq_true rfl) rfl ?_
  intro p e s m args below meth c Q C0 hr hlk hnm hQ hw ls hl
  obtain ⟨hL, hin, mnu, mfi, mfl, hnf, hnl, hff, hna, hfa, hga⟩ := id hS
  obtain ⟨fnu, ffi, ffl⟩ := id hN
  obtain ⟨⟨hc2, hc, hpu, hok⟩, ⟨hh6, hho⟩, -⟩ := id hA
  have had0 : ∀ i, i < 166 → F (ad i) = F (ad i) := fun _ _ => rfl
  have hx := C0.x
  have hb := C0.b
  have hg0 := gr.rfl (L := L) s.heap.size
  have hLs : ∀ q ∈ L, q < s.heap.size := fun q hq => hw.lt hq
  have hfr0 : ∀ q ∈ L, F q = F q := fun _ _ => rfl
  have hlt_nu := hLs nu mnu
  have hlt_fi := hLs fi mfi
  have hlt_fl := hLs fl mfl
  refine lv_aload hx hb dL_done_0 (lv_at hl 6 rfl) ?_
  refine lv_iconst (v := nI 0) hx hb dL_done_2 (by decide) ?_
  refine q_iald C0 hw mnu fnu (0) (by omega) (by decide) (v := nI (A.1.1)) rfl dL_done_3 ?_
  refine lv_istore (lv' := [(9, .int (nI (A.1.1))), (0, .ref (ad 0)), (1, .int (nI (2))), (2, .int (nI (f9))), (3, .int (nI (g9))), (4, .int (nI (t9))), (5, .int (y9)), (6, .ref nu), (7, .ref fi), (8, .ref fl)]) hx hb dL_done_4 hl (by decide) rfl (fun ls hl => ?_)
  refine lv_iload_n hx hb dL_done_6 rfl (lv_at hl 2 rfl) ?_
  refine n_if_ne (tgt := 14) hx hb dL_done_7 (by decide) (by decide) (fun c_7 => ?_) (fun c_7 => ?_)
  · skip
    refine lv_iload_n hx hb dL_done_14 rfl (lv_at hl 2 rfl) ?_
    refine lv_iconst (v := nI 3) hx hb dL_done_15 (by decide) ?_
    refine n_icmp_ge (tgt := 23) hx hb dL_done_16 (by decide) (by decide) (by decide) (fun c_16 => ?_) (fun c_16 => ?_)
    · skip
      exact absurd c_16 (by omega)
    · skip
      refine lv_iconst (v := nI 1) hx hb dL_done_19 (by decide) ?_
      refine lv_goto (tgt := 76) hx hb dL_done_20 (by decide) ?_
      refine lv_istore (lv' := [(10, .int (nI (1))), (9, .int (nI (A.1.1))), (0, .ref (ad 0)), (1, .int (nI (2))), (2, .int (nI (f9))), (3, .int (nI (g9))), (4, .int (nI (t9))), (5, .int (y9)), (6, .ref nu), (7, .ref fi), (8, .ref fl)]) hx hb dL_done_76 hl (by decide) rfl (fun ls hl => ?_)
      refine lv_aload hx hb dL_done_78 (lv_at hl 8 rfl) ?_
      refine lv_iconst (v := nI 1) hx hb dL_done_80 (by decide) ?_
      refine q_iald C0 hw mnu fnu (1) (by omega) (by decide) (v := nI (A.1.2.1)) rfl dL_done_81 ?_
      refine lv_iload hx hb dL_done_82 (lv_at hl 1 rfl) ?_
      refine lv_iload hx hb dL_done_84 (lv_at hl 0 rfl) ?_
      refine n_imul hx hb dL_done_86 ?_
      refine n_icmp_ge (tgt := 92) hx hb dL_done_87 (by decide) (by omega) (by omega) (fun c_87 => ?_) (fun c_87 => ?_)
      · skip
        refine lv_iload_n hx hb dL_done_92 rfl (lv_at hl 3 rfl) ?_
        refine lv_tableIn (off := 148) (tgt := 241) hx hb dL_done_93 (by decide) (by decide) rfl (by decide) ?_
        refine lv_aload_n hx hb dL_done_241 rfl (lv_at hl 2 rfl) ?_
        refine lv_iload_n hx hb dL_done_242 rfl (lv_at hl 4 rfl) ?_
        refine lv_iload hx hb dL_done_243 (lv_at hl 7 rfl) ?_
        refine lv_iload hx hb dL_done_245 (lv_at hl 6 rfl) ?_
        have hX_5301 : XW G F ad A := (hX.keep (fun i hi => (had0 i hi)))
        refine q_calli hw (q_runV (As := [.int (nI (f9)), .int (y9), .int (nI (t9))]) (c_X5_scale l G L F ad hL hin A f9 t9 y9 hf9 ht9 (by omega) hX_5301 hA) C0 hw vw_L_59 (hL 0 (by decide)) hX_5301.1 rfl rfl rfl hl.1 rfl (Nat.le_of_ble_eq_true rfl) dL_done_247 ⟨by decide, by decide⟩ ⟨(by show 0 + 0 ≤ 115; omega), (by show 0 + 0 ≤ 805; omega)⟩) rfl rfl (fun r_5304 F_5302 H locs hw hp_5303 => ?_)
        obtain ⟨h_5305, h_5306, h_5307⟩ := hp_5303
        subst h_5305
        have f_5308 : F_5302 nu = nE G A.1.1 A.1.2.1 A.1.2.2.1 A.1.2.2.2.1 A.1.2.2.2.2.1 A.2.1.1 := (h_5307 nu (fun i hi => hna i hi)).trans fnu
        have f_5309 : F_5302 fi = pcF G ((loR A.1.2.2.2.2.2)) := (h_5307 fi (fun i hi => hfa i hi)).trans ffi
        have f_5310 : F_5302 fl = pcF G ((hiR A.1.2.2.2.2.2)) := (h_5307 fl (fun i hi => hga i hi)).trans ffl
        have had_5311 : ∀ i, i < 166 → F_5302 (ad i) = F_5302 (ad i) := fun _ _ => rfl
        refine lv_aload hx hb dL_done_250 (lv_at hl 8 rfl) ?_
        refine lv_aload hx hb dL_done_252 (lv_at hl 9 rfl) ?_
        refine lv_iload hx hb dL_done_254 (lv_at hl 6 rfl) ?_
        refine lv_bipush (v := nI 7) hx hb dL_done_256 (by decide) ?_
        refine k_row7 C0 hw (by show 0 + 1 ≤ 115; omega) (by show 0 + 7 ≤ 805; omega) dL_done_258 (fun L_5312 F_5313 a_5314 H g_5315 hw1 => ?_)
        have hge_a_5314 : s.heap.size ≤ a_5314 := Nat.le_trans hw.2.2.1 g_5315.2.2.2.2
        have f_5316 : F_5313 nu = nE G A.1.1 A.1.2.1 A.1.2.2.1 A.1.2.2.2.1 A.1.2.2.2.2.1 A.2.1.1 := (g_5315.2.2.1 nu mnu).1.trans f_5308
        have lt_5318 := (g_5315.2.2.1 nu mnu).2
        have m_5317 : nu ∈ L_5312 := g_5315.1.1 nu mnu
        have f_5319 : F_5313 fi = pcF G ((loR A.1.2.2.2.2.2)) := (g_5315.2.2.1 fi mfi).1.trans f_5309
        have lt_5321 := (g_5315.2.2.1 fi mfi).2
        have m_5320 : fi ∈ L_5312 := g_5315.1.1 fi mfi
        have f_5322 : F_5313 fl = pcF G ((hiR A.1.2.2.2.2.2)) := (g_5315.2.2.1 fl mfl).1.trans f_5310
        have lt_5324 := (g_5315.2.2.1 fl mfl).2
        have m_5323 : fl ∈ L_5312 := g_5315.1.1 fl mfl
        have had_5325 : ∀ i, i < 166 → F_5313 (ad i) = _ := fun i hi => (g_5315.2.2.1 (ad i) (hg0.1 _ (hL i hi))).1.trans (had_5311 i hi)
        have hg_5326 := hg0.step g_5315.1 hw.2.2.1
        have C0 := C0.grow g_5315.1 hw.2.2.1
        have hw := hw1
        have m_5327 : a_5314 ∈ L_5312 := g_5315.2.2.2.1
        have f_5328 : F_5313 a_5314 = rw7 G ((fun _ => 0)) := g_5315.2.1
        refine lv_aload hx hb dL_done_260 (lv_at hl 9 rfl) ?_
        refine lv_iload_n hx hb dL_done_262 rfl (lv_at hl 4 rfl) ?_
        refine q_callr hw (q_runS (As := [.ref fi, .int (nI (f9))]) (c_L_get l G L_5312 F_5313 fi f9 ((loR A.1.2.2.2.2.2)) m_5320 f_5319 (by omega)) C0 hw sw_L_48 rfl hl.1 rfl (Nat.le_of_ble_eq_true rfl) dL_done_263 ⟨by decide, by decide⟩ ⟨(by show 1 + 1 ≤ 115; omega), (by show 7 + 7 ≤ 805; omega)⟩) (fun L_5329 F_5330 a_5331 H locs g_5332 hw1 => ?_)
        have hge_a_5331 : s.heap.size ≤ a_5331 := Nat.le_trans hw.2.2.1 g_5332.2.2.2.2
        have f_5333 : F_5330 nu = nE G A.1.1 A.1.2.1 A.1.2.2.1 A.1.2.2.2.1 A.1.2.2.2.2.1 A.2.1.1 := (g_5332.2.2.1 nu m_5317).1.trans f_5316
        have lt_5335 := (g_5332.2.2.1 nu m_5317).2
        have m_5334 : nu ∈ L_5329 := g_5332.1.1 nu m_5317
        have f_5336 : F_5330 fi = pcF G ((loR A.1.2.2.2.2.2)) := (g_5332.2.2.1 fi m_5320).1.trans f_5319
        have lt_5338 := (g_5332.2.2.1 fi m_5320).2
        have m_5337 : fi ∈ L_5329 := g_5332.1.1 fi m_5320
        have f_5339 : F_5330 fl = pcF G ((hiR A.1.2.2.2.2.2)) := (g_5332.2.2.1 fl m_5323).1.trans f_5322
        have lt_5341 := (g_5332.2.2.1 fl m_5323).2
        have m_5340 : fl ∈ L_5329 := g_5332.1.1 fl m_5323
        have f_5342 : F_5330 a_5314 = rw7 G ((fun _ => 0)) := (g_5332.2.2.1 a_5314 m_5327).1.trans f_5328
        have lt_5344 := (g_5332.2.2.1 a_5314 m_5327).2
        have m_5343 : a_5314 ∈ L_5329 := g_5332.1.1 a_5314 m_5327
        have had_5345 : ∀ i, i < 166 → F_5330 (ad i) = _ := fun i hi => (g_5332.2.2.1 (ad i) (hg_5326.1 _ (hL i hi))).1.trans (had_5325 i hi)
        have hg_5346 := hg_5326.step g_5332.1 hw.2.2.1
        have C0 := C0.grow g_5332.1 hw.2.2.1
        have hw := hw1
        have m_5347 : a_5331 ∈ L_5329 := g_5332.2.2.2.1
        have f_5348 : F_5330 a_5331 = rw7 G (((loR A.1.2.2.2.2.2)) f9) := g_5332.2.1
        have f_5349 : F_5330 a_5331 = rw7 G ((A.1.2.2.2.2.2 f9)) := f_5348.trans (congrArg (rw7 G) (loR_at A.1.2.2.2.2.2 (by omega)))
        refine lv_iload hx hb dL_done_266 (lv_at hl 7 rfl) ?_
        refine q_callr hw (q_runS (As := [.ref a_5314, .ref a_5331, .int (y9)]) (c_L_plus l G L_5329 F_5330 a_5314 a_5331 ((fun _ => 0)) ((A.1.2.2.2.2.2 f9)) (y9) m_5343 f_5342 m_5347 f_5349) C0 hw sw_L_22 rfl hl.1 rfl (Nat.le_of_ble_eq_true rfl) dL_done_268 ⟨by decide, by decide⟩ ⟨(by show 2 + 1 ≤ 115; omega), (by show 14 + 7 ≤ 805; omega)⟩) (fun L_5350 F_5351 a_5352 H locs g_5353 hw1 => ?_)
        have hge_a_5352 : s.heap.size ≤ a_5352 := Nat.le_trans hw.2.2.1 g_5353.2.2.2.2
        have f_5354 : F_5351 nu = nE G A.1.1 A.1.2.1 A.1.2.2.1 A.1.2.2.2.1 A.1.2.2.2.2.1 A.2.1.1 := (g_5353.2.2.1 nu m_5334).1.trans f_5333
        have lt_5356 := (g_5353.2.2.1 nu m_5334).2
        have m_5355 : nu ∈ L_5350 := g_5353.1.1 nu m_5334
        have f_5357 : F_5351 fi = pcF G ((loR A.1.2.2.2.2.2)) := (g_5353.2.2.1 fi m_5337).1.trans f_5336
        have lt_5359 := (g_5353.2.2.1 fi m_5337).2
        have m_5358 : fi ∈ L_5350 := g_5353.1.1 fi m_5337
        have f_5360 : F_5351 fl = pcF G ((hiR A.1.2.2.2.2.2)) := (g_5353.2.2.1 fl m_5340).1.trans f_5339
        have lt_5362 := (g_5353.2.2.1 fl m_5340).2
        have m_5361 : fl ∈ L_5350 := g_5353.1.1 fl m_5340
        have had_5363 : ∀ i, i < 166 → F_5351 (ad i) = _ := fun i hi => (g_5353.2.2.1 (ad i) (hg_5346.1 _ (hL i hi))).1.trans (had_5345 i hi)
        have hg_5364 := hg_5346.step g_5353.1 hw.2.2.1
        have C0 := C0.grow g_5353.1 hw.2.2.1
        have hw := hw1
        have m_5365 : a_5352 ∈ L_5350 := g_5353.2.2.2.1
        have f_5366 : F_5351 a_5352 = rw7 G ((m_am ((fun _ => 0)) ((A.1.2.2.2.2.2 f9)) (zi (y9)))) := g_5353.2.1
        refine lv_iload hx hb dL_done_271 (lv_at hl 0 rfl) ?_
        obtain ⟨F_5367, hw, f_5368, o_5369⟩ := hw.rowE f_5366 (v := (m_scale (A.1.2.2.2.2.2 f9) (zi y9))) (fun k hk => congrFun (am_0 (A.1.2.2.2.2.2 f9) (zi y9)) k)
        have f_5370 : F_5367 nu = nE G A.1.1 A.1.2.1 A.1.2.2.1 A.1.2.2.2.1 A.1.2.2.2.2.1 A.2.1.1 := (o_5369 nu (by omega)).trans f_5354
        have f_5371 : F_5367 fi = pcF G ((loR A.1.2.2.2.2.2)) := (o_5369 fi (by omega)).trans f_5357
        refine q_calli hw (q_runS (As := [.ref nu, .ref fi, .int (nI (t9)), .ref a_5352, .int (nI (1))]) (c_L_put l G L_5350 F_5367 nu fi a_5352 t9 1 A.1.1 A.1.2.1 A.1.2.2.1 A.1.2.2.2.1 A.1.2.2.2.2.1 A.2.1.1 ((loR A.1.2.2.2.2.2)) ((m_scale (A.1.2.2.2.2.2 f9) (zi y9))) m_5355 m_5358 m_5365 f_5370 f_5371 f_5368  (by omega) (by omega) (by omega)) C0 hw sw_L_52 rfl hl.1 rfl (Nat.le_of_ble_eq_true rfl) dL_done_273 ⟨by decide, by decide⟩ ⟨(by show 3 + 0 ≤ 115; omega), (by show 21 + 0 ≤ 805; omega)⟩) rfl rfl (fun r_5374 F_5372 H locs hw hp_5373 => ?_)
        obtain ⟨h_5375, h_5376, h_5377, h_5378⟩ := hp_5373
        subst h_5375
        have f_5379 : F_5367 fl = pcF G ((hiR A.1.2.2.2.2.2)) := (o_5369 fl (by omega)).trans f_5360
        have had_5380 : ∀ i, i < 166 → F_5372 (ad i) = _ := fun i hi => (h_5378 (ad i) (Ne.symm (hna i hi)) (Ne.symm (hfa i hi))).trans ((o_5369 (ad i) (Ne.symm (show a_5352 ≠ ad i by have := hLs (ad i) (hL i hi); omega))).trans (had_5363 i hi))
        have f_5381 : F_5372 fl = pcF G ((hiR A.1.2.2.2.2.2)) := (h_5378 fl (by omega) (by omega)).trans f_5379
        refine lv_icmp_ne (tgt := 283) hx hb dL_done_276 (by decide) (fun c_276 => ?_) (fun c_276 => ?_)
        · skip
          exact absurd rfl c_276
        · skip
          refine lv_iconst (v := nI 1) hx hb dL_done_279 (by decide) ?_
          refine lv_goto (tgt := 284) hx hb dL_done_280 (by decide) ?_
          exact r_iG C0 hg_5364 hr hlk hw (v := nI 1) rfl ⟨rfl, (aSave A (genS 1 t9 (m_scale (A.1.2.2.2.2.2 f9) (zi y9)) A.1)), ⟨(h_5306.keep (fun i hi => (had_5380 i hi))), okA_save hA (okS_gen hA.1 (fun _ => ⟨scale_lo _ (hok f9 hf9).1, scale_lo _ (hok f9 hf9).2⟩)), okFl_up (A := A) (t := t9) rfl hFl (fun h9 => absurd h9 (by omega)), h_5376.trans (by rw [← sv_1 A.2.1 A.1 hh6]; rfl), h_5377.trans (congrArg (pcF G) (loR_u A.1.2.2.2.2.2 ht9 _)), f_5381.trans (congrArg (pcF G) (hiR_k A.1.2.2.2.2.2 ht9 _))⟩, Nat.sub_le _ _⟩ (show 3 ≤ 115 by omega) (show 21 ≤ 805 by omega) dL_done_284 hQ
      · skip
        refine lv_iconst (v := nI 1) hx hb dL_done_90 (by decide) ?_
        exact r_iG C0 hg0 hr hlk hw (v := nI 1) rfl ⟨rfl, A, ⟨(hX.keep (fun i hi => (had0 i hi))), hA, hFl, fnu, ffi, ffl⟩, Nat.le_refl _⟩ (show 0 ≤ 115 by omega) (show 0 ≤ 805 by omega) dL_done_91 hQ
  · skip
    exact absurd c_7 (by omega)
set_option maxHeartbeats 4000000 in
set_option maxRecDepth 100000 in
theorem c_L_done_3 (l : Launch) (G : Gl) (L : List Nat) (F : Nat → va_E) (ad : Nat → Nat) (nu fi fl : Nat) (hS : LSQ L ad nu fi fl) (A : AB) (hX : XW G F ad A) (hA : okA A) (hFl : okFl A) (hN : LNQ G F nu fi fl A) (f9 g9 t9 : Nat) (y9 : Int32) (hf9 : f9 < 6) (hg9 : g9 < 6) (ht9 : t9 < 6) : CI l yL_done cL_done 13 (some .boolean) rm_L_done G L F [.ref (ad 0), .int (nI (3)), .int (nI (f9)), .int (nI (g9)), .int (nI (t9)), .int (y9), .ref nu, .ref fi, .ref fl] (fun r F1 => r = nI 1 ∧ ∃ A2, LWQ G F1 ad nu fi fl A2 ∧ A2.1.2.1 ≤ A.1.2.1) := by
  refine CG_of (by decide) (Nat.le_of_ble_eq_true rfl) rfl ?_
  intro p e s m args below meth c Q C0 hr hlk hnm hQ hw ls hl
  obtain ⟨hL, hin, mnu, mfi, mfl, hnf, hnl, hff, hna, hfa, hga⟩ := id hS
  obtain ⟨fnu, ffi, ffl⟩ := id hN
  obtain ⟨⟨hc2, hc, hpu, hok⟩, ⟨hh6, hho⟩, -⟩ := id hA
  have had0 : ∀ i, i < 166 → F (ad i) = F (ad i) := fun _ _ => rfl
  have hx := C0.x
  have hb := C0.b
  have hg0 := gr.rfl (L := L) s.heap.size
  have hLs : ∀ q ∈ L, q < s.heap.size := fun q hq => hw.lt hq
  have hfr0 : ∀ q ∈ L, F q = F q := fun _ _ => rfl
  have hlt_nu := hLs nu mnu
  have hlt_fi := hLs fi mfi
  have hlt_fl := hLs fl mfl
  refine lv_aload hx hb dL_done_0 (lv_at hl 6 rfl) ?_
  refine lv_iconst (v := nI 0) hx hb dL_done_2 (by decide) ?_
  refine q_iald C0 hw mnu fnu (0) (by omega) (by decide) (v := nI (A.1.1)) rfl dL_done_3 ?_
  refine lv_istore (lv' := [(9, .int (nI (A.1.1))), (0, .ref (ad 0)), (1, .int (nI (3))), (2, .int (nI (f9))), (3, .int (nI (g9))), (4, .int (nI (t9))), (5, .int (y9)), (6, .ref nu), (7, .ref fi), (8, .ref fl)]) hx hb dL_done_4 hl (by decide) rfl (fun ls hl => ?_)
  refine lv_iload_n hx hb dL_done_6 rfl (lv_at hl 2 rfl) ?_
  refine n_if_ne (tgt := 14) hx hb dL_done_7 (by decide) (by decide) (fun c_7 => ?_) (fun c_7 => ?_)
  · skip
    refine lv_iload_n hx hb dL_done_14 rfl (lv_at hl 2 rfl) ?_
    refine lv_iconst (v := nI 3) hx hb dL_done_15 (by decide) ?_
    refine n_icmp_ge (tgt := 23) hx hb dL_done_16 (by decide) (by decide) (by decide) (fun c_16 => ?_) (fun c_16 => ?_)
    · skip
      refine lv_iload_n hx hb dL_done_23 rfl (lv_at hl 2 rfl) ?_
      refine lv_iconst (v := nI 3) hx hb dL_done_24 (by decide) ?_
      refine n_icmp_ne (tgt := 32) hx hb dL_done_25 (by decide) (by decide) (by decide) (fun c_25 => ?_) (fun c_25 => ?_)
      · skip
        exact absurd c_25 (by omega)
      · skip
        refine lv_iconst (v := nI 5) hx hb dL_done_28 (by decide) ?_
        refine lv_goto (tgt := 76) hx hb dL_done_29 (by decide) ?_
        refine lv_istore (lv' := [(10, .int (nI (5))), (9, .int (nI (A.1.1))), (0, .ref (ad 0)), (1, .int (nI (3))), (2, .int (nI (f9))), (3, .int (nI (g9))), (4, .int (nI (t9))), (5, .int (y9)), (6, .ref nu), (7, .ref fi), (8, .ref fl)]) hx hb dL_done_76 hl (by decide) rfl (fun ls hl => ?_)
        refine lv_aload hx hb dL_done_78 (lv_at hl 8 rfl) ?_
        refine lv_iconst (v := nI 1) hx hb dL_done_80 (by decide) ?_
        refine q_iald C0 hw mnu fnu (1) (by omega) (by decide) (v := nI (A.1.2.1)) rfl dL_done_81 ?_
        refine lv_iload hx hb dL_done_82 (lv_at hl 1 rfl) ?_
        refine lv_iload hx hb dL_done_84 (lv_at hl 0 rfl) ?_
        refine n_imul hx hb dL_done_86 ?_
        refine n_icmp_ge (tgt := 92) hx hb dL_done_87 (by decide) (by omega) (by omega) (fun c_87 => ?_) (fun c_87 => ?_)
        · skip
          refine lv_iload_n hx hb dL_done_92 rfl (lv_at hl 3 rfl) ?_
          refine lv_tableIn (off := 192) (tgt := 285) hx hb dL_done_93 (by decide) (by decide) rfl (by decide) ?_
          refine lv_aload_n hx hb dL_done_285 rfl (lv_at hl 2 rfl) ?_
          refine lv_iload_n hx hb dL_done_286 rfl (lv_at hl 4 rfl) ?_
          refine lv_iload hx hb dL_done_287 (lv_at hl 6 rfl) ?_
          have hX_5382 : XW G F ad A := (hX.keep (fun i hi => (had0 i hi)))
          refine q_calli hw (q_runV (As := [.int (nI (f9)), .int (nI (t9))]) (c_X5_exp l G L F ad hL hin A f9 t9 hf9 ht9 (by omega) hX_5382 hA) C0 hw vw_L_62 (hL 0 (by decide)) hX_5382.1 rfl rfl rfl hl.1 rfl (Nat.le_of_ble_eq_true rfl) dL_done_289 ⟨by decide, by decide⟩ ⟨(by show 0 + 0 ≤ 115; omega), (by show 0 + 0 ≤ 805; omega)⟩) rfl rfl (fun r_5385 F_5383 H locs hw hp_5384 => ?_)
          obtain ⟨h_5386, h_5387, h_5388⟩ := hp_5384
          subst h_5386
          have f_5389 : F_5383 nu = nE G A.1.1 A.1.2.1 A.1.2.2.1 A.1.2.2.2.1 A.1.2.2.2.2.1 A.2.1.1 := (h_5388 nu (fun i hi => hna i hi)).trans fnu
          have f_5390 : F_5383 fi = pcF G ((loR A.1.2.2.2.2.2)) := (h_5388 fi (fun i hi => hfa i hi)).trans ffi
          have f_5391 : F_5383 fl = pcF G ((hiR A.1.2.2.2.2.2)) := (h_5388 fl (fun i hi => hga i hi)).trans ffl
          have had_5392 : ∀ i, i < 166 → F_5383 (ad i) = F_5383 (ad i) := fun _ _ => rfl
          refine lv_aload hx hb dL_done_292 (lv_at hl 8 rfl) ?_
          refine lv_aload hx hb dL_done_294 (lv_at hl 10 rfl) ?_
          refine lv_iload hx hb dL_done_296 (lv_at hl 6 rfl) ?_
          refine lv_iload hx hb dL_done_298 (lv_at hl 1 rfl) ?_
          refine lv_aload hx hb dL_done_300 (lv_at hl 9 rfl) ?_
          refine lv_iload_n hx hb dL_done_302 rfl (lv_at hl 4 rfl) ?_
          refine q_callr hw (q_runS (As := [.ref fi, .int (nI (f9))]) (c_L_get l G L F_5383 fi f9 ((loR A.1.2.2.2.2.2)) mfi f_5390 (by omega)) C0 hw sw_L_48 rfl hl.1 rfl (Nat.le_of_ble_eq_true rfl) dL_done_303 ⟨by decide, by decide⟩ ⟨(by show 0 + 1 ≤ 115; omega), (by show 0 + 7 ≤ 805; omega)⟩) (fun L_5393 F_5394 a_5395 H locs g_5396 hw1 => ?_)
          have hge_a_5395 : s.heap.size ≤ a_5395 := Nat.le_trans hw.2.2.1 g_5396.2.2.2.2
          have f_5397 : F_5394 nu = nE G A.1.1 A.1.2.1 A.1.2.2.1 A.1.2.2.2.1 A.1.2.2.2.2.1 A.2.1.1 := (g_5396.2.2.1 nu mnu).1.trans f_5389
          have lt_5399 := (g_5396.2.2.1 nu mnu).2
          have m_5398 : nu ∈ L_5393 := g_5396.1.1 nu mnu
          have f_5400 : F_5394 fi = pcF G ((loR A.1.2.2.2.2.2)) := (g_5396.2.2.1 fi mfi).1.trans f_5390
          have lt_5402 := (g_5396.2.2.1 fi mfi).2
          have m_5401 : fi ∈ L_5393 := g_5396.1.1 fi mfi
          have f_5403 : F_5394 fl = pcF G ((hiR A.1.2.2.2.2.2)) := (g_5396.2.2.1 fl mfl).1.trans f_5391
          have lt_5405 := (g_5396.2.2.1 fl mfl).2
          have m_5404 : fl ∈ L_5393 := g_5396.1.1 fl mfl
          have had_5406 : ∀ i, i < 166 → F_5394 (ad i) = _ := fun i hi => (g_5396.2.2.1 (ad i) (hg0.1 _ (hL i hi))).1.trans (had_5392 i hi)
          have hg_5407 := hg0.step g_5396.1 hw.2.2.1
          have C0 := C0.grow g_5396.1 hw.2.2.1
          have hw := hw1
          have m_5408 : a_5395 ∈ L_5393 := g_5396.2.2.2.1
          have f_5409 : F_5394 a_5395 = rw7 G (((loR A.1.2.2.2.2.2)) f9) := g_5396.2.1
          have f_5410 : F_5394 a_5395 = rw7 G ((A.1.2.2.2.2.2 f9)) := f_5409.trans (congrArg (rw7 G) (loR_at A.1.2.2.2.2.2 (by omega)))
          refine q_callr hw (q_runS (As := [.int (nI (A.1.1)), .ref a_5395]) (c_L_exp l G L_5393 F_5394 A.1.1 a_5395 ((A.1.2.2.2.2.2 f9)) m_5408 f_5410 (by omega)) C0 hw sw_L_30 rfl hl.1 rfl (Nat.le_of_ble_eq_true rfl) dL_done_306 ⟨by decide, by decide⟩ ⟨(by show 1 + 20 ≤ 115; omega), (by show 7 + 140 ≤ 805; omega)⟩) (fun L_5411 F_5412 a_5413 H locs g_5414 hw1 => ?_)
          have hge_a_5413 : s.heap.size ≤ a_5413 := Nat.le_trans hw.2.2.1 g_5414.2.2.2.2
          have f_5415 : F_5412 nu = nE G A.1.1 A.1.2.1 A.1.2.2.1 A.1.2.2.2.1 A.1.2.2.2.2.1 A.2.1.1 := (g_5414.2.2.1 nu m_5398).1.trans f_5397
          have lt_5417 := (g_5414.2.2.1 nu m_5398).2
          have m_5416 : nu ∈ L_5411 := g_5414.1.1 nu m_5398
          have f_5418 : F_5412 fi = pcF G ((loR A.1.2.2.2.2.2)) := (g_5414.2.2.1 fi m_5401).1.trans f_5400
          have lt_5420 := (g_5414.2.2.1 fi m_5401).2
          have m_5419 : fi ∈ L_5411 := g_5414.1.1 fi m_5401
          have f_5421 : F_5412 fl = pcF G ((hiR A.1.2.2.2.2.2)) := (g_5414.2.2.1 fl m_5404).1.trans f_5403
          have lt_5423 := (g_5414.2.2.1 fl m_5404).2
          have m_5422 : fl ∈ L_5411 := g_5414.1.1 fl m_5404
          have had_5424 : ∀ i, i < 166 → F_5412 (ad i) = _ := fun i hi => (g_5414.2.2.1 (ad i) (hg_5407.1 _ (hL i hi))).1.trans (had_5406 i hi)
          have hg_5425 := hg_5407.step g_5414.1 hw.2.2.1
          have C0 := C0.grow g_5414.1 hw.2.2.1
          have hw := hw1
          have m_5426 : a_5413 ∈ L_5411 := g_5414.2.2.2.1
          have f_5427 : F_5412 a_5413 = rw7 G ((m_xO ((A.1.2.2.2.2.2 f9)) A.1.1 6)) := g_5414.2.1
          refine lv_iload hx hb dL_done_309 (lv_at hl 0 rfl) ?_
          obtain ⟨F_5428, hw, f_5429, o_5430⟩ := hw.rowE f_5427 (v := (ordR 101 f9 f9 A.1.1 A.1.2.2.2.2.2)) (fun k hk => lexp_eq (hok f9 hf9).1 (hok f9 hf9).2 hc2 hc hk)
          have f_5431 : F_5428 nu = nE G A.1.1 A.1.2.1 A.1.2.2.1 A.1.2.2.2.1 A.1.2.2.2.2.1 A.2.1.1 := (o_5430 nu (by omega)).trans f_5415
          have f_5432 : F_5428 fl = pcF G ((hiR A.1.2.2.2.2.2)) := (o_5430 fl (by omega)).trans f_5421
          refine q_calli hw (q_runS (As := [.ref nu, .ref fl, .int (nI (t9)), .ref a_5413, .int (nI (5))]) (c_L_put l G L_5411 F_5428 nu fl a_5413 t9 5 A.1.1 A.1.2.1 A.1.2.2.1 A.1.2.2.2.1 A.1.2.2.2.2.1 A.2.1.1 ((hiR A.1.2.2.2.2.2)) ((ordR 101 f9 f9 A.1.1 A.1.2.2.2.2.2)) m_5416 m_5422 m_5426 f_5431 f_5432 f_5429  (by omega) (by omega) (by omega)) C0 hw sw_L_52 rfl hl.1 rfl (Nat.le_of_ble_eq_true rfl) dL_done_311 ⟨by decide, by decide⟩ ⟨(by show 21 + 0 ≤ 115; omega), (by show 147 + 0 ≤ 805; omega)⟩) rfl rfl (fun r_5435 F_5433 H locs hw hp_5434 => ?_)
          obtain ⟨h_5436, h_5437, h_5438, h_5439⟩ := hp_5434
          subst h_5436
          have f_5440 : F_5428 fi = pcF G ((loR A.1.2.2.2.2.2)) := (o_5430 fi (by omega)).trans f_5418
          have had_5441 : ∀ i, i < 166 → F_5433 (ad i) = _ := fun i hi => (h_5439 (ad i) (Ne.symm (hna i hi)) (Ne.symm (hga i hi))).trans ((o_5430 (ad i) (Ne.symm (show a_5413 ≠ ad i by have := hLs (ad i) (hL i hi); omega))).trans (had_5424 i hi))
          have f_5442 : F_5433 fi = pcF G ((loR A.1.2.2.2.2.2)) := (h_5439 fi (by omega) (by omega)).trans f_5440
          refine lv_icmp_ne (tgt := 321) hx hb dL_done_314 (by decide) (fun c_314 => ?_) (fun c_314 => ?_)
          · skip
            exact absurd rfl c_314
          · skip
            refine lv_iconst (v := nI 1) hx hb dL_done_317 (by decide) ?_
            refine lv_goto (tgt := 322) hx hb dL_done_318 (by decide) ?_
            exact r_iG C0 hg_5425 hr hlk hw (v := nI 1) rfl ⟨rfl, (aSave A (ordS 101 f9 f9 t9 A.1)), ⟨(h_5387.keep (fun i hi => (had_5441 i hi))), okA_save hA (okS_ord (Or.inr (Or.inr (Or.inr (Or.inr (Or.inr (Or.inl rfl)))))) hf9 hf9 hA.1), okFl_up (A := A) (t := 6 + t9) rfl hFl (fun _ => ⟨exp_lo (p := 0) _ (by omega), exp_lo (p := 1) _ (by omega)⟩), h_5437.trans (by rw [← sv_1 A.2.1 A.1 hh6]; rfl), f_5442.trans (congrArg (pcF G) (loR_k A.1.2.2.2.2.2 t9 _)), h_5438.trans (congrArg (pcF G) (hiR_u A.1.2.2.2.2.2 ht9 _))⟩, Nat.sub_le _ _⟩ (show 21 ≤ 115 by omega) (show 147 ≤ 805 by omega) dL_done_322 hQ
        · skip
          refine lv_iconst (v := nI 1) hx hb dL_done_90 (by decide) ?_
          exact r_iG C0 hg0 hr hlk hw (v := nI 1) rfl ⟨rfl, A, ⟨(hX.keep (fun i hi => (had0 i hi))), hA, hFl, fnu, ffi, ffl⟩, Nat.le_refl _⟩ (show 0 ≤ 115 by omega) (show 0 ≤ 805 by omega) dL_done_91 hQ
    · skip
      exact absurd c_16 (by omega)
  · skip
    exact absurd c_7 (by omega)
set_option maxHeartbeats 4000000 in
set_option maxRecDepth 100000 in
theorem c_L_done_4 (l : Launch) (G : Gl) (L : List Nat) (F : Nat → va_E) (ad : Nat → Nat) (nu fi fl : Nat) (hS : LSQ L ad nu fi fl) (A : AB) (hX : XW G F ad A) (hA : okA A) (hFl : okFl A) (hN : LNQ G F nu fi fl A) (f9 g9 t9 : Nat) (y9 : Int32) (hf9 : f9 < 6) (hg9 : g9 < 6) (ht9 : t9 < 6) : CI l yL_done cL_done 13 (some .boolean) rm_L_done G L F [.ref (ad 0), .int (nI (4)), .int (nI (f9)), .int (nI (g9)), .int (nI (t9)), .int (y9), .ref nu, .ref fi, .ref fl] (fun r F1 => r = nI 1 ∧ ∃ A2, LWQ G F1 ad nu fi fl A2 ∧ A2.1.2.1 ≤ A.1.2.1) := by
  refine CG_of (by decide) (Nat.le_of_ble_eq_true rfl) rfl ?_
  intro p e s m args below meth c Q C0 hr hlk hnm hQ hw ls hl
  obtain ⟨hL, hin, mnu, mfi, mfl, hnf, hnl, hff, hna, hfa, hga⟩ := id hS
  obtain ⟨fnu, ffi, ffl⟩ := id hN
  obtain ⟨⟨hc2, hc, hpu, hok⟩, ⟨hh6, hho⟩, -⟩ := id hA
  have had0 : ∀ i, i < 166 → F (ad i) = F (ad i) := fun _ _ => rfl
  have hx := C0.x
  have hb := C0.b
  have hg0 := gr.rfl (L := L) s.heap.size
  have hLs : ∀ q ∈ L, q < s.heap.size := fun q hq => hw.lt hq
  have hfr0 : ∀ q ∈ L, F q = F q := fun _ _ => rfl
  have hlt_nu := hLs nu mnu
  have hlt_fi := hLs fi mfi
  have hlt_fl := hLs fl mfl
  refine lv_aload hx hb dL_done_0 (lv_at hl 6 rfl) ?_
  refine lv_iconst (v := nI 0) hx hb dL_done_2 (by decide) ?_
  refine q_iald C0 hw mnu fnu (0) (by omega) (by decide) (v := nI (A.1.1)) rfl dL_done_3 ?_
  refine lv_istore (lv' := [(9, .int (nI (A.1.1))), (0, .ref (ad 0)), (1, .int (nI (4))), (2, .int (nI (f9))), (3, .int (nI (g9))), (4, .int (nI (t9))), (5, .int (y9)), (6, .ref nu), (7, .ref fi), (8, .ref fl)]) hx hb dL_done_4 hl (by decide) rfl (fun ls hl => ?_)
  refine lv_iload_n hx hb dL_done_6 rfl (lv_at hl 2 rfl) ?_
  refine n_if_ne (tgt := 14) hx hb dL_done_7 (by decide) (by decide) (fun c_7 => ?_) (fun c_7 => ?_)
  · skip
    refine lv_iload_n hx hb dL_done_14 rfl (lv_at hl 2 rfl) ?_
    refine lv_iconst (v := nI 3) hx hb dL_done_15 (by decide) ?_
    refine n_icmp_ge (tgt := 23) hx hb dL_done_16 (by decide) (by decide) (by decide) (fun c_16 => ?_) (fun c_16 => ?_)
    · skip
      refine lv_iload_n hx hb dL_done_23 rfl (lv_at hl 2 rfl) ?_
      refine lv_iconst (v := nI 3) hx hb dL_done_24 (by decide) ?_
      refine n_icmp_ne (tgt := 32) hx hb dL_done_25 (by decide) (by decide) (by decide) (fun c_25 => ?_) (fun c_25 => ?_)
      · skip
        refine lv_iload_n hx hb dL_done_32 rfl (lv_at hl 2 rfl) ?_
        refine lv_iconst (v := nI 4) hx hb dL_done_33 (by decide) ?_
        refine n_icmp_ne (tgt := 42) hx hb dL_done_34 (by decide) (by decide) (by decide) (fun c_34 => ?_) (fun c_34 => ?_)
        · skip
          exact absurd c_34 (by omega)
        · skip
          refine lv_bipush (v := nI 6) hx hb dL_done_37 (by decide) ?_
          refine lv_goto (tgt := 76) hx hb dL_done_39 (by decide) ?_
          refine lv_istore (lv' := [(10, .int (nI (6))), (9, .int (nI (A.1.1))), (0, .ref (ad 0)), (1, .int (nI (4))), (2, .int (nI (f9))), (3, .int (nI (g9))), (4, .int (nI (t9))), (5, .int (y9)), (6, .ref nu), (7, .ref fi), (8, .ref fl)]) hx hb dL_done_76 hl (by decide) rfl (fun ls hl => ?_)
          refine lv_aload hx hb dL_done_78 (lv_at hl 8 rfl) ?_
          refine lv_iconst (v := nI 1) hx hb dL_done_80 (by decide) ?_
          refine q_iald C0 hw mnu fnu (1) (by omega) (by decide) (v := nI (A.1.2.1)) rfl dL_done_81 ?_
          refine lv_iload hx hb dL_done_82 (lv_at hl 1 rfl) ?_
          refine lv_iload hx hb dL_done_84 (lv_at hl 0 rfl) ?_
          refine n_imul hx hb dL_done_86 ?_
          refine n_icmp_ge (tgt := 92) hx hb dL_done_87 (by decide) (by omega) (by omega) (fun c_87 => ?_) (fun c_87 => ?_)
          · skip
            refine lv_iload_n hx hb dL_done_92 rfl (lv_at hl 3 rfl) ?_
            refine lv_tableIn (off := 230) (tgt := 323) hx hb dL_done_93 (by decide) (by decide) rfl (by decide) ?_
            refine lv_aload_n hx hb dL_done_323 rfl (lv_at hl 2 rfl) ?_
            refine lv_iload_n hx hb dL_done_324 rfl (lv_at hl 4 rfl) ?_
            refine lv_iload hx hb dL_done_325 (lv_at hl 6 rfl) ?_
            have hX_5443 : XW G F ad A := (hX.keep (fun i hi => (had0 i hi)))
            refine q_calli hw (q_runV (As := [.int (nI (f9)), .int (nI (t9))]) (c_X5_log l G L F ad hL hin A f9 t9 hf9 ht9 (by omega) hX_5443 hA) C0 hw vw_L_64 (hL 0 (by decide)) hX_5443.1 rfl rfl rfl hl.1 rfl (Nat.le_of_ble_eq_true rfl) dL_done_327 ⟨by decide, by decide⟩ ⟨(by show 0 + 0 ≤ 115; omega), (by show 0 + 0 ≤ 805; omega)⟩) rfl rfl (fun r_5446 F_5444 H locs hw hp_5445 => ?_)
            obtain ⟨h_5447, h_5448, h_5449⟩ := hp_5445
            subst h_5447
            have f_5450 : F_5444 nu = nE G A.1.1 A.1.2.1 A.1.2.2.1 A.1.2.2.2.1 A.1.2.2.2.2.1 A.2.1.1 := (h_5449 nu (fun i hi => hna i hi)).trans fnu
            have f_5451 : F_5444 fi = pcF G ((loR A.1.2.2.2.2.2)) := (h_5449 fi (fun i hi => hfa i hi)).trans ffi
            have f_5452 : F_5444 fl = pcF G ((hiR A.1.2.2.2.2.2)) := (h_5449 fl (fun i hi => hga i hi)).trans ffl
            have had_5453 : ∀ i, i < 166 → F_5444 (ad i) = F_5444 (ad i) := fun _ _ => rfl
            refine lv_aload hx hb dL_done_330 (lv_at hl 8 rfl) ?_
            refine lv_aload hx hb dL_done_332 (lv_at hl 9 rfl) ?_
            refine lv_iload hx hb dL_done_334 (lv_at hl 6 rfl) ?_
            refine lv_iload hx hb dL_done_336 (lv_at hl 1 rfl) ?_
            refine lv_aload hx hb dL_done_338 (lv_at hl 10 rfl) ?_
            refine lv_iload_n hx hb dL_done_340 rfl (lv_at hl 4 rfl) ?_
            refine q_callr hw (q_runS (As := [.ref fl, .int (nI (f9))]) (c_L_get l G L F_5444 fl f9 ((hiR A.1.2.2.2.2.2)) mfl f_5452 (by omega)) C0 hw sw_L_48 rfl hl.1 rfl (Nat.le_of_ble_eq_true rfl) dL_done_341 ⟨by decide, by decide⟩ ⟨(by show 0 + 1 ≤ 115; omega), (by show 0 + 7 ≤ 805; omega)⟩) (fun L_5454 F_5455 a_5456 H locs g_5457 hw1 => ?_)
            have hge_a_5456 : s.heap.size ≤ a_5456 := Nat.le_trans hw.2.2.1 g_5457.2.2.2.2
            have f_5458 : F_5455 nu = nE G A.1.1 A.1.2.1 A.1.2.2.1 A.1.2.2.2.1 A.1.2.2.2.2.1 A.2.1.1 := (g_5457.2.2.1 nu mnu).1.trans f_5450
            have lt_5460 := (g_5457.2.2.1 nu mnu).2
            have m_5459 : nu ∈ L_5454 := g_5457.1.1 nu mnu
            have f_5461 : F_5455 fi = pcF G ((loR A.1.2.2.2.2.2)) := (g_5457.2.2.1 fi mfi).1.trans f_5451
            have lt_5463 := (g_5457.2.2.1 fi mfi).2
            have m_5462 : fi ∈ L_5454 := g_5457.1.1 fi mfi
            have f_5464 : F_5455 fl = pcF G ((hiR A.1.2.2.2.2.2)) := (g_5457.2.2.1 fl mfl).1.trans f_5452
            have lt_5466 := (g_5457.2.2.1 fl mfl).2
            have m_5465 : fl ∈ L_5454 := g_5457.1.1 fl mfl
            have had_5467 : ∀ i, i < 166 → F_5455 (ad i) = _ := fun i hi => (g_5457.2.2.1 (ad i) (hg0.1 _ (hL i hi))).1.trans (had_5453 i hi)
            have hg_5468 := hg0.step g_5457.1 hw.2.2.1
            have C0 := C0.grow g_5457.1 hw.2.2.1
            have hw := hw1
            have m_5469 : a_5456 ∈ L_5454 := g_5457.2.2.2.1
            have f_5470 : F_5455 a_5456 = rw7 G (((hiR A.1.2.2.2.2.2)) f9) := g_5457.2.1
            have f_5471 : F_5455 a_5456 = rw7 G ((A.1.2.2.2.2.2 (6 + f9))) := f_5470.trans (congrArg (rw7 G) (hiR_at A.1.2.2.2.2.2 (by omega)))
            refine q_callr hw (q_runS (As := [.int (nI (A.1.1)), .ref a_5456]) (c_L_log l G L_5454 F_5455 A.1.1 a_5456 ((A.1.2.2.2.2.2 (6 + f9))) m_5469 f_5471 (by omega) (by omega)) C0 hw sw_L_67 rfl hl.1 rfl (Nat.le_of_ble_eq_true rfl) dL_done_344 ⟨by decide, by decide⟩ ⟨(by show 1 + 101 ≤ 115; omega), (by show 7 + 707 ≤ 805; omega)⟩) (fun L_5472 F_5473 a_5474 H locs g_5475 hw1 => ?_)
            have hge_a_5474 : s.heap.size ≤ a_5474 := Nat.le_trans hw.2.2.1 g_5475.2.2.2.2
            have f_5476 : F_5473 nu = nE G A.1.1 A.1.2.1 A.1.2.2.1 A.1.2.2.2.1 A.1.2.2.2.2.1 A.2.1.1 := (g_5475.2.2.1 nu m_5459).1.trans f_5458
            have lt_5478 := (g_5475.2.2.1 nu m_5459).2
            have m_5477 : nu ∈ L_5472 := g_5475.1.1 nu m_5459
            have f_5479 : F_5473 fi = pcF G ((loR A.1.2.2.2.2.2)) := (g_5475.2.2.1 fi m_5462).1.trans f_5461
            have lt_5481 := (g_5475.2.2.1 fi m_5462).2
            have m_5480 : fi ∈ L_5472 := g_5475.1.1 fi m_5462
            have f_5482 : F_5473 fl = pcF G ((hiR A.1.2.2.2.2.2)) := (g_5475.2.2.1 fl m_5465).1.trans f_5464
            have lt_5484 := (g_5475.2.2.1 fl m_5465).2
            have m_5483 : fl ∈ L_5472 := g_5475.1.1 fl m_5465
            have had_5485 : ∀ i, i < 166 → F_5473 (ad i) = _ := fun i hi => (g_5475.2.2.1 (ad i) (hg_5468.1 _ (hL i hi))).1.trans (had_5467 i hi)
            have hg_5486 := hg_5468.step g_5475.1 hw.2.2.1
            have C0 := C0.grow g_5475.1 hw.2.2.1
            have hw := hw1
            have m_5487 : a_5474 ∈ L_5472 := g_5475.2.2.2.1
            have f_5488 : F_5473 a_5474 = rw7 G ((l_lgn ((A.1.2.2.2.2.2 (6 + f9))) A.1.1 (A.1.1 - 1))) := g_5475.2.1
            refine lv_iload hx hb dL_done_347 (lv_at hl 0 rfl) ?_
            obtain ⟨F_5489, hw, f_5490, o_5491⟩ := hw.rowE f_5488 (v := (ordR 108 f9 f9 A.1.1 A.1.2.2.2.2.2)) (fun k hk => congrFun (llog_eq _ hc2 hc) k)
            have f_5492 : F_5489 nu = nE G A.1.1 A.1.2.1 A.1.2.2.1 A.1.2.2.2.1 A.1.2.2.2.2.1 A.2.1.1 := (o_5491 nu (by omega)).trans f_5476
            have f_5493 : F_5489 fi = pcF G ((loR A.1.2.2.2.2.2)) := (o_5491 fi (by omega)).trans f_5479
            refine q_calli hw (q_runS (As := [.ref nu, .ref fi, .int (nI (t9)), .ref a_5474, .int (nI (6))]) (c_L_put l G L_5472 F_5489 nu fi a_5474 t9 6 A.1.1 A.1.2.1 A.1.2.2.1 A.1.2.2.2.1 A.1.2.2.2.2.1 A.2.1.1 ((loR A.1.2.2.2.2.2)) ((ordR 108 f9 f9 A.1.1 A.1.2.2.2.2.2)) m_5477 m_5480 m_5487 f_5492 f_5493 f_5490  (by omega) (by omega) (by omega)) C0 hw sw_L_52 rfl hl.1 rfl (Nat.le_of_ble_eq_true rfl) dL_done_349 ⟨by decide, by decide⟩ ⟨(by show 102 + 0 ≤ 115; omega), (by show 714 + 0 ≤ 805; omega)⟩) rfl rfl (fun r_5496 F_5494 H locs hw hp_5495 => ?_)
            obtain ⟨h_5497, h_5498, h_5499, h_5500⟩ := hp_5495
            subst h_5497
            have f_5501 : F_5489 fl = pcF G ((hiR A.1.2.2.2.2.2)) := (o_5491 fl (by omega)).trans f_5482
            have had_5502 : ∀ i, i < 166 → F_5494 (ad i) = _ := fun i hi => (h_5500 (ad i) (Ne.symm (hna i hi)) (Ne.symm (hfa i hi))).trans ((o_5491 (ad i) (Ne.symm (show a_5474 ≠ ad i by have := hLs (ad i) (hL i hi); omega))).trans (had_5485 i hi))
            have f_5503 : F_5494 fl = pcF G ((hiR A.1.2.2.2.2.2)) := (h_5500 fl (by omega) (by omega)).trans f_5501
            refine lv_icmp_ne (tgt := 359) hx hb dL_done_352 (by decide) (fun c_352 => ?_) (fun c_352 => ?_)
            · skip
              exact absurd rfl c_352
            · skip
              refine lv_iconst (v := nI 1) hx hb dL_done_355 (by decide) ?_
              refine lv_goto (tgt := 360) hx hb dL_done_356 (by decide) ?_
              exact r_iG C0 hg_5486 hr hlk hw (v := nI 1) rfl ⟨rfl, (aSave A (ordS 108 f9 f9 t9 A.1)), ⟨(h_5448.keep (fun i hi => (had_5502 i hi))), okA_save hA (okS_ord (Or.inr (Or.inr (Or.inr (Or.inr (Or.inl rfl))))) hf9 hf9 hA.1), okFl_up (A := A) (t := t9) rfl hFl (fun h9 => absurd h9 (by omega)), h_5498.trans (by rw [← sv_1 A.2.1 A.1 hh6]; rfl), h_5499.trans (congrArg (pcF G) (loR_u A.1.2.2.2.2.2 ht9 _)), f_5503.trans (congrArg (pcF G) (hiR_k A.1.2.2.2.2.2 ht9 _))⟩, Nat.sub_le _ _⟩ (show 102 ≤ 115 by omega) (show 714 ≤ 805 by omega) dL_done_360 hQ
          · skip
            refine lv_iconst (v := nI 1) hx hb dL_done_90 (by decide) ?_
            exact r_iG C0 hg0 hr hlk hw (v := nI 1) rfl ⟨rfl, A, ⟨(hX.keep (fun i hi => (had0 i hi))), hA, hFl, fnu, ffi, ffl⟩, Nat.le_refl _⟩ (show 0 ≤ 115 by omega) (show 0 ≤ 805 by omega) dL_done_91 hQ
      · skip
        exact absurd c_25 (by omega)
    · skip
      exact absurd c_16 (by omega)
  · skip
    exact absurd c_7 (by omega)
set_option maxHeartbeats 4000000 in
set_option maxRecDepth 100000 in
theorem c_L_done_5 (l : Launch) (G : Gl) (L : List Nat) (F : Nat → va_E) (ad : Nat → Nat) (nu fi fl : Nat) (hS : LSQ L ad nu fi fl) (A : AB) (hX : XW G F ad A) (hA : okA A) (hFl : okFl A) (hN : LNQ G F nu fi fl A) (f9 g9 t9 : Nat) (y9 : Int32) (hf9 : f9 < 6) (hg9 : g9 < 6) (ht9 : t9 < 6) : CI l yL_done cL_done 13 (some .boolean) rm_L_done G L F [.ref (ad 0), .int (nI (5)), .int (nI (f9)), .int (nI (g9)), .int (nI (t9)), .int (y9), .ref nu, .ref fi, .ref fl] (fun r F1 => r = nI 1 ∧ ∃ A2, LWQ G F1 ad nu fi fl A2 ∧ A2.1.2.1 ≤ A.1.2.1) := by
  refine CG_of (by decide) (Nat.le_of_ble_eq_true rfl) rfl ?_
  intro p e s m args below meth c Q C0 hr hlk hnm hQ hw ls hl
  obtain ⟨hL, hin, mnu, mfi, mfl, hnf, hnl, hff, hna, hfa, hga⟩ := id hS
  obtain ⟨fnu, ffi, ffl⟩ := id hN
  obtain ⟨⟨hc2, hc, hpu, hok⟩, ⟨hh6, hho⟩, -⟩ := id hA
  have had0 : ∀ i, i < 166 → F (ad i) = F (ad i) := fun _ _ => rfl
  have hx := C0.x
  have hb := C0.b
  have hg0 := gr.rfl (L := L) s.heap.size
  have hLs : ∀ q ∈ L, q < s.heap.size := fun q hq => hw.lt hq
  have hfr0 : ∀ q ∈ L, F q = F q := fun _ _ => rfl
  have hlt_nu := hLs nu mnu
  have hlt_fi := hLs fi mfi
  have hlt_fl := hLs fl mfl
  refine lv_aload hx hb dL_done_0 (lv_at hl 6 rfl) ?_
  refine lv_iconst (v := nI 0) hx hb dL_done_2 (by decide) ?_
  refine q_iald C0 hw mnu fnu (0) (by omega) (by decide) (v := nI (A.1.1)) rfl dL_done_3 ?_
  refine lv_istore (lv' := [(9, .int (nI (A.1.1))), (0, .ref (ad 0)), (1, .int (nI (5))), (2, .int (nI (f9))), (3, .int (nI (g9))), (4, .int (nI (t9))), (5, .int (y9)), (6, .ref nu), (7, .ref fi), (8, .ref fl)]) hx hb dL_done_4 hl (by decide) rfl (fun ls hl => ?_)
  refine lv_iload_n hx hb dL_done_6 rfl (lv_at hl 2 rfl) ?_
  refine n_if_ne (tgt := 14) hx hb dL_done_7 (by decide) (by decide) (fun c_7 => ?_) (fun c_7 => ?_)
  · skip
    refine lv_iload_n hx hb dL_done_14 rfl (lv_at hl 2 rfl) ?_
    refine lv_iconst (v := nI 3) hx hb dL_done_15 (by decide) ?_
    refine n_icmp_ge (tgt := 23) hx hb dL_done_16 (by decide) (by decide) (by decide) (fun c_16 => ?_) (fun c_16 => ?_)
    · skip
      refine lv_iload_n hx hb dL_done_23 rfl (lv_at hl 2 rfl) ?_
      refine lv_iconst (v := nI 3) hx hb dL_done_24 (by decide) ?_
      refine n_icmp_ne (tgt := 32) hx hb dL_done_25 (by decide) (by decide) (by decide) (fun c_25 => ?_) (fun c_25 => ?_)
      · skip
        refine lv_iload_n hx hb dL_done_32 rfl (lv_at hl 2 rfl) ?_
        refine lv_iconst (v := nI 4) hx hb dL_done_33 (by decide) ?_
        refine n_icmp_ne (tgt := 42) hx hb dL_done_34 (by decide) (by decide) (by decide) (fun c_34 => ?_) (fun c_34 => ?_)
        · skip
          refine lv_iload_n hx hb dL_done_42 rfl (lv_at hl 2 rfl) ?_
          refine lv_bipush (v := nI 7) hx hb dL_done_43 (by decide) ?_
          refine n_icmp_ge (tgt := 52) hx hb dL_done_45 (by decide) (by decide) (by decide) (fun c_45 => ?_) (fun c_45 => ?_)
          · skip
            exact absurd c_45 (by omega)
          · skip
            refine lv_iconst (v := nI 4) hx hb dL_done_48 (by decide) ?_
            refine lv_goto (tgt := 76) hx hb dL_done_49 (by decide) ?_
            refine lv_istore (lv' := [(10, .int (nI (4))), (9, .int (nI (A.1.1))), (0, .ref (ad 0)), (1, .int (nI (5))), (2, .int (nI (f9))), (3, .int (nI (g9))), (4, .int (nI (t9))), (5, .int (y9)), (6, .ref nu), (7, .ref fi), (8, .ref fl)]) hx hb dL_done_76 hl (by decide) rfl (fun ls hl => ?_)
            refine lv_aload hx hb dL_done_78 (lv_at hl 8 rfl) ?_
            refine lv_iconst (v := nI 1) hx hb dL_done_80 (by decide) ?_
            refine q_iald C0 hw mnu fnu (1) (by omega) (by decide) (v := nI (A.1.2.1)) rfl dL_done_81 ?_
            refine lv_iload hx hb dL_done_82 (lv_at hl 1 rfl) ?_
            refine lv_iload hx hb dL_done_84 (lv_at hl 0 rfl) ?_
            refine n_imul hx hb dL_done_86 ?_
            refine n_icmp_ge (tgt := 92) hx hb dL_done_87 (by decide) (by omega) (by omega) (fun c_87 => ?_) (fun c_87 => ?_)
            · skip
              refine lv_iload_n hx hb dL_done_92 rfl (lv_at hl 3 rfl) ?_
              refine lv_tableIn (off := 268) (tgt := 361) hx hb dL_done_93 (by decide) (by decide) rfl (by decide) ?_
              refine lv_aload_n hx hb dL_done_361 rfl (lv_at hl 2 rfl) ?_
              refine lv_iload_n hx hb dL_done_362 rfl (lv_at hl 4 rfl) ?_
              refine lv_iload_n hx hb dL_done_363 rfl (lv_at hl 5 rfl) ?_
              refine lv_iload hx hb dL_done_364 (lv_at hl 6 rfl) ?_
              have hX_5504 : XW G F ad A := (hX.keep (fun i hi => (had0 i hi)))
              refine q_calli hw (q_runV (As := [.int (nI (f9)), .int (nI (g9)), .int (nI (t9))]) (c_X5_compose l G L F ad hL hin A f9 g9 t9 hf9 hg9 ht9 (by omega) hX_5504 hA) C0 hw vw_L_69 (hL 0 (by decide)) hX_5504.1 rfl rfl rfl hl.1 rfl (Nat.le_of_ble_eq_true rfl) dL_done_366 ⟨by decide, by decide⟩ ⟨(by show 0 + 0 ≤ 115; omega), (by show 0 + 0 ≤ 805; omega)⟩) rfl rfl (fun r_5507 F_5505 H locs hw hp_5506 => ?_)
              obtain ⟨h_5508, h_5509, h_5510⟩ := hp_5506
              subst h_5508
              have f_5511 : F_5505 nu = nE G A.1.1 A.1.2.1 A.1.2.2.1 A.1.2.2.2.1 A.1.2.2.2.2.1 A.2.1.1 := (h_5510 nu (fun i hi => hna i hi)).trans fnu
              have f_5512 : F_5505 fi = pcF G ((loR A.1.2.2.2.2.2)) := (h_5510 fi (fun i hi => hfa i hi)).trans ffi
              have f_5513 : F_5505 fl = pcF G ((hiR A.1.2.2.2.2.2)) := (h_5510 fl (fun i hi => hga i hi)).trans ffl
              have had_5514 : ∀ i, i < 166 → F_5505 (ad i) = F_5505 (ad i) := fun _ _ => rfl
              refine lv_aload hx hb dL_done_369 (lv_at hl 8 rfl) ?_
              refine lv_aload hx hb dL_done_371 (lv_at hl 10 rfl) ?_
              refine lv_iload hx hb dL_done_373 (lv_at hl 6 rfl) ?_
              refine lv_iload hx hb dL_done_375 (lv_at hl 1 rfl) ?_
              refine lv_aload hx hb dL_done_377 (lv_at hl 10 rfl) ?_
              refine lv_iload_n hx hb dL_done_379 rfl (lv_at hl 4 rfl) ?_
              refine q_callr hw (q_runS (As := [.ref fl, .int (nI (f9))]) (c_L_get l G L F_5505 fl f9 ((hiR A.1.2.2.2.2.2)) mfl f_5513 (by omega)) C0 hw sw_L_48 rfl hl.1 rfl (Nat.le_of_ble_eq_true rfl) dL_done_380 ⟨by decide, by decide⟩ ⟨(by show 0 + 1 ≤ 115; omega), (by show 0 + 7 ≤ 805; omega)⟩) (fun L_5515 F_5516 a_5517 H locs g_5518 hw1 => ?_)
              have hge_a_5517 : s.heap.size ≤ a_5517 := Nat.le_trans hw.2.2.1 g_5518.2.2.2.2
              have f_5519 : F_5516 nu = nE G A.1.1 A.1.2.1 A.1.2.2.1 A.1.2.2.2.1 A.1.2.2.2.2.1 A.2.1.1 := (g_5518.2.2.1 nu mnu).1.trans f_5511
              have lt_5521 := (g_5518.2.2.1 nu mnu).2
              have m_5520 : nu ∈ L_5515 := g_5518.1.1 nu mnu
              have f_5522 : F_5516 fi = pcF G ((loR A.1.2.2.2.2.2)) := (g_5518.2.2.1 fi mfi).1.trans f_5512
              have lt_5524 := (g_5518.2.2.1 fi mfi).2
              have m_5523 : fi ∈ L_5515 := g_5518.1.1 fi mfi
              have f_5525 : F_5516 fl = pcF G ((hiR A.1.2.2.2.2.2)) := (g_5518.2.2.1 fl mfl).1.trans f_5513
              have lt_5527 := (g_5518.2.2.1 fl mfl).2
              have m_5526 : fl ∈ L_5515 := g_5518.1.1 fl mfl
              have had_5528 : ∀ i, i < 166 → F_5516 (ad i) = _ := fun i hi => (g_5518.2.2.1 (ad i) (hg0.1 _ (hL i hi))).1.trans (had_5514 i hi)
              have hg_5529 := hg0.step g_5518.1 hw.2.2.1
              have C0 := C0.grow g_5518.1 hw.2.2.1
              have hw := hw1
              have m_5530 : a_5517 ∈ L_5515 := g_5518.2.2.2.1
              have f_5531 : F_5516 a_5517 = rw7 G (((hiR A.1.2.2.2.2.2)) f9) := g_5518.2.1
              have f_5532 : F_5516 a_5517 = rw7 G ((A.1.2.2.2.2.2 (6 + f9))) := f_5531.trans (congrArg (rw7 G) (hiR_at A.1.2.2.2.2.2 (by omega)))
              refine lv_aload hx hb dL_done_383 (lv_at hl 10 rfl) ?_
              refine lv_iload_n hx hb dL_done_385 rfl (lv_at hl 5 rfl) ?_
              refine q_callr hw (q_runS (As := [.ref fl, .int (nI (g9))]) (c_L_get l G L_5515 F_5516 fl g9 ((hiR A.1.2.2.2.2.2)) m_5526 f_5525 (by omega)) C0 hw sw_L_48 rfl hl.1 rfl (Nat.le_of_ble_eq_true rfl) dL_done_386 ⟨by decide, by decide⟩ ⟨(by show 1 + 1 ≤ 115; omega), (by show 7 + 7 ≤ 805; omega)⟩) (fun L_5533 F_5534 a_5535 H locs g_5536 hw1 => ?_)
              have hge_a_5535 : s.heap.size ≤ a_5535 := Nat.le_trans hw.2.2.1 g_5536.2.2.2.2
              have f_5537 : F_5534 nu = nE G A.1.1 A.1.2.1 A.1.2.2.1 A.1.2.2.2.1 A.1.2.2.2.2.1 A.2.1.1 := (g_5536.2.2.1 nu m_5520).1.trans f_5519
              have lt_5539 := (g_5536.2.2.1 nu m_5520).2
              have m_5538 : nu ∈ L_5533 := g_5536.1.1 nu m_5520
              have f_5540 : F_5534 fi = pcF G ((loR A.1.2.2.2.2.2)) := (g_5536.2.2.1 fi m_5523).1.trans f_5522
              have lt_5542 := (g_5536.2.2.1 fi m_5523).2
              have m_5541 : fi ∈ L_5533 := g_5536.1.1 fi m_5523
              have f_5543 : F_5534 fl = pcF G ((hiR A.1.2.2.2.2.2)) := (g_5536.2.2.1 fl m_5526).1.trans f_5525
              have lt_5545 := (g_5536.2.2.1 fl m_5526).2
              have m_5544 : fl ∈ L_5533 := g_5536.1.1 fl m_5526
              have f_5546 : F_5534 a_5517 = rw7 G ((A.1.2.2.2.2.2 (6 + f9))) := (g_5536.2.2.1 a_5517 m_5530).1.trans f_5532
              have lt_5548 := (g_5536.2.2.1 a_5517 m_5530).2
              have m_5547 : a_5517 ∈ L_5533 := g_5536.1.1 a_5517 m_5530
              have had_5549 : ∀ i, i < 166 → F_5534 (ad i) = _ := fun i hi => (g_5536.2.2.1 (ad i) (hg_5529.1 _ (hL i hi))).1.trans (had_5528 i hi)
              have hg_5550 := hg_5529.step g_5536.1 hw.2.2.1
              have C0 := C0.grow g_5536.1 hw.2.2.1
              have hw := hw1
              have m_5551 : a_5535 ∈ L_5533 := g_5536.2.2.2.1
              have f_5552 : F_5534 a_5535 = rw7 G (((hiR A.1.2.2.2.2.2)) g9) := g_5536.2.1
              have f_5553 : F_5534 a_5535 = rw7 G ((A.1.2.2.2.2.2 (6 + g9))) := f_5552.trans (congrArg (rw7 G) (hiR_at A.1.2.2.2.2.2 (by omega)))
              refine q_callr hw (q_runS (As := [.int (nI (A.1.1)), .ref a_5517, .ref a_5535]) (c_L_within l G L_5533 F_5534 A.1.1 a_5517 a_5535 ((A.1.2.2.2.2.2 (6 + f9))) ((A.1.2.2.2.2.2 (6 + g9))) m_5547 f_5546 m_5551 f_5553 (by omega)) C0 hw sw_L_34 rfl hl.1 rfl (Nat.le_of_ble_eq_true rfl) dL_done_389 ⟨by decide, by decide⟩ ⟨(by show 2 + 8 ≤ 115; omega), (by show 14 + 56 ≤ 805; omega)⟩) (fun L_5554 F_5555 a_5556 H locs g_5557 hw1 => ?_)
              have hge_a_5556 : s.heap.size ≤ a_5556 := Nat.le_trans hw.2.2.1 g_5557.2.2.2.2
              have f_5558 : F_5555 nu = nE G A.1.1 A.1.2.1 A.1.2.2.1 A.1.2.2.2.1 A.1.2.2.2.2.1 A.2.1.1 := (g_5557.2.2.1 nu m_5538).1.trans f_5537
              have lt_5560 := (g_5557.2.2.1 nu m_5538).2
              have m_5559 : nu ∈ L_5554 := g_5557.1.1 nu m_5538
              have f_5561 : F_5555 fi = pcF G ((loR A.1.2.2.2.2.2)) := (g_5557.2.2.1 fi m_5541).1.trans f_5540
              have lt_5563 := (g_5557.2.2.1 fi m_5541).2
              have m_5562 : fi ∈ L_5554 := g_5557.1.1 fi m_5541
              have f_5564 : F_5555 fl = pcF G ((hiR A.1.2.2.2.2.2)) := (g_5557.2.2.1 fl m_5544).1.trans f_5543
              have lt_5566 := (g_5557.2.2.1 fl m_5544).2
              have m_5565 : fl ∈ L_5554 := g_5557.1.1 fl m_5544
              have had_5567 : ∀ i, i < 166 → F_5555 (ad i) = _ := fun i hi => (g_5557.2.2.1 (ad i) (hg_5550.1 _ (hL i hi))).1.trans (had_5549 i hi)
              have hg_5568 := hg_5550.step g_5557.1 hw.2.2.1
              have C0 := C0.grow g_5557.1 hw.2.2.1
              have hw := hw1
              have m_5569 : a_5556 ∈ L_5554 := g_5557.2.2.2.1
              have f_5570 : F_5555 a_5556 = rw7 G ((m_sub ((A.1.2.2.2.2.2 (6 + f9))) ((A.1.2.2.2.2.2 (6 + g9))) A.1.1)) := g_5557.2.1
              refine lv_iload hx hb dL_done_392 (lv_at hl 0 rfl) ?_
              obtain ⟨F_5571, hw, f_5572, o_5573⟩ := hw.rowE f_5570 (v := (ordR 99 f9 g9 A.1.1 A.1.2.2.2.2.2)) (fun k hk => rfl)
              have f_5574 : F_5571 nu = nE G A.1.1 A.1.2.1 A.1.2.2.1 A.1.2.2.2.1 A.1.2.2.2.2.1 A.2.1.1 := (o_5573 nu (by omega)).trans f_5558
              have f_5575 : F_5571 fl = pcF G ((hiR A.1.2.2.2.2.2)) := (o_5573 fl (by omega)).trans f_5564
              refine q_calli hw (q_runS (As := [.ref nu, .ref fl, .int (nI (t9)), .ref a_5556, .int (nI (4))]) (c_L_put l G L_5554 F_5571 nu fl a_5556 t9 4 A.1.1 A.1.2.1 A.1.2.2.1 A.1.2.2.2.1 A.1.2.2.2.2.1 A.2.1.1 ((hiR A.1.2.2.2.2.2)) ((ordR 99 f9 g9 A.1.1 A.1.2.2.2.2.2)) m_5559 m_5565 m_5569 f_5574 f_5575 f_5572  (by omega) (by omega) (by omega)) C0 hw sw_L_52 rfl hl.1 rfl (Nat.le_of_ble_eq_true rfl) dL_done_394 ⟨by decide, by decide⟩ ⟨(by show 10 + 0 ≤ 115; omega), (by show 70 + 0 ≤ 805; omega)⟩) rfl rfl (fun r_5578 F_5576 H locs hw hp_5577 => ?_)
              obtain ⟨h_5579, h_5580, h_5581, h_5582⟩ := hp_5577
              subst h_5579
              have f_5583 : F_5571 fi = pcF G ((loR A.1.2.2.2.2.2)) := (o_5573 fi (by omega)).trans f_5561
              have had_5584 : ∀ i, i < 166 → F_5576 (ad i) = _ := fun i hi => (h_5582 (ad i) (Ne.symm (hna i hi)) (Ne.symm (hga i hi))).trans ((o_5573 (ad i) (Ne.symm (show a_5556 ≠ ad i by have := hLs (ad i) (hL i hi); omega))).trans (had_5567 i hi))
              have f_5585 : F_5576 fi = pcF G ((loR A.1.2.2.2.2.2)) := (h_5582 fi (by omega) (by omega)).trans f_5583
              refine lv_icmp_ne (tgt := 404) hx hb dL_done_397 (by decide) (fun c_397 => ?_) (fun c_397 => ?_)
              · skip
                exact absurd rfl c_397
              · skip
                refine lv_iconst (v := nI 1) hx hb dL_done_400 (by decide) ?_
                refine lv_goto (tgt := 405) hx hb dL_done_401 (by decide) ?_
                exact r_iG C0 hg_5568 hr hlk hw (v := nI 1) rfl ⟨rfl, (aSave A (ordS 99 f9 g9 t9 A.1)), ⟨(h_5509.keep (fun i hi => (had_5584 i hi))), okA_save hA (okS_ord (Or.inr (Or.inr (Or.inr (Or.inr (Or.inr (Or.inr (Or.inl rfl))))))) hf9 hg9 hA.1), okFl_up (A := A) (t := 6 + t9) rfl hFl (fun _ => ⟨(sub_0 _ _ (hFl f9 hf9).1).trans (hFl g9 hg9).1, (sub_1 _ _ (hFl f9 hf9).1 (hFl f9 hf9).2 (by omega)).trans (hFl g9 hg9).2⟩), h_5580.trans (by rw [← sv_1 A.2.1 A.1 hh6]; rfl), f_5585.trans (congrArg (pcF G) (loR_k A.1.2.2.2.2.2 t9 _)), h_5581.trans (congrArg (pcF G) (hiR_u A.1.2.2.2.2.2 ht9 _))⟩, Nat.sub_le _ _⟩ (show 10 ≤ 115 by omega) (show 70 ≤ 805 by omega) dL_done_405 hQ
            · skip
              refine lv_iconst (v := nI 1) hx hb dL_done_90 (by decide) ?_
              exact r_iG C0 hg0 hr hlk hw (v := nI 1) rfl ⟨rfl, A, ⟨(hX.keep (fun i hi => (had0 i hi))), hA, hFl, fnu, ffi, ffl⟩, Nat.le_refl _⟩ (show 0 ≤ 115 by omega) (show 0 ≤ 805 by omega) dL_done_91 hQ
        · skip
          exact absurd c_34 (by omega)
      · skip
        exact absurd c_25 (by omega)
    · skip
      exact absurd c_16 (by omega)
  · skip
    exact absurd c_7 (by omega)
set_option maxHeartbeats 4000000 in
set_option maxRecDepth 100000 in
theorem c_L_done_6 (l : Launch) (G : Gl) (L : List Nat) (F : Nat → va_E) (ad : Nat → Nat) (nu fi fl : Nat) (hS : LSQ L ad nu fi fl) (A : AB) (hX : XW G F ad A) (hA : okA A) (hFl : okFl A) (hN : LNQ G F nu fi fl A) (f9 g9 t9 : Nat) (y9 : Int32) (hf9 : f9 < 6) (hg9 : g9 < 6) (ht9 : t9 < 6) : CI l yL_done cL_done 13 (some .boolean) rm_L_done G L F [.ref (ad 0), .int (nI (6)), .int (nI (f9)), .int (nI (g9)), .int (nI (t9)), .int (y9), .ref nu, .ref fi, .ref fl] (fun r F1 => r = nI 1 ∧ ∃ A2, LWQ G F1 ad nu fi fl A2 ∧ A2.1.2.1 ≤ A.1.2.1) := by
  refine CG_of (by decide) (Nat.le_of_ble_eq_true rfl) rfl ?_
  intro p e s m args below meth c Q C0 hr hlk hnm hQ hw ls hl
  obtain ⟨hL, hin, mnu, mfi, mfl, hnf, hnl, hff, hna, hfa, hga⟩ := id hS
  obtain ⟨fnu, ffi, ffl⟩ := id hN
  obtain ⟨⟨hc2, hc, hpu, hok⟩, ⟨hh6, hho⟩, -⟩ := id hA
  have had0 : ∀ i, i < 166 → F (ad i) = F (ad i) := fun _ _ => rfl
  have hx := C0.x
  have hb := C0.b
  have hg0 := gr.rfl (L := L) s.heap.size
  have hLs : ∀ q ∈ L, q < s.heap.size := fun q hq => hw.lt hq
  have hfr0 : ∀ q ∈ L, F q = F q := fun _ _ => rfl
  have hlt_nu := hLs nu mnu
  have hlt_fi := hLs fi mfi
  have hlt_fl := hLs fl mfl
  refine lv_aload hx hb dL_done_0 (lv_at hl 6 rfl) ?_
  refine lv_iconst (v := nI 0) hx hb dL_done_2 (by decide) ?_
  refine q_iald C0 hw mnu fnu (0) (by omega) (by decide) (v := nI (A.1.1)) rfl dL_done_3 ?_
  refine lv_istore (lv' := [(9, .int (nI (A.1.1))), (0, .ref (ad 0)), (1, .int (nI (6))), (2, .int (nI (f9))), (3, .int (nI (g9))), (4, .int (nI (t9))), (5, .int (y9)), (6, .ref nu), (7, .ref fi), (8, .ref fl)]) hx hb dL_done_4 hl (by decide) rfl (fun ls hl => ?_)
  refine lv_iload_n hx hb dL_done_6 rfl (lv_at hl 2 rfl) ?_
  refine n_if_ne (tgt := 14) hx hb dL_done_7 (by decide) (by decide) (fun c_7 => ?_) (fun c_7 => ?_)
  · skip
    refine lv_iload_n hx hb dL_done_14 rfl (lv_at hl 2 rfl) ?_
    refine lv_iconst (v := nI 3) hx hb dL_done_15 (by decide) ?_
    refine n_icmp_ge (tgt := 23) hx hb dL_done_16 (by decide) (by decide) (by decide) (fun c_16 => ?_) (fun c_16 => ?_)
    · skip
      refine lv_iload_n hx hb dL_done_23 rfl (lv_at hl 2 rfl) ?_
      refine lv_iconst (v := nI 3) hx hb dL_done_24 (by decide) ?_
      refine n_icmp_ne (tgt := 32) hx hb dL_done_25 (by decide) (by decide) (by decide) (fun c_25 => ?_) (fun c_25 => ?_)
      · skip
        refine lv_iload_n hx hb dL_done_32 rfl (lv_at hl 2 rfl) ?_
        refine lv_iconst (v := nI 4) hx hb dL_done_33 (by decide) ?_
        refine n_icmp_ne (tgt := 42) hx hb dL_done_34 (by decide) (by decide) (by decide) (fun c_34 => ?_) (fun c_34 => ?_)
        · skip
          refine lv_iload_n hx hb dL_done_42 rfl (lv_at hl 2 rfl) ?_
          refine lv_bipush (v := nI 7) hx hb dL_done_43 (by decide) ?_
          refine n_icmp_ge (tgt := 52) hx hb dL_done_45 (by decide) (by decide) (by decide) (fun c_45 => ?_) (fun c_45 => ?_)
          · skip
            exact absurd c_45 (by omega)
          · skip
            refine lv_iconst (v := nI 4) hx hb dL_done_48 (by decide) ?_
            refine lv_goto (tgt := 76) hx hb dL_done_49 (by decide) ?_
            refine lv_istore (lv' := [(10, .int (nI (4))), (9, .int (nI (A.1.1))), (0, .ref (ad 0)), (1, .int (nI (6))), (2, .int (nI (f9))), (3, .int (nI (g9))), (4, .int (nI (t9))), (5, .int (y9)), (6, .ref nu), (7, .ref fi), (8, .ref fl)]) hx hb dL_done_76 hl (by decide) rfl (fun ls hl => ?_)
            refine lv_aload hx hb dL_done_78 (lv_at hl 8 rfl) ?_
            refine lv_iconst (v := nI 1) hx hb dL_done_80 (by decide) ?_
            refine q_iald C0 hw mnu fnu (1) (by omega) (by decide) (v := nI (A.1.2.1)) rfl dL_done_81 ?_
            refine lv_iload hx hb dL_done_82 (lv_at hl 1 rfl) ?_
            refine lv_iload hx hb dL_done_84 (lv_at hl 0 rfl) ?_
            refine n_imul hx hb dL_done_86 ?_
            refine n_icmp_ge (tgt := 92) hx hb dL_done_87 (by decide) (by omega) (by omega) (fun c_87 => ?_) (fun c_87 => ?_)
            · skip
              refine lv_iload_n hx hb dL_done_92 rfl (lv_at hl 3 rfl) ?_
              refine lv_tableIn (off := 313) (tgt := 406) hx hb dL_done_93 (by decide) (by decide) rfl (by decide) ?_
              refine lv_aload_n hx hb dL_done_406 rfl (lv_at hl 2 rfl) ?_
              refine lv_iload_n hx hb dL_done_407 rfl (lv_at hl 4 rfl) ?_
              refine lv_iload hx hb dL_done_408 (lv_at hl 6 rfl) ?_
              have hX_5586 : XW G F ad A := (hX.keep (fun i hi => (had0 i hi)))
              refine q_calli hw (q_runV (As := [.int (nI (f9)), .int (nI (t9))]) (c_X5_invert l G L F ad hL hin A f9 t9 hf9 ht9 (by omega) hX_5586 hA) C0 hw vw_L_72 (hL 0 (by decide)) hX_5586.1 rfl rfl rfl hl.1 rfl (Nat.le_of_ble_eq_true rfl) dL_done_410 ⟨by decide, by decide⟩ ⟨(by show 0 + 0 ≤ 115; omega), (by show 0 + 0 ≤ 805; omega)⟩) rfl rfl (fun r_5589 F_5587 H locs hw hp_5588 => ?_)
              obtain ⟨h_5590, h_5591, h_5592⟩ := hp_5588
              subst h_5590
              have f_5593 : F_5587 nu = nE G A.1.1 A.1.2.1 A.1.2.2.1 A.1.2.2.2.1 A.1.2.2.2.2.1 A.2.1.1 := (h_5592 nu (fun i hi => hna i hi)).trans fnu
              have f_5594 : F_5587 fi = pcF G ((loR A.1.2.2.2.2.2)) := (h_5592 fi (fun i hi => hfa i hi)).trans ffi
              have f_5595 : F_5587 fl = pcF G ((hiR A.1.2.2.2.2.2)) := (h_5592 fl (fun i hi => hga i hi)).trans ffl
              have had_5596 : ∀ i, i < 166 → F_5587 (ad i) = F_5587 (ad i) := fun _ _ => rfl
              refine lv_aload hx hb dL_done_413 (lv_at hl 8 rfl) ?_
              refine lv_aload hx hb dL_done_415 (lv_at hl 10 rfl) ?_
              refine lv_iload hx hb dL_done_417 (lv_at hl 6 rfl) ?_
              refine lv_iload hx hb dL_done_419 (lv_at hl 1 rfl) ?_
              refine lv_aload hx hb dL_done_421 (lv_at hl 10 rfl) ?_
              refine lv_iload_n hx hb dL_done_423 rfl (lv_at hl 4 rfl) ?_
              refine q_callr hw (q_runS (As := [.ref fl, .int (nI (f9))]) (c_L_get l G L F_5587 fl f9 ((hiR A.1.2.2.2.2.2)) mfl f_5595 (by omega)) C0 hw sw_L_48 rfl hl.1 rfl (Nat.le_of_ble_eq_true rfl) dL_done_424 ⟨by decide, by decide⟩ ⟨(by show 0 + 1 ≤ 115; omega), (by show 0 + 7 ≤ 805; omega)⟩) (fun L_5597 F_5598 a_5599 H locs g_5600 hw1 => ?_)
              have hge_a_5599 : s.heap.size ≤ a_5599 := Nat.le_trans hw.2.2.1 g_5600.2.2.2.2
              have f_5601 : F_5598 nu = nE G A.1.1 A.1.2.1 A.1.2.2.1 A.1.2.2.2.1 A.1.2.2.2.2.1 A.2.1.1 := (g_5600.2.2.1 nu mnu).1.trans f_5593
              have lt_5603 := (g_5600.2.2.1 nu mnu).2
              have m_5602 : nu ∈ L_5597 := g_5600.1.1 nu mnu
              have f_5604 : F_5598 fi = pcF G ((loR A.1.2.2.2.2.2)) := (g_5600.2.2.1 fi mfi).1.trans f_5594
              have lt_5606 := (g_5600.2.2.1 fi mfi).2
              have m_5605 : fi ∈ L_5597 := g_5600.1.1 fi mfi
              have f_5607 : F_5598 fl = pcF G ((hiR A.1.2.2.2.2.2)) := (g_5600.2.2.1 fl mfl).1.trans f_5595
              have lt_5609 := (g_5600.2.2.1 fl mfl).2
              have m_5608 : fl ∈ L_5597 := g_5600.1.1 fl mfl
              have had_5610 : ∀ i, i < 166 → F_5598 (ad i) = _ := fun i hi => (g_5600.2.2.1 (ad i) (hg0.1 _ (hL i hi))).1.trans (had_5596 i hi)
              have hg_5611 := hg0.step g_5600.1 hw.2.2.1
              have C0 := C0.grow g_5600.1 hw.2.2.1
              have hw := hw1
              have m_5612 : a_5599 ∈ L_5597 := g_5600.2.2.2.1
              have f_5613 : F_5598 a_5599 = rw7 G (((hiR A.1.2.2.2.2.2)) f9) := g_5600.2.1
              have f_5614 : F_5598 a_5599 = rw7 G ((A.1.2.2.2.2.2 (6 + f9))) := f_5613.trans (congrArg (rw7 G) (hiR_at A.1.2.2.2.2.2 (by omega)))
              refine q_callr hw (q_runS (As := [.int (nI (A.1.1)), .ref a_5599]) (c_L_inverse l G L_5597 F_5598 A.1.1 a_5599 ((A.1.2.2.2.2.2 (6 + f9))) m_5612 f_5614 (by omega) (by omega)) C0 hw sw_L_37 rfl hl.1 rfl (Nat.le_of_ble_eq_true rfl) dL_done_427 ⟨by decide, by decide⟩ ⟨(by show 1 + 41 ≤ 115; omega), (by show 7 + 287 ≤ 805; omega)⟩) (fun L_5615 F_5616 a_5617 H locs g_5618 hw1 => ?_)
              have hge_a_5617 : s.heap.size ≤ a_5617 := Nat.le_trans hw.2.2.1 g_5618.2.2.2.2
              have f_5619 : F_5616 nu = nE G A.1.1 A.1.2.1 A.1.2.2.1 A.1.2.2.2.1 A.1.2.2.2.2.1 A.2.1.1 := (g_5618.2.2.1 nu m_5602).1.trans f_5601
              have lt_5621 := (g_5618.2.2.1 nu m_5602).2
              have m_5620 : nu ∈ L_5615 := g_5618.1.1 nu m_5602
              have f_5622 : F_5616 fi = pcF G ((loR A.1.2.2.2.2.2)) := (g_5618.2.2.1 fi m_5605).1.trans f_5604
              have lt_5624 := (g_5618.2.2.1 fi m_5605).2
              have m_5623 : fi ∈ L_5615 := g_5618.1.1 fi m_5605
              have f_5625 : F_5616 fl = pcF G ((hiR A.1.2.2.2.2.2)) := (g_5618.2.2.1 fl m_5608).1.trans f_5607
              have lt_5627 := (g_5618.2.2.1 fl m_5608).2
              have m_5626 : fl ∈ L_5615 := g_5618.1.1 fl m_5608
              have had_5628 : ∀ i, i < 166 → F_5616 (ad i) = _ := fun i hi => (g_5618.2.2.1 (ad i) (hg_5611.1 _ (hL i hi))).1.trans (had_5610 i hi)
              have hg_5629 := hg_5611.step g_5618.1 hw.2.2.1
              have C0 := C0.grow g_5618.1 hw.2.2.1
              have hw := hw1
              have m_5630 : a_5617 ∈ L_5615 := g_5618.2.2.2.1
              have f_5631 : F_5616 a_5617 = rw7 G ((m_inv ((A.1.2.2.2.2.2 (6 + f9))) A.1.1)) := g_5618.2.1
              refine lv_iload hx hb dL_done_430 (lv_at hl 0 rfl) ?_
              obtain ⟨F_5632, hw, f_5633, o_5634⟩ := hw.rowE f_5631 (v := (ordR 105 f9 f9 A.1.1 A.1.2.2.2.2.2)) (fun k hk => rfl)
              have f_5635 : F_5632 nu = nE G A.1.1 A.1.2.1 A.1.2.2.1 A.1.2.2.2.1 A.1.2.2.2.2.1 A.2.1.1 := (o_5634 nu (by omega)).trans f_5619
              have f_5636 : F_5632 fl = pcF G ((hiR A.1.2.2.2.2.2)) := (o_5634 fl (by omega)).trans f_5625
              refine q_calli hw (q_runS (As := [.ref nu, .ref fl, .int (nI (t9)), .ref a_5617, .int (nI (4))]) (c_L_put l G L_5615 F_5632 nu fl a_5617 t9 4 A.1.1 A.1.2.1 A.1.2.2.1 A.1.2.2.2.1 A.1.2.2.2.2.1 A.2.1.1 ((hiR A.1.2.2.2.2.2)) ((ordR 105 f9 f9 A.1.1 A.1.2.2.2.2.2)) m_5620 m_5626 m_5630 f_5635 f_5636 f_5633  (by omega) (by omega) (by omega)) C0 hw sw_L_52 rfl hl.1 rfl (Nat.le_of_ble_eq_true rfl) dL_done_432 ⟨by decide, by decide⟩ ⟨(by show 42 + 0 ≤ 115; omega), (by show 294 + 0 ≤ 805; omega)⟩) rfl rfl (fun r_5639 F_5637 H locs hw hp_5638 => ?_)
              obtain ⟨h_5640, h_5641, h_5642, h_5643⟩ := hp_5638
              subst h_5640
              have f_5644 : F_5632 fi = pcF G ((loR A.1.2.2.2.2.2)) := (o_5634 fi (by omega)).trans f_5622
              have had_5645 : ∀ i, i < 166 → F_5637 (ad i) = _ := fun i hi => (h_5643 (ad i) (Ne.symm (hna i hi)) (Ne.symm (hga i hi))).trans ((o_5634 (ad i) (Ne.symm (show a_5617 ≠ ad i by have := hLs (ad i) (hL i hi); omega))).trans (had_5628 i hi))
              have f_5646 : F_5637 fi = pcF G ((loR A.1.2.2.2.2.2)) := (h_5643 fi (by omega) (by omega)).trans f_5644
              refine lv_icmp_ne (tgt := 442) hx hb dL_done_435 (by decide) (fun c_435 => ?_) (fun c_435 => ?_)
              · skip
                exact absurd rfl c_435
              · skip
                refine lv_iconst (v := nI 1) hx hb dL_done_438 (by decide) ?_
                refine lv_goto (tgt := 443) hx hb dL_done_439 (by decide) ?_
                exact r_iG C0 hg_5629 hr hlk hw (v := nI 1) rfl ⟨rfl, (aSave A (ordS 105 f9 f9 t9 A.1)), ⟨(h_5591.keep (fun i hi => (had_5645 i hi))), okA_save hA (okS_ord (Or.inr (Or.inr (Or.inr (Or.inr (Or.inr (Or.inr (Or.inr (rfl)))))))) hf9 hf9 hA.1), okFl_up (A := A) (t := 6 + t9) rfl hFl (fun _ => ⟨inv_lo (p := 0) _ (by omega), inv_lo (p := 1) _ (by omega)⟩), h_5641.trans (by rw [← sv_1 A.2.1 A.1 hh6]; rfl), f_5646.trans (congrArg (pcF G) (loR_k A.1.2.2.2.2.2 t9 _)), h_5642.trans (congrArg (pcF G) (hiR_u A.1.2.2.2.2.2 ht9 _))⟩, Nat.sub_le _ _⟩ (show 42 ≤ 115 by omega) (show 294 ≤ 805 by omega) dL_done_443 hQ
            · skip
              refine lv_iconst (v := nI 1) hx hb dL_done_90 (by decide) ?_
              exact r_iG C0 hg0 hr hlk hw (v := nI 1) rfl ⟨rfl, A, ⟨(hX.keep (fun i hi => (had0 i hi))), hA, hFl, fnu, ffi, ffl⟩, Nat.le_refl _⟩ (show 0 ≤ 115 by omega) (show 0 ≤ 805 by omega) dL_done_91 hQ
        · skip
          exact absurd c_34 (by omega)
      · skip
        exact absurd c_25 (by omega)
    · skip
      exact absurd c_16 (by omega)
  · skip
    exact absurd c_7 (by omega)
set_option maxHeartbeats 4000000 in
set_option maxRecDepth 100000 in
theorem c_L_done_7 (l : Launch) (G : Gl) (L : List Nat) (F : Nat → va_E) (ad : Nat → Nat) (nu fi fl : Nat) (hS : LSQ L ad nu fi fl) (A : AB) (hX : XW G F ad A) (hA : okA A) (hFl : okFl A) (hN : LNQ G F nu fi fl A) (f9 g9 t9 : Nat) (y9 : Int32) (hf9 : f9 < 6) (hg9 : g9 < 6) (ht9 : t9 < 6) : CI l yL_done cL_done 13 (some .boolean) rm_L_done G L F [.ref (ad 0), .int (nI (7)), .int (nI (f9)), .int (nI (g9)), .int (nI (t9)), .int (y9), .ref nu, .ref fi, .ref fl] (fun r F1 => r = nI 1 ∧ ∃ A2, LWQ G F1 ad nu fi fl A2 ∧ A2.1.2.1 ≤ A.1.2.1) := by
  refine CG_of (by decide) (Nat.le_of_ble_eq_true rfl) rfl ?_
  intro p e s m args below meth c Q C0 hr hlk hnm hQ hw ls hl
  obtain ⟨hL, hin, mnu, mfi, mfl, hnf, hnl, hff, hna, hfa, hga⟩ := id hS
  obtain ⟨fnu, ffi, ffl⟩ := id hN
  obtain ⟨⟨hc2, hc, hpu, hok⟩, ⟨hh6, hho⟩, -⟩ := id hA
  have had0 : ∀ i, i < 166 → F (ad i) = F (ad i) := fun _ _ => rfl
  have hx := C0.x
  have hb := C0.b
  have hg0 := gr.rfl (L := L) s.heap.size
  have hLs : ∀ q ∈ L, q < s.heap.size := fun q hq => hw.lt hq
  have hfr0 : ∀ q ∈ L, F q = F q := fun _ _ => rfl
  have hlt_nu := hLs nu mnu
  have hlt_fi := hLs fi mfi
  have hlt_fl := hLs fl mfl
  refine lv_aload hx hb dL_done_0 (lv_at hl 6 rfl) ?_
  refine lv_iconst (v := nI 0) hx hb dL_done_2 (by decide) ?_
  refine q_iald C0 hw mnu fnu (0) (by omega) (by decide) (v := nI (A.1.1)) rfl dL_done_3 ?_
  refine lv_istore (lv' := [(9, .int (nI (A.1.1))), (0, .ref (ad 0)), (1, .int (nI (7))), (2, .int (nI (f9))), (3, .int (nI (g9))), (4, .int (nI (t9))), (5, .int (y9)), (6, .ref nu), (7, .ref fi), (8, .ref fl)]) hx hb dL_done_4 hl (by decide) rfl (fun ls hl => ?_)
  refine lv_iload_n hx hb dL_done_6 rfl (lv_at hl 2 rfl) ?_
  refine n_if_ne (tgt := 14) hx hb dL_done_7 (by decide) (by decide) (fun c_7 => ?_) (fun c_7 => ?_)
  · skip
    refine lv_iload_n hx hb dL_done_14 rfl (lv_at hl 2 rfl) ?_
    refine lv_iconst (v := nI 3) hx hb dL_done_15 (by decide) ?_
    refine n_icmp_ge (tgt := 23) hx hb dL_done_16 (by decide) (by decide) (by decide) (fun c_16 => ?_) (fun c_16 => ?_)
    · skip
      refine lv_iload_n hx hb dL_done_23 rfl (lv_at hl 2 rfl) ?_
      refine lv_iconst (v := nI 3) hx hb dL_done_24 (by decide) ?_
      refine n_icmp_ne (tgt := 32) hx hb dL_done_25 (by decide) (by decide) (by decide) (fun c_25 => ?_) (fun c_25 => ?_)
      · skip
        refine lv_iload_n hx hb dL_done_32 rfl (lv_at hl 2 rfl) ?_
        refine lv_iconst (v := nI 4) hx hb dL_done_33 (by decide) ?_
        refine n_icmp_ne (tgt := 42) hx hb dL_done_34 (by decide) (by decide) (by decide) (fun c_34 => ?_) (fun c_34 => ?_)
        · skip
          refine lv_iload_n hx hb dL_done_42 rfl (lv_at hl 2 rfl) ?_
          refine lv_bipush (v := nI 7) hx hb dL_done_43 (by decide) ?_
          refine n_icmp_ge (tgt := 52) hx hb dL_done_45 (by decide) (by decide) (by decide) (fun c_45 => ?_) (fun c_45 => ?_)
          · skip
            refine lv_iload_n hx hb dL_done_52 rfl (lv_at hl 2 rfl) ?_
            refine lv_bipush (v := nI 7) hx hb dL_done_53 (by decide) ?_
            refine n_icmp_ne (tgt := 63) hx hb dL_done_55 (by decide) (by decide) (by decide) (fun c_55 => ?_) (fun c_55 => ?_)
            · skip
              exact absurd c_55 (by omega)
            · skip
              refine lv_bipush (v := nI 8) hx hb dL_done_58 (by decide) ?_
              refine lv_goto (tgt := 76) hx hb dL_done_60 (by decide) ?_
              refine lv_istore (lv' := [(10, .int (nI (8))), (9, .int (nI (A.1.1))), (0, .ref (ad 0)), (1, .int (nI (7))), (2, .int (nI (f9))), (3, .int (nI (g9))), (4, .int (nI (t9))), (5, .int (y9)), (6, .ref nu), (7, .ref fi), (8, .ref fl)]) hx hb dL_done_76 hl (by decide) rfl (fun ls hl => ?_)
              refine lv_aload hx hb dL_done_78 (lv_at hl 8 rfl) ?_
              refine lv_iconst (v := nI 1) hx hb dL_done_80 (by decide) ?_
              refine q_iald C0 hw mnu fnu (1) (by omega) (by decide) (v := nI (A.1.2.1)) rfl dL_done_81 ?_
              refine lv_iload hx hb dL_done_82 (lv_at hl 1 rfl) ?_
              refine lv_iload hx hb dL_done_84 (lv_at hl 0 rfl) ?_
              refine n_imul hx hb dL_done_86 ?_
              refine n_icmp_ge (tgt := 92) hx hb dL_done_87 (by decide) (by omega) (by omega) (fun c_87 => ?_) (fun c_87 => ?_)
              · skip
                refine lv_iload_n hx hb dL_done_92 rfl (lv_at hl 3 rfl) ?_
                refine lv_tableIn (off := 351) (tgt := 444) hx hb dL_done_93 (by decide) (by decide) rfl (by decide) ?_
                refine lv_iload hx hb dL_done_444 (lv_at hl 7 rfl) ?_
                refine lv_bipush (v := nI 19) hx hb dL_done_446 (by decide) ?_
                refine q_calli hw (q_runS (As := [.int (y9), .int (nI (19))]) (c_L_at l G L F (y9) 19 (by omega) (by omega)) C0 hw sw_L_75 rfl hl.1 rfl (Nat.le_of_ble_eq_true rfl) dL_done_448 ⟨by decide, by decide⟩ ⟨(by show 0 + 0 ≤ 115; omega), (by show 0 + 0 ≤ 805; omega)⟩) rfl rfl (fun r_5649 F_5647 H locs hw hp_5648 => ?_)
                obtain ⟨⟨za_5650, hz_5651, h_5652⟩, o_5653⟩ := hp_5648
                subst h_5652
                refine lv_bipush (v := nI 9) hx hb dL_done_451 (by decide) ?_
                rcases Nat.lt_or_ge za_5650 9 with hz9 | hz9
                · skip
                  refine lv_isub hx hb dL_done_453 ?_
                  refine n_top (y := .int (- nI (9 - za_5650))) (congrArg Value.int (ng_sub (by omega))) ?_
                  refine lv_istore (lv' := [(11, .int (- nI (9 - za_5650))), (10, .int (nI (8))), (9, .int (nI (A.1.1))), (0, .ref (ad 0)), (1, .int (nI (7))), (2, .int (nI (f9))), (3, .int (nI (g9))), (4, .int (nI (t9))), (5, .int (y9)), (6, .ref nu), (7, .ref fi), (8, .ref fl)]) hx hb dL_done_454 hl (by decide) rfl (fun ls hl => ?_)
                  refine lv_aload_n hx hb dL_done_456 rfl (lv_at hl 3 rfl) ?_
                  refine lv_iload_n hx hb dL_done_457 rfl (lv_at hl 5 rfl) ?_
                  refine lv_iload hx hb dL_done_458 (lv_at hl 0 rfl) ?_
                  refine lv_iload hx hb dL_done_460 (lv_at hl 7 rfl) ?_
                  have hX_5654 : XW G F_5647 ad A := (hX.keep (fun i hi => ((o_5653 (ad i) ).trans (had0 i hi))))
                  refine q_calli hw (q_runV (As := [.int (nI (f9)), .int (- nI (9 - za_5650)), .int (nI (t9))]) (c_X5_power l G L F_5647 ad hL hin A f9 t9 (- nI (9 - za_5650)) hf9 ht9 (ng_h1 (by omega)) (ng_h2 (by omega)) (by omega) hX_5654 hA) C0 hw vw_L_78 (hL 0 (by decide)) hX_5654.1 rfl rfl rfl hl.1 rfl (Nat.le_of_ble_eq_true rfl) dL_done_462 ⟨by decide, by decide⟩ ⟨(by show 0 + 0 ≤ 115; omega), (by show 0 + 0 ≤ 805; omega)⟩) rfl rfl (fun r_5657 F_5655 H locs hw hp_5656 => ?_)
                  obtain ⟨h_5658, h_5659, h_5660⟩ := hp_5656
                  subst h_5658
                  have f_5661 : F_5647 nu = nE G A.1.1 A.1.2.1 A.1.2.2.1 A.1.2.2.2.1 A.1.2.2.2.2.1 A.2.1.1 := (o_5653 nu ).trans fnu
                  have f_5662 : F_5655 nu = nE G A.1.1 A.1.2.1 A.1.2.2.1 A.1.2.2.2.1 A.1.2.2.2.2.1 A.2.1.1 := (h_5660 nu (fun i hi => hna i hi)).trans f_5661
                  have f_5663 : F_5647 fi = pcF G ((loR A.1.2.2.2.2.2)) := (o_5653 fi ).trans ffi
                  have f_5664 : F_5655 fi = pcF G ((loR A.1.2.2.2.2.2)) := (h_5660 fi (fun i hi => hfa i hi)).trans f_5663
                  have f_5665 : F_5647 fl = pcF G ((hiR A.1.2.2.2.2.2)) := (o_5653 fl ).trans ffl
                  have f_5666 : F_5655 fl = pcF G ((hiR A.1.2.2.2.2.2)) := (h_5660 fl (fun i hi => hga i hi)).trans f_5665
                  have had_5667 : ∀ i, i < 166 → F_5655 (ad i) = F_5655 (ad i) := fun _ _ => rfl
                  refine lv_aload hx hb dL_done_465 (lv_at hl 9 rfl) ?_
                  refine lv_aload hx hb dL_done_467 (lv_at hl 11 rfl) ?_
                  refine lv_iload hx hb dL_done_469 (lv_at hl 7 rfl) ?_
                  refine lv_iload hx hb dL_done_471 (lv_at hl 2 rfl) ?_
                  refine lv_aload hx hb dL_done_473 (lv_at hl 11 rfl) ?_
                  refine lv_iload_n hx hb dL_done_475 rfl (lv_at hl 5 rfl) ?_
                  refine q_callr hw (q_runS (As := [.ref fl, .int (nI (f9))]) (c_L_get l G L F_5655 fl f9 ((hiR A.1.2.2.2.2.2)) mfl f_5666 (by omega)) C0 hw sw_L_48 rfl hl.1 rfl (Nat.le_of_ble_eq_true rfl) dL_done_476 ⟨by decide, by decide⟩ ⟨(by show 0 + 1 ≤ 115; omega), (by show 0 + 7 ≤ 805; omega)⟩) (fun L_5668 F_5669 a_5670 H locs g_5671 hw1 => ?_)
                  have hge_a_5670 : s.heap.size ≤ a_5670 := Nat.le_trans hw.2.2.1 g_5671.2.2.2.2
                  have f_5672 : F_5669 nu = nE G A.1.1 A.1.2.1 A.1.2.2.1 A.1.2.2.2.1 A.1.2.2.2.2.1 A.2.1.1 := (g_5671.2.2.1 nu mnu).1.trans f_5662
                  have lt_5674 := (g_5671.2.2.1 nu mnu).2
                  have m_5673 : nu ∈ L_5668 := g_5671.1.1 nu mnu
                  have f_5675 : F_5669 fi = pcF G ((loR A.1.2.2.2.2.2)) := (g_5671.2.2.1 fi mfi).1.trans f_5664
                  have lt_5677 := (g_5671.2.2.1 fi mfi).2
                  have m_5676 : fi ∈ L_5668 := g_5671.1.1 fi mfi
                  have f_5678 : F_5669 fl = pcF G ((hiR A.1.2.2.2.2.2)) := (g_5671.2.2.1 fl mfl).1.trans f_5666
                  have lt_5680 := (g_5671.2.2.1 fl mfl).2
                  have m_5679 : fl ∈ L_5668 := g_5671.1.1 fl mfl
                  have had_5681 : ∀ i, i < 166 → F_5669 (ad i) = _ := fun i hi => (g_5671.2.2.1 (ad i) (hg0.1 _ (hL i hi))).1.trans (had_5667 i hi)
                  have hg_5682 := hg0.step g_5671.1 hw.2.2.1
                  have C0 := C0.grow g_5671.1 hw.2.2.1
                  have hw := hw1
                  have m_5683 : a_5670 ∈ L_5668 := g_5671.2.2.2.1
                  have f_5684 : F_5669 a_5670 = rw7 G (((hiR A.1.2.2.2.2.2)) f9) := g_5671.2.1
                  have f_5685 : F_5669 a_5670 = rw7 G ((A.1.2.2.2.2.2 (6 + f9))) := f_5684.trans (congrArg (rw7 G) (hiR_at A.1.2.2.2.2.2 (by omega)))
                  refine lv_iload hx hb dL_done_479 (lv_at hl 0 rfl) ?_
                  refine q_callr hw (q_runS (As := [.int (nI (A.1.1)), .ref a_5670, .int (- nI (9 - za_5650))]) (c_L_power_n l G L_5668 F_5669 A.1.1 a_5670 (9 - za_5650) ((A.1.2.2.2.2.2 (6 + f9))) m_5683 f_5685 (by omega) (by omega) (by omega) (by omega)) C0 hw sw_L_81 rfl hl.1 rfl (Nat.le_of_ble_eq_true rfl) dL_done_481 ⟨by decide, by decide⟩ ⟨(by show 1 + 114 ≤ 115; omega), (by show 7 + 798 ≤ 805; omega)⟩) (fun L_5686 F_5687 a_5688 H locs g_5689 hw1 => ?_)
                  have hge_a_5688 : s.heap.size ≤ a_5688 := Nat.le_trans hw.2.2.1 g_5689.2.2.2.2
                  have f_5690 : F_5687 nu = nE G A.1.1 A.1.2.1 A.1.2.2.1 A.1.2.2.2.1 A.1.2.2.2.2.1 A.2.1.1 := (g_5689.2.2.1 nu m_5673).1.trans f_5672
                  have lt_5692 := (g_5689.2.2.1 nu m_5673).2
                  have m_5691 : nu ∈ L_5686 := g_5689.1.1 nu m_5673
                  have f_5693 : F_5687 fi = pcF G ((loR A.1.2.2.2.2.2)) := (g_5689.2.2.1 fi m_5676).1.trans f_5675
                  have lt_5695 := (g_5689.2.2.1 fi m_5676).2
                  have m_5694 : fi ∈ L_5686 := g_5689.1.1 fi m_5676
                  have f_5696 : F_5687 fl = pcF G ((hiR A.1.2.2.2.2.2)) := (g_5689.2.2.1 fl m_5679).1.trans f_5678
                  have lt_5698 := (g_5689.2.2.1 fl m_5679).2
                  have m_5697 : fl ∈ L_5686 := g_5689.1.1 fl m_5679
                  have had_5699 : ∀ i, i < 166 → F_5687 (ad i) = _ := fun i hi => (g_5689.2.2.1 (ad i) (hg_5682.1 _ (hL i hi))).1.trans (had_5681 i hi)
                  have hg_5700 := hg_5682.step g_5689.1 hw.2.2.1
                  have C0 := C0.grow g_5689.1 hw.2.2.1
                  have hw := hw1
                  have m_5701 : a_5688 ∈ L_5686 := g_5689.2.2.2.1
                  have f_5702 : F_5687 a_5688 = rw7 G ((l_pw (m_inv ((A.1.2.2.2.2.2 (6 + f9))) A.1.1) A.1.1 (9 - za_5650))) := g_5689.2.1
                  refine lv_iload hx hb dL_done_484 (lv_at hl 1 rfl) ?_
                  obtain ⟨F_5703, hw, f_5704, o_5705⟩ := hw.rowE f_5702 (v := (m_rep (A.1.2.2.2.2.2 (6 + f9)) (zi (- nI (9 - za_5650))) A.1.1)) (fun k hk => (pow_neg _ (hFl f9 hf9).1 (hFl f9 hf9).2 hc2 hc (9 - za_5650) k).trans (by rw [zi_ng (by omega)]))
                  have f_5706 : F_5703 nu = nE G A.1.1 A.1.2.1 A.1.2.2.1 A.1.2.2.2.1 A.1.2.2.2.2.1 A.2.1.1 := (o_5705 nu (by omega)).trans f_5690
                  have f_5707 : F_5703 fl = pcF G ((hiR A.1.2.2.2.2.2)) := (o_5705 fl (by omega)).trans f_5696
                  refine q_calli hw (q_runS (As := [.ref nu, .ref fl, .int (nI (t9)), .ref a_5688, .int (nI (8))]) (c_L_put l G L_5686 F_5703 nu fl a_5688 t9 8 A.1.1 A.1.2.1 A.1.2.2.1 A.1.2.2.2.1 A.1.2.2.2.2.1 A.2.1.1 ((hiR A.1.2.2.2.2.2)) ((m_rep (A.1.2.2.2.2.2 (6 + f9)) (zi (- nI (9 - za_5650))) A.1.1)) m_5691 m_5697 m_5701 f_5706 f_5707 f_5704  (by omega) (by omega) (by omega)) C0 hw sw_L_52 rfl hl.1 rfl (Nat.le_of_ble_eq_true rfl) dL_done_486 ⟨by decide, by decide⟩ ⟨(by show 115 + 0 ≤ 115; omega), (by show 805 + 0 ≤ 805; omega)⟩) rfl rfl (fun r_5710 F_5708 H locs hw hp_5709 => ?_)
                  obtain ⟨h_5711, h_5712, h_5713, h_5714⟩ := hp_5709
                  subst h_5711
                  have f_5715 : F_5703 fi = pcF G ((loR A.1.2.2.2.2.2)) := (o_5705 fi (by omega)).trans f_5693
                  have had_5716 : ∀ i, i < 166 → F_5708 (ad i) = _ := fun i hi => (h_5714 (ad i) (Ne.symm (hna i hi)) (Ne.symm (hga i hi))).trans ((o_5705 (ad i) (Ne.symm (show a_5688 ≠ ad i by have := hLs (ad i) (hL i hi); omega))).trans (had_5699 i hi))
                  have f_5717 : F_5708 fi = pcF G ((loR A.1.2.2.2.2.2)) := (h_5714 fi (by omega) (by omega)).trans f_5715
                  refine lv_icmp_ne (tgt := 496) hx hb dL_done_489 (by decide) (fun c_489 => ?_) (fun c_489 => ?_)
                  · skip
                    exact absurd rfl c_489
                  · skip
                    refine lv_iconst (v := nI 1) hx hb dL_done_492 (by decide) ?_
                    refine lv_goto (tgt := 497) hx hb dL_done_493 (by decide) ?_
                    exact r_iG C0 hg_5700 hr hlk hw (v := nI 1) rfl ⟨rfl, (aSave A (genS 8 (6 + t9) (m_rep (A.1.2.2.2.2.2 (6 + f9)) (zi (- nI (9 - za_5650))) A.1.1) A.1)), ⟨(h_5659.keep (fun i hi => (had_5716 i hi))), okA_save hA (okS_gen hA.1 (fun h9 => absurd h9 (by omega))), okFl_up (A := A) (t := 6 + t9) rfl hFl (fun _ => ⟨exp_lo (p := 0) _ (by omega), exp_lo (p := 1) _ (by omega)⟩), h_5712.trans (by rw [← sv_1 A.2.1 A.1 hh6]; rfl), f_5717.trans (congrArg (pcF G) (loR_k A.1.2.2.2.2.2 t9 _)), h_5713.trans (congrArg (pcF G) (hiR_u A.1.2.2.2.2.2 ht9 _))⟩, Nat.sub_le _ _⟩ (show 115 ≤ 115 by omega) (show 805 ≤ 805 by omega) dL_done_497 hQ
                · skip
                  refine n_isub hx hb (by omega) dL_done_453 ?_
                  refine lv_istore (lv' := [(11, .int (nI (za_5650 - 9))), (10, .int (nI (8))), (9, .int (nI (A.1.1))), (0, .ref (ad 0)), (1, .int (nI (7))), (2, .int (nI (f9))), (3, .int (nI (g9))), (4, .int (nI (t9))), (5, .int (y9)), (6, .ref nu), (7, .ref fi), (8, .ref fl)]) hx hb dL_done_454 hl (by decide) rfl (fun ls hl => ?_)
                  refine lv_aload_n hx hb dL_done_456 rfl (lv_at hl 3 rfl) ?_
                  refine lv_iload_n hx hb dL_done_457 rfl (lv_at hl 5 rfl) ?_
                  refine lv_iload hx hb dL_done_458 (lv_at hl 0 rfl) ?_
                  refine lv_iload hx hb dL_done_460 (lv_at hl 7 rfl) ?_
                  have hX_5718 : XW G F_5647 ad A := (hX.keep (fun i hi => ((o_5653 (ad i) ).trans (had0 i hi))))
                  refine q_calli hw (q_runV (As := [.int (nI (f9)), .int (nI (za_5650 - 9)), .int (nI (t9))]) (c_X5_power l G L F_5647 ad hL hin A f9 t9 (nI (za_5650 - 9)) hf9 ht9 (ps_h1 (by omega)) (ps_h2 (by omega)) (by omega) hX_5718 hA) C0 hw vw_L_78 (hL 0 (by decide)) hX_5718.1 rfl rfl rfl hl.1 rfl (Nat.le_of_ble_eq_true rfl) dL_done_462 ⟨by decide, by decide⟩ ⟨(by show 0 + 0 ≤ 115; omega), (by show 0 + 0 ≤ 805; omega)⟩) rfl rfl (fun r_5721 F_5719 H locs hw hp_5720 => ?_)
                  obtain ⟨h_5722, h_5723, h_5724⟩ := hp_5720
                  subst h_5722
                  have f_5725 : F_5647 nu = nE G A.1.1 A.1.2.1 A.1.2.2.1 A.1.2.2.2.1 A.1.2.2.2.2.1 A.2.1.1 := (o_5653 nu ).trans fnu
                  have f_5726 : F_5719 nu = nE G A.1.1 A.1.2.1 A.1.2.2.1 A.1.2.2.2.1 A.1.2.2.2.2.1 A.2.1.1 := (h_5724 nu (fun i hi => hna i hi)).trans f_5725
                  have f_5727 : F_5647 fi = pcF G ((loR A.1.2.2.2.2.2)) := (o_5653 fi ).trans ffi
                  have f_5728 : F_5719 fi = pcF G ((loR A.1.2.2.2.2.2)) := (h_5724 fi (fun i hi => hfa i hi)).trans f_5727
                  have f_5729 : F_5647 fl = pcF G ((hiR A.1.2.2.2.2.2)) := (o_5653 fl ).trans ffl
                  have f_5730 : F_5719 fl = pcF G ((hiR A.1.2.2.2.2.2)) := (h_5724 fl (fun i hi => hga i hi)).trans f_5729
                  have had_5731 : ∀ i, i < 166 → F_5719 (ad i) = F_5719 (ad i) := fun _ _ => rfl
                  refine lv_aload hx hb dL_done_465 (lv_at hl 9 rfl) ?_
                  refine lv_aload hx hb dL_done_467 (lv_at hl 11 rfl) ?_
                  refine lv_iload hx hb dL_done_469 (lv_at hl 7 rfl) ?_
                  refine lv_iload hx hb dL_done_471 (lv_at hl 2 rfl) ?_
                  refine lv_aload hx hb dL_done_473 (lv_at hl 11 rfl) ?_
                  refine lv_iload_n hx hb dL_done_475 rfl (lv_at hl 5 rfl) ?_
                  refine q_callr hw (q_runS (As := [.ref fl, .int (nI (f9))]) (c_L_get l G L F_5719 fl f9 ((hiR A.1.2.2.2.2.2)) mfl f_5730 (by omega)) C0 hw sw_L_48 rfl hl.1 rfl (Nat.le_of_ble_eq_true rfl) dL_done_476 ⟨by decide, by decide⟩ ⟨(by show 0 + 1 ≤ 115; omega), (by show 0 + 7 ≤ 805; omega)⟩) (fun L_5732 F_5733 a_5734 H locs g_5735 hw1 => ?_)
                  have hge_a_5734 : s.heap.size ≤ a_5734 := Nat.le_trans hw.2.2.1 g_5735.2.2.2.2
                  have f_5736 : F_5733 nu = nE G A.1.1 A.1.2.1 A.1.2.2.1 A.1.2.2.2.1 A.1.2.2.2.2.1 A.2.1.1 := (g_5735.2.2.1 nu mnu).1.trans f_5726
                  have lt_5738 := (g_5735.2.2.1 nu mnu).2
                  have m_5737 : nu ∈ L_5732 := g_5735.1.1 nu mnu
                  have f_5739 : F_5733 fi = pcF G ((loR A.1.2.2.2.2.2)) := (g_5735.2.2.1 fi mfi).1.trans f_5728
                  have lt_5741 := (g_5735.2.2.1 fi mfi).2
                  have m_5740 : fi ∈ L_5732 := g_5735.1.1 fi mfi
                  have f_5742 : F_5733 fl = pcF G ((hiR A.1.2.2.2.2.2)) := (g_5735.2.2.1 fl mfl).1.trans f_5730
                  have lt_5744 := (g_5735.2.2.1 fl mfl).2
                  have m_5743 : fl ∈ L_5732 := g_5735.1.1 fl mfl
                  have had_5745 : ∀ i, i < 166 → F_5733 (ad i) = _ := fun i hi => (g_5735.2.2.1 (ad i) (hg0.1 _ (hL i hi))).1.trans (had_5731 i hi)
                  have hg_5746 := hg0.step g_5735.1 hw.2.2.1
                  have C0 := C0.grow g_5735.1 hw.2.2.1
                  have hw := hw1
                  have m_5747 : a_5734 ∈ L_5732 := g_5735.2.2.2.1
                  have f_5748 : F_5733 a_5734 = rw7 G (((hiR A.1.2.2.2.2.2)) f9) := g_5735.2.1
                  have f_5749 : F_5733 a_5734 = rw7 G ((A.1.2.2.2.2.2 (6 + f9))) := f_5748.trans (congrArg (rw7 G) (hiR_at A.1.2.2.2.2.2 (by omega)))
                  refine lv_iload hx hb dL_done_479 (lv_at hl 0 rfl) ?_
                  refine q_callr hw (q_runS (As := [.int (nI (A.1.1)), .ref a_5734, .int (nI (za_5650 - 9))]) (c_L_power_p l G L_5732 F_5733 A.1.1 a_5734 (za_5650 - 9) ((A.1.2.2.2.2.2 (6 + f9))) m_5747 f_5749 (by omega) (by omega) (by omega)) C0 hw sw_L_81 rfl hl.1 rfl (Nat.le_of_ble_eq_true rfl) dL_done_481 ⟨by decide, by decide⟩ ⟨(by show 1 + 114 ≤ 115; omega), (by show 7 + 798 ≤ 805; omega)⟩) (fun L_5750 F_5751 a_5752 H locs g_5753 hw1 => ?_)
                  have hge_a_5752 : s.heap.size ≤ a_5752 := Nat.le_trans hw.2.2.1 g_5753.2.2.2.2
                  have f_5754 : F_5751 nu = nE G A.1.1 A.1.2.1 A.1.2.2.1 A.1.2.2.2.1 A.1.2.2.2.2.1 A.2.1.1 := (g_5753.2.2.1 nu m_5737).1.trans f_5736
                  have lt_5756 := (g_5753.2.2.1 nu m_5737).2
                  have m_5755 : nu ∈ L_5750 := g_5753.1.1 nu m_5737
                  have f_5757 : F_5751 fi = pcF G ((loR A.1.2.2.2.2.2)) := (g_5753.2.2.1 fi m_5740).1.trans f_5739
                  have lt_5759 := (g_5753.2.2.1 fi m_5740).2
                  have m_5758 : fi ∈ L_5750 := g_5753.1.1 fi m_5740
                  have f_5760 : F_5751 fl = pcF G ((hiR A.1.2.2.2.2.2)) := (g_5753.2.2.1 fl m_5743).1.trans f_5742
                  have lt_5762 := (g_5753.2.2.1 fl m_5743).2
                  have m_5761 : fl ∈ L_5750 := g_5753.1.1 fl m_5743
                  have had_5763 : ∀ i, i < 166 → F_5751 (ad i) = _ := fun i hi => (g_5753.2.2.1 (ad i) (hg_5746.1 _ (hL i hi))).1.trans (had_5745 i hi)
                  have hg_5764 := hg_5746.step g_5753.1 hw.2.2.1
                  have C0 := C0.grow g_5753.1 hw.2.2.1
                  have hw := hw1
                  have m_5765 : a_5752 ∈ L_5750 := g_5753.2.2.2.1
                  have f_5766 : F_5751 a_5752 = rw7 G ((l_pw ((A.1.2.2.2.2.2 (6 + f9))) A.1.1 (za_5650 - 9))) := g_5753.2.1
                  refine lv_iload hx hb dL_done_484 (lv_at hl 1 rfl) ?_
                  obtain ⟨F_5767, hw, f_5768, o_5769⟩ := hw.rowE f_5766 (v := (m_rep (A.1.2.2.2.2.2 (6 + f9)) (zi (nI (za_5650 - 9))) A.1.1)) (fun k hk => (pow_pos _ (hFl f9 hf9).1 (hFl f9 hf9).2 hc2 hc (za_5650 - 9) k).trans (by rw [zi_nI (by omega)]))
                  have f_5770 : F_5767 nu = nE G A.1.1 A.1.2.1 A.1.2.2.1 A.1.2.2.2.1 A.1.2.2.2.2.1 A.2.1.1 := (o_5769 nu (by omega)).trans f_5754
                  have f_5771 : F_5767 fl = pcF G ((hiR A.1.2.2.2.2.2)) := (o_5769 fl (by omega)).trans f_5760
                  refine q_calli hw (q_runS (As := [.ref nu, .ref fl, .int (nI (t9)), .ref a_5752, .int (nI (8))]) (c_L_put l G L_5750 F_5767 nu fl a_5752 t9 8 A.1.1 A.1.2.1 A.1.2.2.1 A.1.2.2.2.1 A.1.2.2.2.2.1 A.2.1.1 ((hiR A.1.2.2.2.2.2)) ((m_rep (A.1.2.2.2.2.2 (6 + f9)) (zi (nI (za_5650 - 9))) A.1.1)) m_5755 m_5761 m_5765 f_5770 f_5771 f_5768  (by omega) (by omega) (by omega)) C0 hw sw_L_52 rfl hl.1 rfl (Nat.le_of_ble_eq_true rfl) dL_done_486 ⟨by decide, by decide⟩ ⟨(by show 115 + 0 ≤ 115; omega), (by show 805 + 0 ≤ 805; omega)⟩) rfl rfl (fun r_5774 F_5772 H locs hw hp_5773 => ?_)
                  obtain ⟨h_5775, h_5776, h_5777, h_5778⟩ := hp_5773
                  subst h_5775
                  have f_5779 : F_5767 fi = pcF G ((loR A.1.2.2.2.2.2)) := (o_5769 fi (by omega)).trans f_5757
                  have had_5780 : ∀ i, i < 166 → F_5772 (ad i) = _ := fun i hi => (h_5778 (ad i) (Ne.symm (hna i hi)) (Ne.symm (hga i hi))).trans ((o_5769 (ad i) (Ne.symm (show a_5752 ≠ ad i by have := hLs (ad i) (hL i hi); omega))).trans (had_5763 i hi))
                  have f_5781 : F_5772 fi = pcF G ((loR A.1.2.2.2.2.2)) := (h_5778 fi (by omega) (by omega)).trans f_5779
                  refine lv_icmp_ne (tgt := 496) hx hb dL_done_489 (by decide) (fun c_489 => ?_) (fun c_489 => ?_)
                  · skip
                    exact absurd rfl c_489
                  · skip
                    refine lv_iconst (v := nI 1) hx hb dL_done_492 (by decide) ?_
                    refine lv_goto (tgt := 497) hx hb dL_done_493 (by decide) ?_
                    exact r_iG C0 hg_5764 hr hlk hw (v := nI 1) rfl ⟨rfl, (aSave A (genS 8 (6 + t9) (m_rep (A.1.2.2.2.2.2 (6 + f9)) (zi (nI (za_5650 - 9))) A.1.1) A.1)), ⟨(h_5723.keep (fun i hi => (had_5780 i hi))), okA_save hA (okS_gen hA.1 (fun h9 => absurd h9 (by omega))), okFl_up (A := A) (t := 6 + t9) rfl hFl (fun _ => ⟨exp_lo (p := 0) _ (by omega), exp_lo (p := 1) _ (by omega)⟩), h_5776.trans (by rw [← sv_1 A.2.1 A.1 hh6]; rfl), f_5781.trans (congrArg (pcF G) (loR_k A.1.2.2.2.2.2 t9 _)), h_5777.trans (congrArg (pcF G) (hiR_u A.1.2.2.2.2.2 ht9 _))⟩, Nat.sub_le _ _⟩ (show 115 ≤ 115 by omega) (show 805 ≤ 805 by omega) dL_done_497 hQ
              · skip
                refine lv_iconst (v := nI 1) hx hb dL_done_90 (by decide) ?_
                exact r_iG C0 hg0 hr hlk hw (v := nI 1) rfl ⟨rfl, A, ⟨(hX.keep (fun i hi => (had0 i hi))), hA, hFl, fnu, ffi, ffl⟩, Nat.le_refl _⟩ (show 0 ≤ 115 by omega) (show 0 ≤ 805 by omega) dL_done_91 hQ
          · skip
            exact absurd c_45 (by omega)
        · skip
          exact absurd c_34 (by omega)
      · skip
        exact absurd c_25 (by omega)
    · skip
      exact absurd c_16 (by omega)
  · skip
    exact absurd c_7 (by omega)
set_option maxHeartbeats 4000000 in
set_option maxRecDepth 100000 in
theorem c_L_done_8 (l : Launch) (G : Gl) (L : List Nat) (F : Nat → va_E) (ad : Nat → Nat) (nu fi fl : Nat) (hS : LSQ L ad nu fi fl) (A : AB) (hX : XW G F ad A) (hA : okA A) (hFl : okFl A) (hN : LNQ G F nu fi fl A) (f9 g9 t9 : Nat) (y9 : Int32) (hf9 : f9 < 6) (hg9 : g9 < 6) (ht9 : t9 < 6) : CI l yL_done cL_done 13 (some .boolean) rm_L_done G L F [.ref (ad 0), .int (nI (8)), .int (nI (f9)), .int (nI (g9)), .int (nI (t9)), .int (y9), .ref nu, .ref fi, .ref fl] (fun r F1 => r = nI 1 ∧ ∃ A2, LWQ G F1 ad nu fi fl A2 ∧ A2.1.2.1 ≤ A.1.2.1) := by
  refine CG_of (by decide) (Nat.le_of_ble_eq_true rfl) rfl ?_
  intro p e s m args below meth c Q C0 hr hlk hnm hQ hw ls hl
  obtain ⟨hL, hin, mnu, mfi, mfl, hnf, hnl, hff, hna, hfa, hga⟩ := id hS
  obtain ⟨fnu, ffi, ffl⟩ := id hN
  obtain ⟨⟨hc2, hc, hpu, hok⟩, ⟨hh6, hho⟩, -⟩ := id hA
  have had0 : ∀ i, i < 166 → F (ad i) = F (ad i) := fun _ _ => rfl
  have hx := C0.x
  have hb := C0.b
  have hg0 := gr.rfl (L := L) s.heap.size
  have hLs : ∀ q ∈ L, q < s.heap.size := fun q hq => hw.lt hq
  have hfr0 : ∀ q ∈ L, F q = F q := fun _ _ => rfl
  have hlt_nu := hLs nu mnu
  have hlt_fi := hLs fi mfi
  have hlt_fl := hLs fl mfl
  refine lv_aload hx hb dL_done_0 (lv_at hl 6 rfl) ?_
  refine lv_iconst (v := nI 0) hx hb dL_done_2 (by decide) ?_
  refine q_iald C0 hw mnu fnu (0) (by omega) (by decide) (v := nI (A.1.1)) rfl dL_done_3 ?_
  refine lv_istore (lv' := [(9, .int (nI (A.1.1))), (0, .ref (ad 0)), (1, .int (nI (8))), (2, .int (nI (f9))), (3, .int (nI (g9))), (4, .int (nI (t9))), (5, .int (y9)), (6, .ref nu), (7, .ref fi), (8, .ref fl)]) hx hb dL_done_4 hl (by decide) rfl (fun ls hl => ?_)
  refine lv_iload_n hx hb dL_done_6 rfl (lv_at hl 2 rfl) ?_
  refine n_if_ne (tgt := 14) hx hb dL_done_7 (by decide) (by decide) (fun c_7 => ?_) (fun c_7 => ?_)
  · skip
    refine lv_iload_n hx hb dL_done_14 rfl (lv_at hl 2 rfl) ?_
    refine lv_iconst (v := nI 3) hx hb dL_done_15 (by decide) ?_
    refine n_icmp_ge (tgt := 23) hx hb dL_done_16 (by decide) (by decide) (by decide) (fun c_16 => ?_) (fun c_16 => ?_)
    · skip
      refine lv_iload_n hx hb dL_done_23 rfl (lv_at hl 2 rfl) ?_
      refine lv_iconst (v := nI 3) hx hb dL_done_24 (by decide) ?_
      refine n_icmp_ne (tgt := 32) hx hb dL_done_25 (by decide) (by decide) (by decide) (fun c_25 => ?_) (fun c_25 => ?_)
      · skip
        refine lv_iload_n hx hb dL_done_32 rfl (lv_at hl 2 rfl) ?_
        refine lv_iconst (v := nI 4) hx hb dL_done_33 (by decide) ?_
        refine n_icmp_ne (tgt := 42) hx hb dL_done_34 (by decide) (by decide) (by decide) (fun c_34 => ?_) (fun c_34 => ?_)
        · skip
          refine lv_iload_n hx hb dL_done_42 rfl (lv_at hl 2 rfl) ?_
          refine lv_bipush (v := nI 7) hx hb dL_done_43 (by decide) ?_
          refine n_icmp_ge (tgt := 52) hx hb dL_done_45 (by decide) (by decide) (by decide) (fun c_45 => ?_) (fun c_45 => ?_)
          · skip
            refine lv_iload_n hx hb dL_done_52 rfl (lv_at hl 2 rfl) ?_
            refine lv_bipush (v := nI 7) hx hb dL_done_53 (by decide) ?_
            refine n_icmp_ne (tgt := 63) hx hb dL_done_55 (by decide) (by decide) (by decide) (fun c_55 => ?_) (fun c_55 => ?_)
            · skip
              refine lv_iload_n hx hb dL_done_63 rfl (lv_at hl 2 rfl) ?_
              refine lv_bipush (v := nI 8) hx hb dL_done_64 (by decide) ?_
              refine n_icmp_ne (tgt := 74) hx hb dL_done_66 (by decide) (by decide) (by decide) (fun c_66 => ?_) (fun c_66 => ?_)
              · skip
                exact absurd c_66 (by omega)
              · skip
                refine lv_bipush (v := nI 6) hx hb dL_done_69 (by decide) ?_
                refine lv_goto (tgt := 76) hx hb dL_done_71 (by decide) ?_
                refine lv_istore (lv' := [(10, .int (nI (6))), (9, .int (nI (A.1.1))), (0, .ref (ad 0)), (1, .int (nI (8))), (2, .int (nI (f9))), (3, .int (nI (g9))), (4, .int (nI (t9))), (5, .int (y9)), (6, .ref nu), (7, .ref fi), (8, .ref fl)]) hx hb dL_done_76 hl (by decide) rfl (fun ls hl => ?_)
                refine lv_aload hx hb dL_done_78 (lv_at hl 8 rfl) ?_
                refine lv_iconst (v := nI 1) hx hb dL_done_80 (by decide) ?_
                refine q_iald C0 hw mnu fnu (1) (by omega) (by decide) (v := nI (A.1.2.1)) rfl dL_done_81 ?_
                refine lv_iload hx hb dL_done_82 (lv_at hl 1 rfl) ?_
                refine lv_iload hx hb dL_done_84 (lv_at hl 0 rfl) ?_
                refine n_imul hx hb dL_done_86 ?_
                refine n_icmp_ge (tgt := 92) hx hb dL_done_87 (by decide) (by omega) (by omega) (fun c_87 => ?_) (fun c_87 => ?_)
                · skip
                  refine lv_iload_n hx hb dL_done_92 rfl (lv_at hl 3 rfl) ?_
                  refine lv_tableIn (off := 405) (tgt := 498) hx hb dL_done_93 (by decide) (by decide) rfl (by decide) ?_
                  refine lv_aload hx hb dL_done_498 (lv_at hl 10 rfl) ?_
                  refine lv_iload_n hx hb dL_done_500 rfl (lv_at hl 4 rfl) ?_
                  refine q_callr hw (q_runS (As := [.ref fl, .int (nI (f9))]) (c_L_get l G L F fl f9 ((hiR A.1.2.2.2.2.2)) mfl ffl (by omega)) C0 hw sw_L_48 rfl hl.1 rfl (Nat.le_of_ble_eq_true rfl) dL_done_501 ⟨by decide, by decide⟩ ⟨(by show 0 + 1 ≤ 115; omega), (by show 0 + 7 ≤ 805; omega)⟩) (fun L_5782 F_5783 a_5784 H locs g_5785 hw1 => ?_)
                  have hge_a_5784 : s.heap.size ≤ a_5784 := Nat.le_trans hw.2.2.1 g_5785.2.2.2.2
                  have f_5786 : F_5783 nu = nE G A.1.1 A.1.2.1 A.1.2.2.1 A.1.2.2.2.1 A.1.2.2.2.2.1 A.2.1.1 := (g_5785.2.2.1 nu mnu).1.trans fnu
                  have lt_5788 := (g_5785.2.2.1 nu mnu).2
                  have m_5787 : nu ∈ L_5782 := g_5785.1.1 nu mnu
                  have f_5789 : F_5783 fi = pcF G ((loR A.1.2.2.2.2.2)) := (g_5785.2.2.1 fi mfi).1.trans ffi
                  have lt_5791 := (g_5785.2.2.1 fi mfi).2
                  have m_5790 : fi ∈ L_5782 := g_5785.1.1 fi mfi
                  have f_5792 : F_5783 fl = pcF G ((hiR A.1.2.2.2.2.2)) := (g_5785.2.2.1 fl mfl).1.trans ffl
                  have lt_5794 := (g_5785.2.2.1 fl mfl).2
                  have m_5793 : fl ∈ L_5782 := g_5785.1.1 fl mfl
                  have had_5795 : ∀ i, i < 166 → F_5783 (ad i) = _ := fun i hi => (g_5785.2.2.1 (ad i) (hg0.1 _ (hL i hi))).1.trans (had0 i hi)
                  have hg_5796 := hg0.step g_5785.1 hw.2.2.1
                  have C0 := C0.grow g_5785.1 hw.2.2.1
                  have hw := hw1
                  have m_5797 : a_5784 ∈ L_5782 := g_5785.2.2.2.1
                  have f_5798 : F_5783 a_5784 = rw7 G (((hiR A.1.2.2.2.2.2)) f9) := g_5785.2.1
                  have f_5799 : F_5783 a_5784 = rw7 G ((A.1.2.2.2.2.2 (6 + f9))) := f_5798.trans (congrArg (rw7 G) (hiR_at A.1.2.2.2.2.2 (by omega)))
                  refine lv_astore (lv' := [(12, .ref a_5784), (10, .int (nI (6))), (9, .int (nI (A.1.1))), (0, .ref (ad 0)), (1, .int (nI (8))), (2, .int (nI (f9))), (3, .int (nI (g9))), (4, .int (nI (t9))), (5, .int (y9)), (6, .ref nu), (7, .ref fi), (8, .ref fl)]) hx hb dL_done_504 hl (by decide) rfl (fun ls hl => ?_)
                  refine lv_aload_n hx hb dL_done_506 rfl (lv_at hl 3 rfl) ?_
                  refine lv_iload_n hx hb dL_done_507 rfl (lv_at hl 5 rfl) ?_
                  refine lv_iload_n hx hb dL_done_508 rfl (lv_at hl 6 rfl) ?_
                  refine lv_iload hx hb dL_done_509 (lv_at hl 7 rfl) ?_
                  have hX_5800 : XW G F_5783 ad A := (hX.keep (fun i hi => (had_5795 i hi)))
                  refine q_calli hw (q_runV (As := [.int (nI (f9)), .int (nI (g9)), .int (nI (t9))]) (c_X5_push l G L_5782 F_5783 ad (fun i hi => hg_5796.1 _ (hL i hi)) hin A f9 g9 t9 hf9 hg9 ht9 (by omega) hX_5800 hA) C0 hw vw_L_84 (hg_5796.1 _ (hL 0 (by decide))) hX_5800.1 rfl rfl rfl hl.1 rfl (Nat.le_of_ble_eq_true rfl) dL_done_511 ⟨by decide, by decide⟩ ⟨(by show 1 + 0 ≤ 115; omega), (by show 7 + 0 ≤ 805; omega)⟩) rfl rfl (fun r_5803 F_5801 H locs hw hp_5802 => ?_)
                  obtain ⟨h_5804, h_5805, h_5806⟩ := hp_5802
                  subst h_5804
                  have f_5807 : F_5801 nu = nE G A.1.1 A.1.2.1 A.1.2.2.1 A.1.2.2.2.1 A.1.2.2.2.2.1 A.2.1.1 := (h_5806 nu (fun i hi => hna i hi)).trans f_5786
                  have f_5808 : F_5801 fi = pcF G ((loR A.1.2.2.2.2.2)) := (h_5806 fi (fun i hi => hfa i hi)).trans f_5789
                  have f_5809 : F_5801 fl = pcF G ((hiR A.1.2.2.2.2.2)) := (h_5806 fl (fun i hi => hga i hi)).trans f_5792
                  have f_5810 : F_5801 a_5784 = rw7 G ((A.1.2.2.2.2.2 (6 + f9))) := (h_5806 a_5784 (fun i hi => show a_5784 ≠ ad i by have := hLs (ad i) (hL i hi); omega)).trans f_5799
                  have had_5811 : ∀ i, i < 166 → F_5801 (ad i) = F_5801 (ad i) := fun _ _ => rfl
                  refine lv_aload hx hb dL_done_514 (lv_at hl 9 rfl) ?_
                  refine lv_aload hx hb dL_done_516 (lv_at hl 10 rfl) ?_
                  refine lv_iload hx hb dL_done_518 (lv_at hl 7 rfl) ?_
                  refine lv_iload hx hb dL_done_520 (lv_at hl 2 rfl) ?_
                  refine lv_iload hx hb dL_done_522 (lv_at hl 2 rfl) ?_
                  refine lv_aload hx hb dL_done_524 (lv_at hl 0 rfl) ?_
                  refine q_callr hw (q_runS (As := [.int (nI (A.1.1)), .ref a_5784]) (c_L_inverse l G L_5782 F_5801 A.1.1 a_5784 ((A.1.2.2.2.2.2 (6 + f9))) m_5797 f_5810 (by omega) (by omega)) C0 hw sw_L_37 rfl hl.1 rfl (Nat.le_of_ble_eq_true rfl) dL_done_526 ⟨by decide, by decide⟩ ⟨(by show 1 + 41 ≤ 115; omega), (by show 7 + 287 ≤ 805; omega)⟩) (fun L_5812 F_5813 a_5814 H locs g_5815 hw1 => ?_)
                  have hge_a_5814 : s.heap.size ≤ a_5814 := Nat.le_trans hw.2.2.1 g_5815.2.2.2.2
                  have f_5816 : F_5813 nu = nE G A.1.1 A.1.2.1 A.1.2.2.1 A.1.2.2.2.1 A.1.2.2.2.2.1 A.2.1.1 := (g_5815.2.2.1 nu m_5787).1.trans f_5807
                  have lt_5818 := (g_5815.2.2.1 nu m_5787).2
                  have m_5817 : nu ∈ L_5812 := g_5815.1.1 nu m_5787
                  have f_5819 : F_5813 fi = pcF G ((loR A.1.2.2.2.2.2)) := (g_5815.2.2.1 fi m_5790).1.trans f_5808
                  have lt_5821 := (g_5815.2.2.1 fi m_5790).2
                  have m_5820 : fi ∈ L_5812 := g_5815.1.1 fi m_5790
                  have f_5822 : F_5813 fl = pcF G ((hiR A.1.2.2.2.2.2)) := (g_5815.2.2.1 fl m_5793).1.trans f_5809
                  have lt_5824 := (g_5815.2.2.1 fl m_5793).2
                  have m_5823 : fl ∈ L_5812 := g_5815.1.1 fl m_5793
                  have f_5825 : F_5813 a_5784 = rw7 G ((A.1.2.2.2.2.2 (6 + f9))) := (g_5815.2.2.1 a_5784 m_5797).1.trans f_5810
                  have lt_5827 := (g_5815.2.2.1 a_5784 m_5797).2
                  have m_5826 : a_5784 ∈ L_5812 := g_5815.1.1 a_5784 m_5797
                  have had_5828 : ∀ i, i < 166 → F_5813 (ad i) = _ := fun i hi => (g_5815.2.2.1 (ad i) (hg_5796.1 _ (hL i hi))).1.trans (had_5811 i hi)
                  have hg_5829 := hg_5796.step g_5815.1 hw.2.2.1
                  have C0 := C0.grow g_5815.1 hw.2.2.1
                  have hw := hw1
                  have m_5830 : a_5814 ∈ L_5812 := g_5815.2.2.2.1
                  have f_5831 : F_5813 a_5814 = rw7 G ((m_inv ((A.1.2.2.2.2.2 (6 + f9))) A.1.1)) := g_5815.2.1
                  refine lv_iload hx hb dL_done_529 (lv_at hl 2 rfl) ?_
                  refine lv_aload hx hb dL_done_531 (lv_at hl 0 rfl) ?_
                  refine q_callr hw (q_runS (As := [.ref a_5784]) (c_L_slope l G L_5812 F_5813 a_5784 ((A.1.2.2.2.2.2 (6 + f9))) m_5826 f_5825) C0 hw sw_L_14 rfl hl.1 rfl (Nat.le_of_ble_eq_true rfl) dL_done_533 ⟨by decide, by decide⟩ ⟨(by show 42 + 1 ≤ 115; omega), (by show 294 + 7 ≤ 805; omega)⟩) (fun L_5832 F_5833 a_5834 H locs g_5835 hw1 => ?_)
                  have hge_a_5834 : s.heap.size ≤ a_5834 := Nat.le_trans hw.2.2.1 g_5835.2.2.2.2
                  have f_5836 : F_5833 nu = nE G A.1.1 A.1.2.1 A.1.2.2.1 A.1.2.2.2.1 A.1.2.2.2.2.1 A.2.1.1 := (g_5835.2.2.1 nu m_5817).1.trans f_5816
                  have lt_5838 := (g_5835.2.2.1 nu m_5817).2
                  have m_5837 : nu ∈ L_5832 := g_5835.1.1 nu m_5817
                  have f_5839 : F_5833 fi = pcF G ((loR A.1.2.2.2.2.2)) := (g_5835.2.2.1 fi m_5820).1.trans f_5819
                  have lt_5841 := (g_5835.2.2.1 fi m_5820).2
                  have m_5840 : fi ∈ L_5832 := g_5835.1.1 fi m_5820
                  have f_5842 : F_5833 fl = pcF G ((hiR A.1.2.2.2.2.2)) := (g_5835.2.2.1 fl m_5823).1.trans f_5822
                  have lt_5844 := (g_5835.2.2.1 fl m_5823).2
                  have m_5843 : fl ∈ L_5832 := g_5835.1.1 fl m_5823
                  have f_5845 : F_5833 a_5784 = rw7 G ((A.1.2.2.2.2.2 (6 + f9))) := (g_5835.2.2.1 a_5784 m_5826).1.trans f_5825
                  have lt_5847 := (g_5835.2.2.1 a_5784 m_5826).2
                  have m_5846 : a_5784 ∈ L_5832 := g_5835.1.1 a_5784 m_5826
                  have f_5848 : F_5833 a_5814 = rw7 G ((m_inv ((A.1.2.2.2.2.2 (6 + f9))) A.1.1)) := (g_5835.2.2.1 a_5814 m_5830).1.trans f_5831
                  have lt_5850 := (g_5835.2.2.1 a_5814 m_5830).2
                  have m_5849 : a_5814 ∈ L_5832 := g_5835.1.1 a_5814 m_5830
                  have had_5851 : ∀ i, i < 166 → F_5833 (ad i) = _ := fun i hi => (g_5835.2.2.1 (ad i) (hg_5829.1 _ (hL i hi))).1.trans (had_5828 i hi)
                  have hg_5852 := hg_5829.step g_5835.1 hw.2.2.1
                  have C0 := C0.grow g_5835.1 hw.2.2.1
                  have hw := hw1
                  have m_5853 : a_5834 ∈ L_5832 := g_5835.2.2.2.1
                  have f_5854 : F_5833 a_5834 = rw7 G ((m_der ((A.1.2.2.2.2.2 (6 + f9))))) := g_5835.2.1
                  refine lv_aload hx hb dL_done_536 (lv_at hl 10 rfl) ?_
                  refine lv_iload_n hx hb dL_done_538 rfl (lv_at hl 6 rfl) ?_
                  refine q_callr hw (q_runS (As := [.ref fi, .int (nI (g9))]) (c_L_get l G L_5832 F_5833 fi g9 ((loR A.1.2.2.2.2.2)) m_5840 f_5839 (by omega)) C0 hw sw_L_48 rfl hl.1 rfl (Nat.le_of_ble_eq_true rfl) dL_done_539 ⟨by decide, by decide⟩ ⟨(by show 43 + 1 ≤ 115; omega), (by show 301 + 7 ≤ 805; omega)⟩) (fun L_5855 F_5856 a_5857 H locs g_5858 hw1 => ?_)
                  have hge_a_5857 : s.heap.size ≤ a_5857 := Nat.le_trans hw.2.2.1 g_5858.2.2.2.2
                  have f_5859 : F_5856 nu = nE G A.1.1 A.1.2.1 A.1.2.2.1 A.1.2.2.2.1 A.1.2.2.2.2.1 A.2.1.1 := (g_5858.2.2.1 nu m_5837).1.trans f_5836
                  have lt_5861 := (g_5858.2.2.1 nu m_5837).2
                  have m_5860 : nu ∈ L_5855 := g_5858.1.1 nu m_5837
                  have f_5862 : F_5856 fi = pcF G ((loR A.1.2.2.2.2.2)) := (g_5858.2.2.1 fi m_5840).1.trans f_5839
                  have lt_5864 := (g_5858.2.2.1 fi m_5840).2
                  have m_5863 : fi ∈ L_5855 := g_5858.1.1 fi m_5840
                  have f_5865 : F_5856 fl = pcF G ((hiR A.1.2.2.2.2.2)) := (g_5858.2.2.1 fl m_5843).1.trans f_5842
                  have lt_5867 := (g_5858.2.2.1 fl m_5843).2
                  have m_5866 : fl ∈ L_5855 := g_5858.1.1 fl m_5843
                  have f_5868 : F_5856 a_5784 = rw7 G ((A.1.2.2.2.2.2 (6 + f9))) := (g_5858.2.2.1 a_5784 m_5846).1.trans f_5845
                  have lt_5870 := (g_5858.2.2.1 a_5784 m_5846).2
                  have m_5869 : a_5784 ∈ L_5855 := g_5858.1.1 a_5784 m_5846
                  have f_5871 : F_5856 a_5814 = rw7 G ((m_inv ((A.1.2.2.2.2.2 (6 + f9))) A.1.1)) := (g_5858.2.2.1 a_5814 m_5849).1.trans f_5848
                  have lt_5873 := (g_5858.2.2.1 a_5814 m_5849).2
                  have m_5872 : a_5814 ∈ L_5855 := g_5858.1.1 a_5814 m_5849
                  have f_5874 : F_5856 a_5834 = rw7 G ((m_der ((A.1.2.2.2.2.2 (6 + f9))))) := (g_5858.2.2.1 a_5834 m_5853).1.trans f_5854
                  have lt_5876 := (g_5858.2.2.1 a_5834 m_5853).2
                  have m_5875 : a_5834 ∈ L_5855 := g_5858.1.1 a_5834 m_5853
                  have had_5877 : ∀ i, i < 166 → F_5856 (ad i) = _ := fun i hi => (g_5858.2.2.1 (ad i) (hg_5852.1 _ (hL i hi))).1.trans (had_5851 i hi)
                  have hg_5878 := hg_5852.step g_5858.1 hw.2.2.1
                  have C0 := C0.grow g_5858.1 hw.2.2.1
                  have hw := hw1
                  have m_5879 : a_5857 ∈ L_5855 := g_5858.2.2.2.1
                  have f_5880 : F_5856 a_5857 = rw7 G (((loR A.1.2.2.2.2.2)) g9) := g_5858.2.1
                  have f_5881 : F_5856 a_5857 = rw7 G ((A.1.2.2.2.2.2 g9)) := f_5880.trans (congrArg (rw7 G) (loR_at A.1.2.2.2.2.2 (by omega)))
                  refine q_callr hw (q_runS (As := [.int (nI (A.1.1)), .ref a_5834, .ref a_5857]) (c_L_times l G L_5855 F_5856 A.1.1 a_5834 a_5857 ((m_der ((A.1.2.2.2.2.2 (6 + f9))))) ((A.1.2.2.2.2.2 g9)) m_5875 f_5874 m_5879 f_5881 (by omega)) C0 hw sw_L_18 rfl hl.1 rfl (Nat.le_of_ble_eq_true rfl) dL_done_542 ⟨by decide, by decide⟩ ⟨(by show 44 + 1 ≤ 115; omega), (by show 308 + 7 ≤ 805; omega)⟩) (fun L_5882 F_5883 a_5884 H locs g_5885 hw1 => ?_)
                  have hge_a_5884 : s.heap.size ≤ a_5884 := Nat.le_trans hw.2.2.1 g_5885.2.2.2.2
                  have f_5886 : F_5883 nu = nE G A.1.1 A.1.2.1 A.1.2.2.1 A.1.2.2.2.1 A.1.2.2.2.2.1 A.2.1.1 := (g_5885.2.2.1 nu m_5860).1.trans f_5859
                  have lt_5888 := (g_5885.2.2.1 nu m_5860).2
                  have m_5887 : nu ∈ L_5882 := g_5885.1.1 nu m_5860
                  have f_5889 : F_5883 fi = pcF G ((loR A.1.2.2.2.2.2)) := (g_5885.2.2.1 fi m_5863).1.trans f_5862
                  have lt_5891 := (g_5885.2.2.1 fi m_5863).2
                  have m_5890 : fi ∈ L_5882 := g_5885.1.1 fi m_5863
                  have f_5892 : F_5883 fl = pcF G ((hiR A.1.2.2.2.2.2)) := (g_5885.2.2.1 fl m_5866).1.trans f_5865
                  have lt_5894 := (g_5885.2.2.1 fl m_5866).2
                  have m_5893 : fl ∈ L_5882 := g_5885.1.1 fl m_5866
                  have f_5895 : F_5883 a_5784 = rw7 G ((A.1.2.2.2.2.2 (6 + f9))) := (g_5885.2.2.1 a_5784 m_5869).1.trans f_5868
                  have lt_5897 := (g_5885.2.2.1 a_5784 m_5869).2
                  have m_5896 : a_5784 ∈ L_5882 := g_5885.1.1 a_5784 m_5869
                  have f_5898 : F_5883 a_5814 = rw7 G ((m_inv ((A.1.2.2.2.2.2 (6 + f9))) A.1.1)) := (g_5885.2.2.1 a_5814 m_5872).1.trans f_5871
                  have lt_5900 := (g_5885.2.2.1 a_5814 m_5872).2
                  have m_5899 : a_5814 ∈ L_5882 := g_5885.1.1 a_5814 m_5872
                  have had_5901 : ∀ i, i < 166 → F_5883 (ad i) = _ := fun i hi => (g_5885.2.2.1 (ad i) (hg_5878.1 _ (hL i hi))).1.trans (had_5877 i hi)
                  have hg_5902 := hg_5878.step g_5885.1 hw.2.2.1
                  have C0 := C0.grow g_5885.1 hw.2.2.1
                  have hw := hw1
                  have m_5903 : a_5884 ∈ L_5882 := g_5885.2.2.2.1
                  have f_5904 : F_5883 a_5884 = rw7 G ((m_mulT ((m_der ((A.1.2.2.2.2.2 (6 + f9))))) ((A.1.2.2.2.2.2 g9)) A.1.1)) := g_5885.2.1
                  refine q_callr hw (q_runS (As := [.int (nI (A.1.1)), .ref a_5814, .ref a_5884]) (c_L_within l G L_5882 F_5883 A.1.1 a_5814 a_5884 ((m_inv ((A.1.2.2.2.2.2 (6 + f9))) A.1.1)) ((m_mulT ((m_der ((A.1.2.2.2.2.2 (6 + f9))))) ((A.1.2.2.2.2.2 g9)) A.1.1)) m_5899 f_5898 m_5903 f_5904 (by omega)) C0 hw sw_L_34 rfl hl.1 rfl (Nat.le_of_ble_eq_true rfl) dL_done_545 ⟨by decide, by decide⟩ ⟨(by show 45 + 8 ≤ 115; omega), (by show 315 + 56 ≤ 805; omega)⟩) (fun L_5905 F_5906 a_5907 H locs g_5908 hw1 => ?_)
                  have hge_a_5907 : s.heap.size ≤ a_5907 := Nat.le_trans hw.2.2.1 g_5908.2.2.2.2
                  have f_5909 : F_5906 nu = nE G A.1.1 A.1.2.1 A.1.2.2.1 A.1.2.2.2.1 A.1.2.2.2.2.1 A.2.1.1 := (g_5908.2.2.1 nu m_5887).1.trans f_5886
                  have lt_5911 := (g_5908.2.2.1 nu m_5887).2
                  have m_5910 : nu ∈ L_5905 := g_5908.1.1 nu m_5887
                  have f_5912 : F_5906 fi = pcF G ((loR A.1.2.2.2.2.2)) := (g_5908.2.2.1 fi m_5890).1.trans f_5889
                  have lt_5914 := (g_5908.2.2.1 fi m_5890).2
                  have m_5913 : fi ∈ L_5905 := g_5908.1.1 fi m_5890
                  have f_5915 : F_5906 fl = pcF G ((hiR A.1.2.2.2.2.2)) := (g_5908.2.2.1 fl m_5893).1.trans f_5892
                  have lt_5917 := (g_5908.2.2.1 fl m_5893).2
                  have m_5916 : fl ∈ L_5905 := g_5908.1.1 fl m_5893
                  have f_5918 : F_5906 a_5784 = rw7 G ((A.1.2.2.2.2.2 (6 + f9))) := (g_5908.2.2.1 a_5784 m_5896).1.trans f_5895
                  have lt_5920 := (g_5908.2.2.1 a_5784 m_5896).2
                  have m_5919 : a_5784 ∈ L_5905 := g_5908.1.1 a_5784 m_5896
                  have had_5921 : ∀ i, i < 166 → F_5906 (ad i) = _ := fun i hi => (g_5908.2.2.1 (ad i) (hg_5902.1 _ (hL i hi))).1.trans (had_5901 i hi)
                  have hg_5922 := hg_5902.step g_5908.1 hw.2.2.1
                  have C0 := C0.grow g_5908.1 hw.2.2.1
                  have hw := hw1
                  have m_5923 : a_5907 ∈ L_5905 := g_5908.2.2.2.1
                  have f_5924 : F_5906 a_5907 = rw7 G ((m_sub ((m_inv ((A.1.2.2.2.2.2 (6 + f9))) A.1.1)) ((m_mulT ((m_der ((A.1.2.2.2.2.2 (6 + f9))))) ((A.1.2.2.2.2.2 g9)) A.1.1)) A.1.1)) := g_5908.2.1
                  refine lv_iload hx hb dL_done_548 (lv_at hl 1 rfl) ?_
                  obtain ⟨F_5925, hw, f_5926, o_5927⟩ := hw.rowE f_5924 (v := (ordR 112 f9 g9 A.1.1 A.1.2.2.2.2.2)) (fun k hk => congrFun (lpush_eq _ (hok g9 hg9).1 (hok g9 hg9).2 (by omega) hc) k)
                  have f_5928 : F_5925 nu = nE G A.1.1 A.1.2.1 A.1.2.2.1 A.1.2.2.2.1 A.1.2.2.2.2.1 A.2.1.1 := (o_5927 nu (by omega)).trans f_5909
                  have f_5929 : F_5925 fi = pcF G ((loR A.1.2.2.2.2.2)) := (o_5927 fi (by omega)).trans f_5912
                  refine q_calli hw (q_runS (As := [.ref nu, .ref fi, .int (nI (t9)), .ref a_5907, .int (nI (6))]) (c_L_put l G L_5905 F_5925 nu fi a_5907 t9 6 A.1.1 A.1.2.1 A.1.2.2.1 A.1.2.2.2.1 A.1.2.2.2.2.1 A.2.1.1 ((loR A.1.2.2.2.2.2)) ((ordR 112 f9 g9 A.1.1 A.1.2.2.2.2.2)) m_5910 m_5913 m_5923 f_5928 f_5929 f_5926  (by omega) (by omega) (by omega)) C0 hw sw_L_52 rfl hl.1 rfl (Nat.le_of_ble_eq_true rfl) dL_done_550 ⟨by decide, by decide⟩ ⟨(by show 53 + 0 ≤ 115; omega), (by show 371 + 0 ≤ 805; omega)⟩) rfl rfl (fun r_5932 F_5930 H locs hw hp_5931 => ?_)
                  obtain ⟨h_5933, h_5934, h_5935, h_5936⟩ := hp_5931
                  subst h_5933
                  have f_5937 : F_5925 fl = pcF G ((hiR A.1.2.2.2.2.2)) := (o_5927 fl (by omega)).trans f_5915
                  have f_5938 : F_5925 a_5784 = rw7 G ((A.1.2.2.2.2.2 (6 + f9))) := (o_5927 a_5784 (by omega)).trans f_5918
                  have had_5939 : ∀ i, i < 166 → F_5930 (ad i) = _ := fun i hi => (h_5936 (ad i) (Ne.symm (hna i hi)) (Ne.symm (hfa i hi))).trans ((o_5927 (ad i) (Ne.symm (show a_5907 ≠ ad i by have := hLs (ad i) (hL i hi); omega))).trans (had_5921 i hi))
                  have f_5940 : F_5930 fl = pcF G ((hiR A.1.2.2.2.2.2)) := (h_5936 fl (by omega) (by omega)).trans f_5937
                  have f_5941 : F_5930 a_5784 = rw7 G ((A.1.2.2.2.2.2 (6 + f9))) := (h_5936 a_5784 (by omega) (by omega)).trans f_5938
                  refine lv_icmp_ne (tgt := 560) hx hb dL_done_553 (by decide) (fun c_553 => ?_) (fun c_553 => ?_)
                  · skip
                    exact absurd rfl c_553
                  · skip
                    refine lv_iconst (v := nI 1) hx hb dL_done_556 (by decide) ?_
                    refine lv_goto (tgt := 561) hx hb dL_done_557 (by decide) ?_
                    exact r_iG C0 hg_5922 hr hlk hw (v := nI 1) rfl ⟨rfl, (aSave A (ordS 112 f9 g9 t9 A.1)), ⟨(h_5805.keep (fun i hi => (had_5939 i hi))), okA_save hA (okS_ord (Or.inr (Or.inr (Or.inr (Or.inl rfl)))) hf9 hg9 hA.1), okFl_up (A := A) (t := t9) rfl hFl (fun h9 => absurd h9 (by omega)), h_5934.trans (by rw [← sv_1 A.2.1 A.1 hh6]; rfl), h_5935.trans (congrArg (pcF G) (loR_u A.1.2.2.2.2.2 ht9 _)), f_5940.trans (congrArg (pcF G) (hiR_k A.1.2.2.2.2.2 ht9 _))⟩, Nat.sub_le _ _⟩ (show 53 ≤ 115 by omega) (show 371 ≤ 805 by omega) dL_done_561 hQ
                · skip
                  refine lv_iconst (v := nI 1) hx hb dL_done_90 (by decide) ?_
                  exact r_iG C0 hg0 hr hlk hw (v := nI 1) rfl ⟨rfl, A, ⟨(hX.keep (fun i hi => (had0 i hi))), hA, hFl, fnu, ffi, ffl⟩, Nat.le_refl _⟩ (show 0 ≤ 115 by omega) (show 0 ≤ 805 by omega) dL_done_91 hQ
            · skip
              exact absurd c_55 (by omega)
          · skip
            exact absurd c_45 (by omega)
        · skip
          exact absurd c_34 (by omega)
      · skip
        exact absurd c_25 (by omega)
    · skip
      exact absurd c_16 (by omega)
  · skip
    exact absurd c_7 (by omega)
set_option maxHeartbeats 4000000 in
set_option maxRecDepth 100000 in
theorem c_L_done_9 (l : Launch) (G : Gl) (L : List Nat) (F : Nat → va_E) (ad : Nat → Nat) (nu fi fl : Nat) (hS : LSQ L ad nu fi fl) (A : AB) (hX : XW G F ad A) (hA : okA A) (hFl : okFl A) (hN : LNQ G F nu fi fl A) (f9 g9 t9 : Nat) (y9 : Int32) (hf9 : f9 < 6) (hg9 : g9 < 6) (ht9 : t9 < 6) : CI l yL_done cL_done 13 (some .boolean) rm_L_done G L F [.ref (ad 0), .int (nI (9)), .int (nI (f9)), .int (nI (g9)), .int (nI (t9)), .int (y9), .ref nu, .ref fi, .ref fl] (fun r F1 => r = nI 1 ∧ ∃ A2, LWQ G F1 ad nu fi fl A2 ∧ A2.1.2.1 ≤ A.1.2.1) := by
  refine CG_of (by decide) (Nat.le_of_ble_eq_true rfl) rfl ?_
  intro p e s m args below meth c Q C0 hr hlk hnm hQ hw ls hl
  obtain ⟨hL, hin, mnu, mfi, mfl, hnf, hnl, hff, hna, hfa, hga⟩ := id hS
  obtain ⟨fnu, ffi, ffl⟩ := id hN
  obtain ⟨⟨hc2, hc, hpu, hok⟩, ⟨hh6, hho⟩, -⟩ := id hA
  have had0 : ∀ i, i < 166 → F (ad i) = F (ad i) := fun _ _ => rfl
  have hx := C0.x
  have hb := C0.b
  have hg0 := gr.rfl (L := L) s.heap.size
  have hLs : ∀ q ∈ L, q < s.heap.size := fun q hq => hw.lt hq
  have hfr0 : ∀ q ∈ L, F q = F q := fun _ _ => rfl
  have hlt_nu := hLs nu mnu
  have hlt_fi := hLs fi mfi
  have hlt_fl := hLs fl mfl
  refine lv_aload hx hb dL_done_0 (lv_at hl 6 rfl) ?_
  refine lv_iconst (v := nI 0) hx hb dL_done_2 (by decide) ?_
  refine q_iald C0 hw mnu fnu (0) (by omega) (by decide) (v := nI (A.1.1)) rfl dL_done_3 ?_
  refine lv_istore (lv' := [(9, .int (nI (A.1.1))), (0, .ref (ad 0)), (1, .int (nI (9))), (2, .int (nI (f9))), (3, .int (nI (g9))), (4, .int (nI (t9))), (5, .int (y9)), (6, .ref nu), (7, .ref fi), (8, .ref fl)]) hx hb dL_done_4 hl (by decide) rfl (fun ls hl => ?_)
  refine lv_iload_n hx hb dL_done_6 rfl (lv_at hl 2 rfl) ?_
  refine n_if_ne (tgt := 14) hx hb dL_done_7 (by decide) (by decide) (fun c_7 => ?_) (fun c_7 => ?_)
  · skip
    refine lv_iload_n hx hb dL_done_14 rfl (lv_at hl 2 rfl) ?_
    refine lv_iconst (v := nI 3) hx hb dL_done_15 (by decide) ?_
    refine n_icmp_ge (tgt := 23) hx hb dL_done_16 (by decide) (by decide) (by decide) (fun c_16 => ?_) (fun c_16 => ?_)
    · skip
      refine lv_iload_n hx hb dL_done_23 rfl (lv_at hl 2 rfl) ?_
      refine lv_iconst (v := nI 3) hx hb dL_done_24 (by decide) ?_
      refine n_icmp_ne (tgt := 32) hx hb dL_done_25 (by decide) (by decide) (by decide) (fun c_25 => ?_) (fun c_25 => ?_)
      · skip
        refine lv_iload_n hx hb dL_done_32 rfl (lv_at hl 2 rfl) ?_
        refine lv_iconst (v := nI 4) hx hb dL_done_33 (by decide) ?_
        refine n_icmp_ne (tgt := 42) hx hb dL_done_34 (by decide) (by decide) (by decide) (fun c_34 => ?_) (fun c_34 => ?_)
        · skip
          refine lv_iload_n hx hb dL_done_42 rfl (lv_at hl 2 rfl) ?_
          refine lv_bipush (v := nI 7) hx hb dL_done_43 (by decide) ?_
          refine n_icmp_ge (tgt := 52) hx hb dL_done_45 (by decide) (by decide) (by decide) (fun c_45 => ?_) (fun c_45 => ?_)
          · skip
            refine lv_iload_n hx hb dL_done_52 rfl (lv_at hl 2 rfl) ?_
            refine lv_bipush (v := nI 7) hx hb dL_done_53 (by decide) ?_
            refine n_icmp_ne (tgt := 63) hx hb dL_done_55 (by decide) (by decide) (by decide) (fun c_55 => ?_) (fun c_55 => ?_)
            · skip
              refine lv_iload_n hx hb dL_done_63 rfl (lv_at hl 2 rfl) ?_
              refine lv_bipush (v := nI 8) hx hb dL_done_64 (by decide) ?_
              refine n_icmp_ne (tgt := 74) hx hb dL_done_66 (by decide) (by decide) (by decide) (fun c_66 => ?_) (fun c_66 => ?_)
              · skip
                refine lv_bipush (v := nI 20) hx hb dL_done_74 (by decide) ?_
                refine lv_istore (lv' := [(10, .int (nI (20))), (9, .int (nI (A.1.1))), (0, .ref (ad 0)), (1, .int (nI (9))), (2, .int (nI (f9))), (3, .int (nI (g9))), (4, .int (nI (t9))), (5, .int (y9)), (6, .ref nu), (7, .ref fi), (8, .ref fl)]) hx hb dL_done_76 hl (by decide) rfl (fun ls hl => ?_)
                refine lv_aload hx hb dL_done_78 (lv_at hl 8 rfl) ?_
                refine lv_iconst (v := nI 1) hx hb dL_done_80 (by decide) ?_
                refine q_iald C0 hw mnu fnu (1) (by omega) (by decide) (v := nI (A.1.2.1)) rfl dL_done_81 ?_
                refine lv_iload hx hb dL_done_82 (lv_at hl 1 rfl) ?_
                refine lv_iload hx hb dL_done_84 (lv_at hl 0 rfl) ?_
                refine n_imul hx hb dL_done_86 ?_
                refine n_icmp_ge (tgt := 92) hx hb dL_done_87 (by decide) (by omega) (by omega) (fun c_87 => ?_) (fun c_87 => ?_)
                · skip
                  refine lv_iload_n hx hb dL_done_92 rfl (lv_at hl 3 rfl) ?_
                  refine lv_tableOut (tgt := 562) hx hb dL_done_93 (by decide) (by decide) ?_
                  refine lv_aload_n hx hb dL_done_562 rfl (lv_at hl 2 rfl) ?_
                  refine lv_iload_n hx hb dL_done_563 rfl (lv_at hl 4 rfl) ?_
                  refine lv_iload_n hx hb dL_done_564 rfl (lv_at hl 5 rfl) ?_
                  refine lv_iload hx hb dL_done_565 (lv_at hl 6 rfl) ?_
                  have hX_5942 : XW G F ad A := (hX.keep (fun i hi => (had0 i hi)))
                  refine q_calli hw (q_runV (As := [.int (nI (f9)), .int (nI (g9)), .int (nI (t9))]) (c_X5_byBrackets l G L F ad hL hin A f9 g9 t9 hf9 hg9 ht9 (by omega) hX_5942 hA) C0 hw vw_L_87 (hL 0 (by decide)) hX_5942.1 rfl rfl rfl hl.1 rfl (Nat.le_of_ble_eq_true rfl) dL_done_567 ⟨by decide, by decide⟩ ⟨(by show 0 + 0 ≤ 115; omega), (by show 0 + 0 ≤ 805; omega)⟩) rfl rfl (fun r_5945 F_5943 H locs hw hp_5944 => ?_)
                  obtain ⟨h_5946, h_5947, h_5948⟩ := hp_5944
                  subst h_5946
                  have f_5949 : F_5943 nu = nE G A.1.1 A.1.2.1 A.1.2.2.1 A.1.2.2.2.1 A.1.2.2.2.2.1 A.2.1.1 := (h_5948 nu (fun i hi => hna i hi)).trans fnu
                  have f_5950 : F_5943 fi = pcF G ((loR A.1.2.2.2.2.2)) := (h_5948 fi (fun i hi => hfa i hi)).trans ffi
                  have f_5951 : F_5943 fl = pcF G ((hiR A.1.2.2.2.2.2)) := (h_5948 fl (fun i hi => hga i hi)).trans ffl
                  have had_5952 : ∀ i, i < 166 → F_5943 (ad i) = F_5943 (ad i) := fun _ _ => rfl
                  refine lv_aload hx hb dL_done_570 (lv_at hl 8 rfl) ?_
                  refine lv_aload hx hb dL_done_572 (lv_at hl 9 rfl) ?_
                  refine lv_iload hx hb dL_done_574 (lv_at hl 6 rfl) ?_
                  refine lv_iload hx hb dL_done_576 (lv_at hl 1 rfl) ?_
                  refine lv_aload hx hb dL_done_578 (lv_at hl 9 rfl) ?_
                  refine lv_iload_n hx hb dL_done_580 rfl (lv_at hl 4 rfl) ?_
                  refine q_callr hw (q_runS (As := [.ref fi, .int (nI (f9))]) (c_L_get l G L F_5943 fi f9 ((loR A.1.2.2.2.2.2)) mfi f_5950 (by omega)) C0 hw sw_L_48 rfl hl.1 rfl (Nat.le_of_ble_eq_true rfl) dL_done_581 ⟨by decide, by decide⟩ ⟨(by show 0 + 1 ≤ 115; omega), (by show 0 + 7 ≤ 805; omega)⟩) (fun L_5953 F_5954 a_5955 H locs g_5956 hw1 => ?_)
                  have hge_a_5955 : s.heap.size ≤ a_5955 := Nat.le_trans hw.2.2.1 g_5956.2.2.2.2
                  have f_5957 : F_5954 nu = nE G A.1.1 A.1.2.1 A.1.2.2.1 A.1.2.2.2.1 A.1.2.2.2.2.1 A.2.1.1 := (g_5956.2.2.1 nu mnu).1.trans f_5949
                  have lt_5959 := (g_5956.2.2.1 nu mnu).2
                  have m_5958 : nu ∈ L_5953 := g_5956.1.1 nu mnu
                  have f_5960 : F_5954 fi = pcF G ((loR A.1.2.2.2.2.2)) := (g_5956.2.2.1 fi mfi).1.trans f_5950
                  have lt_5962 := (g_5956.2.2.1 fi mfi).2
                  have m_5961 : fi ∈ L_5953 := g_5956.1.1 fi mfi
                  have f_5963 : F_5954 fl = pcF G ((hiR A.1.2.2.2.2.2)) := (g_5956.2.2.1 fl mfl).1.trans f_5951
                  have lt_5965 := (g_5956.2.2.1 fl mfl).2
                  have m_5964 : fl ∈ L_5953 := g_5956.1.1 fl mfl
                  have had_5966 : ∀ i, i < 166 → F_5954 (ad i) = _ := fun i hi => (g_5956.2.2.1 (ad i) (hg0.1 _ (hL i hi))).1.trans (had_5952 i hi)
                  have hg_5967 := hg0.step g_5956.1 hw.2.2.1
                  have C0 := C0.grow g_5956.1 hw.2.2.1
                  have hw := hw1
                  have m_5968 : a_5955 ∈ L_5953 := g_5956.2.2.2.1
                  have f_5969 : F_5954 a_5955 = rw7 G (((loR A.1.2.2.2.2.2)) f9) := g_5956.2.1
                  have f_5970 : F_5954 a_5955 = rw7 G ((A.1.2.2.2.2.2 f9)) := f_5969.trans (congrArg (rw7 G) (loR_at A.1.2.2.2.2.2 (by omega)))
                  refine lv_aload hx hb dL_done_584 (lv_at hl 9 rfl) ?_
                  refine lv_iload_n hx hb dL_done_586 rfl (lv_at hl 5 rfl) ?_
                  refine q_callr hw (q_runS (As := [.ref fi, .int (nI (g9))]) (c_L_get l G L_5953 F_5954 fi g9 ((loR A.1.2.2.2.2.2)) m_5961 f_5960 (by omega)) C0 hw sw_L_48 rfl hl.1 rfl (Nat.le_of_ble_eq_true rfl) dL_done_587 ⟨by decide, by decide⟩ ⟨(by show 1 + 1 ≤ 115; omega), (by show 7 + 7 ≤ 805; omega)⟩) (fun L_5971 F_5972 a_5973 H locs g_5974 hw1 => ?_)
                  have hge_a_5973 : s.heap.size ≤ a_5973 := Nat.le_trans hw.2.2.1 g_5974.2.2.2.2
                  have f_5975 : F_5972 nu = nE G A.1.1 A.1.2.1 A.1.2.2.1 A.1.2.2.2.1 A.1.2.2.2.2.1 A.2.1.1 := (g_5974.2.2.1 nu m_5958).1.trans f_5957
                  have lt_5977 := (g_5974.2.2.1 nu m_5958).2
                  have m_5976 : nu ∈ L_5971 := g_5974.1.1 nu m_5958
                  have f_5978 : F_5972 fi = pcF G ((loR A.1.2.2.2.2.2)) := (g_5974.2.2.1 fi m_5961).1.trans f_5960
                  have lt_5980 := (g_5974.2.2.1 fi m_5961).2
                  have m_5979 : fi ∈ L_5971 := g_5974.1.1 fi m_5961
                  have f_5981 : F_5972 fl = pcF G ((hiR A.1.2.2.2.2.2)) := (g_5974.2.2.1 fl m_5964).1.trans f_5963
                  have lt_5983 := (g_5974.2.2.1 fl m_5964).2
                  have m_5982 : fl ∈ L_5971 := g_5974.1.1 fl m_5964
                  have f_5984 : F_5972 a_5955 = rw7 G ((A.1.2.2.2.2.2 f9)) := (g_5974.2.2.1 a_5955 m_5968).1.trans f_5970
                  have lt_5986 := (g_5974.2.2.1 a_5955 m_5968).2
                  have m_5985 : a_5955 ∈ L_5971 := g_5974.1.1 a_5955 m_5968
                  have had_5987 : ∀ i, i < 166 → F_5972 (ad i) = _ := fun i hi => (g_5974.2.2.1 (ad i) (hg_5967.1 _ (hL i hi))).1.trans (had_5966 i hi)
                  have hg_5988 := hg_5967.step g_5974.1 hw.2.2.1
                  have C0 := C0.grow g_5974.1 hw.2.2.1
                  have hw := hw1
                  have m_5989 : a_5973 ∈ L_5971 := g_5974.2.2.2.1
                  have f_5990 : F_5972 a_5973 = rw7 G (((loR A.1.2.2.2.2.2)) g9) := g_5974.2.1
                  have f_5991 : F_5972 a_5973 = rw7 G ((A.1.2.2.2.2.2 g9)) := f_5990.trans (congrArg (rw7 G) (loR_at A.1.2.2.2.2.2 (by omega)))
                  refine q_callr hw (q_runS (As := [.int (nI (A.1.1)), .ref a_5955, .ref a_5973]) (c_L_way l G L_5971 F_5972 A.1.1 a_5955 a_5973 ((A.1.2.2.2.2.2 f9)) ((A.1.2.2.2.2.2 g9)) m_5985 f_5984 m_5989 f_5991 (by omega)) C0 hw sw_L_90 rfl hl.1 rfl (Nat.le_of_ble_eq_true rfl) dL_done_590 ⟨by decide, by decide⟩ ⟨(by show 2 + 21 ≤ 115; omega), (by show 14 + 147 ≤ 805; omega)⟩) (fun L_5992 F_5993 a_5994 H locs g_5995 hw1 => ?_)
                  have hge_a_5994 : s.heap.size ≤ a_5994 := Nat.le_trans hw.2.2.1 g_5995.2.2.2.2
                  have f_5996 : F_5993 nu = nE G A.1.1 A.1.2.1 A.1.2.2.1 A.1.2.2.2.1 A.1.2.2.2.2.1 A.2.1.1 := (g_5995.2.2.1 nu m_5976).1.trans f_5975
                  have lt_5998 := (g_5995.2.2.1 nu m_5976).2
                  have m_5997 : nu ∈ L_5992 := g_5995.1.1 nu m_5976
                  have f_5999 : F_5993 fi = pcF G ((loR A.1.2.2.2.2.2)) := (g_5995.2.2.1 fi m_5979).1.trans f_5978
                  have lt_6001 := (g_5995.2.2.1 fi m_5979).2
                  have m_6000 : fi ∈ L_5992 := g_5995.1.1 fi m_5979
                  have f_6002 : F_5993 fl = pcF G ((hiR A.1.2.2.2.2.2)) := (g_5995.2.2.1 fl m_5982).1.trans f_5981
                  have lt_6004 := (g_5995.2.2.1 fl m_5982).2
                  have m_6003 : fl ∈ L_5992 := g_5995.1.1 fl m_5982
                  have had_6005 : ∀ i, i < 166 → F_5993 (ad i) = _ := fun i hi => (g_5995.2.2.1 (ad i) (hg_5988.1 _ (hL i hi))).1.trans (had_5987 i hi)
                  have hg_6006 := hg_5988.step g_5995.1 hw.2.2.1
                  have C0 := C0.grow g_5995.1 hw.2.2.1
                  have hw := hw1
                  have m_6007 : a_5994 ∈ L_5992 := g_5995.2.2.2.1
                  have f_6008 : F_5993 a_5994 = rw7 G ((m_wayM ((A.1.2.2.2.2.2 f9)) ((A.1.2.2.2.2.2 g9)) 5 A.1.1)) := g_5995.2.1
                  refine lv_iload hx hb dL_done_593 (lv_at hl 0 rfl) ?_
                  obtain ⟨F_6009, hw, f_6010, o_6011⟩ := hw.rowE f_6008 (v := (ordR 119 f9 g9 A.1.1 A.1.2.2.2.2.2)) (fun k hk => congrFun (way_eq (y := 5) (hok f9 hf9).1 (hok f9 hf9).2 (hok g9 hg9).1 (hok g9 hg9).2 hc) k)
                  have f_6012 : F_6009 nu = nE G A.1.1 A.1.2.1 A.1.2.2.1 A.1.2.2.2.1 A.1.2.2.2.2.1 A.2.1.1 := (o_6011 nu (by omega)).trans f_5996
                  have f_6013 : F_6009 fi = pcF G ((loR A.1.2.2.2.2.2)) := (o_6011 fi (by omega)).trans f_5999
                  refine q_calli hw (q_runS (As := [.ref nu, .ref fi, .int (nI (t9)), .ref a_5994, .int (nI (20))]) (c_L_put l G L_5992 F_6009 nu fi a_5994 t9 20 A.1.1 A.1.2.1 A.1.2.2.1 A.1.2.2.2.1 A.1.2.2.2.2.1 A.2.1.1 ((loR A.1.2.2.2.2.2)) ((ordR 119 f9 g9 A.1.1 A.1.2.2.2.2.2)) m_5997 m_6000 m_6007 f_6012 f_6013 f_6010  (by omega) (by omega) (by omega)) C0 hw sw_L_52 rfl hl.1 rfl (Nat.le_of_ble_eq_true rfl) dL_done_595 ⟨by decide, by decide⟩ ⟨(by show 23 + 0 ≤ 115; omega), (by show 161 + 0 ≤ 805; omega)⟩) rfl rfl (fun r_6016 F_6014 H locs hw hp_6015 => ?_)
                  obtain ⟨h_6017, h_6018, h_6019, h_6020⟩ := hp_6015
                  subst h_6017
                  have f_6021 : F_6009 fl = pcF G ((hiR A.1.2.2.2.2.2)) := (o_6011 fl (by omega)).trans f_6002
                  have had_6022 : ∀ i, i < 166 → F_6014 (ad i) = _ := fun i hi => (h_6020 (ad i) (Ne.symm (hna i hi)) (Ne.symm (hfa i hi))).trans ((o_6011 (ad i) (Ne.symm (show a_5994 ≠ ad i by have := hLs (ad i) (hL i hi); omega))).trans (had_6005 i hi))
                  have f_6023 : F_6014 fl = pcF G ((hiR A.1.2.2.2.2.2)) := (h_6020 fl (by omega) (by omega)).trans f_6021
                  refine lv_icmp_ne (tgt := 605) hx hb dL_done_598 (by decide) (fun c_598 => ?_) (fun c_598 => ?_)
                  · skip
                    exact absurd rfl c_598
                  · skip
                    refine lv_iconst (v := nI 1) hx hb dL_done_601 (by decide) ?_
                    refine lv_goto (tgt := 606) hx hb dL_done_602 (by decide) ?_
                    exact r_iG C0 hg_6006 hr hlk hw (v := nI 1) rfl ⟨rfl, (aSave A (ordS 119 f9 g9 t9 A.1)), ⟨(h_5947.keep (fun i hi => (had_6022 i hi))), okA_save hA (okS_ord (Or.inr (Or.inr (Or.inl rfl))) hf9 hg9 hA.1), okFl_up (A := A) (t := t9) rfl hFl (fun h9 => absurd h9 (by omega)), h_6018.trans (by rw [← sv_1 A.2.1 A.1 hh6]; rfl), h_6019.trans (congrArg (pcF G) (loR_u A.1.2.2.2.2.2 ht9 _)), f_6023.trans (congrArg (pcF G) (hiR_k A.1.2.2.2.2.2 ht9 _))⟩, Nat.sub_le _ _⟩ (show 23 ≤ 115 by omega) (show 161 ≤ 805 by omega) dL_done_606 hQ
                · skip
                  refine lv_iconst (v := nI 1) hx hb dL_done_90 (by decide) ?_
                  exact r_iG C0 hg0 hr hlk hw (v := nI 1) rfl ⟨rfl, A, ⟨(hX.keep (fun i hi => (had0 i hi))), hA, hFl, fnu, ffi, ffl⟩, Nat.le_refl _⟩ (show 0 ≤ 115 by omega) (show 0 ≤ 805 by omega) dL_done_91 hQ
              · skip
                exact absurd c_66 (by omega)
            · skip
              exact absurd c_55 (by omega)
          · skip
            exact absurd c_45 (by omega)
        · skip
          exact absurd c_34 (by omega)
      · skip
        exact absurd c_25 (by omega)
    · skip
      exact absurd c_16 (by omega)
  · skip
    exact absurd c_7 (by omega)
