theorem st_lo (r : Rws) {f : Nat} (h : f < 6) (p : Nat) (z : ZP) : va_up (loR r) f (va_up (loR r f) p z) = loR (va_up r f (va_up (r f) p z)) := by rw [loR_at _ h, loR_u _ h]
theorem st_hi (r : Rws) {f : Nat} (h : f < 6) (p : Nat) (z : ZP) : va_up (hiR r) f (va_up (hiR r f) p z) = hiR (va_up r (6 + f) (va_up (r (6 + f)) p z)) := by rw [hiR_at _ h, hiR_u _ h]
def cutK (c : Nat) (r : Rws) (k : Nat) : Rws := fun s p => if 7 * s + p < k ∧ c < p ∧ p < 7 then 0 else r s p
theorem ck_0 (c : Nat) (r : Rws) : r = cutK c r 0 := by
  funext s p
  have h : ¬ (7 * s + p < 0 ∧ c < p ∧ p < 7) := by omega
  simp only [cutK, h, if_false]
theorem ck_n {c k : Nat} (r : Rws) (h : k % 7 ≤ c) : cutK c r k = cutK c r (k + 1) := by
  funext s p
  have h2 : (7 * s + p < k ∧ c < p ∧ p < 7) = (7 * s + p < k + 1 ∧ c < p ∧ p < 7) := by
    simp only [eq_iff_iff]
    constructor
    · omega
    · intro h9
      have : ¬ 7 * s + p = k := fun e => by omega
      omega
  simp only [cutK, h2]
theorem ck_s {c k : Nat} (r : Rws) (h : c < k % 7) : va_up (cutK c r k) (k / 7) (va_up (cutK c r k (k / 7)) (k % 7) (zc 0)) = cutK c r (k + 1) := by
  funext s p
  by_cases e : s = k / 7
  · rw [e, va_up_self]
    by_cases e2 : p = k % 7
    · rw [e2, va_up_self]
      have h2 : 7 * (k / 7) + k % 7 < k + 1 ∧ c < k % 7 ∧ k % 7 < 7 := by omega
      simp only [cutK, h2, and_self, if_true, zc_0]
    · rw [va_up_ne _ _ e2]
      have h2 : (7 * (k / 7) + p < k ∧ c < p ∧ p < 7) = (7 * (k / 7) + p < k + 1 ∧ c < p ∧ p < 7) := by simp only [eq_iff_iff]; omega
      simp only [cutK, h2]
  · rw [va_up_ne _ _ e]
    have h2 : (7 * s + p < k ∧ c < p ∧ p < 7) = (7 * s + p < k + 1 ∧ c < p ∧ p < 7) := by simp only [eq_iff_iff]; omega
    simp only [cutK, h2]
theorem ck_lo {G : Gl} (c : Nat) (r : Rws) : pcF G (cutK c (loR r) 42) = pcF G (loR (cutR c r)) := pcF_congr (fun p k hk => by
  unfold cutK loR cutR zR
  by_cases h : p < 6
  · by_cases h2 : c < k
    · have h3 : 7 * p + k < 42 ∧ c < k ∧ k < 7 := by omega
      simp [h, h2, h3]
    · have h3 : ¬ (7 * p + k < 42 ∧ c < k ∧ k < 7) := by omega
      simp [h, h2]
  · simp [h])
theorem ck_hi {G : Gl} (c : Nat) (r : Rws) : pcF G (cutK c (hiR r) 42) = pcF G (hiR (cutR c r)) := pcF_congr (fun p k hk => by
  unfold cutK hiR cutR zR
  by_cases h : p < 6
  · by_cases h2 : c < k
    · have h3 : 7 * p + k < 42 ∧ c < k ∧ k < 7 := by omega
      simp [h, h2, h3]
    · have h3 : ¬ (7 * p + k < 42 ∧ c < k ∧ k < 7) := by omega
      simp [h, h2]
  · simp [h])
theorem okFl_cut {A : AB} {c : Nat} (hF : okFl A) (h : 2 ≤ c) : okFl (aSave A (cutS c A.1)) := fun i hi => ⟨by
  show (if c < 0 then (0 : ZP) else A.1.2.2.2.2.2 (6 + i) 0) = 0
  rw [if_neg (by omega)]
  exact (hF i hi).1, by
  show (if c < 1 then (0 : ZP) else A.1.2.2.2.2.2 (6 + i) 1) = 1
  rw [if_neg (by omega)]
  exact (hF i hi).2⟩
section LROWS3
variable {p : Program} {l : Launch} {e : Env} {R : Room} {s : State} {m : MethodId} {args : Array Value} {below : List Frame} {meth : Method} {c : Code} {H : Heap} {locs : List Loc} {cells slots : Nat} {Q : State → Prop}
variable {cc : ByteArray} {nL : Nat} {own : String} {pc9 : Nat} {ls : Array Slot} {rest : List Value} {G : Gl} {L : List Nat} {F : Nat → va_E} {a : Nat}
theorem q_pst42k (C0 : Cx p s m args c cc nL own G L) (hw : wD G L F s H locs) (ha : a ∈ L) {pl : Nat → Nat → ZP} (he : F a = pcF G pl) (i : Nat) (hi : i < 42) {z : ZP} (hdg : decode cc pc9 = .ok (.iastore, 1))
    (kk : ∀ (F' : Nat → va_E) (H1 : Heap) (locs1 : List Loc), wD G L F' s H1 locs1 → F' a = pcF G (va_up pl (i / 7) (va_up (pl (i / 7)) (i % 7) z)) → (∀ q, q ≠ a → F' q = F q) → W p l e R s m args below meth c H1 locs1 cells slots Q (F0 m (pc9 + 1) ls rest)) : W p l e R s m args below meth c H locs cells slots Q (F0 m pc9 ls (.int (nI z.val) :: .int (nI i) :: .ref a :: rest)) :=
  q_iast C0 hw ha he i hi (by decide) hdg (fun F' H1 locs1 hw1 h2 ho => kk F' H1 locs1 hw1 (h2.trans (congrArg (fun f9 => (.inl (G.2 0, 42, .inl f9) : va_E)) (by have h9 := pc_upd pl (i / 7) (i % 7) (Nat.mod_lt _ (by decide)) z; rw [Nat.div_add_mod] at h9; exact h9))) ho)
end LROWS3
theorem c_L_done (l : Launch) (G : Gl) (L : List Nat) (F : Nat → va_E) (ad : Nat → Nat) (nu fi fl : Nat) (hS : LSQ L ad nu fi fl) (A : AB) (hX : XW G F ad A) (hA : okA A) (hFl : okFl A) (hN : LNQ G F nu fi fl A) (kd f9 g9 t9 : Nat) (y9 : Int32) (hk : kd < 10) (hf9 : f9 < 6) (hg9 : g9 < 6) (ht9 : t9 < 6) : CI l yL_done cL_done 13 (some .boolean) rm_L_done G L F [.ref (ad 0), .int (nI kd), .int (nI f9), .int (nI g9), .int (nI t9), .int y9, .ref nu, .ref fi, .ref fl] (fun r F1 => r = nI 1 ∧ ∃ A2, LWQ G F1 ad nu fi fl A2 ∧ A2.1.2.1 ≤ A.1.2.1) := by
  match kd, hk with
  | 0, _ => exact c_L_done_0 l G L F ad nu fi fl hS A hX hA hFl hN f9 g9 t9 y9 hf9 hg9 ht9
  | 1, _ => exact c_L_done_1 l G L F ad nu fi fl hS A hX hA hFl hN f9 g9 t9 y9 hf9 hg9 ht9
  | 2, _ => exact c_L_done_2 l G L F ad nu fi fl hS A hX hA hFl hN f9 g9 t9 y9 hf9 hg9 ht9
  | 3, _ => exact c_L_done_3 l G L F ad nu fi fl hS A hX hA hFl hN f9 g9 t9 y9 hf9 hg9 ht9
  | 4, _ => exact c_L_done_4 l G L F ad nu fi fl hS A hX hA hFl hN f9 g9 t9 y9 hf9 hg9 ht9
  | 5, _ => exact c_L_done_5 l G L F ad nu fi fl hS A hX hA hFl hN f9 g9 t9 y9 hf9 hg9 ht9
  | 6, _ => exact c_L_done_6 l G L F ad nu fi fl hS A hX hA hFl hN f9 g9 t9 y9 hf9 hg9 ht9
  | 7, _ => exact c_L_done_7 l G L F ad nu fi fl hS A hX hA hFl hN f9 g9 t9 y9 hf9 hg9 ht9
  | 8, _ => exact c_L_done_8 l G L F ad nu fi fl hS A hX hA hFl hN f9 g9 t9 y9 hf9 hg9 ht9
  | 9, _ => exact c_L_done_9 l G L F ad nu fi fl hS A hX hA hFl hN f9 g9 t9 y9 hf9 hg9 ht9
  | kd + 10, h9 => exact absurd h9 (by omega)
abbrev rm_L_act : Room := { frames := 8, cells := 115, slots := 805, locals := 219 }
set_option maxHeartbeats 4000000 in
set_option maxRecDepth 100000 in
theorem c_L_act (l : Launch) (G : Gl) (L : List Nat) (F : Nat → va_E) (ad : Nat → Nat) (nu fi fl : Nat) (hS : LSQ L ad nu fi fl) (A : AB) (hX : XW G F ad A) (hA : okA A) (hFl : okFl A) (hN : LNQ G F nu fi fl A) (hpb : A.1.2.1 + 300 ≤ 100000) (x9 y9 : Int32) : CI l yL_act cL_act 11 (some .boolean) rm_L_act G L F [.ref (ad 0), .int (x9), .int (y9), .ref nu, .ref fi, .ref fl] (fun r F1 => r = nI 1 ∧ ∃ A2, LWQ G F1 ad nu fi fl A2 ∧ A2.1.2.1 ≤ A.1.2.1 + 300) := by
  refine CG_of (by decide) (Nat.le_of_ble_eq_true rfl) rfl ?_
  intro p e s m args below meth c Q C0 hr hlk hnm hQ hw ls hl
  obtain ⟨hL, hin, mnu, mfi, mfl, hnf, hnl, hff, hna, hfa, hga⟩ := id hS
  obtain ⟨fnu, ffi, ffl⟩ := id hN
  obtain ⟨⟨hc2, hc, hpu, hok⟩, ⟨hh6, hho⟩, -⟩ := id hA
  have had0 : ∀ i, i < 166 → F (ad i) = F (ad i) := fun _ _ => rfl
  have hx := C0.x
  have hb := C0.b
  have hg0 := gr.rfl (L := L) s.heap.size
  have hLs : ∀ q ∈ L, q < s.heap.size := fun q hq => hw.lt hq
  have hfr0 : ∀ q ∈ L, F q = F q := fun _ _ => rfl
  have hlt_nu := hLs nu mnu
  have hlt_fi := hLs fi mfi
  have hlt_fl := hLs fl mfl
  refine lv_iload_n hx hb dL_act_0 rfl (lv_at hl 1 rfl) ?_
  refine lv_bipush (v := nI 20) hx hb dL_act_1 (by decide) ?_
  refine lv_ishr hx hb dL_act_3 ?_
  refine lv_bipush (v := nI 20) hx hb dL_act_4 (by decide) ?_
  refine q_calli hw (q_runS (As := [.int (x9 >>> (nI 20 &&& 31)), .int (nI (20))]) (c_L_at l G L F ((x9 >>> (nI 20 &&& 31))) 20 (by omega) (by omega)) C0 hw sw_L_75 rfl hl.1 rfl (Nat.le_of_ble_eq_true rfl) dL_act_6 ⟨by decide, by decide⟩ ⟨(by show 0 + 0 ≤ 115; omega), (by show 0 + 0 ≤ 805; omega)⟩) rfl rfl (fun r_5133 F_5131 H locs hw hp_5132 => ?_)
  obtain ⟨⟨za_5134, hz_5135, h_5136⟩, o_5137⟩ := hp_5132
  subst h_5136
  refine lv_istore (lv' := [(6, .int (nI (za_5134))), (0, .ref (ad 0)), (1, .int (x9)), (2, .int (y9)), (3, .ref nu), (4, .ref fi), (5, .ref fl)]) hx hb dL_act_9 hl (by decide) rfl (fun ls hl => ?_)
  refine lv_iload_n hx hb dL_act_11 rfl (lv_at hl 3 rfl) ?_
  refine lv_bipush (v := nI 6) hx hb dL_act_12 (by decide) ?_
  refine q_calli hw (q_runS (As := [.int (y9), .int (nI (6))]) (c_L_at l G L F_5131 (y9) 6 (by omega) (by omega)) C0 hw sw_L_75 rfl hl.1 rfl (Nat.le_of_ble_eq_true rfl) dL_act_14 ⟨by decide, by decide⟩ ⟨(by show 0 + 0 ≤ 115; omega), (by show 0 + 0 ≤ 805; omega)⟩) rfl rfl (fun r_5140 F_5138 H locs hw hp_5139 => ?_)
  obtain ⟨⟨za_5141, hz_5142, h_5143⟩, o_5144⟩ := hp_5139
  subst h_5143
  refine lv_istore (lv' := [(7, .int (nI (za_5141))), (6, .int (nI (za_5134))), (0, .ref (ad 0)), (1, .int (x9)), (2, .int (y9)), (3, .ref nu), (4, .ref fi), (5, .ref fl)]) hx hb dL_act_17 hl (by decide) rfl (fun ls hl => ?_)
  refine lv_iload hx hb dL_act_19 (lv_at hl 1 rfl) ?_
  refine lv_iconst (v := nI 5) hx hb dL_act_21 (by decide) ?_
  refine n_icmp_ge (tgt := 136) hx hb dL_act_22 (by decide) (by omega) (by decide) (fun c_22 => ?_) (fun c_22 => ?_)
  · skip
    refine lv_iload hx hb dL_act_136 (lv_at hl 1 rfl) ?_
    refine lv_iconst (v := nI 5) hx hb dL_act_138 (by decide) ?_
    refine n_icmp_ne (tgt := 229) hx hb dL_act_139 (by decide) (by omega) (by decide) (fun c_139 => ?_) (fun c_139 => ?_)
    · skip
      refine lv_iload hx hb dL_act_229 (lv_at hl 1 rfl) ?_
      refine lv_bipush (v := nI 6) hx hb dL_act_231 (by decide) ?_
      refine n_icmp_ne (tgt := 288) hx hb dL_act_233 (by decide) (by omega) (by decide) (fun c_233 => ?_) (fun c_233 => ?_)
      · skip
        refine lv_aload_n hx hb dL_act_288 rfl (lv_at hl 2 rfl) ?_
        refine lv_iload_n hx hb dL_act_289 rfl (lv_at hl 3 rfl) ?_
        refine lv_bipush (v := nI 10) hx hb dL_act_290 (by decide) ?_
        refine q_calli hw (q_runS (As := [.int (x9), .int (nI (10))]) (c_L_at l G L F_5138 (x9) 10 (by omega) (by omega)) C0 hw sw_L_75 rfl hl.1 rfl (Nat.le_of_ble_eq_true rfl) dL_act_292 ⟨by decide, by decide⟩ ⟨(by show 0 + 0 ≤ 115; omega), (by show 0 + 0 ≤ 805; omega)⟩) rfl rfl (fun r_5147 F_5145 H locs hw hp_5146 => ?_)
        obtain ⟨⟨za_5148, hz_5149, h_5150⟩, o_5151⟩ := hp_5146
        subst h_5150
        refine lv_iload hx hb dL_act_295 (lv_at hl 0 rfl) ?_
        refine lv_iload_n hx hb dL_act_297 rfl (lv_at hl 4 rfl) ?_
        refine lv_iconst (v := nI 3) hx hb dL_act_298 (by decide) ?_
        refine lv_ishr hx hb dL_act_299 ?_
        refine lv_bipush (v := nI 6) hx hb dL_act_300 (by decide) ?_
        refine q_calli hw (q_runS (As := [.int (y9 >>> (nI 3 &&& 31)), .int (nI (6))]) (c_L_at l G L F_5145 ((y9 >>> (nI 3 &&& 31))) 6 (by omega) (by omega)) C0 hw sw_L_75 rfl hl.1 rfl (Nat.le_of_ble_eq_true rfl) dL_act_302 ⟨by decide, by decide⟩ ⟨(by show 0 + 0 ≤ 115; omega), (by show 0 + 0 ≤ 805; omega)⟩) rfl rfl (fun r_5154 F_5152 H locs hw hp_5153 => ?_)
        obtain ⟨⟨za_5155, hz_5156, h_5157⟩, o_5158⟩ := hp_5153
        subst h_5157
        refine lv_iload_n hx hb dL_act_305 rfl (lv_at hl 4 rfl) ?_
        refine lv_bipush (v := nI 6) hx hb dL_act_306 (by decide) ?_
        refine lv_ishr hx hb dL_act_308 ?_
        refine lv_bipush (v := nI 6) hx hb dL_act_309 (by decide) ?_
        refine q_calli hw (q_runS (As := [.int (y9 >>> (nI 6 &&& 31)), .int (nI (6))]) (c_L_at l G L F_5152 ((y9 >>> (nI 6 &&& 31))) 6 (by omega) (by omega)) C0 hw sw_L_75 rfl hl.1 rfl (Nat.le_of_ble_eq_true rfl) dL_act_311 ⟨by decide, by decide⟩ ⟨(by show 0 + 0 ≤ 115; omega), (by show 0 + 0 ≤ 805; omega)⟩) rfl rfl (fun r_5161 F_5159 H locs hw hp_5160 => ?_)
        obtain ⟨⟨za_5162, hz_5163, h_5164⟩, o_5165⟩ := hp_5160
        subst h_5164
        refine lv_iload_n hx hb dL_act_314 rfl (lv_at hl 4 rfl) ?_
        refine lv_bipush (v := nI 9) hx hb dL_act_315 (by decide) ?_
        refine lv_ishr hx hb dL_act_317 ?_
        refine lv_aload_n hx hb dL_act_318 rfl (lv_at hl 5 rfl) ?_
        refine lv_aload hx hb dL_act_319 (lv_at hl 6 rfl) ?_
        refine lv_aload hx hb dL_act_321 (lv_at hl 7 rfl) ?_
        have hX_5166 : XW G F_5159 ad A := (hX.keep (fun i hi => ((o_5165 (ad i) ).trans ((o_5158 (ad i) ).trans ((o_5151 (ad i) ).trans ((o_5144 (ad i) ).trans ((o_5137 (ad i) ).trans (had0 i hi))))))))
        have f_5167 : F_5131 nu = nE G A.1.1 A.1.2.1 A.1.2.2.1 A.1.2.2.2.1 A.1.2.2.2.2.1 A.2.1.1 := (o_5137 nu ).trans fnu
        have f_5168 : F_5138 nu = nE G A.1.1 A.1.2.1 A.1.2.2.1 A.1.2.2.2.1 A.1.2.2.2.2.1 A.2.1.1 := (o_5144 nu ).trans f_5167
        have f_5169 : F_5145 nu = nE G A.1.1 A.1.2.1 A.1.2.2.1 A.1.2.2.2.1 A.1.2.2.2.2.1 A.2.1.1 := (o_5151 nu ).trans f_5168
        have f_5170 : F_5152 nu = nE G A.1.1 A.1.2.1 A.1.2.2.1 A.1.2.2.2.1 A.1.2.2.2.2.1 A.2.1.1 := (o_5158 nu ).trans f_5169
        have f_5171 : F_5159 nu = nE G A.1.1 A.1.2.1 A.1.2.2.1 A.1.2.2.2.1 A.1.2.2.2.2.1 A.2.1.1 := (o_5165 nu ).trans f_5170
        have f_5172 : F_5131 fi = pcF G ((loR A.1.2.2.2.2.2)) := (o_5137 fi ).trans ffi
        have f_5173 : F_5138 fi = pcF G ((loR A.1.2.2.2.2.2)) := (o_5144 fi ).trans f_5172
        have f_5174 : F_5145 fi = pcF G ((loR A.1.2.2.2.2.2)) := (o_5151 fi ).trans f_5173
        have f_5175 : F_5152 fi = pcF G ((loR A.1.2.2.2.2.2)) := (o_5158 fi ).trans f_5174
        have f_5176 : F_5159 fi = pcF G ((loR A.1.2.2.2.2.2)) := (o_5165 fi ).trans f_5175
        have f_5177 : F_5131 fl = pcF G ((hiR A.1.2.2.2.2.2)) := (o_5137 fl ).trans ffl
        have f_5178 : F_5138 fl = pcF G ((hiR A.1.2.2.2.2.2)) := (o_5144 fl ).trans f_5177
        have f_5179 : F_5145 fl = pcF G ((hiR A.1.2.2.2.2.2)) := (o_5151 fl ).trans f_5178
        have f_5180 : F_5152 fl = pcF G ((hiR A.1.2.2.2.2.2)) := (o_5158 fl ).trans f_5179
        have f_5181 : F_5159 fl = pcF G ((hiR A.1.2.2.2.2.2)) := (o_5165 fl ).trans f_5180
        refine q_calliG hw (q_runS (As := [.ref (ad 0), .int (nI (za_5148)), .int (nI (za_5141)), .int (nI (za_5155)), .int (nI (za_5162)), .int (y9 >>> (nI 9 &&& 31)), .ref nu, .ref fi, .ref fl]) (c_L_done l G L F_5159 ad nu fi fl hS A hX_5166 hA hFl ⟨f_5171, f_5176, f_5181⟩ za_5148 za_5141 za_5155 za_5162 ((y9 >>> (nI 9 &&& 31))) (by omega) (by omega) (by omega) (by omega)) C0 hw sw_L_105 rfl hl.1 rfl (Nat.le_of_ble_eq_true rfl) dL_act_323 ⟨by decide, by decide⟩ ⟨(by show 0 + 115 ≤ 115; omega), (by show 0 + 805 ≤ 805; omega)⟩) (fun r_5184 F_5182 H locs hz_5185 hw hp_5183 => ?_)
        obtain ⟨he_5186, h_5187⟩ := hp_5183
        subst he_5186
        exact r_iG C0 hg0 hr hlk hw (v := nI 1) rfl ⟨rfl, by obtain ⟨A2, h8, h9⟩ := h_5187; exact ⟨A2, h8, by omega⟩⟩ (show 115 ≤ 115 by omega) (show 805 ≤ 805 by omega) dL_act_326 hQ
      · skip
        refine lv_iconst (v := nI 1) hx hb dL_act_236 (by decide) ?_
        refine lv_iload_n hx hb dL_act_237 rfl (lv_at hl 4 rfl) ?_
        refine lv_sipush (v := nI 300) hx hb dL_act_238 (by decide) ?_
        refine q_calli hw (q_runS (As := [.int (y9), .int (nI (300))]) (c_L_at l G L F_5138 (y9) 300 (by omega) (by omega)) C0 hw sw_L_75 rfl hl.1 rfl (Nat.le_of_ble_eq_true rfl) dL_act_241 ⟨by decide, by decide⟩ ⟨(by show 0 + 0 ≤ 115; omega), (by show 0 + 0 ≤ 805; omega)⟩) rfl rfl (fun r_5190 F_5188 H locs hw hp_5189 => ?_)
        obtain ⟨⟨za_5191, hz_5192, h_5193⟩, o_5194⟩ := hp_5189
        subst h_5193
        refine n_iadd hx hb dL_act_244 ?_
        refine lv_istore (lv' := [(8, .int (nI (1 + za_5191))), (7, .int (nI (za_5141))), (6, .int (nI (za_5134))), (0, .ref (ad 0)), (1, .int (x9)), (2, .int (y9)), (3, .ref nu), (4, .ref fi), (5, .ref fl)]) hx hb dL_act_245 hl (by decide) rfl (fun ls hl => ?_)
        refine lv_aload_n hx hb dL_act_247 rfl (lv_at hl 6 rfl) ?_
        refine lv_iconst (v := nI 1) hx hb dL_act_248 (by decide) ?_
        refine lv_dup2_11 hx hb dL_act_249 rfl rfl ?_
        have f_5195 : F_5131 nu = nE G A.1.1 A.1.2.1 A.1.2.2.1 A.1.2.2.2.1 A.1.2.2.2.2.1 A.2.1.1 := (o_5137 nu ).trans fnu
        have f_5196 : F_5138 nu = nE G A.1.1 A.1.2.1 A.1.2.2.1 A.1.2.2.2.1 A.1.2.2.2.2.1 A.2.1.1 := (o_5144 nu ).trans f_5195
        have f_5197 : F_5188 nu = nE G A.1.1 A.1.2.1 A.1.2.2.1 A.1.2.2.2.1 A.1.2.2.2.2.1 A.2.1.1 := (o_5194 nu ).trans f_5196
        refine q_iald C0 hw mnu f_5197 (1) (by omega) (by decide) (v := nI (A.1.2.1)) rfl dL_act_250 ?_
        refine lv_iload hx hb dL_act_251 (lv_at hl 0 rfl) ?_
        refine n_iadd hx hb dL_act_253 ?_
        refine q_iast C0 hw mnu f_5197 1 (by decide) (by decide) dL_act_254 (fun F_5198 H locs hw f_5199 o_5200 => ?_)
        have f_5201 : F_5198 nu = nE G A.1.1 (A.1.2.1 + (1 + za_5191)) A.1.2.2.1 A.1.2.2.2.1 A.1.2.2.2.2.1 A.2.1.1 := f_5199.trans (by rw [nG_u1])
        refine lv_aload_n hx hb dL_act_255 rfl (lv_at hl 6 rfl) ?_
        refine lv_iconst (v := nI 5) hx hb dL_act_256 (by decide) ?_
        refine q_iald C0 hw mnu f_5201 (5) (by omega) (by decide) (v := nI (A.2.1.1)) rfl dL_act_257 ?_
        refine lv_bipush (v := nI 6) hx hb dL_act_258 (by decide) ?_
        refine n_icmp_ge (tgt := 270) hx hb dL_act_260 (by decide) (by omega) (by decide) (fun c_260 => ?_) (fun c_260 => ?_)
        · skip
          refine lv_aload_n hx hb dL_act_270 rfl (lv_at hl 3 rfl) ?_
          refine lv_iload hx hb dL_act_271 (lv_at hl 0 rfl) ?_
          have hX_5202 : XW G F_5198 ad A := (hX.keep (fun i hi => ((o_5200 (ad i) (Ne.symm (hna i hi))).trans ((o_5194 (ad i) ).trans ((o_5144 (ad i) ).trans ((o_5137 (ad i) ).trans (had0 i hi)))))))
          refine q_calli hw (q_runV (As := [.int (nI (1 + za_5191))]) (c_X5_earn l G L F_5198 ad hL hin A (1 + za_5191) (by omega) (by omega) (by omega) hX_5202 hA) C0 hw vw_L_102 (hL 0 (by decide)) hX_5202.1 rfl rfl rfl hl.1 rfl (Nat.le_of_ble_eq_true rfl) dL_act_273 ⟨by decide, by decide⟩ ⟨(by show 0 + 0 ≤ 115; omega), (by show 0 + 0 ≤ 805; omega)⟩) rfl rfl (fun r_5205 F_5203 H locs hw hp_5204 => ?_)
          obtain ⟨h_5206, h_5207, h_5208⟩ := hp_5204
          subst h_5206
          have f_5209 : F_5203 nu = nE G A.1.1 (A.1.2.1 + (1 + za_5191)) A.1.2.2.1 A.1.2.2.2.1 A.1.2.2.2.2.1 A.2.1.1 := (h_5208 nu (fun i hi => hna i hi)).trans f_5201
          have f_5210 : F_5131 fi = pcF G ((loR A.1.2.2.2.2.2)) := (o_5137 fi ).trans ffi
          have f_5211 : F_5138 fi = pcF G ((loR A.1.2.2.2.2.2)) := (o_5144 fi ).trans f_5210
          have f_5212 : F_5188 fi = pcF G ((loR A.1.2.2.2.2.2)) := (o_5194 fi ).trans f_5211
          have f_5213 : F_5198 fi = pcF G ((loR A.1.2.2.2.2.2)) := (o_5200 fi (by omega)).trans f_5212
          have f_5214 : F_5203 fi = pcF G ((loR A.1.2.2.2.2.2)) := (h_5208 fi (fun i hi => hfa i hi)).trans f_5213
          have f_5215 : F_5131 fl = pcF G ((hiR A.1.2.2.2.2.2)) := (o_5137 fl ).trans ffl
          have f_5216 : F_5138 fl = pcF G ((hiR A.1.2.2.2.2.2)) := (o_5144 fl ).trans f_5215
          have f_5217 : F_5188 fl = pcF G ((hiR A.1.2.2.2.2.2)) := (o_5194 fl ).trans f_5216
          have f_5218 : F_5198 fl = pcF G ((hiR A.1.2.2.2.2.2)) := (o_5200 fl (by omega)).trans f_5217
          have f_5219 : F_5203 fl = pcF G ((hiR A.1.2.2.2.2.2)) := (h_5208 fl (fun i hi => hga i hi)).trans f_5218
          have had_5220 : ∀ i, i < 166 → F_5203 (ad i) = F_5203 (ad i) := fun _ _ => rfl
          refine lv_aload_n hx hb dL_act_276 rfl (lv_at hl 6 rfl) ?_
          refine lv_iconst (v := nI 1) hx hb dL_act_277 (by decide) ?_
          refine q_iald C0 hw mnu f_5209 (1) (by omega) (by decide) (v := nI (A.1.2.1 + (1 + za_5191))) rfl dL_act_278 ?_
          refine n_icmp_ne (tgt := 286) hx hb dL_act_279 (by decide) (by omega) (by omega) (fun c_279 => ?_) (fun c_279 => ?_)
          · skip
            exact absurd rfl c_279
          · skip
            refine lv_iconst (v := nI 1) hx hb dL_act_282 (by decide) ?_
            refine lv_goto (tgt := 287) hx hb dL_act_283 (by decide) ?_
            exact r_iG C0 hg0 hr hlk hw (v := nI 1) rfl ⟨rfl, (aSave A (earnS (1 + za_5191) A.1)), ⟨(h_5207.keep (fun i hi => (had_5220 i hi))), okA_save hA (okS_earn hA.1 (by omega)), hFl, f_5209.trans (congrArg (fun z9 => nE G A.1.1 (A.1.2.1 + (1 + za_5191)) A.1.2.2.1 A.1.2.2.2.1 A.1.2.2.2.2.1 z9) (((hs_b (f := A.2.1.1) (by omega)).symm.trans (sv_1 A.2.1 A.1 hh6).symm))), f_5214, f_5219⟩, by show A.1.2.1 + (1 + za_5191) ≤ A.1.2.1 + 300; omega⟩ (show 0 ≤ 115 by omega) (show 0 ≤ 805 by omega) dL_act_287 hQ
        · skip
          refine lv_aload_n hx hb dL_act_263 rfl (lv_at hl 6 rfl) ?_
          refine lv_iconst (v := nI 5) hx hb dL_act_264 (by decide) ?_
          refine lv_dup2_11 hx hb dL_act_265 rfl rfl ?_
          refine q_iald C0 hw mnu f_5201 (5) (by omega) (by decide) (v := nI (A.2.1.1)) rfl dL_act_266 ?_
          refine lv_iconst (v := nI 1) hx hb dL_act_267 (by decide) ?_
          refine n_iadd hx hb dL_act_268 ?_
          refine q_iast C0 hw mnu f_5201 5 (by decide) (by decide) dL_act_269 (fun F_5221 H locs hw f_5222 o_5223 => ?_)
          obtain ⟨F_5224, hw, f_5225, o_5226⟩ := hw.canonE f_5222 (nG_5 _ _ _ _ _ _ _)
          have o_5227 : ∀ q, q ≠ nu → F_5224 q = F_5198 q := fun q hq => (o_5226 q hq).trans (o_5223 q hq)
          refine lv_aload_n hx hb dL_act_270 rfl (lv_at hl 3 rfl) ?_
          refine lv_iload hx hb dL_act_271 (lv_at hl 0 rfl) ?_
          have hX_5228 : XW G F_5224 ad A := (hX.keep (fun i hi => ((o_5227 (ad i) (Ne.symm (hna i hi))).trans ((o_5200 (ad i) (Ne.symm (hna i hi))).trans ((o_5194 (ad i) ).trans ((o_5144 (ad i) ).trans ((o_5137 (ad i) ).trans (had0 i hi))))))))
          refine q_calli hw (q_runV (As := [.int (nI (1 + za_5191))]) (c_X5_earn l G L F_5224 ad hL hin A (1 + za_5191) (by omega) (by omega) (by omega) hX_5228 hA) C0 hw vw_L_102 (hL 0 (by decide)) hX_5228.1 rfl rfl rfl hl.1 rfl (Nat.le_of_ble_eq_true rfl) dL_act_273 ⟨by decide, by decide⟩ ⟨(by show 0 + 0 ≤ 115; omega), (by show 0 + 0 ≤ 805; omega)⟩) rfl rfl (fun r_5231 F_5229 H locs hw hp_5230 => ?_)
          obtain ⟨h_5232, h_5233, h_5234⟩ := hp_5230
          subst h_5232
          have f_5235 : F_5229 nu = nE G A.1.1 (A.1.2.1 + (1 + za_5191)) A.1.2.2.1 A.1.2.2.2.1 A.1.2.2.2.2.1 (A.2.1.1 + 1) := (h_5234 nu (fun i hi => hna i hi)).trans f_5225
          have f_5236 : F_5131 fi = pcF G ((loR A.1.2.2.2.2.2)) := (o_5137 fi ).trans ffi
          have f_5237 : F_5138 fi = pcF G ((loR A.1.2.2.2.2.2)) := (o_5144 fi ).trans f_5236
          have f_5238 : F_5188 fi = pcF G ((loR A.1.2.2.2.2.2)) := (o_5194 fi ).trans f_5237
          have f_5239 : F_5198 fi = pcF G ((loR A.1.2.2.2.2.2)) := (o_5200 fi (by omega)).trans f_5238
          have f_5240 : F_5224 fi = pcF G ((loR A.1.2.2.2.2.2)) := (o_5227 fi (by omega)).trans f_5239
          have f_5241 : F_5229 fi = pcF G ((loR A.1.2.2.2.2.2)) := (h_5234 fi (fun i hi => hfa i hi)).trans f_5240
          have f_5242 : F_5131 fl = pcF G ((hiR A.1.2.2.2.2.2)) := (o_5137 fl ).trans ffl
          have f_5243 : F_5138 fl = pcF G ((hiR A.1.2.2.2.2.2)) := (o_5144 fl ).trans f_5242
          have f_5244 : F_5188 fl = pcF G ((hiR A.1.2.2.2.2.2)) := (o_5194 fl ).trans f_5243
          have f_5245 : F_5198 fl = pcF G ((hiR A.1.2.2.2.2.2)) := (o_5200 fl (by omega)).trans f_5244
          have f_5246 : F_5224 fl = pcF G ((hiR A.1.2.2.2.2.2)) := (o_5227 fl (by omega)).trans f_5245
          have f_5247 : F_5229 fl = pcF G ((hiR A.1.2.2.2.2.2)) := (h_5234 fl (fun i hi => hga i hi)).trans f_5246
          have had_5248 : ∀ i, i < 166 → F_5229 (ad i) = F_5229 (ad i) := fun _ _ => rfl
          refine lv_aload_n hx hb dL_act_276 rfl (lv_at hl 6 rfl) ?_
          refine lv_iconst (v := nI 1) hx hb dL_act_277 (by decide) ?_
          refine q_iald C0 hw mnu f_5235 (1) (by omega) (by decide) (v := nI (A.1.2.1 + (1 + za_5191))) rfl dL_act_278 ?_
          refine n_icmp_ne (tgt := 286) hx hb dL_act_279 (by decide) (by omega) (by omega) (fun c_279 => ?_) (fun c_279 => ?_)
          · skip
            exact absurd rfl c_279
          · skip
            refine lv_iconst (v := nI 1) hx hb dL_act_282 (by decide) ?_
            refine lv_goto (tgt := 287) hx hb dL_act_283 (by decide) ?_
            exact r_iG C0 hg0 hr hlk hw (v := nI 1) rfl ⟨rfl, (aSave A (earnS (1 + za_5191) A.1)), ⟨(h_5233.keep (fun i hi => (had_5248 i hi))), okA_save hA (okS_earn hA.1 (by omega)), hFl, f_5235.trans (congrArg (fun z9 => nE G A.1.1 (A.1.2.1 + (1 + za_5191)) A.1.2.2.1 A.1.2.2.2.1 A.1.2.2.2.2.1 z9) (((hs_a (f := A.2.1.1) (by omega)).symm.trans (sv_1 A.2.1 A.1 hh6).symm))), f_5241, f_5247⟩, by show A.1.2.1 + (1 + za_5191) ≤ A.1.2.1 + 300; omega⟩ (show 0 ≤ 115 by omega) (show 0 ≤ 805 by omega) dL_act_287 hQ
    · skip
      refine lv_aload_n hx hb dL_act_142 rfl (lv_at hl 5 rfl) ?_
      refine lv_iconst (v := nI 0) hx hb dL_act_143 (by decide) ?_
      have f_5249 : F_5131 nu = nE G A.1.1 A.1.2.1 A.1.2.2.1 A.1.2.2.2.1 A.1.2.2.2.2.1 A.2.1.1 := (o_5137 nu ).trans fnu
      have f_5250 : F_5138 nu = nE G A.1.1 A.1.2.1 A.1.2.2.1 A.1.2.2.2.1 A.1.2.2.2.2.1 A.2.1.1 := (o_5144 nu ).trans f_5249
      refine q_iald C0 hw mnu f_5250 (0) (by omega) (by decide) (v := nI (A.1.1)) rfl dL_act_144 ?_
      refine lv_istore (lv' := [(8, .int (nI (A.1.1))), (7, .int (nI (za_5141))), (6, .int (nI (za_5134))), (0, .ref (ad 0)), (1, .int (x9)), (2, .int (y9)), (3, .ref nu), (4, .ref fi), (5, .ref fl)]) hx hb dL_act_145 hl (by decide) rfl (fun ls hl => ?_)
      refine lv_aload_n hx hb dL_act_147 rfl (lv_at hl 6 rfl) ?_
      refine lv_iconst (v := nI 0) hx hb dL_act_148 (by decide) ?_
      refine lv_iconst (v := nI 2) hx hb dL_act_149 (by decide) ?_
      refine lv_iload_n hx hb dL_act_150 rfl (lv_at hl 5 rfl) ?_
      refine lv_iconst (v := nI 5) hx hb dL_act_151 (by decide) ?_
      refine q_calli hw (q_runS (As := [.int (y9), .int (nI (5))]) (c_L_at l G L F_5138 (y9) 5 (by omega) (by omega)) C0 hw sw_L_75 rfl hl.1 rfl (Nat.le_of_ble_eq_true rfl) dL_act_152 ⟨by decide, by decide⟩ ⟨(by show 0 + 0 ≤ 115; omega), (by show 0 + 0 ≤ 805; omega)⟩) rfl rfl (fun r_5253 F_5251 H locs hw hp_5252 => ?_)
      obtain ⟨⟨za_5254, hz_5255, h_5256⟩, o_5257⟩ := hp_5252
      subst h_5256
      refine n_iadd hx hb dL_act_155 ?_
      have f_5258 : F_5251 nu = nE G A.1.1 A.1.2.1 A.1.2.2.1 A.1.2.2.2.1 A.1.2.2.2.2.1 A.2.1.1 := (o_5257 nu ).trans f_5250
      refine q_iast C0 hw mnu f_5258 0 (by decide) (by decide) dL_act_156 (fun F_5259 H locs hw f_5260 o_5261 => ?_)
      have f_5262 : F_5259 nu = nE G (2 + za_5254) A.1.2.1 A.1.2.2.1 A.1.2.2.2.1 A.1.2.2.2.2.1 A.2.1.1 := f_5260.trans (by rw [nG_u0])
      refine lv_iconst (v := nI 0) hx hb dL_act_157 (by decide) ?_
      refine lv_istore (lv' := [(9, .int (nI (0))), (8, .int (nI (A.1.1))), (7, .int (nI (za_5141))), (6, .int (nI (za_5134))), (0, .ref (ad 0)), (1, .int (x9)), (2, .int (y9)), (3, .ref nu), (4, .ref fi), (5, .ref fl)]) hx hb dL_act_158 hl (by decide) rfl (fun ls hl => ?_)
      have lp160 : ∀ (n : Nat) (k : Nat), 0 ≤ k → k ≤ 42 → 42 + 1 - k < n → ∀ (F_5263 : Nat → va_E) (H : Heap) (locs : List Loc), wD G L F_5263 s H locs → F_5263 nu = nE G (2 + za_5254) A.1.2.1 A.1.2.2.1 A.1.2.2.2.1 A.1.2.2.2.2.1 A.2.1.1 → F_5263 fi = pcF G (cutK (2 + za_5254) (loR A.1.2.2.2.2.2) k) → F_5263 fl = pcF G (cutK (2 + za_5254) (hiR A.1.2.2.2.2.2) k) → (∀ q, q ≠ nu → q ≠ fi → q ≠ fl → F_5263 q = F q) → ∀ ls : Array Slot, lv_has ls 11 [(8, .int (nI (A.1.1))), (7, .int (nI (za_5141))), (6, .int (nI (za_5134))), (0, .ref (ad 0)), (1, .int (x9)), (2, .int (y9)), (3, .ref nu), (4, .ref fi), (5, .ref fl), (9, .int (nI (k)))] → W p l e rm_L_act s m args below meth c H locs 0 0 Q (F0 m 160 ls []) := by
        intro n
        induction n with
        | zero => intro k hlo hhi hm; exact absurd hm (Nat.not_lt_zero _)
        | succ n ih_160 =>
          intro k hlo hhi hm F_5263 H locs hw f_5264 f_5265 f_5266 fr_5267 ls hl
          refine lv_iload hx hb dL_act_160 (lv_at hl 9 rfl) ?_
          refine lv_bipush (v := nI 42) hx hb dL_act_162 (by decide) ?_
          refine n_icmp_ge (tgt := 196) hx hb dL_act_164 (by decide) (by omega) (by decide) (fun c_164 => ?_) (fun c_164 => ?_)
          · skip
            obtain rfl : k = 42 := by omega
            refine lv_aload_n hx hb dL_act_196 rfl (lv_at hl 6 rfl) ?_
            refine lv_iconst (v := nI 5) hx hb dL_act_197 (by decide) ?_
            refine q_iald C0 hw mnu f_5264 (5) (by omega) (by decide) (v := nI (A.2.1.1)) rfl dL_act_198 ?_
            refine lv_bipush (v := nI 6) hx hb dL_act_199 (by decide) ?_
            refine n_icmp_ge (tgt := 211) hx hb dL_act_201 (by decide) (by omega) (by decide) (fun c_201 => ?_) (fun c_201 => ?_)
            · skip
              refine lv_aload_n hx hb dL_act_211 rfl (lv_at hl 3 rfl) ?_
              refine lv_aload_n hx hb dL_act_212 rfl (lv_at hl 6 rfl) ?_
              refine lv_iconst (v := nI 0) hx hb dL_act_213 (by decide) ?_
              refine q_iald C0 hw mnu f_5264 (0) (by omega) (by decide) (v := nI (2 + za_5254)) rfl dL_act_214 ?_
              have hX_5268 : XW G F_5263 ad A := (hX.keep (fun i hi => ((fr_5267 (ad i) (Ne.symm (hna i hi)) (Ne.symm (hfa i hi)) (Ne.symm (hga i hi))).trans (had0 i hi))))
              refine q_calli hw (q_runV (As := [.int (nI (2 + za_5254))]) (c_X5_cut l G L F_5263 ad hL hin A (2 + za_5254) (by omega) (by omega) hX_5268 hA) C0 hw vw_L_99 (hL 0 (by decide)) hX_5268.1 rfl rfl rfl hl.1 rfl (Nat.le_of_ble_eq_true rfl) dL_act_215 ⟨by decide, by decide⟩ ⟨(by show 0 + 0 ≤ 115; omega), (by show 0 + 0 ≤ 805; omega)⟩) rfl rfl (fun r_5271 F_5269 H locs hw hp_5270 => ?_)
              obtain ⟨h_5272, h_5273, h_5274⟩ := hp_5270
              subst h_5272
              have f_5275 : F_5269 nu = nE G (2 + za_5254) A.1.2.1 A.1.2.2.1 A.1.2.2.2.1 A.1.2.2.2.2.1 A.2.1.1 := (h_5274 nu (fun i hi => hna i hi)).trans f_5264
              have f_5276 : F_5269 fi = pcF G (cutK (2 + za_5254) (loR A.1.2.2.2.2.2) 42) := (h_5274 fi (fun i hi => hfa i hi)).trans f_5265
              have f_5277 : F_5269 fl = pcF G (cutK (2 + za_5254) (hiR A.1.2.2.2.2.2) 42) := (h_5274 fl (fun i hi => hga i hi)).trans f_5266
              have had_5278 : ∀ i, i < 166 → F_5269 (ad i) = F_5269 (ad i) := fun _ _ => rfl
              refine lv_iload hx hb dL_act_218 (lv_at hl 0 rfl) ?_
              refine n_icmp_ne (tgt := 227) hx hb dL_act_220 (by decide) (by omega) (by omega) (fun c_220 => ?_) (fun c_220 => ?_)
              · skip
                exact absurd rfl c_220
              · skip
                refine lv_iconst (v := nI 1) hx hb dL_act_223 (by decide) ?_
                refine lv_goto (tgt := 228) hx hb dL_act_224 (by decide) ?_
                exact r_iG C0 hg0 hr hlk hw (v := nI 1) rfl ⟨rfl, (aSave A (cutS (2 + za_5254) A.1)), ⟨(h_5273.keep (fun i hi => (had_5278 i hi))), okA_save hA (okS_cut hA.1 (by omega) (by omega)), okFl_cut hFl (by omega), f_5275.trans (congrArg (fun z9 => nE G (2 + za_5254) A.1.2.1 A.1.2.2.1 A.1.2.2.2.1 A.1.2.2.2.2.1 z9) (((hs_b (f := A.2.1.1) (by omega)).symm.trans (sv_1 A.2.1 A.1 hh6).symm))), f_5276.trans (ck_lo _ _), f_5277.trans (ck_hi _ _)⟩, Nat.le_add_right _ _⟩ (show 0 ≤ 115 by omega) (show 0 ≤ 805 by omega) dL_act_228 hQ
            · skip
              refine lv_aload_n hx hb dL_act_204 rfl (lv_at hl 6 rfl) ?_
              refine lv_iconst (v := nI 5) hx hb dL_act_205 (by decide) ?_
              refine lv_dup2_11 hx hb dL_act_206 rfl rfl ?_
              refine q_iald C0 hw mnu f_5264 (5) (by omega) (by decide) (v := nI (A.2.1.1)) rfl dL_act_207 ?_
              refine lv_iconst (v := nI 1) hx hb dL_act_208 (by decide) ?_
              refine n_iadd hx hb dL_act_209 ?_
              refine q_iast C0 hw mnu f_5264 5 (by decide) (by decide) dL_act_210 (fun F_5279 H locs hw f_5280 o_5281 => ?_)
              obtain ⟨F_5282, hw, f_5283, o_5284⟩ := hw.canonE f_5280 (nG_5 _ _ _ _ _ _ _)
              have o_5285 : ∀ q, q ≠ nu → F_5282 q = F_5263 q := fun q hq => (o_5284 q hq).trans (o_5281 q hq)
              refine lv_aload_n hx hb dL_act_211 rfl (lv_at hl 3 rfl) ?_
              refine lv_aload_n hx hb dL_act_212 rfl (lv_at hl 6 rfl) ?_
              refine lv_iconst (v := nI 0) hx hb dL_act_213 (by decide) ?_
              refine q_iald C0 hw mnu f_5283 (0) (by omega) (by decide) (v := nI (2 + za_5254)) rfl dL_act_214 ?_
              have hX_5286 : XW G F_5282 ad A := (hX.keep (fun i hi => ((o_5285 (ad i) (Ne.symm (hna i hi))).trans ((fr_5267 (ad i) (Ne.symm (hna i hi)) (Ne.symm (hfa i hi)) (Ne.symm (hga i hi))).trans (had0 i hi)))))
              refine q_calli hw (q_runV (As := [.int (nI (2 + za_5254))]) (c_X5_cut l G L F_5282 ad hL hin A (2 + za_5254) (by omega) (by omega) hX_5286 hA) C0 hw vw_L_99 (hL 0 (by decide)) hX_5286.1 rfl rfl rfl hl.1 rfl (Nat.le_of_ble_eq_true rfl) dL_act_215 ⟨by decide, by decide⟩ ⟨(by show 0 + 0 ≤ 115; omega), (by show 0 + 0 ≤ 805; omega)⟩) rfl rfl (fun r_5289 F_5287 H locs hw hp_5288 => ?_)
              obtain ⟨h_5290, h_5291, h_5292⟩ := hp_5288
              subst h_5290
              have f_5293 : F_5287 nu = nE G (2 + za_5254) A.1.2.1 A.1.2.2.1 A.1.2.2.2.1 A.1.2.2.2.2.1 (A.2.1.1 + 1) := (h_5292 nu (fun i hi => hna i hi)).trans f_5283
              have f_5294 : F_5282 fi = pcF G (cutK (2 + za_5254) (loR A.1.2.2.2.2.2) 42) := (o_5285 fi (by omega)).trans f_5265
              have f_5295 : F_5287 fi = pcF G (cutK (2 + za_5254) (loR A.1.2.2.2.2.2) 42) := (h_5292 fi (fun i hi => hfa i hi)).trans f_5294
              have f_5296 : F_5282 fl = pcF G (cutK (2 + za_5254) (hiR A.1.2.2.2.2.2) 42) := (o_5285 fl (by omega)).trans f_5266
              have f_5297 : F_5287 fl = pcF G (cutK (2 + za_5254) (hiR A.1.2.2.2.2.2) 42) := (h_5292 fl (fun i hi => hga i hi)).trans f_5296
              have had_5298 : ∀ i, i < 166 → F_5287 (ad i) = F_5287 (ad i) := fun _ _ => rfl
              refine lv_iload hx hb dL_act_218 (lv_at hl 0 rfl) ?_
              refine n_icmp_ne (tgt := 227) hx hb dL_act_220 (by decide) (by omega) (by omega) (fun c_220 => ?_) (fun c_220 => ?_)
              · skip
                exact absurd rfl c_220
              · skip
                refine lv_iconst (v := nI 1) hx hb dL_act_223 (by decide) ?_
                refine lv_goto (tgt := 228) hx hb dL_act_224 (by decide) ?_
                exact r_iG C0 hg0 hr hlk hw (v := nI 1) rfl ⟨rfl, (aSave A (cutS (2 + za_5254) A.1)), ⟨(h_5291.keep (fun i hi => (had_5298 i hi))), okA_save hA (okS_cut hA.1 (by omega) (by omega)), okFl_cut hFl (by omega), f_5293.trans (congrArg (fun z9 => nE G (2 + za_5254) A.1.2.1 A.1.2.2.1 A.1.2.2.2.1 A.1.2.2.2.2.1 z9) (((hs_a (f := A.2.1.1) (by omega)).symm.trans (sv_1 A.2.1 A.1 hh6).symm))), f_5295.trans (ck_lo _ _), f_5297.trans (ck_hi _ _)⟩, Nat.le_add_right _ _⟩ (show 0 ≤ 115 by omega) (show 0 ≤ 805 by omega) dL_act_228 hQ
          · skip
            refine lv_iload hx hb dL_act_167 (lv_at hl 9 rfl) ?_
            refine lv_bipush (v := nI 7) hx hb dL_act_169 (by decide) ?_
            refine n_irem hx hb (by omega) (by decide) (by decide) dL_act_171 ?_
            refine lv_aload_n hx hb dL_act_172 rfl (lv_at hl 6 rfl) ?_
            refine lv_iconst (v := nI 0) hx hb dL_act_173 (by decide) ?_
            refine q_iald C0 hw mnu f_5264 (0) (by omega) (by decide) (v := nI (2 + za_5254)) rfl dL_act_174 ?_
            refine n_icmp_le (tgt := 190) hx hb dL_act_175 (by decide) (by omega) (by omega) (fun c_175 => ?_) (fun c_175 => ?_)
            · skip
              have f_5299 : F_5263 fi = pcF G (cutK (2 + za_5254) (loR A.1.2.2.2.2.2) (k + 1)) := f_5265.trans (congrArg (pcF G) (ck_n _ (by omega)))
              have f_5300 : F_5263 fl = pcF G (cutK (2 + za_5254) (hiR A.1.2.2.2.2.2) (k + 1)) := f_5266.trans (congrArg (pcF G) (ck_n _ (by omega)))
              refine lv_iinc (v := nI (k + 1)) (lv' := [(9, .int (nI (k + 1))), (8, .int (nI (A.1.1))), (7, .int (nI (za_5141))), (6, .int (nI (za_5134))), (0, .ref (ad 0)), (1, .int (x9)), (2, .int (y9)), (3, .ref nu), (4, .ref fi), (5, .ref fl)]) hx hb dL_act_190 hl (k := 9) rfl (nI_add _ _) (by decide) rfl (fun ls hl => ?_)
              refine lv_goto (tgt := 160) hx hb dL_act_193 (by decide) ?_
              exact ih_160 (k + 1) ((by omega)) ((by omega)) (by omega) F_5263 _ _ hw (f_5264) (f_5299) (f_5300) (fun q k0 k1 k2 => (fr_5267 q k0 k1 k2)) ls (lv_sub hl [1, 2, 3, 4, 5, 6, 7, 8, 9, 0] rfl)
            · skip
              refine lv_aload hx hb dL_act_178 (lv_at hl 7 rfl) ?_
              refine lv_iload hx hb dL_act_180 (lv_at hl 9 rfl) ?_
              refine lv_iconst (v := nI 0) hx hb dL_act_182 (by decide) ?_
              refine q_pst42k C0 hw mfi f_5265 k (by omega) (z := zc 0) dL_act_183 (fun F_5301 H locs hw f_5302 o_5303 => ?_)
              have f_5304 : F_5301 fi = pcF G (cutK (2 + za_5254) (loR A.1.2.2.2.2.2) (k + 1)) := f_5302.trans (congrArg (pcF G) (ck_s _ (by omega)))
              refine lv_aload hx hb dL_act_184 (lv_at hl 8 rfl) ?_
              refine lv_iload hx hb dL_act_186 (lv_at hl 9 rfl) ?_
              refine lv_iconst (v := nI 0) hx hb dL_act_188 (by decide) ?_
              have f_5305 : F_5301 fl = pcF G (cutK (2 + za_5254) (hiR A.1.2.2.2.2.2) k) := (o_5303 fl (by omega)).trans f_5266
              refine q_pst42k C0 hw mfl f_5305 k (by omega) (z := zc 0) dL_act_189 (fun F_5306 H locs hw f_5307 o_5308 => ?_)
              have f_5309 : F_5306 fl = pcF G (cutK (2 + za_5254) (hiR A.1.2.2.2.2.2) (k + 1)) := f_5307.trans (congrArg (pcF G) (ck_s _ (by omega)))
              refine lv_iinc (v := nI (k + 1)) (lv' := [(9, .int (nI (k + 1))), (8, .int (nI (A.1.1))), (7, .int (nI (za_5141))), (6, .int (nI (za_5134))), (0, .ref (ad 0)), (1, .int (x9)), (2, .int (y9)), (3, .ref nu), (4, .ref fi), (5, .ref fl)]) hx hb dL_act_190 hl (k := 9) rfl (nI_add _ _) (by decide) rfl (fun ls hl => ?_)
              refine lv_goto (tgt := 160) hx hb dL_act_193 (by decide) ?_
              have f_5310 : F_5301 nu = nE G (2 + za_5254) A.1.2.1 A.1.2.2.1 A.1.2.2.2.1 A.1.2.2.2.2.1 A.2.1.1 := (o_5303 nu (by omega)).trans f_5264
              have f_5311 : F_5306 nu = nE G (2 + za_5254) A.1.2.1 A.1.2.2.1 A.1.2.2.2.1 A.1.2.2.2.2.1 A.2.1.1 := (o_5308 nu (by omega)).trans f_5310
              have f_5312 : F_5306 fi = pcF G (cutK (2 + za_5254) (loR A.1.2.2.2.2.2) (k + 1)) := (o_5308 fi (by omega)).trans f_5304
              exact ih_160 (k + 1) ((by omega)) ((by omega)) (by omega) F_5306 _ _ hw (f_5311) (f_5312) (f_5309) (fun q k0 k1 k2 => ((o_5308 q k2).trans ((o_5303 q k1).trans (fr_5267 q k0 k1 k2)))) ls (lv_sub hl [1, 2, 3, 4, 5, 6, 7, 8, 9, 0] rfl)
      have f_5313 : F_5131 fi = pcF G ((loR A.1.2.2.2.2.2)) := (o_5137 fi ).trans ffi
      have f_5314 : F_5138 fi = pcF G ((loR A.1.2.2.2.2.2)) := (o_5144 fi ).trans f_5313
      have f_5315 : F_5251 fi = pcF G ((loR A.1.2.2.2.2.2)) := (o_5257 fi ).trans f_5314
      have f_5316 : F_5259 fi = pcF G ((loR A.1.2.2.2.2.2)) := (o_5261 fi (by omega)).trans f_5315
      have f_5317 : F_5131 fl = pcF G ((hiR A.1.2.2.2.2.2)) := (o_5137 fl ).trans ffl
      have f_5318 : F_5138 fl = pcF G ((hiR A.1.2.2.2.2.2)) := (o_5144 fl ).trans f_5317
      have f_5319 : F_5251 fl = pcF G ((hiR A.1.2.2.2.2.2)) := (o_5257 fl ).trans f_5318
      have f_5320 : F_5259 fl = pcF G ((hiR A.1.2.2.2.2.2)) := (o_5261 fl (by omega)).trans f_5319
      exact lp160 _ (0) ((by omega)) ((by omega)) (Nat.lt_succ_self _) F_5259 _ _ hw (f_5262) (f_5316.trans (congrArg (pcF G) (ck_0 _ _))) (f_5320.trans (congrArg (pcF G) (ck_0 _ _))) (fun q k0 k1 k2 => ((o_5261 q k0).trans ((o_5257 q ).trans ((o_5144 q ).trans (o_5137 q ))))) ls (lv_sub hl [1, 2, 3, 4, 5, 6, 7, 8, 9, 0] rfl)
  · skip
    refine lv_iconst (v := nI 2) hx hb dL_act_25 (by decide) ?_
    refine lv_iload_n hx hb dL_act_26 rfl (lv_at hl 4 rfl) ?_
    refine lv_iconst (v := nI 3) hx hb dL_act_27 (by decide) ?_
    refine lv_ishr hx hb dL_act_28 ?_
    refine lv_aload_n hx hb dL_act_29 rfl (lv_at hl 5 rfl) ?_
    refine lv_iconst (v := nI 0) hx hb dL_act_30 (by decide) ?_
    have f_5321 : F_5131 nu = nE G A.1.1 A.1.2.1 A.1.2.2.1 A.1.2.2.2.1 A.1.2.2.2.2.1 A.2.1.1 := (o_5137 nu ).trans fnu
    have f_5322 : F_5138 nu = nE G A.1.1 A.1.2.1 A.1.2.2.1 A.1.2.2.2.1 A.1.2.2.2.2.1 A.2.1.1 := (o_5144 nu ).trans f_5321
    refine q_iald C0 hw mnu f_5322 (0) (by omega) (by decide) (v := nI (A.1.1)) rfl dL_act_31 ?_
    refine lv_iconst (v := nI 1) hx hb dL_act_32 (by decide) ?_
    refine n_isub hx hb (by omega) dL_act_33 ?_
    refine q_calli hw (q_runS (As := [.int (y9 >>> (nI 3 &&& 31)), .int (nI (A.1.1 - 1))]) (c_L_at l G L F_5138 ((y9 >>> (nI 3 &&& 31))) (A.1.1 - 1) (by omega) (by omega)) C0 hw sw_L_75 rfl hl.1 rfl (Nat.le_of_ble_eq_true rfl) dL_act_34 ⟨by decide, by decide⟩ ⟨(by show 0 + 0 ≤ 115; omega), (by show 0 + 0 ≤ 805; omega)⟩) rfl rfl (fun r_5325 F_5323 H locs hw hp_5324 => ?_)
    obtain ⟨⟨za_5326, hz_5327, h_5328⟩, o_5329⟩ := hp_5324
    subst h_5328
    refine n_iadd hx hb dL_act_37 ?_
    refine lv_istore (lv' := [(8, .int (nI (2 + za_5326))), (7, .int (nI (za_5141))), (6, .int (nI (za_5134))), (0, .ref (ad 0)), (1, .int (x9)), (2, .int (y9)), (3, .ref nu), (4, .ref fi), (5, .ref fl)]) hx hb dL_act_38 hl (by decide) rfl (fun ls hl => ?_)
    refine lv_iload hx hb dL_act_40 (lv_at hl 2 rfl) ?_
    refine lv_iconst (v := nI 3) hx hb dL_act_42 (by decide) ?_
    refine n_icmp_ge (tgt := 51) hx hb dL_act_43 (by decide) (by omega) (by decide) (fun c_43 => ?_) (fun c_43 => ?_)
    · skip
      refine lv_aload hx hb dL_act_51 (lv_at hl 8 rfl) ?_
      refine lv_astore (lv' := [(9, .ref fl), (8, .int (nI (2 + za_5326))), (7, .int (nI (za_5141))), (6, .int (nI (za_5134))), (0, .ref (ad 0)), (1, .int (x9)), (2, .int (y9)), (3, .ref nu), (4, .ref fi), (5, .ref fl)]) hx hb dL_act_53 hl (by decide) rfl (fun ls hl => ?_)
      refine lv_aload hx hb dL_act_55 (lv_at hl 0 rfl) ?_
      refine lv_bipush (v := nI 7) hx hb dL_act_57 (by decide) ?_
      refine lv_iload hx hb dL_act_59 (lv_at hl 2 rfl) ?_
      refine n_imul hx hb dL_act_61 ?_
      refine lv_iload hx hb dL_act_62 (lv_at hl 1 rfl) ?_
      refine n_iadd hx hb dL_act_64 ?_
      have f_5330 : F_5131 fl = pcF G ((hiR A.1.2.2.2.2.2)) := (o_5137 fl ).trans ffl
      have f_5331 : F_5138 fl = pcF G ((hiR A.1.2.2.2.2.2)) := (o_5144 fl ).trans f_5330
      have f_5332 : F_5323 fl = pcF G ((hiR A.1.2.2.2.2.2)) := (o_5329 fl ).trans f_5331
      refine q_iald C0 hw mfl f_5332 (7 * za_5141 + (2 + za_5326)) (by omega) (by decide) (v := nI ((((hiR A.1.2.2.2.2.2)) za_5141 (2 + za_5326)).val)) (pc_at _ _ _ (by omega)) dL_act_65 ?_
      have z_5333 := (((hiR A.1.2.2.2.2.2)) za_5141 (2 + za_5326)).isLt
      refine lv_istore (lv' := [(10, .int (nI ((((hiR A.1.2.2.2.2.2)) za_5141 (2 + za_5326)).val))), (9, .ref fl), (8, .int (nI (2 + za_5326))), (7, .int (nI (za_5141))), (6, .int (nI (za_5134))), (0, .ref (ad 0)), (1, .int (x9)), (2, .int (y9)), (3, .ref nu), (4, .ref fi), (5, .ref fl)]) hx hb dL_act_66 hl (by decide) rfl (fun ls hl => ?_)
      refine lv_aload hx hb dL_act_68 (lv_at hl 1 rfl) ?_
      refine lv_bipush (v := nI 7) hx hb dL_act_70 (by decide) ?_
      refine lv_iload hx hb dL_act_72 (lv_at hl 3 rfl) ?_
      refine n_imul hx hb dL_act_74 ?_
      refine lv_iload hx hb dL_act_75 (lv_at hl 2 rfl) ?_
      refine n_iadd hx hb dL_act_77 ?_
      refine lv_iload_n hx hb dL_act_78 rfl (lv_at hl 7 rfl) ?_
      refine q_calli hw (q_runS (As := [.int (y9)]) (c_L_mod l G L F_5323 (y9)) C0 hw sw_L_8 rfl hl.1 rfl (Nat.le_of_ble_eq_true rfl) dL_act_79 ⟨by decide, by decide⟩ ⟨(by show 0 + 0 ≤ 115; omega), (by show 0 + 0 ≤ 805; omega)⟩) rfl rfl (fun r_5336 F_5334 H locs hw hp_5335 => ?_)
      obtain ⟨he_5337, o_5338⟩ := hp_5335
      subst he_5337
      have f_5339 : F_5334 fl = pcF G ((hiR A.1.2.2.2.2.2)) := (o_5338 fl ).trans f_5332
      refine q_pst42 C0 hw mfl f_5339 za_5141 (2 + za_5326) (by omega) (by omega) (z := zi y9) dL_act_82 (fun F_5340 H locs hw f_5341 o_5342 => ?_)
      refine lv_aload_n hx hb dL_act_83 rfl (lv_at hl 8 rfl) ?_
      refine lv_iconst (v := nI 5) hx hb dL_act_84 (by decide) ?_
      have f_5343 : F_5323 nu = nE G A.1.1 A.1.2.1 A.1.2.2.1 A.1.2.2.2.1 A.1.2.2.2.2.1 A.2.1.1 := (o_5329 nu ).trans f_5322
      have f_5344 : F_5334 nu = nE G A.1.1 A.1.2.1 A.1.2.2.1 A.1.2.2.2.1 A.1.2.2.2.2.1 A.2.1.1 := (o_5338 nu ).trans f_5343
      have f_5345 : F_5340 nu = nE G A.1.1 A.1.2.1 A.1.2.2.1 A.1.2.2.2.1 A.1.2.2.2.2.1 A.2.1.1 := (o_5342 nu (by omega)).trans f_5344
      refine q_iald C0 hw mnu f_5345 (5) (by omega) (by decide) (v := nI (A.2.1.1)) rfl dL_act_85 ?_
      refine lv_bipush (v := nI 6) hx hb dL_act_86 (by decide) ?_
      refine n_icmp_ge (tgt := 98) hx hb dL_act_88 (by decide) (by omega) (by decide) (fun c_88 => ?_) (fun c_88 => ?_)
      · skip
        refine lv_iload hx hb dL_act_98 (lv_at hl 4 rfl) ?_
        refine lv_iconst (v := nI 3) hx hb dL_act_100 (by decide) ?_
        refine n_icmp_ge (tgt := 116) hx hb dL_act_101 (by decide) (by omega) (by decide) (fun c_101 => ?_) (fun c_101 => ?_)
        · skip
          refine lv_aload_n hx hb dL_act_116 rfl (lv_at hl 5 rfl) ?_
          refine lv_iload hx hb dL_act_117 (lv_at hl 3 rfl) ?_
          refine lv_iload hx hb dL_act_119 (lv_at hl 2 rfl) ?_
          refine lv_iload_n hx hb dL_act_121 rfl (lv_at hl 7 rfl) ?_
          have hX_5346 : XW G F_5340 ad A := (hX.keep (fun i hi => ((o_5342 (ad i) (Ne.symm (hga i hi))).trans ((o_5338 (ad i) ).trans ((o_5329 (ad i) ).trans ((o_5144 (ad i) ).trans ((o_5137 (ad i) ).trans (had0 i hi))))))))
          refine q_calli hw (q_runV (As := [.int (nI (za_5141)), .int (nI (2 + za_5326)), .int (y9)]) (c_X5_setFlow l G L F_5340 ad hL hin A za_5141 (2 + za_5326) y9 (by omega) (by omega) (by omega) hX_5346 hA) C0 hw vw_L_96 (hL 0 (by decide)) hX_5346.1 rfl rfl rfl hl.1 rfl (Nat.le_of_ble_eq_true rfl) dL_act_122 ⟨by decide, by decide⟩ ⟨(by show 0 + 0 ≤ 115; omega), (by show 0 + 0 ≤ 805; omega)⟩) rfl rfl (fun r_5349 F_5347 H locs hw hp_5348 => ?_)
          obtain ⟨h_5350, h_5351, h_5352⟩ := hp_5348
          subst h_5350
          have f_5353 : F_5347 nu = nE G A.1.1 A.1.2.1 A.1.2.2.1 A.1.2.2.2.1 A.1.2.2.2.2.1 A.2.1.1 := (h_5352 nu (fun i hi => hna i hi)).trans f_5345
          have f_5354 : F_5131 fi = pcF G ((loR A.1.2.2.2.2.2)) := (o_5137 fi ).trans ffi
          have f_5355 : F_5138 fi = pcF G ((loR A.1.2.2.2.2.2)) := (o_5144 fi ).trans f_5354
          have f_5356 : F_5323 fi = pcF G ((loR A.1.2.2.2.2.2)) := (o_5329 fi ).trans f_5355
          have f_5357 : F_5334 fi = pcF G ((loR A.1.2.2.2.2.2)) := (o_5338 fi ).trans f_5356
          have f_5358 : F_5340 fi = pcF G ((loR A.1.2.2.2.2.2)) := (o_5342 fi (by omega)).trans f_5357
          have f_5359 : F_5347 fi = pcF G ((loR A.1.2.2.2.2.2)) := (h_5352 fi (fun i hi => hfa i hi)).trans f_5358
          have f_5360 : F_5347 fl = pcF G (va_up ((hiR A.1.2.2.2.2.2)) za_5141 (va_up (((hiR A.1.2.2.2.2.2)) za_5141) (2 + za_5326) (zi y9))) := (h_5352 fl (fun i hi => hga i hi)).trans f_5341
          have had_5361 : ∀ i, i < 166 → F_5347 (ad i) = F_5347 (ad i) := fun _ _ => rfl
          refine lv_iload hx hb dL_act_125 (lv_at hl 0 rfl) ?_
          refine n_icmp_ne (tgt := 134) hx hb dL_act_127 (by decide) (by omega) (by omega) (fun c_127 => ?_) (fun c_127 => ?_)
          · skip
            exact absurd (by rw [hiR_at _ (by omega)]) c_127
          · skip
            refine lv_iconst (v := nI 1) hx hb dL_act_130 (by decide) ?_
            refine lv_goto (tgt := 135) hx hb dL_act_131 (by decide) ?_
            exact r_iG C0 hg0 hr hlk hw (v := nI 1) rfl ⟨rfl, (aSave A (rowS (6 + za_5141) (va_up (A.1.2.2.2.2.2 (6 + za_5141)) (2 + za_5326) (zi y9)) A.1)), ⟨(h_5351.keep (fun i hi => (had_5361 i hi))), okA_save hA (okS_row hA.1 (fun h9 => absurd h9 (by omega))), okFl_up (A := A) (t := 6 + za_5141) rfl hFl (fun _ => ⟨(va_up_ne _ _ (by omega)).trans (hFl za_5141 (by omega)).1, (va_up_ne _ _ (by omega)).trans (hFl za_5141 (by omega)).2⟩), f_5353.trans (congrArg (fun z9 => nE G A.1.1 A.1.2.1 A.1.2.2.1 A.1.2.2.2.1 A.1.2.2.2.2.1 z9) (((hs_b (f := A.2.1.1) (by omega)).symm.trans (sv_1 A.2.1 A.1 hh6).symm))), f_5359.trans (congrArg (pcF G) (loR_k A.1.2.2.2.2.2 za_5141 _)), f_5360.trans (congrArg (pcF G) (st_hi A.1.2.2.2.2.2 (by omega) _ _))⟩, Nat.le_add_right _ _⟩ (show 0 ≤ 115 by omega) (show 0 ≤ 805 by omega) dL_act_135 hQ
        · skip
          exact absurd c_101 (by omega)
      · skip
        refine lv_aload_n hx hb dL_act_91 rfl (lv_at hl 8 rfl) ?_
        refine lv_iconst (v := nI 5) hx hb dL_act_92 (by decide) ?_
        refine lv_dup2_11 hx hb dL_act_93 rfl rfl ?_
        refine q_iald C0 hw mnu f_5345 (5) (by omega) (by decide) (v := nI (A.2.1.1)) rfl dL_act_94 ?_
        refine lv_iconst (v := nI 1) hx hb dL_act_95 (by decide) ?_
        refine n_iadd hx hb dL_act_96 ?_
        refine q_iast C0 hw mnu f_5345 5 (by decide) (by decide) dL_act_97 (fun F_5362 H locs hw f_5363 o_5364 => ?_)
        obtain ⟨F_5365, hw, f_5366, o_5367⟩ := hw.canonE f_5363 (nG_5 _ _ _ _ _ _ _)
        have o_5368 : ∀ q, q ≠ nu → F_5365 q = F_5340 q := fun q hq => (o_5367 q hq).trans (o_5364 q hq)
        refine lv_iload hx hb dL_act_98 (lv_at hl 4 rfl) ?_
        refine lv_iconst (v := nI 3) hx hb dL_act_100 (by decide) ?_
        refine n_icmp_ge (tgt := 116) hx hb dL_act_101 (by decide) (by omega) (by decide) (fun c_101 => ?_) (fun c_101 => ?_)
        · skip
          refine lv_aload_n hx hb dL_act_116 rfl (lv_at hl 5 rfl) ?_
          refine lv_iload hx hb dL_act_117 (lv_at hl 3 rfl) ?_
          refine lv_iload hx hb dL_act_119 (lv_at hl 2 rfl) ?_
          refine lv_iload_n hx hb dL_act_121 rfl (lv_at hl 7 rfl) ?_
          have hX_5369 : XW G F_5365 ad A := (hX.keep (fun i hi => ((o_5368 (ad i) (Ne.symm (hna i hi))).trans ((o_5342 (ad i) (Ne.symm (hga i hi))).trans ((o_5338 (ad i) ).trans ((o_5329 (ad i) ).trans ((o_5144 (ad i) ).trans ((o_5137 (ad i) ).trans (had0 i hi)))))))))
          refine q_calli hw (q_runV (As := [.int (nI (za_5141)), .int (nI (2 + za_5326)), .int (y9)]) (c_X5_setFlow l G L F_5365 ad hL hin A za_5141 (2 + za_5326) y9 (by omega) (by omega) (by omega) hX_5369 hA) C0 hw vw_L_96 (hL 0 (by decide)) hX_5369.1 rfl rfl rfl hl.1 rfl (Nat.le_of_ble_eq_true rfl) dL_act_122 ⟨by decide, by decide⟩ ⟨(by show 0 + 0 ≤ 115; omega), (by show 0 + 0 ≤ 805; omega)⟩) rfl rfl (fun r_5372 F_5370 H locs hw hp_5371 => ?_)
          obtain ⟨h_5373, h_5374, h_5375⟩ := hp_5371
          subst h_5373
          have f_5376 : F_5370 nu = nE G A.1.1 A.1.2.1 A.1.2.2.1 A.1.2.2.2.1 A.1.2.2.2.2.1 (A.2.1.1 + 1) := (h_5375 nu (fun i hi => hna i hi)).trans f_5366
          have f_5377 : F_5131 fi = pcF G ((loR A.1.2.2.2.2.2)) := (o_5137 fi ).trans ffi
          have f_5378 : F_5138 fi = pcF G ((loR A.1.2.2.2.2.2)) := (o_5144 fi ).trans f_5377
          have f_5379 : F_5323 fi = pcF G ((loR A.1.2.2.2.2.2)) := (o_5329 fi ).trans f_5378
          have f_5380 : F_5334 fi = pcF G ((loR A.1.2.2.2.2.2)) := (o_5338 fi ).trans f_5379
          have f_5381 : F_5340 fi = pcF G ((loR A.1.2.2.2.2.2)) := (o_5342 fi (by omega)).trans f_5380
          have f_5382 : F_5365 fi = pcF G ((loR A.1.2.2.2.2.2)) := (o_5368 fi (by omega)).trans f_5381
          have f_5383 : F_5370 fi = pcF G ((loR A.1.2.2.2.2.2)) := (h_5375 fi (fun i hi => hfa i hi)).trans f_5382
          have f_5384 : F_5365 fl = pcF G (va_up ((hiR A.1.2.2.2.2.2)) za_5141 (va_up (((hiR A.1.2.2.2.2.2)) za_5141) (2 + za_5326) (zi y9))) := (o_5368 fl (by omega)).trans f_5341
          have f_5385 : F_5370 fl = pcF G (va_up ((hiR A.1.2.2.2.2.2)) za_5141 (va_up (((hiR A.1.2.2.2.2.2)) za_5141) (2 + za_5326) (zi y9))) := (h_5375 fl (fun i hi => hga i hi)).trans f_5384
          have had_5386 : ∀ i, i < 166 → F_5370 (ad i) = F_5370 (ad i) := fun _ _ => rfl
          refine lv_iload hx hb dL_act_125 (lv_at hl 0 rfl) ?_
          refine n_icmp_ne (tgt := 134) hx hb dL_act_127 (by decide) (by omega) (by omega) (fun c_127 => ?_) (fun c_127 => ?_)
          · skip
            exact absurd (by rw [hiR_at _ (by omega)]) c_127
          · skip
            refine lv_iconst (v := nI 1) hx hb dL_act_130 (by decide) ?_
            refine lv_goto (tgt := 135) hx hb dL_act_131 (by decide) ?_
            exact r_iG C0 hg0 hr hlk hw (v := nI 1) rfl ⟨rfl, (aSave A (rowS (6 + za_5141) (va_up (A.1.2.2.2.2.2 (6 + za_5141)) (2 + za_5326) (zi y9)) A.1)), ⟨(h_5374.keep (fun i hi => (had_5386 i hi))), okA_save hA (okS_row hA.1 (fun h9 => absurd h9 (by omega))), okFl_up (A := A) (t := 6 + za_5141) rfl hFl (fun _ => ⟨(va_up_ne _ _ (by omega)).trans (hFl za_5141 (by omega)).1, (va_up_ne _ _ (by omega)).trans (hFl za_5141 (by omega)).2⟩), f_5376.trans (congrArg (fun z9 => nE G A.1.1 A.1.2.1 A.1.2.2.1 A.1.2.2.2.1 A.1.2.2.2.2.1 z9) (((hs_a (f := A.2.1.1) (by omega)).symm.trans (sv_1 A.2.1 A.1 hh6).symm))), f_5383.trans (congrArg (pcF G) (loR_k A.1.2.2.2.2.2 za_5141 _)), f_5385.trans (congrArg (pcF G) (st_hi A.1.2.2.2.2.2 (by omega) _ _))⟩, Nat.le_add_right _ _⟩ (show 0 ≤ 115 by omega) (show 0 ≤ 805 by omega) dL_act_135 hQ
        · skip
          exact absurd c_101 (by omega)
    · skip
      refine lv_aload hx hb dL_act_46 (lv_at hl 7 rfl) ?_
      refine lv_goto (tgt := 53) hx hb dL_act_48 (by decide) ?_
      refine lv_astore (lv' := [(9, .ref fi), (8, .int (nI (2 + za_5326))), (7, .int (nI (za_5141))), (6, .int (nI (za_5134))), (0, .ref (ad 0)), (1, .int (x9)), (2, .int (y9)), (3, .ref nu), (4, .ref fi), (5, .ref fl)]) hx hb dL_act_53 hl (by decide) rfl (fun ls hl => ?_)
      refine lv_aload hx hb dL_act_55 (lv_at hl 0 rfl) ?_
      refine lv_bipush (v := nI 7) hx hb dL_act_57 (by decide) ?_
      refine lv_iload hx hb dL_act_59 (lv_at hl 2 rfl) ?_
      refine n_imul hx hb dL_act_61 ?_
      refine lv_iload hx hb dL_act_62 (lv_at hl 1 rfl) ?_
      refine n_iadd hx hb dL_act_64 ?_
      have f_5387 : F_5131 fi = pcF G ((loR A.1.2.2.2.2.2)) := (o_5137 fi ).trans ffi
      have f_5388 : F_5138 fi = pcF G ((loR A.1.2.2.2.2.2)) := (o_5144 fi ).trans f_5387
      have f_5389 : F_5323 fi = pcF G ((loR A.1.2.2.2.2.2)) := (o_5329 fi ).trans f_5388
      refine q_iald C0 hw mfi f_5389 (7 * za_5141 + (2 + za_5326)) (by omega) (by decide) (v := nI ((((loR A.1.2.2.2.2.2)) za_5141 (2 + za_5326)).val)) (pc_at _ _ _ (by omega)) dL_act_65 ?_
      have z_5390 := (((loR A.1.2.2.2.2.2)) za_5141 (2 + za_5326)).isLt
      refine lv_istore (lv' := [(10, .int (nI ((((loR A.1.2.2.2.2.2)) za_5141 (2 + za_5326)).val))), (9, .ref fi), (8, .int (nI (2 + za_5326))), (7, .int (nI (za_5141))), (6, .int (nI (za_5134))), (0, .ref (ad 0)), (1, .int (x9)), (2, .int (y9)), (3, .ref nu), (4, .ref fi), (5, .ref fl)]) hx hb dL_act_66 hl (by decide) rfl (fun ls hl => ?_)
      refine lv_aload hx hb dL_act_68 (lv_at hl 1 rfl) ?_
      refine lv_bipush (v := nI 7) hx hb dL_act_70 (by decide) ?_
      refine lv_iload hx hb dL_act_72 (lv_at hl 3 rfl) ?_
      refine n_imul hx hb dL_act_74 ?_
      refine lv_iload hx hb dL_act_75 (lv_at hl 2 rfl) ?_
      refine n_iadd hx hb dL_act_77 ?_
      refine lv_iload_n hx hb dL_act_78 rfl (lv_at hl 7 rfl) ?_
      refine q_calli hw (q_runS (As := [.int (y9)]) (c_L_mod l G L F_5323 (y9)) C0 hw sw_L_8 rfl hl.1 rfl (Nat.le_of_ble_eq_true rfl) dL_act_79 ⟨by decide, by decide⟩ ⟨(by show 0 + 0 ≤ 115; omega), (by show 0 + 0 ≤ 805; omega)⟩) rfl rfl (fun r_5393 F_5391 H locs hw hp_5392 => ?_)
      obtain ⟨he_5394, o_5395⟩ := hp_5392
      subst he_5394
      have f_5396 : F_5391 fi = pcF G ((loR A.1.2.2.2.2.2)) := (o_5395 fi ).trans f_5389
      refine q_pst42 C0 hw mfi f_5396 za_5141 (2 + za_5326) (by omega) (by omega) (z := zi y9) dL_act_82 (fun F_5397 H locs hw f_5398 o_5399 => ?_)
      refine lv_aload_n hx hb dL_act_83 rfl (lv_at hl 8 rfl) ?_
      refine lv_iconst (v := nI 5) hx hb dL_act_84 (by decide) ?_
      have f_5400 : F_5323 nu = nE G A.1.1 A.1.2.1 A.1.2.2.1 A.1.2.2.2.1 A.1.2.2.2.2.1 A.2.1.1 := (o_5329 nu ).trans f_5322
      have f_5401 : F_5391 nu = nE G A.1.1 A.1.2.1 A.1.2.2.1 A.1.2.2.2.1 A.1.2.2.2.2.1 A.2.1.1 := (o_5395 nu ).trans f_5400
      have f_5402 : F_5397 nu = nE G A.1.1 A.1.2.1 A.1.2.2.1 A.1.2.2.2.1 A.1.2.2.2.2.1 A.2.1.1 := (o_5399 nu (by omega)).trans f_5401
      refine q_iald C0 hw mnu f_5402 (5) (by omega) (by decide) (v := nI (A.2.1.1)) rfl dL_act_85 ?_
      refine lv_bipush (v := nI 6) hx hb dL_act_86 (by decide) ?_
      refine n_icmp_ge (tgt := 98) hx hb dL_act_88 (by decide) (by omega) (by decide) (fun c_88 => ?_) (fun c_88 => ?_)
      · skip
        refine lv_iload hx hb dL_act_98 (lv_at hl 4 rfl) ?_
        refine lv_iconst (v := nI 3) hx hb dL_act_100 (by decide) ?_
        refine n_icmp_ge (tgt := 116) hx hb dL_act_101 (by decide) (by omega) (by decide) (fun c_101 => ?_) (fun c_101 => ?_)
        · skip
          exact absurd c_101 (by omega)
        · skip
          refine lv_aload_n hx hb dL_act_104 rfl (lv_at hl 5 rfl) ?_
          refine lv_iload hx hb dL_act_105 (lv_at hl 3 rfl) ?_
          refine lv_iload hx hb dL_act_107 (lv_at hl 2 rfl) ?_
          refine lv_iload_n hx hb dL_act_109 rfl (lv_at hl 7 rfl) ?_
          have hX_5403 : XW G F_5397 ad A := (hX.keep (fun i hi => ((o_5399 (ad i) (Ne.symm (hfa i hi))).trans ((o_5395 (ad i) ).trans ((o_5329 (ad i) ).trans ((o_5144 (ad i) ).trans ((o_5137 (ad i) ).trans (had0 i hi))))))))
          refine q_calli hw (q_runV (As := [.int (nI (za_5141)), .int (nI (2 + za_5326)), .int (y9)]) (c_X5_setField l G L F_5397 ad hL hin A za_5141 (2 + za_5326) y9 (by omega) (by omega) (by omega) hX_5403 hA) C0 hw vw_L_93 (hL 0 (by decide)) hX_5403.1 rfl rfl rfl hl.1 rfl (Nat.le_of_ble_eq_true rfl) dL_act_110 ⟨by decide, by decide⟩ ⟨(by show 0 + 0 ≤ 115; omega), (by show 0 + 0 ≤ 805; omega)⟩) rfl rfl (fun r_5406 F_5404 H locs hw hp_5405 => ?_)
          obtain ⟨h_5407, h_5408, h_5409⟩ := hp_5405
          subst h_5407
          have f_5410 : F_5404 nu = nE G A.1.1 A.1.2.1 A.1.2.2.1 A.1.2.2.2.1 A.1.2.2.2.2.1 A.2.1.1 := (h_5409 nu (fun i hi => hna i hi)).trans f_5402
          have f_5411 : F_5404 fi = pcF G (va_up ((loR A.1.2.2.2.2.2)) za_5141 (va_up (((loR A.1.2.2.2.2.2)) za_5141) (2 + za_5326) (zi y9))) := (h_5409 fi (fun i hi => hfa i hi)).trans f_5398
          have f_5412 : F_5131 fl = pcF G ((hiR A.1.2.2.2.2.2)) := (o_5137 fl ).trans ffl
          have f_5413 : F_5138 fl = pcF G ((hiR A.1.2.2.2.2.2)) := (o_5144 fl ).trans f_5412
          have f_5414 : F_5323 fl = pcF G ((hiR A.1.2.2.2.2.2)) := (o_5329 fl ).trans f_5413
          have f_5415 : F_5391 fl = pcF G ((hiR A.1.2.2.2.2.2)) := (o_5395 fl ).trans f_5414
          have f_5416 : F_5397 fl = pcF G ((hiR A.1.2.2.2.2.2)) := (o_5399 fl (by omega)).trans f_5415
          have f_5417 : F_5404 fl = pcF G ((hiR A.1.2.2.2.2.2)) := (h_5409 fl (fun i hi => hga i hi)).trans f_5416
          have had_5418 : ∀ i, i < 166 → F_5404 (ad i) = F_5404 (ad i) := fun _ _ => rfl
          refine lv_goto (tgt := 125) hx hb dL_act_113 (by decide) ?_
          refine lv_iload hx hb dL_act_125 (lv_at hl 0 rfl) ?_
          refine n_icmp_ne (tgt := 134) hx hb dL_act_127 (by decide) (by omega) (by omega) (fun c_127 => ?_) (fun c_127 => ?_)
          · skip
            exact absurd (by rw [loR_at _ (by omega)]) c_127
          · skip
            refine lv_iconst (v := nI 1) hx hb dL_act_130 (by decide) ?_
            refine lv_goto (tgt := 135) hx hb dL_act_131 (by decide) ?_
            exact r_iG C0 hg0 hr hlk hw (v := nI 1) rfl ⟨rfl, (aSave A (rowS za_5141 (va_up (A.1.2.2.2.2.2 za_5141) (2 + za_5326) (zi y9)) A.1)), ⟨(h_5408.keep (fun i hi => (had_5418 i hi))), okA_save hA (okS_row hA.1 (fun _ => ⟨(va_up_ne _ _ (by omega)).trans (hok za_5141 (by omega)).1, (va_up_ne _ _ (by omega)).trans (hok za_5141 (by omega)).2⟩)), okFl_up (A := A) (t := za_5141) rfl hFl (fun h9 => absurd h9 (by omega)), f_5410.trans (congrArg (fun z9 => nE G A.1.1 A.1.2.1 A.1.2.2.1 A.1.2.2.2.1 A.1.2.2.2.2.1 z9) (((hs_b (f := A.2.1.1) (by omega)).symm.trans (sv_1 A.2.1 A.1 hh6).symm))), f_5411.trans (congrArg (pcF G) (st_lo A.1.2.2.2.2.2 (by omega) _ _)), f_5417.trans (congrArg (pcF G) (hiR_k (t := za_5141) A.1.2.2.2.2.2 (by omega) _))⟩, Nat.le_add_right _ _⟩ (show 0 ≤ 115 by omega) (show 0 ≤ 805 by omega) dL_act_135 hQ
      · skip
        refine lv_aload_n hx hb dL_act_91 rfl (lv_at hl 8 rfl) ?_
        refine lv_iconst (v := nI 5) hx hb dL_act_92 (by decide) ?_
        refine lv_dup2_11 hx hb dL_act_93 rfl rfl ?_
        refine q_iald C0 hw mnu f_5402 (5) (by omega) (by decide) (v := nI (A.2.1.1)) rfl dL_act_94 ?_
        refine lv_iconst (v := nI 1) hx hb dL_act_95 (by decide) ?_
        refine n_iadd hx hb dL_act_96 ?_
        refine q_iast C0 hw mnu f_5402 5 (by decide) (by decide) dL_act_97 (fun F_5419 H locs hw f_5420 o_5421 => ?_)
        obtain ⟨F_5422, hw, f_5423, o_5424⟩ := hw.canonE f_5420 (nG_5 _ _ _ _ _ _ _)
        have o_5425 : ∀ q, q ≠ nu → F_5422 q = F_5397 q := fun q hq => (o_5424 q hq).trans (o_5421 q hq)
        refine lv_iload hx hb dL_act_98 (lv_at hl 4 rfl) ?_
        refine lv_iconst (v := nI 3) hx hb dL_act_100 (by decide) ?_
        refine n_icmp_ge (tgt := 116) hx hb dL_act_101 (by decide) (by omega) (by decide) (fun c_101 => ?_) (fun c_101 => ?_)
        · skip
          exact absurd c_101 (by omega)
        · skip
          refine lv_aload_n hx hb dL_act_104 rfl (lv_at hl 5 rfl) ?_
          refine lv_iload hx hb dL_act_105 (lv_at hl 3 rfl) ?_
          refine lv_iload hx hb dL_act_107 (lv_at hl 2 rfl) ?_
          refine lv_iload_n hx hb dL_act_109 rfl (lv_at hl 7 rfl) ?_
          have hX_5426 : XW G F_5422 ad A := (hX.keep (fun i hi => ((o_5425 (ad i) (Ne.symm (hna i hi))).trans ((o_5399 (ad i) (Ne.symm (hfa i hi))).trans ((o_5395 (ad i) ).trans ((o_5329 (ad i) ).trans ((o_5144 (ad i) ).trans ((o_5137 (ad i) ).trans (had0 i hi)))))))))
          refine q_calli hw (q_runV (As := [.int (nI (za_5141)), .int (nI (2 + za_5326)), .int (y9)]) (c_X5_setField l G L F_5422 ad hL hin A za_5141 (2 + za_5326) y9 (by omega) (by omega) (by omega) hX_5426 hA) C0 hw vw_L_93 (hL 0 (by decide)) hX_5426.1 rfl rfl rfl hl.1 rfl (Nat.le_of_ble_eq_true rfl) dL_act_110 ⟨by decide, by decide⟩ ⟨(by show 0 + 0 ≤ 115; omega), (by show 0 + 0 ≤ 805; omega)⟩) rfl rfl (fun r_5429 F_5427 H locs hw hp_5428 => ?_)
          obtain ⟨h_5430, h_5431, h_5432⟩ := hp_5428
          subst h_5430
          have f_5433 : F_5427 nu = nE G A.1.1 A.1.2.1 A.1.2.2.1 A.1.2.2.2.1 A.1.2.2.2.2.1 (A.2.1.1 + 1) := (h_5432 nu (fun i hi => hna i hi)).trans f_5423
          have f_5434 : F_5422 fi = pcF G (va_up ((loR A.1.2.2.2.2.2)) za_5141 (va_up (((loR A.1.2.2.2.2.2)) za_5141) (2 + za_5326) (zi y9))) := (o_5425 fi (by omega)).trans f_5398
          have f_5435 : F_5427 fi = pcF G (va_up ((loR A.1.2.2.2.2.2)) za_5141 (va_up (((loR A.1.2.2.2.2.2)) za_5141) (2 + za_5326) (zi y9))) := (h_5432 fi (fun i hi => hfa i hi)).trans f_5434
          have f_5436 : F_5131 fl = pcF G ((hiR A.1.2.2.2.2.2)) := (o_5137 fl ).trans ffl
          have f_5437 : F_5138 fl = pcF G ((hiR A.1.2.2.2.2.2)) := (o_5144 fl ).trans f_5436
          have f_5438 : F_5323 fl = pcF G ((hiR A.1.2.2.2.2.2)) := (o_5329 fl ).trans f_5437
          have f_5439 : F_5391 fl = pcF G ((hiR A.1.2.2.2.2.2)) := (o_5395 fl ).trans f_5438
          have f_5440 : F_5397 fl = pcF G ((hiR A.1.2.2.2.2.2)) := (o_5399 fl (by omega)).trans f_5439
          have f_5441 : F_5422 fl = pcF G ((hiR A.1.2.2.2.2.2)) := (o_5425 fl (by omega)).trans f_5440
          have f_5442 : F_5427 fl = pcF G ((hiR A.1.2.2.2.2.2)) := (h_5432 fl (fun i hi => hga i hi)).trans f_5441
          have had_5443 : ∀ i, i < 166 → F_5427 (ad i) = F_5427 (ad i) := fun _ _ => rfl
          refine lv_goto (tgt := 125) hx hb dL_act_113 (by decide) ?_
          refine lv_iload hx hb dL_act_125 (lv_at hl 0 rfl) ?_
          refine n_icmp_ne (tgt := 134) hx hb dL_act_127 (by decide) (by omega) (by omega) (fun c_127 => ?_) (fun c_127 => ?_)
          · skip
            exact absurd (by rw [loR_at _ (by omega)]) c_127
          · skip
            refine lv_iconst (v := nI 1) hx hb dL_act_130 (by decide) ?_
            refine lv_goto (tgt := 135) hx hb dL_act_131 (by decide) ?_
            exact r_iG C0 hg0 hr hlk hw (v := nI 1) rfl ⟨rfl, (aSave A (rowS za_5141 (va_up (A.1.2.2.2.2.2 za_5141) (2 + za_5326) (zi y9)) A.1)), ⟨(h_5431.keep (fun i hi => (had_5443 i hi))), okA_save hA (okS_row hA.1 (fun _ => ⟨(va_up_ne _ _ (by omega)).trans (hok za_5141 (by omega)).1, (va_up_ne _ _ (by omega)).trans (hok za_5141 (by omega)).2⟩)), okFl_up (A := A) (t := za_5141) rfl hFl (fun h9 => absurd h9 (by omega)), f_5433.trans (congrArg (fun z9 => nE G A.1.1 A.1.2.1 A.1.2.2.1 A.1.2.2.2.1 A.1.2.2.2.2.1 z9) (((hs_a (f := A.2.1.1) (by omega)).symm.trans (sv_1 A.2.1 A.1 hh6).symm))), f_5435.trans (congrArg (pcF G) (st_lo A.1.2.2.2.2.2 (by omega) _ _)), f_5442.trans (congrArg (pcF G) (hiR_k (t := za_5141) A.1.2.2.2.2.2 (by omega) _))⟩, Nat.le_add_right _ _⟩ (show 0 ≤ 115 by omega) (show 0 ≤ 805 by omega) dL_act_135 hQ
