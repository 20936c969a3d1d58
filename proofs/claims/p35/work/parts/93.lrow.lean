theorem br_m1 (u v : Nat → ZP) (cu : Nat) : m_am (m_mulT u (m_der v) cu) (m_mulT v (m_der u) cu) (zi (-1)) = m_brM u v cu := by
  rw [zi_m1]
  rfl
abbrev rm_L_get : Room := { frames := 0, cells := 1, slots := 7, locals := 0 }
set_option maxHeartbeats 4000000 in
set_option maxRecDepth 100000 in
theorem c_L_get (l : Launch) (G : Gl) (L : List Nat) (F : Nat → va_E) (a slot : Nat) (X : Nat → Nat → ZP) (ma : a ∈ L) (fa : F a = pcF G X) (hs6 : slot < 6) : CR l yL_get cL_get 4 rm_L_get G L F [.ref a, .int (nI (slot))] (X slot) := by
  refine CG_of (by decide) (Nat.le_of_ble_eq_true rfl) rfl ?_
  intro p e s m args below meth c Q C0 hr hlk hnm hQ hw ls hl
  have hx := C0.x
  have hb := C0.b
  have hg0 := gr.rfl (L := L) s.heap.size
  have hLs : ∀ q ∈ L, q < s.heap.size := fun q hq => hw.lt hq
  have hfr0 : ∀ q ∈ L, F q = F q := fun _ _ => rfl
  have hlt_a := hLs a ma
  refine lv_bipush (v := nI 7) hx hb dL_get_0 (by decide) ?_
  refine k_row7 C0 hw (by show 0 + 1 ≤ 1; omega) (by show 0 + 7 ≤ 7; omega) dL_get_2 (fun L_4216 F_4217 a_4218 H g_4219 hw1 => ?_)
  have hge_a_4218 : s.heap.size ≤ a_4218 := Nat.le_trans hw.2.2.1 g_4219.2.2.2.2
  have f_4220 : F_4217 a = pcF G X := (g_4219.2.2.1 a ma).1.trans fa
  have lt_4222 := (g_4219.2.2.1 a ma).2
  have m_4221 : a ∈ L_4216 := g_4219.1.1 a ma
  have hfr_4223 : ∀ q ∈ L, F_4217 q = F q := fun q hq => (g_4219.2.2.1 q (hg0.1 q hq)).1.trans (hfr0 q hq)
  have hg_4224 := hg0.step g_4219.1 hw.2.2.1
  have C0 := C0.grow g_4219.1 hw.2.2.1
  have hw := hw1
  have m_4225 : a_4218 ∈ L_4216 := g_4219.2.2.2.1
  have f_4226 : F_4217 a_4218 = rw7 G ((fun _ => 0)) := g_4219.2.1
  refine lv_astore_n (lv' := [(2, .ref a_4218), (0, .ref a), (1, .int (nI (slot)))]) hx hb dL_get_4 rfl hl (by decide) rfl (fun ls hl => ?_)
  refine lv_iconst (v := nI 0) hx hb dL_get_5 (by decide) ?_
  refine lv_istore_n (lv' := [(3, .int (nI (0))), (2, .ref a_4218), (0, .ref a), (1, .int (nI (slot)))]) hx hb dL_get_6 rfl hl (by decide) rfl (fun ls hl => ?_)
  have lp7_n_4227 : ∀ (n : Nat) (k : Nat), 0 ≤ k → k ≤ 7 → 7 + 1 - k < n → ∀ (L_4228 : List Nat) (F_4229 : Nat → va_E) (H : Heap) (locs : List Loc), Cx p s m args c cL_get 4 (yL_get).cls G L_4228 → gr L L_4228 s.heap.size → wD G L_4228 F_4229 s H locs → (∀ q ∈ L, F_4229 q = F q) → (a_4218 ∈ L_4228 ∧ s.heap.size ≤ a_4218 ∧ F_4229 a_4218 = rw7 G (m_upto (X slot) (fun _ => 0) k)) → ∀ ls : Array Slot, lv_has ls 4 [(0, .ref a), (1, .int (nI (slot))), (2, .ref a_4218), (3, .int (nI (k)))] → W p l e rm_L_get s m args below meth c H locs (1) (7) Q (F0 m 7 ls []) := by
    intro n
    induction n with
    | zero => intro k hlo hhi hm; exact absurd hm (Nat.not_lt_zero _)
    | succ n ih_7_n_4233 =>
      intro k hlo hhi hm L_4228 F_4229 H locs C0 hg_4232 hw hfr_4231 f_4230 ls hl
      have f_4234 : F_4229 a = pcF G X := (hfr_4231 a ma).trans fa
      have m_4235 : a ∈ L_4228 := hg_4232.1 a ma
      obtain ⟨m_4236, hge_4237, f_4238⟩ := f_4230
      refine lv_iload_n hx hb dL_get_7 rfl (lv_at hl 3 rfl) ?_
      refine lv_bipush (v := nI 7) hx hb dL_get_8 (by decide) ?_
      refine n_icmp_ge (tgt := 30) hx hb dL_get_10 (by decide) (by omega) (by decide) (fun c_10 => ?_) (fun c_10 => ?_)
      · skip
        obtain rfl : k = 7 := by omega
        obtain ⟨F_4239, hw, f_4240, o_4241⟩ := hw.rowE f_4238 (v := X slot) (m_upto_7 (X slot) (fun _ => 0))
        refine lv_aload_n hx hb dL_get_30 rfl (lv_at hl 2 rfl) ?_
        have hfr_4242 : ∀ q ∈ L, F_4239 q = F q := fun q hq => (o_4241 q (by have := hLs q hq; omega)).trans (hfr_4231 q hq)
        exact r_r C0 hg_4232 hr hlk hw m_4236 hge_4237 hLs f_4240 hfr_4242 (show 1 ≤ 1 by omega) (show 7 ≤ 7 by omega) dL_get_31 hQ
      · skip
        refine lv_aload_n hx hb dL_get_13 rfl (lv_at hl 2 rfl) ?_
        refine lv_iload_n hx hb dL_get_14 rfl (lv_at hl 3 rfl) ?_
        refine lv_aload_n hx hb dL_get_15 rfl (lv_at hl 0 rfl) ?_
        refine lv_bipush (v := nI 7) hx hb dL_get_16 (by decide) ?_
        refine lv_iload_n hx hb dL_get_18 rfl (lv_at hl 1 rfl) ?_
        refine n_imul hx hb dL_get_19 ?_
        refine lv_iload_n hx hb dL_get_20 rfl (lv_at hl 3 rfl) ?_
        refine n_iadd hx hb dL_get_21 ?_
        refine q_iald C0 hw m_4235 f_4234 (7 * slot + k) (by omega) (by decide) (v := nI ((X slot k).val)) (pc_at _ _ _ (by omega)) dL_get_22 ?_
        have z_4243 := (X slot k).isLt
        refine q_rst C0 hw m_4236 f_4238 (k) (by omega) (z := X slot k) dL_get_23 (fun F_4244 H locs hw f_4245 o_4246 => ?_)
        refine lv_iinc (v := nI (k + 1)) (lv' := [(3, .int (nI (k + 1))), (0, .ref a), (1, .int (nI (slot))), (2, .ref a_4218)]) hx hb dL_get_24 hl (k := 3) rfl (nI_add _ _) (by decide) rfl (fun ls hl => ?_)
        refine lv_goto (tgt := 7) hx hb dL_get_27 (by decide) ?_
        have hfr_4247 : ∀ q ∈ L, F_4244 q = F q := fun q hq => (o_4246 q (by have := hLs q hq; omega)).trans (hfr_4231 q hq)
        exact ih_7_n_4233 (k + 1) ((by omega)) ((by omega)) (by omega) _ _ _ _ C0 hg_4232 hw hfr_4247 ⟨m_4236, hge_4237, f_4245.trans (congrArg (rw7 G) (m_upto_s _ _ k rfl))⟩ ls (lv_sub hl [1, 2, 3, 0] rfl)
  exact lp7_n_4227 _ (0) ((by omega)) ((by omega)) (Nat.lt_succ_self _) _ _ _ _ C0 hg_4224 hw hfr_4223 ⟨m_4225, hge_a_4218, f_4226.trans (congrArg (rw7 G) (m_upto_0 _ _).symm)⟩ ls (lv_sub hl [2, 3, 1, 0] rfl)
abbrev rm_L_times : Room := { frames := 1, cells := 1, slots := 7, locals := 20 }
set_option maxHeartbeats 4000000 in
set_option maxRecDepth 100000 in
theorem c_L_times (l : Launch) (G : Gl) (L : List Nat) (F : Nat → va_E) (cu a b : Nat) (u v : Nat → ZP) (ma : a ∈ L) (fa : F a = rw7 G u) (mb : b ∈ L) (fb : F b = rw7 G v) (hc : cu ≤ 6) : CR l yL_times cL_times 6 rm_L_times G L F [.int (nI (cu)), .ref a, .ref b] (m_mulT u v cu) := by
  refine CG_of (by decide) (Nat.le_of_ble_eq_true rfl) rfl ?_
  intro p e s m args below meth c Q C0 hr hlk hnm hQ hw ls hl
  have hx := C0.x
  have hb := C0.b
  have hg0 := gr.rfl (L := L) s.heap.size
  have hLs : ∀ q ∈ L, q < s.heap.size := fun q hq => hw.lt hq
  have hfr0 : ∀ q ∈ L, F q = F q := fun _ _ => rfl
  have hlt_a := hLs a ma
  have hlt_b := hLs b mb
  refine lv_bipush (v := nI 7) hx hb dL_times_0 (by decide) ?_
  refine k_row7 C0 hw (by show 0 + 1 ≤ 1; omega) (by show 0 + 7 ≤ 7; omega) dL_times_2 (fun L_4248 F_4249 a_4250 H g_4251 hw1 => ?_)
  have hge_a_4250 : s.heap.size ≤ a_4250 := Nat.le_trans hw.2.2.1 g_4251.2.2.2.2
  have f_4252 : F_4249 a = rw7 G u := (g_4251.2.2.1 a ma).1.trans fa
  have lt_4254 := (g_4251.2.2.1 a ma).2
  have m_4253 : a ∈ L_4248 := g_4251.1.1 a ma
  have f_4255 : F_4249 b = rw7 G v := (g_4251.2.2.1 b mb).1.trans fb
  have lt_4257 := (g_4251.2.2.1 b mb).2
  have m_4256 : b ∈ L_4248 := g_4251.1.1 b mb
  have hfr_4258 : ∀ q ∈ L, F_4249 q = F q := fun q hq => (g_4251.2.2.1 q (hg0.1 q hq)).1.trans (hfr0 q hq)
  have hg_4259 := hg0.step g_4251.1 hw.2.2.1
  have C0 := C0.grow g_4251.1 hw.2.2.1
  have hw := hw1
  have m_4260 : a_4250 ∈ L_4248 := g_4251.2.2.2.1
  have f_4261 : F_4249 a_4250 = rw7 G ((fun _ => 0)) := g_4251.2.1
  refine lv_astore_n (lv' := [(3, .ref a_4250), (0, .int (nI (cu))), (1, .ref a), (2, .ref b)]) hx hb dL_times_4 rfl hl (by decide) rfl (fun ls hl => ?_)
  refine lv_iconst (v := nI 0) hx hb dL_times_5 (by decide) ?_
  refine lv_istore (lv' := [(4, .int (nI (0))), (3, .ref a_4250), (0, .int (nI (cu))), (1, .ref a), (2, .ref b)]) hx hb dL_times_6 hl (by decide) rfl (fun ls hl => ?_)
  have lp8_n_4262 : ∀ (n : Nat) (k : Nat), 0 ≤ k → k ≤ cu + 1 → (cu + 1) + 1 - k < n → ∀ (L_4263 : List Nat) (F_4264 : Nat → va_E) (H : Heap) (locs : List Loc), Cx p s m args c cL_times 6 (yL_times).cls G L_4263 → gr L L_4263 s.heap.size → wD G L_4263 F_4264 s H locs → (∀ q ∈ L, F_4264 q = F q) → (a_4250 ∈ L_4263 ∧ s.heap.size ≤ a_4250 ∧ F_4264 a_4250 = rw7 G (m_upto (m_mulc u v) (fun _ => 0) k)) → ∀ ls : Array Slot, lv_has ls 6 [(0, .int (nI (cu))), (1, .ref a), (2, .ref b), (3, .ref a_4250), (4, .int (nI (k)))] → W p l e rm_L_times s m args below meth c H locs (1) (7) Q (F0 m 8 ls []) := by
    intro n
    induction n with
    | zero => intro k hlo hhi hm; exact absurd hm (Nat.not_lt_zero _)
    | succ n ih_8_n_4268 =>
      intro k hlo hhi hm L_4263 F_4264 H locs C0 hg_4267 hw hfr_4266 f_4265 ls hl
      have f_4269 : F_4264 a = rw7 G u := (hfr_4266 a ma).trans fa
      have m_4270 : a ∈ L_4263 := hg_4267.1 a ma
      have f_4271 : F_4264 b = rw7 G v := (hfr_4266 b mb).trans fb
      have m_4272 : b ∈ L_4263 := hg_4267.1 b mb
      obtain ⟨m_4273, hge_4274, f_4275⟩ := f_4265
      refine lv_iload hx hb dL_times_8 (lv_at hl 4 rfl) ?_
      refine lv_iload_n hx hb dL_times_10 rfl (lv_at hl 0 rfl) ?_
      refine n_icmp_gt (tgt := 60) hx hb dL_times_11 (by decide) (by omega) (by omega) (fun c_11 => ?_) (fun c_11 => ?_)
      · skip
        obtain rfl : k = cu + 1 := by omega
        have f_4276 : F_4264 a_4250 = rw7 G (m_mulT u v cu) := f_4275.trans (congrArg (rw7 G) (tm_e u v cu))
        refine lv_aload_n hx hb dL_times_60 rfl (lv_at hl 3 rfl) ?_
        exact r_r C0 hg_4267 hr hlk hw m_4273 hge_4274 hLs f_4276 hfr_4266 (show 1 ≤ 1 by omega) (show 7 ≤ 7 by omega) dL_times_61 hQ
      · skip
        refine lv_iconst (v := nI 0) hx hb dL_times_14 (by decide) ?_
        refine lv_istore (lv' := [(5, .int (nI (0))), (0, .int (nI (cu))), (1, .ref a), (2, .ref b), (3, .ref a_4250), (4, .int (nI (k)))]) hx hb dL_times_15 hl (by decide) rfl (fun ls hl => ?_)
        have lp17_n_4277 : ∀ (n : Nat) (i : Nat), 0 ≤ i → i ≤ k + 1 → (k + 1) + 1 - i < n → ∀ (L_4278 : List Nat) (F_4279 : Nat → va_E) (H : Heap) (locs : List Loc), Cx p s m args c cL_times 6 (yL_times).cls G L_4278 → gr L L_4278 s.heap.size → wD G L_4278 F_4279 s H locs → (∀ q ∈ L, F_4279 q = F q) → (a_4250 ∈ L_4278 ∧ s.heap.size ≤ a_4250 ∧ F_4279 a_4250 = rw7 G (va_up (m_upto (m_mulc u v) (fun _ => 0) k) k (m_mulS u v k i))) → ∀ ls : Array Slot, lv_has ls 6 [(0, .int (nI (cu))), (1, .ref a), (2, .ref b), (3, .ref a_4250), (4, .int (nI (k))), (5, .int (nI (i)))] → W p l e rm_L_times s m args below meth c H locs (1) (7) Q (F0 m 17 ls []) := by
          intro n
          induction n with
          | zero => intro i hlo hhi hm; exact absurd hm (Nat.not_lt_zero _)
          | succ n ih_17_n_4283 =>
            intro i hlo hhi hm L_4278 F_4279 H locs C0 hg_4282 hw hfr_4281 f_4280 ls hl
            have f_4284 : F_4279 a = rw7 G u := (hfr_4281 a ma).trans fa
            have m_4285 : a ∈ L_4278 := hg_4282.1 a ma
            have f_4286 : F_4279 b = rw7 G v := (hfr_4281 b mb).trans fb
            have m_4287 : b ∈ L_4278 := hg_4282.1 b mb
            obtain ⟨m_4288, hge_4289, f_4290⟩ := f_4280
            refine lv_iload hx hb dL_times_17 (lv_at hl 5 rfl) ?_
            refine lv_iload hx hb dL_times_19 (lv_at hl 4 rfl) ?_
            refine n_icmp_gt (tgt := 54) hx hb dL_times_21 (by decide) (by omega) (by omega) (fun c_21 => ?_) (fun c_21 => ?_)
            · skip
              obtain rfl : i = k + 1 := by omega
              have f_4291 : F_4279 a_4250 = rw7 G (m_upto (m_mulc u v) (fun _ => 0) (k + 1)) := f_4290.trans (congrArg (rw7 G) (m_upto_s _ _ k rfl))
              refine lv_iinc (v := nI (k + 1)) (lv' := [(4, .int (nI (k + 1))), (0, .int (nI (cu))), (1, .ref a), (2, .ref b), (3, .ref a_4250), (5, .int (nI ((k + 1))))]) hx hb dL_times_54 hl (k := 4) rfl (nI_add _ _) (by decide) rfl (fun ls hl => ?_)
              refine lv_goto (tgt := 8) hx hb dL_times_57 (by decide) ?_
              exact ih_8_n_4268 (k + 1) ((by omega)) ((by omega)) (by omega) _ _ _ _ C0 hg_4282 hw hfr_4281 ⟨m_4288, hge_4289, f_4291⟩ ls (lv_sub hl [1, 2, 3, 4, 0] rfl)
            · skip
              refine lv_aload_n hx hb dL_times_24 rfl (lv_at hl 3 rfl) ?_
              refine lv_iload hx hb dL_times_25 (lv_at hl 4 rfl) ?_
              refine lv_aload_n hx hb dL_times_27 rfl (lv_at hl 3 rfl) ?_
              refine lv_iload hx hb dL_times_28 (lv_at hl 4 rfl) ?_
              refine q_rld C0 hw m_4288 f_4290 (k) (by omega) dL_times_30 (fun z_4292 => ?_)
              refine lv_aload_n hx hb dL_times_31 rfl (lv_at hl 1 rfl) ?_
              refine lv_iload hx hb dL_times_32 (lv_at hl 5 rfl) ?_
              refine q_rld C0 hw m_4285 f_4284 (i) (by omega) dL_times_34 (fun z_4293 => ?_)
              refine lv_aload_n hx hb dL_times_35 rfl (lv_at hl 2 rfl) ?_
              refine lv_iload hx hb dL_times_36 (lv_at hl 4 rfl) ?_
              refine lv_iload hx hb dL_times_38 (lv_at hl 5 rfl) ?_
              refine n_isub hx hb (by omega) dL_times_40 ?_
              refine q_rld C0 hw m_4287 f_4286 (k - i) (by omega) dL_times_41 (fun z_4294 => ?_)
              refine n_imul hx hb dL_times_42 ?_
              have m_4295 := mul2_le (a := (u (i)).val) (b := (v (k - i)).val) (by omega) (by omega)
              refine n_iadd hx hb dL_times_43 ?_
              refine q_calli hw (q_runS (As := [.int (nI (((va_up (m_upto (m_mulc u v) (fun _ => 0) k) k (m_mulS u v k i)) (k)).val + (((u (i)).val) * ((v (k - i)).val))))]) (c_L_mod l G L_4278 F_4279 (nI (((va_up (m_upto (m_mulc u v) (fun _ => 0) k) k (m_mulS u v k i)) (k)).val + (((u (i)).val) * ((v (k - i)).val))))) C0 hw sw_L_8 rfl hl.1 rfl (Nat.le_of_ble_eq_true rfl) dL_times_44 ⟨by decide, by decide⟩ ⟨(by show 1 + 0 ≤ 1; omega), (by show 7 + 0 ≤ 7; omega)⟩) rfl rfl (fun r_4298 F_4296 H locs hw hp_4297 => ?_)
              obtain ⟨he_4299, o_4300⟩ := hp_4297
              rw [zi_nI (by omega)] at he_4299
              subst he_4299
              have f_4301 : F_4296 a_4250 = rw7 G (va_up (m_upto (m_mulc u v) (fun _ => 0) k) k (m_mulS u v k i)) := (o_4300 a_4250 ).trans f_4290
              refine q_rst C0 hw m_4288 f_4301 (k) (by omega) (z := zc (((va_up (m_upto (m_mulc u v) (fun _ => 0) k) k (m_mulS u v k i)) (k)).val + (((u (i)).val) * ((v (k - i)).val)))) dL_times_47 (fun F_4302 H locs hw f_4303 o_4304 => ?_)
              refine lv_iinc (v := nI (i + 1)) (lv' := [(5, .int (nI (i + 1))), (0, .int (nI (cu))), (1, .ref a), (2, .ref b), (3, .ref a_4250), (4, .int (nI (k)))]) hx hb dL_times_48 hl (k := 5) rfl (nI_add _ _) (by decide) rfl (fun ls hl => ?_)
              refine lv_goto (tgt := 17) hx hb dL_times_51 (by decide) ?_
              have hfr_4305 : ∀ q ∈ L, F_4296 q = F q := fun q hq => (o_4300 q ).trans (hfr_4281 q hq)
              have hfr_4306 : ∀ q ∈ L, F_4302 q = F q := fun q hq => (o_4304 q (by have := hLs q hq; omega)).trans (hfr_4305 q hq)
              exact ih_17_n_4283 (i + 1) ((by omega)) ((by omega)) (by omega) _ _ _ _ C0 hg_4282 hw hfr_4306 ⟨m_4288, hge_4289, f_4303.trans (congrArg (rw7 G) (tm_s u v _ k i))⟩ ls (lv_sub hl [1, 2, 3, 4, 5, 0] rfl)
        exact lp17_n_4277 _ (0) ((by omega)) ((by omega)) (Nat.lt_succ_self _) _ _ _ _ C0 hg_4267 hw hfr_4266 ⟨m_4273, hge_4274, f_4275.trans (congrArg (rw7 G) (tm_0 u v (m_mulc u v) k))⟩ ls (lv_sub hl [1, 2, 3, 4, 5, 0] rfl)
  exact lp8_n_4262 _ (0) ((by omega)) ((by omega)) (Nat.lt_succ_self _) _ _ _ _ C0 hg_4259 hw hfr_4258 ⟨m_4260, hge_a_4250, f_4261.trans (congrArg (rw7 G) (m_upto_0 _ _).symm)⟩ ls (lv_sub hl [2, 3, 4, 1, 0] rfl)
abbrev rm_L_slope : Room := { frames := 1, cells := 1, slots := 7, locals := 20 }
set_option maxHeartbeats 4000000 in
set_option maxRecDepth 100000 in
theorem c_L_slope (l : Launch) (G : Gl) (L : List Nat) (F : Nat → va_E) (a : Nat) (u : Nat → ZP) (ma : a ∈ L) (fa : F a = rw7 G u) : CR l yL_slope cL_slope 3 rm_L_slope G L F [.ref a] (m_der u) := by
  refine CG_of (by decide) (Nat.le_of_ble_eq_true rfl) rfl ?_
  intro p e s m args below meth c Q C0 hr hlk hnm hQ hw ls hl
  have hx := C0.x
  have hb := C0.b
  have hg0 := gr.rfl (L := L) s.heap.size
  have hLs : ∀ q ∈ L, q < s.heap.size := fun q hq => hw.lt hq
  have hfr0 : ∀ q ∈ L, F q = F q := fun _ _ => rfl
  have hlt_a := hLs a ma
  refine lv_bipush (v := nI 7) hx hb dL_slope_0 (by decide) ?_
  refine k_row7 C0 hw (by show 0 + 1 ≤ 1; omega) (by show 0 + 7 ≤ 7; omega) dL_slope_2 (fun L_4307 F_4308 a_4309 H g_4310 hw1 => ?_)
  have hge_a_4309 : s.heap.size ≤ a_4309 := Nat.le_trans hw.2.2.1 g_4310.2.2.2.2
  have f_4311 : F_4308 a = rw7 G u := (g_4310.2.2.1 a ma).1.trans fa
  have lt_4313 := (g_4310.2.2.1 a ma).2
  have m_4312 : a ∈ L_4307 := g_4310.1.1 a ma
  have hfr_4314 : ∀ q ∈ L, F_4308 q = F q := fun q hq => (g_4310.2.2.1 q (hg0.1 q hq)).1.trans (hfr0 q hq)
  have hg_4315 := hg0.step g_4310.1 hw.2.2.1
  have C0 := C0.grow g_4310.1 hw.2.2.1
  have hw := hw1
  have m_4316 : a_4309 ∈ L_4307 := g_4310.2.2.2.1
  have f_4317 : F_4308 a_4309 = rw7 G ((fun _ => 0)) := g_4310.2.1
  refine lv_astore_n (lv' := [(1, .ref a_4309), (0, .ref a)]) hx hb dL_slope_4 rfl hl (by decide) rfl (fun ls hl => ?_)
  refine lv_iconst (v := nI 1) hx hb dL_slope_5 (by decide) ?_
  refine lv_istore_n (lv' := [(2, .int (nI (1))), (1, .ref a_4309), (0, .ref a)]) hx hb dL_slope_6 rfl hl (by decide) rfl (fun ls hl => ?_)
  have lp7_n_4318 : ∀ (n : Nat) (k : Nat), 1 ≤ k → k ≤ 7 → 7 + 1 - k < n → ∀ (L_4319 : List Nat) (F_4320 : Nat → va_E) (H : Heap) (locs : List Loc), Cx p s m args c cL_slope 3 (yL_slope).cls G L_4319 → gr L L_4319 s.heap.size → wD G L_4319 F_4320 s H locs → (∀ q ∈ L, F_4320 q = F q) → (a_4309 ∈ L_4319 ∧ s.heap.size ≤ a_4309 ∧ F_4320 a_4309 = rw7 G (m_upto (m_der u) (fun _ => 0) (k - 1))) → ∀ ls : Array Slot, lv_has ls 3 [(0, .ref a), (1, .ref a_4309), (2, .int (nI (k)))] → W p l e rm_L_slope s m args below meth c H locs (1) (7) Q (F0 m 7 ls []) := by
    intro n
    induction n with
    | zero => intro k hlo hhi hm; exact absurd hm (Nat.not_lt_zero _)
    | succ n ih_7_n_4324 =>
      intro k hlo hhi hm L_4319 F_4320 H locs C0 hg_4323 hw hfr_4322 f_4321 ls hl
      have f_4325 : F_4320 a = rw7 G u := (hfr_4322 a ma).trans fa
      have m_4326 : a ∈ L_4319 := hg_4323.1 a ma
      obtain ⟨m_4327, hge_4328, f_4329⟩ := f_4321
      refine lv_iload_n hx hb dL_slope_7 rfl (lv_at hl 2 rfl) ?_
      refine lv_bipush (v := nI 7) hx hb dL_slope_8 (by decide) ?_
      refine n_icmp_ge (tgt := 32) hx hb dL_slope_10 (by decide) (by omega) (by decide) (fun c_10 => ?_) (fun c_10 => ?_)
      · skip
        obtain rfl : k = 7 := by omega
        have f_4330 : F_4320 a_4309 = rw7 G (m_der u) := f_4329.trans (congrArg (rw7 G) (sl_e u))
        refine lv_aload_n hx hb dL_slope_32 rfl (lv_at hl 1 rfl) ?_
        exact r_r C0 hg_4323 hr hlk hw m_4327 hge_4328 hLs f_4330 hfr_4322 (show 1 ≤ 1 by omega) (show 7 ≤ 7 by omega) dL_slope_33 hQ
      · skip
        refine lv_aload_n hx hb dL_slope_13 rfl (lv_at hl 1 rfl) ?_
        refine lv_iload_n hx hb dL_slope_14 rfl (lv_at hl 2 rfl) ?_
        refine lv_iconst (v := nI 1) hx hb dL_slope_15 (by decide) ?_
        refine n_isub hx hb (by omega) dL_slope_16 ?_
        refine lv_aload_n hx hb dL_slope_17 rfl (lv_at hl 0 rfl) ?_
        refine lv_iload_n hx hb dL_slope_18 rfl (lv_at hl 2 rfl) ?_
        refine q_rld C0 hw m_4326 f_4325 (k) (by omega) dL_slope_19 (fun z_4331 => ?_)
        refine lv_iload_n hx hb dL_slope_20 rfl (lv_at hl 2 rfl) ?_
        have m_4332 := mulk_le (a := (u (k)).val) (k := k) (by omega) (by omega)
        refine n_imul hx hb dL_slope_21 ?_
        refine q_calli hw (q_runS (As := [.int (nI (((u (k)).val) * k))]) (c_L_mod l G L_4319 F_4320 (nI (((u (k)).val) * k))) C0 hw sw_L_8 rfl hl.1 rfl (Nat.le_of_ble_eq_true rfl) dL_slope_22 ⟨by decide, by decide⟩ ⟨(by show 1 + 0 ≤ 1; omega), (by show 7 + 0 ≤ 7; omega)⟩) rfl rfl (fun r_4335 F_4333 H locs hw hp_4334 => ?_)
        obtain ⟨he_4336, o_4337⟩ := hp_4334
        rw [zi_nI (by omega)] at he_4336
        subst he_4336
        have f_4338 : F_4333 a_4309 = rw7 G (m_upto (m_der u) (fun _ => 0) (k - 1)) := (o_4337 a_4309 ).trans f_4329
        refine q_rst C0 hw m_4327 f_4338 (k - 1) (by omega) (z := zc (((u (k)).val) * k)) dL_slope_25 (fun F_4339 H locs hw f_4340 o_4341 => ?_)
        refine lv_iinc (v := nI (k + 1)) (lv' := [(2, .int (nI (k + 1))), (0, .ref a), (1, .ref a_4309)]) hx hb dL_slope_26 hl (k := 2) rfl (nI_add _ _) (by decide) rfl (fun ls hl => ?_)
        refine lv_goto (tgt := 7) hx hb dL_slope_29 (by decide) ?_
        have hfr_4342 : ∀ q ∈ L, F_4333 q = F q := fun q hq => (o_4337 q ).trans (hfr_4322 q hq)
        have hfr_4343 : ∀ q ∈ L, F_4339 q = F q := fun q hq => (o_4341 q (by have := hLs q hq; omega)).trans (hfr_4342 q hq)
        exact ih_7_n_4324 (k + 1) ((by omega)) ((by omega)) (by omega) _ _ _ _ C0 hg_4323 hw hfr_4343 ⟨m_4327, hge_4328, f_4340.trans (congrArg (rw7 G) (sl_s u hlo (by omega)))⟩ ls (lv_sub hl [1, 2, 0] rfl)
  exact lp7_n_4318 _ (1) ((by omega)) ((by omega)) (Nat.lt_succ_self _) _ _ _ _ C0 hg_4315 hw hfr_4314 ⟨m_4316, hge_a_4309, f_4317.trans (congrArg (rw7 G) (m_upto_0 _ _).symm)⟩ ls (lv_sub hl [2, 1, 0] rfl)
abbrev rm_L_plus : Room := { frames := 1, cells := 1, slots := 7, locals := 20 }
set_option maxHeartbeats 4000000 in
set_option maxRecDepth 100000 in
theorem c_L_plus (l : Launch) (G : Gl) (L : List Nat) (F : Nat → va_E) (a b : Nat) (u v : Nat → ZP) (y : Int32) (ma : a ∈ L) (fa : F a = rw7 G u) (mb : b ∈ L) (fb : F b = rw7 G v) : CR l yL_plus cL_plus 5 rm_L_plus G L F [.ref a, .ref b, .int (y)] (m_am u v (zi y)) := by
  refine CG_of (by decide) (Nat.le_of_ble_eq_true rfl) rfl ?_
  intro p e s m args below meth c Q C0 hr hlk hnm hQ hw ls hl
  have hx := C0.x
  have hb := C0.b
  have hg0 := gr.rfl (L := L) s.heap.size
  have hLs : ∀ q ∈ L, q < s.heap.size := fun q hq => hw.lt hq
  have hfr0 : ∀ q ∈ L, F q = F q := fun _ _ => rfl
  have hlt_a := hLs a ma
  have hlt_b := hLs b mb
  have hzy := (zi y).isLt
  refine lv_bipush (v := nI 7) hx hb dL_plus_0 (by decide) ?_
  refine k_row7 C0 hw (by show 0 + 1 ≤ 1; omega) (by show 0 + 7 ≤ 7; omega) dL_plus_2 (fun L_4344 F_4345 a_4346 H g_4347 hw1 => ?_)
  have hge_a_4346 : s.heap.size ≤ a_4346 := Nat.le_trans hw.2.2.1 g_4347.2.2.2.2
  have f_4348 : F_4345 a = rw7 G u := (g_4347.2.2.1 a ma).1.trans fa
  have lt_4350 := (g_4347.2.2.1 a ma).2
  have m_4349 : a ∈ L_4344 := g_4347.1.1 a ma
  have f_4351 : F_4345 b = rw7 G v := (g_4347.2.2.1 b mb).1.trans fb
  have lt_4353 := (g_4347.2.2.1 b mb).2
  have m_4352 : b ∈ L_4344 := g_4347.1.1 b mb
  have hfr_4354 : ∀ q ∈ L, F_4345 q = F q := fun q hq => (g_4347.2.2.1 q (hg0.1 q hq)).1.trans (hfr0 q hq)
  have hg_4355 := hg0.step g_4347.1 hw.2.2.1
  have C0 := C0.grow g_4347.1 hw.2.2.1
  have hw := hw1
  have m_4356 : a_4346 ∈ L_4344 := g_4347.2.2.2.1
  have f_4357 : F_4345 a_4346 = rw7 G ((fun _ => 0)) := g_4347.2.1
  refine lv_astore_n (lv' := [(3, .ref a_4346), (0, .ref a), (1, .ref b), (2, .int (y))]) hx hb dL_plus_4 rfl hl (by decide) rfl (fun ls hl => ?_)
  refine lv_iconst (v := nI 0) hx hb dL_plus_5 (by decide) ?_
  refine lv_istore (lv' := [(4, .int (nI (0))), (3, .ref a_4346), (0, .ref a), (1, .ref b), (2, .int (y))]) hx hb dL_plus_6 hl (by decide) rfl (fun ls hl => ?_)
  have lp8_n_4358 : ∀ (n : Nat) (k : Nat), 0 ≤ k → k ≤ 7 → 7 + 1 - k < n → ∀ (L_4359 : List Nat) (F_4360 : Nat → va_E) (H : Heap) (locs : List Loc), Cx p s m args c cL_plus 5 (yL_plus).cls G L_4359 → gr L L_4359 s.heap.size → wD G L_4359 F_4360 s H locs → (∀ q ∈ L, F_4360 q = F q) → (a_4346 ∈ L_4359 ∧ s.heap.size ≤ a_4346 ∧ F_4360 a_4346 = rw7 G (m_upto (m_am u v (zi y)) (fun _ => 0) k)) → ∀ ls : Array Slot, lv_has ls 5 [(0, .ref a), (1, .ref b), (2, .int (y)), (3, .ref a_4346), (4, .int (nI (k)))] → W p l e rm_L_plus s m args below meth c H locs (1) (7) Q (F0 m 8 ls []) := by
    intro n
    induction n with
    | zero => intro k hlo hhi hm; exact absurd hm (Nat.not_lt_zero _)
    | succ n ih_8_n_4364 =>
      intro k hlo hhi hm L_4359 F_4360 H locs C0 hg_4363 hw hfr_4362 f_4361 ls hl
      have f_4365 : F_4360 a = rw7 G u := (hfr_4362 a ma).trans fa
      have m_4366 : a ∈ L_4359 := hg_4363.1 a ma
      have f_4367 : F_4360 b = rw7 G v := (hfr_4362 b mb).trans fb
      have m_4368 : b ∈ L_4359 := hg_4363.1 b mb
      obtain ⟨m_4369, hge_4370, f_4371⟩ := f_4361
      refine lv_iload hx hb dL_plus_8 (lv_at hl 4 rfl) ?_
      refine lv_bipush (v := nI 7) hx hb dL_plus_10 (by decide) ?_
      refine n_icmp_ge (tgt := 42) hx hb dL_plus_12 (by decide) (by omega) (by decide) (fun c_12 => ?_) (fun c_12 => ?_)
      · skip
        obtain rfl : k = 7 := by omega
        obtain ⟨F_4372, hw, f_4373, o_4374⟩ := hw.rowE f_4371 (v := m_am u v (zi y)) (m_upto_7 (m_am u v (zi y)) (fun _ => 0))
        refine lv_aload_n hx hb dL_plus_42 rfl (lv_at hl 3 rfl) ?_
        have hfr_4375 : ∀ q ∈ L, F_4372 q = F q := fun q hq => (o_4374 q (by have := hLs q hq; omega)).trans (hfr_4362 q hq)
        exact r_r C0 hg_4363 hr hlk hw m_4369 hge_4370 hLs f_4373 hfr_4375 (show 1 ≤ 1 by omega) (show 7 ≤ 7 by omega) dL_plus_43 hQ
      · skip
        refine lv_aload_n hx hb dL_plus_15 rfl (lv_at hl 3 rfl) ?_
        refine lv_iload hx hb dL_plus_16 (lv_at hl 4 rfl) ?_
        refine lv_aload_n hx hb dL_plus_18 rfl (lv_at hl 0 rfl) ?_
        refine lv_iload hx hb dL_plus_19 (lv_at hl 4 rfl) ?_
        refine q_rld C0 hw m_4366 f_4365 (k) (by omega) dL_plus_21 (fun z_4376 => ?_)
        refine lv_aload_n hx hb dL_plus_22 rfl (lv_at hl 1 rfl) ?_
        refine lv_iload hx hb dL_plus_23 (lv_at hl 4 rfl) ?_
        refine q_rld C0 hw m_4368 f_4367 (k) (by omega) dL_plus_25 (fun z_4377 => ?_)
        refine lv_iload_n hx hb dL_plus_26 rfl (lv_at hl 2 rfl) ?_
        refine q_calli hw (q_runS (As := [.int (y)]) (c_L_mod l G L_4359 F_4360 (y)) C0 hw sw_L_8 rfl hl.1 rfl (Nat.le_of_ble_eq_true rfl) dL_plus_27 ⟨by decide, by decide⟩ ⟨(by show 1 + 0 ≤ 1; omega), (by show 7 + 0 ≤ 7; omega)⟩) rfl rfl (fun r_4380 F_4378 H locs hw hp_4379 => ?_)
        obtain ⟨he_4381, o_4382⟩ := hp_4379
        subst he_4381
        refine n_imul hx hb dL_plus_30 ?_
        have m_4383 := mul2_le (a := (v (k)).val) (b := (zi y).val) (by omega) (by omega)
        refine n_iadd hx hb dL_plus_31 ?_
        refine q_calli hw (q_runS (As := [.int (nI ((u (k)).val + (((v (k)).val) * (zi y).val)))]) (c_L_mod l G L_4359 F_4378 (nI ((u (k)).val + (((v (k)).val) * (zi y).val)))) C0 hw sw_L_8 rfl hl.1 rfl (Nat.le_of_ble_eq_true rfl) dL_plus_32 ⟨by decide, by decide⟩ ⟨(by show 1 + 0 ≤ 1; omega), (by show 7 + 0 ≤ 7; omega)⟩) rfl rfl (fun r_4386 F_4384 H locs hw hp_4385 => ?_)
        obtain ⟨he_4387, o_4388⟩ := hp_4385
        rw [zi_nI (by omega)] at he_4387
        subst he_4387
        have f_4389 : F_4378 a_4346 = rw7 G (m_upto (m_am u v (zi y)) (fun _ => 0) k) := (o_4382 a_4346 ).trans f_4371
        have f_4390 : F_4384 a_4346 = rw7 G (m_upto (m_am u v (zi y)) (fun _ => 0) k) := (o_4388 a_4346 ).trans f_4389
        refine q_rst C0 hw m_4369 f_4390 (k) (by omega) (z := zc ((u (k)).val + (((v (k)).val) * (zi y).val))) dL_plus_35 (fun F_4391 H locs hw f_4392 o_4393 => ?_)
        refine lv_iinc (v := nI (k + 1)) (lv' := [(4, .int (nI (k + 1))), (0, .ref a), (1, .ref b), (2, .int (y)), (3, .ref a_4346)]) hx hb dL_plus_36 hl (k := 4) rfl (nI_add _ _) (by decide) rfl (fun ls hl => ?_)
        refine lv_goto (tgt := 8) hx hb dL_plus_39 (by decide) ?_
        have hfr_4394 : ∀ q ∈ L, F_4378 q = F q := fun q hq => (o_4382 q ).trans (hfr_4362 q hq)
        have hfr_4395 : ∀ q ∈ L, F_4384 q = F q := fun q hq => (o_4388 q ).trans (hfr_4394 q hq)
        have hfr_4396 : ∀ q ∈ L, F_4391 q = F q := fun q hq => (o_4393 q (by have := hLs q hq; omega)).trans (hfr_4395 q hq)
        exact ih_8_n_4364 (k + 1) ((by omega)) ((by omega)) (by omega) _ _ _ _ C0 hg_4363 hw hfr_4396 ⟨m_4369, hge_4370, f_4392.trans (congrArg (rw7 G) (m_upto_s _ _ k (pl_z u v (zi y) k)))⟩ ls (lv_sub hl [1, 2, 3, 4, 0] rfl)
  exact lp8_n_4358 _ (0) ((by omega)) ((by omega)) (Nat.lt_succ_self _) _ _ _ _ C0 hg_4355 hw hfr_4354 ⟨m_4356, hge_a_4346, f_4357.trans (congrArg (rw7 G) (m_upto_0 _ _).symm)⟩ ls (lv_sub hl [2, 3, 4, 1, 0] rfl)
abbrev rm_L_bracket : Room := { frames := 2, cells := 5, slots := 35, locals := 45 }
set_option maxHeartbeats 4000000 in
set_option maxRecDepth 100000 in
theorem c_L_bracket (l : Launch) (G : Gl) (L : List Nat) (F : Nat → va_E) (cu a b : Nat) (u v : Nat → ZP) (ma : a ∈ L) (fa : F a = rw7 G u) (mb : b ∈ L) (fb : F b = rw7 G v) (hc : cu ≤ 6) : CR l yL_bracket cL_bracket 3 rm_L_bracket G L F [.int (nI (cu)), .ref a, .ref b] (m_brM u v cu) := by
  refine CG_of (by decide) (Nat.le_of_ble_eq_true rfl) rfl ?_
  intro p e s m args below meth c Q C0 hr hlk hnm hQ hw ls hl
  have hx := C0.x
  have hb := C0.b
  have hg0 := gr.rfl (L := L) s.heap.size
  have hLs : ∀ q ∈ L, q < s.heap.size := fun q hq => hw.lt hq
  have hfr0 : ∀ q ∈ L, F q = F q := fun _ _ => rfl
  have hlt_a := hLs a ma
  have hlt_b := hLs b mb
  refine lv_iload_n hx hb dL_bracket_0 rfl (lv_at hl 0 rfl) ?_
  refine lv_aload_n hx hb dL_bracket_1 rfl (lv_at hl 1 rfl) ?_
  refine lv_aload_n hx hb dL_bracket_2 rfl (lv_at hl 2 rfl) ?_
  refine q_callr hw (q_runS (As := [.ref b]) (c_L_slope l G L F b v mb fb) C0 hw sw_L_14 rfl hl.1 rfl (Nat.le_of_ble_eq_true rfl) dL_bracket_3 ⟨by decide, by decide⟩ ⟨(by show 0 + 1 ≤ 5; omega), (by show 0 + 7 ≤ 35; omega)⟩) (fun L_4397 F_4398 a_4399 H locs g_4400 hw1 => ?_)
  have hge_a_4399 : s.heap.size ≤ a_4399 := Nat.le_trans hw.2.2.1 g_4400.2.2.2.2
  have f_4401 : F_4398 a = rw7 G u := (g_4400.2.2.1 a ma).1.trans fa
  have lt_4403 := (g_4400.2.2.1 a ma).2
  have m_4402 : a ∈ L_4397 := g_4400.1.1 a ma
  have f_4404 : F_4398 b = rw7 G v := (g_4400.2.2.1 b mb).1.trans fb
  have lt_4406 := (g_4400.2.2.1 b mb).2
  have m_4405 : b ∈ L_4397 := g_4400.1.1 b mb
  have hfr_4407 : ∀ q ∈ L, F_4398 q = F q := fun q hq => (g_4400.2.2.1 q (hg0.1 q hq)).1.trans (hfr0 q hq)
  have hg_4408 := hg0.step g_4400.1 hw.2.2.1
  have C0 := C0.grow g_4400.1 hw.2.2.1
  have hw := hw1
  have m_4409 : a_4399 ∈ L_4397 := g_4400.2.2.2.1
  have f_4410 : F_4398 a_4399 = rw7 G ((m_der v)) := g_4400.2.1
  refine q_callr hw (q_runS (As := [.int (nI (cu)), .ref a, .ref a_4399]) (c_L_times l G L_4397 F_4398 cu a a_4399 u ((m_der v)) m_4402 f_4401 m_4409 f_4410 (by omega)) C0 hw sw_L_18 rfl hl.1 rfl (Nat.le_of_ble_eq_true rfl) dL_bracket_6 ⟨by decide, by decide⟩ ⟨(by show 1 + 1 ≤ 5; omega), (by show 7 + 7 ≤ 35; omega)⟩) (fun L_4411 F_4412 a_4413 H locs g_4414 hw1 => ?_)
  have hge_a_4413 : s.heap.size ≤ a_4413 := Nat.le_trans hw.2.2.1 g_4414.2.2.2.2
  have f_4415 : F_4412 a = rw7 G u := (g_4414.2.2.1 a m_4402).1.trans f_4401
  have lt_4417 := (g_4414.2.2.1 a m_4402).2
  have m_4416 : a ∈ L_4411 := g_4414.1.1 a m_4402
  have f_4418 : F_4412 b = rw7 G v := (g_4414.2.2.1 b m_4405).1.trans f_4404
  have lt_4420 := (g_4414.2.2.1 b m_4405).2
  have m_4419 : b ∈ L_4411 := g_4414.1.1 b m_4405
  have hfr_4421 : ∀ q ∈ L, F_4412 q = F q := fun q hq => (g_4414.2.2.1 q (hg_4408.1 q hq)).1.trans (hfr_4407 q hq)
  have hg_4422 := hg_4408.step g_4414.1 hw.2.2.1
  have C0 := C0.grow g_4414.1 hw.2.2.1
  have hw := hw1
  have m_4423 : a_4413 ∈ L_4411 := g_4414.2.2.2.1
  have f_4424 : F_4412 a_4413 = rw7 G ((m_mulT u ((m_der v)) cu)) := g_4414.2.1
  refine lv_iload_n hx hb dL_bracket_9 rfl (lv_at hl 0 rfl) ?_
  refine lv_aload_n hx hb dL_bracket_10 rfl (lv_at hl 2 rfl) ?_
  refine lv_aload_n hx hb dL_bracket_11 rfl (lv_at hl 1 rfl) ?_
  refine q_callr hw (q_runS (As := [.ref a]) (c_L_slope l G L_4411 F_4412 a u m_4416 f_4415) C0 hw sw_L_14 rfl hl.1 rfl (Nat.le_of_ble_eq_true rfl) dL_bracket_12 ⟨by decide, by decide⟩ ⟨(by show 2 + 1 ≤ 5; omega), (by show 14 + 7 ≤ 35; omega)⟩) (fun L_4425 F_4426 a_4427 H locs g_4428 hw1 => ?_)
  have hge_a_4427 : s.heap.size ≤ a_4427 := Nat.le_trans hw.2.2.1 g_4428.2.2.2.2
  have f_4429 : F_4426 a = rw7 G u := (g_4428.2.2.1 a m_4416).1.trans f_4415
  have lt_4431 := (g_4428.2.2.1 a m_4416).2
  have m_4430 : a ∈ L_4425 := g_4428.1.1 a m_4416
  have f_4432 : F_4426 b = rw7 G v := (g_4428.2.2.1 b m_4419).1.trans f_4418
  have lt_4434 := (g_4428.2.2.1 b m_4419).2
  have m_4433 : b ∈ L_4425 := g_4428.1.1 b m_4419
  have f_4435 : F_4426 a_4413 = rw7 G ((m_mulT u ((m_der v)) cu)) := (g_4428.2.2.1 a_4413 m_4423).1.trans f_4424
  have lt_4437 := (g_4428.2.2.1 a_4413 m_4423).2
  have m_4436 : a_4413 ∈ L_4425 := g_4428.1.1 a_4413 m_4423
  have hfr_4438 : ∀ q ∈ L, F_4426 q = F q := fun q hq => (g_4428.2.2.1 q (hg_4422.1 q hq)).1.trans (hfr_4421 q hq)
  have hg_4439 := hg_4422.step g_4428.1 hw.2.2.1
  have C0 := C0.grow g_4428.1 hw.2.2.1
  have hw := hw1
  have m_4440 : a_4427 ∈ L_4425 := g_4428.2.2.2.1
  have f_4441 : F_4426 a_4427 = rw7 G ((m_der u)) := g_4428.2.1
  refine q_callr hw (q_runS (As := [.int (nI (cu)), .ref b, .ref a_4427]) (c_L_times l G L_4425 F_4426 cu b a_4427 v ((m_der u)) m_4433 f_4432 m_4440 f_4441 (by omega)) C0 hw sw_L_18 rfl hl.1 rfl (Nat.le_of_ble_eq_true rfl) dL_bracket_15 ⟨by decide, by decide⟩ ⟨(by show 3 + 1 ≤ 5; omega), (by show 21 + 7 ≤ 35; omega)⟩) (fun L_4442 F_4443 a_4444 H locs g_4445 hw1 => ?_)
  have hge_a_4444 : s.heap.size ≤ a_4444 := Nat.le_trans hw.2.2.1 g_4445.2.2.2.2
  have f_4446 : F_4443 a = rw7 G u := (g_4445.2.2.1 a m_4430).1.trans f_4429
  have lt_4448 := (g_4445.2.2.1 a m_4430).2
  have m_4447 : a ∈ L_4442 := g_4445.1.1 a m_4430
  have f_4449 : F_4443 b = rw7 G v := (g_4445.2.2.1 b m_4433).1.trans f_4432
  have lt_4451 := (g_4445.2.2.1 b m_4433).2
  have m_4450 : b ∈ L_4442 := g_4445.1.1 b m_4433
  have f_4452 : F_4443 a_4413 = rw7 G ((m_mulT u ((m_der v)) cu)) := (g_4445.2.2.1 a_4413 m_4436).1.trans f_4435
  have lt_4454 := (g_4445.2.2.1 a_4413 m_4436).2
  have m_4453 : a_4413 ∈ L_4442 := g_4445.1.1 a_4413 m_4436
  have hfr_4455 : ∀ q ∈ L, F_4443 q = F q := fun q hq => (g_4445.2.2.1 q (hg_4439.1 q hq)).1.trans (hfr_4438 q hq)
  have hg_4456 := hg_4439.step g_4445.1 hw.2.2.1
  have C0 := C0.grow g_4445.1 hw.2.2.1
  have hw := hw1
  have m_4457 : a_4444 ∈ L_4442 := g_4445.2.2.2.1
  have f_4458 : F_4443 a_4444 = rw7 G ((m_mulT v ((m_der u)) cu)) := g_4445.2.1
  refine lv_iconst (v := (-1)) hx hb dL_bracket_18 (by decide) ?_
  refine q_callr hw (q_runS (As := [.ref a_4413, .ref a_4444, .int ((-1))]) (c_L_plus l G L_4442 F_4443 a_4413 a_4444 ((m_mulT u ((m_der v)) cu)) ((m_mulT v ((m_der u)) cu)) ((-1)) m_4453 f_4452 m_4457 f_4458) C0 hw sw_L_22 rfl hl.1 rfl (Nat.le_of_ble_eq_true rfl) dL_bracket_19 ⟨by decide, by decide⟩ ⟨(by show 4 + 1 ≤ 5; omega), (by show 28 + 7 ≤ 35; omega)⟩) (fun L_4459 F_4460 a_4461 H locs g_4462 hw1 => ?_)
  have hge_a_4461 : s.heap.size ≤ a_4461 := Nat.le_trans hw.2.2.1 g_4462.2.2.2.2
  have f_4463 : F_4460 a = rw7 G u := (g_4462.2.2.1 a m_4447).1.trans f_4446
  have lt_4465 := (g_4462.2.2.1 a m_4447).2
  have m_4464 : a ∈ L_4459 := g_4462.1.1 a m_4447
  have f_4466 : F_4460 b = rw7 G v := (g_4462.2.2.1 b m_4450).1.trans f_4449
  have lt_4468 := (g_4462.2.2.1 b m_4450).2
  have m_4467 : b ∈ L_4459 := g_4462.1.1 b m_4450
  have hfr_4469 : ∀ q ∈ L, F_4460 q = F q := fun q hq => (g_4462.2.2.1 q (hg_4456.1 q hq)).1.trans (hfr_4455 q hq)
  have hg_4470 := hg_4456.step g_4462.1 hw.2.2.1
  have C0 := C0.grow g_4462.1 hw.2.2.1
  have hw := hw1
  have m_4471 : a_4461 ∈ L_4459 := g_4462.2.2.2.1
  have f_4472 : F_4460 a_4461 = rw7 G ((m_am ((m_mulT u ((m_der v)) cu)) ((m_mulT v ((m_der u)) cu)) (zi ((-1))))) := g_4462.2.1
  exact r_r C0 hg_4470 hr hlk hw m_4471 hge_a_4461 hLs (f_4472.trans (congrArg (rw7 G) (br_m1 u v cu))) hfr_4469 (show 5 ≤ 5 by omega) (show 35 ≤ 35 by omega) dL_bracket_22 hQ
abbrev rm_L_within : Room := { frames := 2, cells := 8, slots := 56, locals := 45 }
set_option maxHeartbeats 4000000 in
set_option maxRecDepth 100000 in
theorem c_L_within (l : Launch) (G : Gl) (L : List Nat) (F : Nat → va_E) (cu a b : Nat) (u v : Nat → ZP) (ma : a ∈ L) (fa : F a = rw7 G u) (mb : b ∈ L) (fb : F b = rw7 G v) (hc : cu ≤ 6) : CR l yL_within cL_within 5 rm_L_within G L F [.int (nI (cu)), .ref a, .ref b] (m_sub u v cu) := by
  refine CG_of (by decide) (Nat.le_of_ble_eq_true rfl) rfl ?_
  intro p e s m args below meth c Q C0 hr hlk hnm hQ hw ls hl
  have hx := C0.x
  have hb := C0.b
  have hg0 := gr.rfl (L := L) s.heap.size
  have hLs : ∀ q ∈ L, q < s.heap.size := fun q hq => hw.lt hq
  have hfr0 : ∀ q ∈ L, F q = F q := fun _ _ => rfl
  have hlt_a := hLs a ma
  have hlt_b := hLs b mb
  refine lv_bipush (v := nI 7) hx hb dL_within_0 (by decide) ?_
  refine k_row7 C0 hw (by show 0 + 1 ≤ 8; omega) (by show 0 + 7 ≤ 56; omega) dL_within_2 (fun L_4473 F_4474 a_4475 H g_4476 hw1 => ?_)
  have hge_a_4475 : s.heap.size ≤ a_4475 := Nat.le_trans hw.2.2.1 g_4476.2.2.2.2
  have f_4477 : F_4474 a = rw7 G u := (g_4476.2.2.1 a ma).1.trans fa
  have lt_4479 := (g_4476.2.2.1 a ma).2
  have m_4478 : a ∈ L_4473 := g_4476.1.1 a ma
  have f_4480 : F_4474 b = rw7 G v := (g_4476.2.2.1 b mb).1.trans fb
  have lt_4482 := (g_4476.2.2.1 b mb).2
  have m_4481 : b ∈ L_4473 := g_4476.1.1 b mb
  have hfr_4483 : ∀ q ∈ L, F_4474 q = F q := fun q hq => (g_4476.2.2.1 q (hg0.1 q hq)).1.trans (hfr0 q hq)
  have hg_4484 := hg0.step g_4476.1 hw.2.2.1
  have C0 := C0.grow g_4476.1 hw.2.2.1
  have hw := hw1
  have m_4485 : a_4475 ∈ L_4473 := g_4476.2.2.2.1
  have f_4486 : F_4474 a_4475 = rw7 G ((fun _ => 0)) := g_4476.2.1
  refine lv_astore_n (lv' := [(3, .ref a_4475), (0, .int (nI (cu))), (1, .ref a), (2, .ref b)]) hx hb dL_within_4 rfl hl (by decide) rfl (fun ls hl => ?_)
  refine lv_iload_n hx hb dL_within_5 rfl (lv_at hl 1 rfl) ?_
  refine lv_istore (lv' := [(4, .int (nI (cu))), (3, .ref a_4475), (0, .int (nI (cu))), (1, .ref a), (2, .ref b)]) hx hb dL_within_6 hl (by decide) rfl (fun ls hl => ?_)
  have hl : lv_has ls 5 [(4, .int (nI (cu + 1) + (-1))), (3, .ref a_4475), (0, .int (nI (cu))), (1, .ref a), (2, .ref b)] := (by rw [pk_m1]; exact hl)
  have lp8_n_4487 : ∀ (n : Nat) (r : Nat) (ar : Nat), r ≤ cu + 1 → r < n → ∀ (L_4488 : List Nat) (F_4489 : Nat → va_E) (H : Heap) (locs : List Loc), Cx p s m args c cL_within 5 (yL_within).cls G L_4488 → gr L L_4488 s.heap.size → wD G L_4488 F_4489 s H locs → (∀ q ∈ L, F_4489 q = F q) → (ar ∈ L_4488 ∧ s.heap.size ≤ ar ∧ F_4489 ar = rw7 G (m_hn u v cu (cu + 1 - r))) → ∀ ls : Array Slot, lv_has ls 5 [(0, .int (nI (cu))), (1, .ref a), (2, .ref b), (3, .ref ar), (4, .int (nI (r) + (-1)))] → W p l e rm_L_within s m args below meth c H locs (1 + (cu + 1 - r)) (7 + 7 * (cu + 1 - r)) Q (F0 m 8 ls []) := by
    intro n
    induction n with
    | zero => intro r ar hr9 hm; exact absurd hm (Nat.not_lt_zero _)
    | succ n ih_8_n_4493 =>
      intro r ar hr9 hm L_4488 F_4489 H locs C0 hg_4492 hw hfr_4491 f_4490 ls hl
      have f_4494 : F_4489 a = rw7 G u := (hfr_4491 a ma).trans fa
      have m_4495 : a ∈ L_4488 := hg_4492.1 a ma
      have f_4496 : F_4489 b = rw7 G v := (hfr_4491 b mb).trans fb
      have m_4497 : b ∈ L_4488 := hg_4492.1 b mb
      obtain ⟨m_4498, hge_4499, f_4500⟩ := f_4490
      rcases r with _ | r
      · skip
        have hl : lv_has ls 5 [(0, .int (nI (cu))), (1, .ref a), (2, .ref b), (3, .ref ar), (4, .int ((-1)))] := hl
        refine lv_iload hx hb dL_within_8 (lv_at hl 4 rfl) ?_
        refine lv_if_lt (tgt := 40) hx hb dL_within_10 (by decide) (fun c_10 => ?_) (fun c_10 => ?_)
        · skip
          refine lv_aload_n hx hb dL_within_40 rfl (lv_at hl 3 rfl) ?_
          exact r_r C0 hg_4492 hr hlk hw m_4498 hge_4499 hLs f_4500 hfr_4491 (show 1 + (cu + 1 - 0) ≤ 8 by omega) (show 7 + 7 * (cu + 1 - 0) ≤ 56 by omega) dL_within_41 hQ
        · skip
          exact absurd (by decide) c_10
      · skip
        have hl : lv_has ls 5 [(0, .int (nI (cu))), (1, .ref a), (2, .ref b), (3, .ref ar), (4, .int (nI (r)))] := (by rw [pk_m1] at hl; exact hl)
        refine lv_iload hx hb dL_within_8 (lv_at hl 4 rfl) ?_
        refine n_if_lt (tgt := 40) hx hb dL_within_10 (by decide) (by omega) ?_
        refine lv_iload_n hx hb dL_within_13 rfl (lv_at hl 0 rfl) ?_
        refine lv_aload_n hx hb dL_within_14 rfl (lv_at hl 3 rfl) ?_
        refine lv_aload_n hx hb dL_within_15 rfl (lv_at hl 1 rfl) ?_
        refine q_callr hw (q_runS (As := [.int (nI (cu)), .ref ar, .ref a]) (c_L_times l G L_4488 F_4489 cu ar a (m_hn u v cu (cu + 1 - (r + 1))) u m_4498 f_4500 m_4495 f_4494 (by omega)) C0 hw sw_L_18 rfl hl.1 rfl (Nat.le_of_ble_eq_true rfl) dL_within_16 ⟨by decide, by decide⟩ ⟨(by show 1 + (cu + 1 - (r + 1)) + 1 ≤ 8; omega), (by show 7 + 7 * (cu + 1 - (r + 1)) + 7 ≤ 56; omega)⟩) (fun L_4501 F_4502 a_4503 H locs g_4504 hw1 => ?_)
        have hge_a_4503 : s.heap.size ≤ a_4503 := Nat.le_trans hw.2.2.1 g_4504.2.2.2.2
        have f_4505 : F_4502 a = rw7 G u := (g_4504.2.2.1 a m_4495).1.trans f_4494
        have lt_4507 := (g_4504.2.2.1 a m_4495).2
        have m_4506 : a ∈ L_4501 := g_4504.1.1 a m_4495
        have f_4508 : F_4502 b = rw7 G v := (g_4504.2.2.1 b m_4497).1.trans f_4496
        have lt_4510 := (g_4504.2.2.1 b m_4497).2
        have m_4509 : b ∈ L_4501 := g_4504.1.1 b m_4497
        have f_4511 : F_4502 ar = rw7 G (m_hn u v cu (cu + 1 - (r + 1))) := (g_4504.2.2.1 ar m_4498).1.trans f_4500
        have lt_4513 := (g_4504.2.2.1 ar m_4498).2
        have m_4512 : ar ∈ L_4501 := g_4504.1.1 ar m_4498
        have hfr_4514 : ∀ q ∈ L, F_4502 q = F q := fun q hq => (g_4504.2.2.1 q (hg_4492.1 q hq)).1.trans (hfr_4491 q hq)
        have hg_4515 := hg_4492.step g_4504.1 hw.2.2.1
        have C0 := C0.grow g_4504.1 hw.2.2.1
        have hw := hw1
        have m_4516 : a_4503 ∈ L_4501 := g_4504.2.2.2.1
        have f_4517 : F_4502 a_4503 = rw7 G ((m_mulT (m_hn u v cu (cu + 1 - (r + 1))) u cu)) := g_4504.2.1
        refine lv_astore_n (lv' := [(3, .ref a_4503), (0, .int (nI (cu))), (1, .ref a), (2, .ref b), (4, .int (nI (r)))]) hx hb dL_within_19 rfl hl (by decide) rfl (fun ls hl => ?_)
        refine lv_aload_n hx hb dL_within_20 rfl (lv_at hl 0 rfl) ?_
        refine lv_iconst (v := nI 0) hx hb dL_within_21 (by decide) ?_
        refine lv_aload_n hx hb dL_within_22 rfl (lv_at hl 0 rfl) ?_
        refine lv_iconst (v := nI 0) hx hb dL_within_23 (by decide) ?_
        refine q_rld C0 hw m_4516 f_4517 (0) (by omega) dL_within_24 (fun z_4518 => ?_)
        refine lv_aload_n hx hb dL_within_25 rfl (lv_at hl 3 rfl) ?_
        refine lv_iload hx hb dL_within_26 (lv_at hl 4 rfl) ?_
        refine q_rld C0 hw m_4509 f_4508 (r) (by omega) dL_within_28 (fun z_4519 => ?_)
        refine n_iadd hx hb dL_within_29 ?_
        refine q_calli hw (q_runS (As := [.int (nI ((((m_mulT (m_hn u v cu (cu + 1 - (r + 1))) u cu)) (0)).val + ((v (r)).val)))]) (c_L_mod l G L_4501 F_4502 (nI ((((m_mulT (m_hn u v cu (cu + 1 - (r + 1))) u cu)) (0)).val + ((v (r)).val)))) C0 hw sw_L_8 rfl hl.1 rfl (Nat.le_of_ble_eq_true rfl) dL_within_30 ⟨by decide, by decide⟩ ⟨(by show 1 + (cu + 1 - (r + 1)) + 1 + 0 ≤ 8; omega), (by show 7 + 7 * (cu + 1 - (r + 1)) + 7 + 0 ≤ 56; omega)⟩) rfl rfl (fun r_4522 F_4520 H locs hw hp_4521 => ?_)
        obtain ⟨he_4523, o_4524⟩ := hp_4521
        rw [zi_nI (by omega)] at he_4523
        subst he_4523
        have f_4525 : F_4520 a_4503 = rw7 G ((m_mulT (m_hn u v cu (cu + 1 - (r + 1))) u cu)) := (o_4524 a_4503 ).trans f_4517
        refine q_rst C0 hw m_4516 f_4525 (0) (by omega) (z := zc ((((m_mulT (m_hn u v cu (cu + 1 - (r + 1))) u cu)) (0)).val + ((v (r)).val))) dL_within_33 (fun F_4526 H locs hw f_4527 o_4528 => ?_)
        refine lv_iinc (v := nI (r) + (-1)) (lv' := [(4, .int (nI (r) + (-1))), (3, .ref a_4503), (0, .int (nI (cu))), (1, .ref a), (2, .ref b)]) hx hb dL_within_34 hl (k := 4) rfl rfl (by decide) rfl (fun ls hl => ?_)
        refine lv_goto (tgt := 8) hx hb dL_within_37 (by decide) ?_
        have hfr_4529 : ∀ q ∈ L, F_4520 q = F q := fun q hq => (o_4524 q ).trans (hfr_4514 q hq)
        have hfr_4530 : ∀ q ∈ L, F_4526 q = F q := fun q hq => (o_4528 q (by have := hLs q hq; omega)).trans (hfr_4529 q hq)
        refine W.widen (k := 1 + (cu + 1 - (r))) (n := 7 + 7 * (cu + 1 - (r))) (show 1 + (cu + 1 - (r + 1)) + 1 ≤ 1 + (cu + 1 - (r)) by omega) (show 7 + 7 * (cu + 1 - (r + 1)) + 7 ≤ 7 + 7 * (cu + 1 - (r)) by omega) ?_
        exact ih_8_n_4493 (r) (a_4503) ((by omega)) (by omega) _ _ _ _ C0 hg_4515 hw hfr_4530 ⟨m_4516, hge_a_4503, f_4527.trans (congrArg (rw7 G) (wi_r u v cu r hr9 hc))⟩ ls (lv_sub hl [2, 3, 4, 1, 0] rfl)
  refine W.widen (k := 1 + (cu + 1 - (cu + 1))) (n := 7 + 7 * (cu + 1 - (cu + 1))) (show 1 ≤ 1 + (cu + 1 - (cu + 1)) by omega) (show 7 ≤ 7 + 7 * (cu + 1 - (cu + 1)) by omega) ?_
  exact lp8_n_4487 _ (cu + 1) (a_4475) ((Nat.le_refl _)) (Nat.lt_succ_self _) _ _ _ _ C0 hg_4484 hw hfr_4483 ⟨m_4485, hge_a_4475, f_4486.trans (congrArg (rw7 G) (wi_0 u v cu))⟩ ls (lv_sub hl [2, 3, 4, 1, 0] rfl)
