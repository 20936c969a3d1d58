theorem lf_lo {a xh xs x3 x4 xt xc xr y0 y1 : Nat} {nr n0 s0 s1 : Nat → Nat} {nn : Nat → Nat → Nat} {B : Nat → Nat} (hB : ∀ k, k < 20 → B k ≤ B (k + 1)) (h : lfB a xh xs x3 x4 xt xc xr y0 y1 nr n0 nn s0 s1 B) : ∀ i, 0 < i → i < 166 → B 1 ≤ lfA a xh xs x3 x4 xt xc xr y0 y1 nr n0 nn s0 s1 i := by
  have mono : ∀ d, 1 + d ≤ 20 → B 1 ≤ B (1 + d) := by
    intro d
    induction d with
    | zero => exact fun _ => Nat.le_refl _
    | succ d ih => exact fun hk => Nat.le_trans (ih (by omega)) (hB (1 + d) (by omega))
  have k1 : ∀ i : Fin 166, 0 < i.val → 1 ≤ lfK i.val ∧ lfK i.val < 20 := by decide +kernel
  intro i hi hi2
  have a1 := k1 ⟨i, hi2⟩ hi
  have a2 := mono (lfK i - 1) (by have := a1.2; simp only at this; omega)
  rw [show 1 + (lfK i - 1) = lfK i by have := a1.1; simp only at this; omega] at a2
  exact Nat.le_trans a2 (h i hi2).1
abbrev rm_X5_init : Room := { frames := 4, cells := 165, slots := 1126, locals := 102 }
set_option maxHeartbeats 4000000 in
set_option maxRecDepth 100000 in
theorem c_X5_init (l : Launch) (G : Gl) (L : List Nat) (F : Nat → va_E) (a : Nat) (ma : a ∈ L) (fa : F a = .inr (5, [.null, .null, .null, .null, .null, .null, .null, .null])) : CN l yX5_init cX5_init 2 rm_X5_init G L F [.ref a] (fun sz L1 F1 => gr L L1 sz ∧ ∃ ad : Nat → Nat, ad 0 = a ∧ XW G F1 ad A0 ∧ (∀ i, i < 166 → ad i ∈ L1) ∧ (∀ i, 0 < i → i < 166 → sz ≤ ad i) ∧ (∀ i j, i < 166 → j < 166 → i ≠ j → ad i ≠ ad j) ∧ (∀ q ∈ L, q ≠ a → F1 q = F q)) := by
  refine CN_of (by decide) (Nat.le_of_ble_eq_true rfl) rfl ?_
  intro p e s m args below meth c Q C0 hOv hr hlk hnm hQ hw ls hl
  have hx := C0.x
  have hb := C0.b
  have hwS := hw
  have hg0 := gr.rfl (L := L) s.heap.size
  have hlt0 := hw.lt ma
  refine lv_aload_n hx hb dX5_init_0 rfl (lv_at hl 0 rfl) ?_
  refine q_obj C0 hl.1 ob_X5 ob_i ob_c (by decide) (by decide) dX5_init_1 ?_
  refine lv_aload_n hx hb dX5_init_4 rfl (lv_at hl 0 rfl) ?_
  refine k_new C0 hw nw_X5_9 (Nat.le_of_ble_eq_true rfl) (Nat.le_of_ble_eq_true rfl) dX5_init_5 (fun L_13249 F_13250 a_13251 H_13253 g_13252 hw1 => ?_)
  have hge_a_13251 : s.heap.size ≤ a_13251 := Nat.le_trans hw.2.2.1 g_13252.2.2.2.2
  have f_13254 : F_13250 a = .inr (5, [.null, .null, .null, .null, .null, .null, .null, .null]) := (g_13252.2.2.1 a ma).1.trans fa
  have lt_13256 := (g_13252.2.2.1 a ma).2
  have m_13255 : a ∈ L_13249 := g_13252.1.1 a ma
  have hg_13257 := hg0.step g_13252.1 hw.2.2.1
  have C0 := C0.grow g_13252.1 hw.2.2.1
  have hw := hw1
  have m_13258 : a_13251 ∈ L_13249 := g_13252.2.2.2.1
  have f_13259 : F_13250 a_13251 = .inr (3, [.null, .int (nI (0)), .int (nI (0)), .int (nI (0)), .int (nI (0))]) := g_13252.2.1
  refine lv_dup hx hb dX5_init_8 rfl ?_
  refine q_calln hw (fun L1 F1 h => h.1) (q_runI (As := []) (c_X3_init l G L_13249 F_13250 a_13251 m_13258 f_13259) C0 hOv hw iw_X5_11 rfl hl.1 rfl (Nat.le_of_ble_eq_true rfl) dX5_init_9 ⟨by decide, by decide⟩ ⟨by decide, by decide⟩) (fun L_13260 F_13261 H_13263 locs hz_13264 hw1 hp_13262 => ?_)
  have hgs_13265 : s.heap.size ≤ H_13253.size := hw.2.2.1
  obtain ⟨g_13266, n_13267, e_13268, fb_13269, hm_13270, hj_13271, hf_13272⟩ := hp_13262
  have lt_13273 := hw.lt m_13255
  have lt_13274 := hw.lt m_13258
  have f_13275 : F_13261 a = .inr (5, [.null, .null, .null, .null, .null, .null, .null, .null]) := (hf_13272 a m_13255 (by omega)).trans f_13254
  have m_13276 : a ∈ L_13260 := g_13266.1 a m_13255
  have m_13277 : a_13251 ∈ L_13260 := g_13266.1 a_13251 m_13258
  have hg_13278 := hg_13257.step g_13266 hw.2.2.1
  have C0 := C0.grow g_13266 hw.2.2.1
  have hw := hw1
  have mb_13279 : ∀ i, i < 16 → n_13267 i ∈ L_13260 := fun i h2 => by
    by_cases ei : i = 0
    · rw [ei, e_13268]; exact m_13277
    · exact (hm_13270 i (by omega) h2).2
  have gb_13280 : ∀ i, i < 16 → a_13251 ≤ n_13267 i := fun i h2 => by
    by_cases ei : i = 0
    · rw [ei, e_13268]; exact Nat.le_refl _
    · have := (hm_13270 i (by omega) h2).1; omega
  refine q_putF C0 hnm hw m_13276 f_13275 fw_X5_12 pw_X5_0 rfl rfl rfl rfl (Nat.le_of_ble_eq_true rfl) dX5_init_12 (fun F_13281 H locs hw f_13282 o_13283 => ?_)
  have f_13282 : F_13281 a = .inr (5, [.ref a_13251, .null, .null, .null, .null, .null, .null, .null]) := f_13282
  refine lv_aload_n hx hb dX5_init_15 rfl (lv_at hl 0 rfl) ?_
  refine k_new C0 hw nw_X5_16 (Nat.le_of_ble_eq_true rfl) (Nat.le_of_ble_eq_true rfl) dX5_init_16 (fun L_13284 F_13285 a_13286 H_13288 g_13287 hw1 => ?_)
  have hge_a_13286 : s.heap.size ≤ a_13286 := Nat.le_trans hw.2.2.1 g_13287.2.2.2.2
  have f_13289 : F_13285 a = .inr (5, [.ref a_13251, .null, .null, .null, .null, .null, .null, .null]) := (g_13287.2.2.1 a m_13276).1.trans f_13282
  have lt_13291 := (g_13287.2.2.1 a m_13276).2
  have m_13290 : a ∈ L_13284 := g_13287.1.1 a m_13276
  have lt_13293 := (g_13287.2.2.1 a_13251 m_13277).2
  have m_13292 : a_13251 ∈ L_13284 := g_13287.1.1 a_13251 m_13277
  have fb_13294 : sta G F_13281 n_13267 0 st0 := fb_13269.keep (fun i hi => o_13283 (n_13267 i) (by (have := gb_13280 i (by omega); omega)))
  have lb_13297 : ∀ i, i < 16 → n_13267 i < a_13286 := fun i h1 => (g_13287.2.2.1 ((n_13267 i)) (mb_13279 i h1)).2
  have fb_13295 : sta G F_13285 n_13267 0 st0 := fb_13294.keep (fun i hi => (g_13287.2.2.1 ((n_13267 i)) (mb_13279 i (by omega))).1)
  have mb_13296 : ∀ i, i < 16 → n_13267 i ∈ L_13284 := fun i h1 => g_13287.1.1 ((n_13267 i)) (mb_13279 i h1)
  have hg_13298 := hg_13278.step g_13287.1 hw.2.2.1
  have C0 := C0.grow g_13287.1 hw.2.2.1
  have hw := hw1
  have m_13299 : a_13286 ∈ L_13284 := g_13287.2.2.2.1
  have f_13300 : F_13285 a_13286 = .inr (0, [.null, .int (nI (0))]) := g_13287.2.1
  refine lv_dup hx hb dX5_init_19 rfl ?_
  refine q_calln hw (fun L1 F1 h => h.1) (q_runI (As := []) (c_X0_init l G L_13284 F_13285 a_13286 m_13299 f_13300) C0 hOv hw iw_X5_18 rfl hl.1 rfl (Nat.le_of_ble_eq_true rfl) dX5_init_20 ⟨by decide, by decide⟩ ⟨by decide, by decide⟩) (fun L_13301 F_13302 H_13304 locs hz_13305 hw1 hp_13303 => ?_)
  have hgs_13306 : s.heap.size ≤ H_13288.size := hw.2.2.1
  obtain ⟨g_13307, x_13308, nn_13309, f_13310, f_13311, hsx_13312, m_13313, fb_13314, hm_13315, ho_13316, hj_13317, hnl_13318, hf_13319⟩ := hp_13303
  have lt_13320 := hw.lt m_13290
  have lt_13321 := hw.lt m_13292
  have lt_13322 := hw.lt m_13299
  have f_13323 : F_13302 a = .inr (5, [.ref a_13251, .null, .null, .null, .null, .null, .null, .null]) := (hf_13319 a m_13290 (by omega)).trans f_13289
  have lb_13326 : ∀ i, i < 16 → n_13267 i < H_13288.size := fun i h1 => hw.lt (mb_13296 i h1)
  have fb_13324 : sta G F_13302 n_13267 0 st0 := fb_13295.keep (fun i hi => hf_13319 (n_13267 i) (mb_13296 i (by omega)) (by (have := gb_13280 i (by omega); have := lb_13297 i (by omega); omega)))
  have mb_13325 : ∀ i, i < 16 → n_13267 i ∈ L_13301 := fun i h1 => g_13307.1 (n_13267 i) (mb_13296 i h1)
  have m_13327 : a ∈ L_13301 := g_13307.1 a m_13290
  have m_13328 : a_13251 ∈ L_13301 := g_13307.1 a_13251 m_13292
  have m_13329 : a_13286 ∈ L_13301 := g_13307.1 a_13286 m_13299
  have hg_13330 := hg_13298.step g_13307 hw.2.2.1
  have C0 := C0.grow g_13307 hw.2.2.1
  have hw := hw1
  obtain ⟨fa_13331, f_13332, hf9_13333⟩ := f_13311
  have mb_13334 : ∀ k i, k < 6 → i < 16 → nn_13309 k i ∈ L_13301 := fun k i h1 h2 => (hm_13315 k i h1 h2).2
  have gb_13335 : ∀ k i, k < 6 → i < 16 → x_13308 < nn_13309 k i := fun k i h1 h2 => (hm_13315 k i h1 h2).1
  refine q_putF C0 hnm hw m_13327 f_13323 fw_X5_19 pw_X5_1 rfl rfl rfl rfl (Nat.le_of_ble_eq_true rfl) dX5_init_23 (fun F_13336 H locs hw f_13337 o_13338 => ?_)
  have f_13337 : F_13336 a = .inr (5, [.ref a_13251, .ref a_13286, .null, .null, .null, .null, .null, .null]) := f_13337
  refine lv_aload_n hx hb dX5_init_26 rfl (lv_at hl 0 rfl) ?_
  refine lv_iconst (v := nI 2) hx hb dX5_init_27 (by decide) ?_
  refine k_newq C0 hw 2 rfl cl_X5_23 hOv.2.1 (by decide) (Nat.le_of_ble_eq_true rfl) (Nat.le_of_ble_eq_true rfl) dX5_init_28 (fun L_13339 F_13340 a_13341 H_13343 g_13342 hw1 => ?_)
  have hge_a_13341 : s.heap.size ≤ a_13341 := Nat.le_trans hw.2.2.1 g_13342.2.2.2.2
  have f_13344 : F_13340 a = .inr (5, [.ref a_13251, .ref a_13286, .null, .null, .null, .null, .null, .null]) := (g_13342.2.2.1 a m_13327).1.trans f_13337
  have lt_13346 := (g_13342.2.2.1 a m_13327).2
  have m_13345 : a ∈ L_13339 := g_13342.1.1 a m_13327
  have f_13347 : F_13336 a_13286 = .inr (0, [.ref x_13308, .int (nI (0))]) := (o_13338 a_13286 (by omega)).trans f_13310
  have f_13348 : F_13340 a_13286 = .inr (0, [.ref x_13308, .int (nI (0))]) := (g_13342.2.2.1 a_13286 m_13329).1.trans f_13347
  have lt_13350 := (g_13342.2.2.1 a_13286 m_13329).2
  have m_13349 : a_13286 ∈ L_13339 := g_13342.1.1 a_13286 m_13329
  have f_13351 : F_13336 x_13308 = .inl (G.2 3, 6, .inr (.inr (.inr (.inr fa_13331)))) := (o_13338 x_13308 (by omega)).trans f_13332
  have f_13352 : F_13340 x_13308 = .inl (G.2 3, 6, .inr (.inr (.inr (.inr fa_13331)))) := (g_13342.2.2.1 x_13308 m_13313).1.trans f_13351
  have lt_13354 := (g_13342.2.2.1 x_13308 m_13313).2
  have m_13353 : x_13308 ∈ L_13339 := g_13342.1.1 x_13308 m_13313
  have lt_13356 := (g_13342.2.2.1 a_13251 m_13328).2
  have m_13355 : a_13251 ∈ L_13339 := g_13342.1.1 a_13251 m_13328
  have fb_13357 : sta G F_13336 n_13267 0 st0 := fb_13324.keep (fun i hi => o_13338 (n_13267 i) (by (have := gb_13280 i (by omega); have := lb_13297 i (by omega); have := lb_13326 i (by omega); omega)))
  have lb_13360 : ∀ i, i < 16 → n_13267 i < a_13341 := fun i h1 => (g_13342.2.2.1 ((n_13267 i)) (mb_13325 i h1)).2
  have fb_13358 : sta G F_13340 n_13267 0 st0 := fb_13357.keep (fun i hi => (g_13342.2.2.1 ((n_13267 i)) (mb_13325 i (by omega))).1)
  have mb_13359 : ∀ i, i < 16 → n_13267 i ∈ L_13339 := fun i h1 => g_13342.1.1 ((n_13267 i)) (mb_13325 i h1)
  have fb_13361 : ∀ k, k < 6 → sta G F_13336 (nn_13309 k) 0 st0 := fun k hk => (fb_13314 k hk).keep (fun i hi => o_13338 (nn_13309 k i) (by (have := gb_13335 k i hk (by omega); omega)))
  have lb_13364 : ∀ k i, k < 6 → i < 16 → nn_13309 k i < a_13341 := fun k i h1 h2 => (g_13342.2.2.1 ((nn_13309 k i)) (mb_13334 k i h1 h2)).2
  have fb_13362 : ∀ k, k < 6 → sta G F_13340 (nn_13309 k) 0 st0 := fun k hk => (fb_13361 k hk).keep (fun i hi => (g_13342.2.2.1 ((nn_13309 k i)) (mb_13334 k i hk (by omega))).1)
  have mb_13363 : ∀ k i, k < 6 → i < 16 → nn_13309 k i ∈ L_13339 := fun k i h1 h2 => g_13342.1.1 ((nn_13309 k i)) (mb_13334 k i h1 h2)
  have hg_13365 := hg_13330.step g_13342.1 hw.2.2.1
  have C0 := C0.grow g_13342.1 hw.2.2.1
  have hw := hw1
  have m_13366 : a_13341 ∈ L_13339 := g_13342.2.2.2.1
  have f_13367 : F_13340 a_13341 = .inl (G.2 2, 2, .inr (.inr (.inr (.inr ((fun _ => none)))))) := g_13342.2.1
  refine q_putF C0 hnm hw m_13345 f_13344 fw_X5_25 pw_X5_2 rfl rfl rfl rfl (Nat.le_of_ble_eq_true rfl) dX5_init_31 (fun F_13368 H locs hw f_13369 o_13370 => ?_)
  have f_13369 : F_13368 a = .inr (5, [.ref a_13251, .ref a_13286, .ref a_13341, .null, .null, .null, .null, .null]) := f_13369
  refine lv_iconst (v := nI 0) hx hb dX5_init_34 (by decide) ?_
  refine lv_istore_n (lv' := [(1, .int (nI (0))), (0, .ref a)]) hx hb dX5_init_35 rfl hl (by decide) rfl (fun ls hl => ?_)
  refine lv_iload_n hx hb dX5_init_36 rfl (lv_at hl 0 rfl) ?_
  refine lv_iconst (v := nI 2) hx hb dX5_init_37 (by decide) ?_
  refine n_icmp_ge (tgt := 60) hx hb dX5_init_38 (by decide) (by decide) (by decide) (fun c_38 => ?_) (fun c_38 => ?_)
  · skip
    exact absurd c_38 (by omega)
  · skip
    refine lv_aload_n hx hb dX5_init_41 rfl (lv_at hl 1 rfl) ?_
    refine q_get C0 hw m_13345 f_13369 fw_X5_25 rfl dX5_init_42 ?_
    refine lv_iload_n hx hb dX5_init_45 rfl (lv_at hl 0 rfl) ?_
    refine k_new C0 hw nw_X5_23 (Nat.le_of_ble_eq_true rfl) (Nat.le_of_ble_eq_true rfl) dX5_init_46 (fun L_13371 F_13372 a_13373 H_13375 g_13374 hw1 => ?_)
    have hge_a_13373 : s.heap.size ≤ a_13373 := Nat.le_trans hw.2.2.1 g_13374.2.2.2.2
    have f_13376 : F_13372 a = .inr (5, [.ref a_13251, .ref a_13286, .ref a_13341, .null, .null, .null, .null, .null]) := (g_13374.2.2.1 a m_13345).1.trans f_13369
    have lt_13378 := (g_13374.2.2.1 a m_13345).2
    have m_13377 : a ∈ L_13371 := g_13374.1.1 a m_13345
    have f_13379 : F_13368 a_13286 = .inr (0, [.ref x_13308, .int (nI (0))]) := (o_13370 a_13286 (by omega)).trans f_13348
    have f_13380 : F_13372 a_13286 = .inr (0, [.ref x_13308, .int (nI (0))]) := (g_13374.2.2.1 a_13286 m_13349).1.trans f_13379
    have lt_13382 := (g_13374.2.2.1 a_13286 m_13349).2
    have m_13381 : a_13286 ∈ L_13371 := g_13374.1.1 a_13286 m_13349
    have f_13383 : F_13368 x_13308 = .inl (G.2 3, 6, .inr (.inr (.inr (.inr fa_13331)))) := (o_13370 x_13308 (by omega)).trans f_13352
    have f_13384 : F_13372 x_13308 = .inl (G.2 3, 6, .inr (.inr (.inr (.inr fa_13331)))) := (g_13374.2.2.1 x_13308 m_13353).1.trans f_13383
    have lt_13386 := (g_13374.2.2.1 x_13308 m_13353).2
    have m_13385 : x_13308 ∈ L_13371 := g_13374.1.1 x_13308 m_13353
    have f_13387 : F_13368 a_13341 = .inl (G.2 2, 2, .inr (.inr (.inr (.inr ((fun _ => none)))))) := (o_13370 a_13341 (by omega)).trans f_13367
    have f_13388 : F_13372 a_13341 = .inl (G.2 2, 2, .inr (.inr (.inr (.inr ((fun _ => none)))))) := (g_13374.2.2.1 a_13341 m_13366).1.trans f_13387
    have lt_13390 := (g_13374.2.2.1 a_13341 m_13366).2
    have m_13389 : a_13341 ∈ L_13371 := g_13374.1.1 a_13341 m_13366
    have lt_13392 := (g_13374.2.2.1 a_13251 m_13355).2
    have m_13391 : a_13251 ∈ L_13371 := g_13374.1.1 a_13251 m_13355
    have fb_13393 : sta G F_13368 n_13267 0 st0 := fb_13358.keep (fun i hi => o_13370 (n_13267 i) (by (have := gb_13280 i (by omega); have := lb_13297 i (by omega); have := lb_13326 i (by omega); have := lb_13360 i (by omega); omega)))
    have lb_13396 : ∀ i, i < 16 → n_13267 i < a_13373 := fun i h1 => (g_13374.2.2.1 ((n_13267 i)) (mb_13359 i h1)).2
    have fb_13394 : sta G F_13372 n_13267 0 st0 := fb_13393.keep (fun i hi => (g_13374.2.2.1 ((n_13267 i)) (mb_13359 i (by omega))).1)
    have mb_13395 : ∀ i, i < 16 → n_13267 i ∈ L_13371 := fun i h1 => g_13374.1.1 ((n_13267 i)) (mb_13359 i h1)
    have fb_13397 : ∀ k, k < 6 → sta G F_13368 (nn_13309 k) 0 st0 := fun k hk => (fb_13362 k hk).keep (fun i hi => o_13370 (nn_13309 k i) (by (have := gb_13335 k i hk (by omega); have := lb_13364 k i hk (by omega); omega)))
    have lb_13400 : ∀ k i, k < 6 → i < 16 → nn_13309 k i < a_13373 := fun k i h1 h2 => (g_13374.2.2.1 ((nn_13309 k i)) (mb_13363 k i h1 h2)).2
    have fb_13398 : ∀ k, k < 6 → sta G F_13372 (nn_13309 k) 0 st0 := fun k hk => (fb_13397 k hk).keep (fun i hi => (g_13374.2.2.1 ((nn_13309 k i)) (mb_13363 k i hk (by omega))).1)
    have mb_13399 : ∀ k i, k < 6 → i < 16 → nn_13309 k i ∈ L_13371 := fun k i h1 h2 => g_13374.1.1 ((nn_13309 k i)) (mb_13363 k i h1 h2)
    have hg_13401 := hg_13365.step g_13374.1 hw.2.2.1
    have C0 := C0.grow g_13374.1 hw.2.2.1
    have hw := hw1
    have m_13402 : a_13373 ∈ L_13371 := g_13374.2.2.2.1
    have f_13403 : F_13372 a_13373 = .inr (2, [.int (nI (0)), .null, .null]) := g_13374.2.1
    refine lv_dup hx hb dX5_init_49 rfl ?_
    refine q_calln hw (fun L1 F1 h => h.1) (q_runI (As := []) (c_X2_init l G L_13371 F_13372 a_13373 m_13402 f_13403) C0 hOv hw iw_X5_29 rfl hl.1 rfl (Nat.le_of_ble_eq_true rfl) dX5_init_50 ⟨by decide, by decide⟩ ⟨by decide, by decide⟩) (fun L_13404 F_13405 H_13407 locs hz_13408 hw1 hp_13406 => ?_)
    have hgs_13409 : s.heap.size ≤ H_13375.size := hw.2.2.1
    obtain ⟨g_13410, n_13411, e_13412, fb_13413, hm_13414, hj_13415, hf_13416⟩ := hp_13406
    have lt_13417 := hw.lt m_13377
    have lt_13418 := hw.lt m_13391
    have lt_13419 := hw.lt m_13381
    have lt_13420 := hw.lt m_13385
    have lt_13421 := hw.lt m_13389
    have lt_13422 := hw.lt m_13402
    have f_13423 : F_13405 a = .inr (5, [.ref a_13251, .ref a_13286, .ref a_13341, .null, .null, .null, .null, .null]) := (hf_13416 a m_13377 (by omega)).trans f_13376
    have f_13424 : F_13405 a_13286 = .inr (0, [.ref x_13308, .int (nI (0))]) := (hf_13416 a_13286 m_13381 (by omega)).trans f_13380
    have f_13425 : F_13405 x_13308 = .inl (G.2 3, 6, .inr (.inr (.inr (.inr fa_13331)))) := (hf_13416 x_13308 m_13385 (by omega)).trans f_13384
    have f_13426 : F_13405 a_13341 = .inl (G.2 2, 2, .inr (.inr (.inr (.inr ((fun _ => none)))))) := (hf_13416 a_13341 m_13389 (by omega)).trans f_13388
    have lb_13429 : ∀ i, i < 16 → n_13267 i < H_13375.size := fun i h1 => hw.lt (mb_13395 i h1)
    have fb_13427 : sta G F_13405 n_13267 0 st0 := fb_13394.keep (fun i hi => hf_13416 (n_13267 i) (mb_13395 i (by omega)) (by (have := gb_13280 i (by omega); have := lb_13297 i (by omega); have := lb_13326 i (by omega); have := lb_13360 i (by omega); have := lb_13396 i (by omega); omega)))
    have mb_13428 : ∀ i, i < 16 → n_13267 i ∈ L_13404 := fun i h1 => g_13410.1 (n_13267 i) (mb_13395 i h1)
    have lb_13432 : ∀ k i, k < 6 → i < 16 → nn_13309 k i < H_13375.size := fun k i h1 h2 => hw.lt (mb_13399 k i h1 h2)
    have fb_13430 : ∀ k, k < 6 → sta G F_13405 (nn_13309 k) 0 st0 := fun k hk => (fb_13398 k hk).keep (fun i hi => hf_13416 (nn_13309 k i) (mb_13399 k i hk (by omega)) (by (have := gb_13335 k i hk (by omega); have := lb_13364 k i hk (by omega); have := lb_13400 k i hk (by omega); omega)))
    have mb_13431 : ∀ k i, k < 6 → i < 16 → nn_13309 k i ∈ L_13404 := fun k i h1 h2 => g_13410.1 (nn_13309 k i) (mb_13399 k i h1 h2)
    have m_13433 : a ∈ L_13404 := g_13410.1 a m_13377
    have m_13434 : a_13251 ∈ L_13404 := g_13410.1 a_13251 m_13391
    have m_13435 : a_13286 ∈ L_13404 := g_13410.1 a_13286 m_13381
    have m_13436 : x_13308 ∈ L_13404 := g_13410.1 x_13308 m_13385
    have m_13437 : a_13341 ∈ L_13404 := g_13410.1 a_13341 m_13389
    have m_13438 : a_13373 ∈ L_13404 := g_13410.1 a_13373 m_13402
    have hg_13439 := hg_13401.step g_13410 hw.2.2.1
    have C0 := C0.grow g_13410 hw.2.2.1
    have hw := hw1
    have mb_13440 : ∀ i, 1 ≤ i → i < 16 → n_13411 i ∈ L_13404 := fun i h1 h2 => by
      by_cases ei : i = 1
      · rw [ei, e_13412]; exact m_13438
      · exact (hm_13414 i (by omega) h2).2
    have gb_13441 : ∀ i, 1 ≤ i → i < 16 → a_13373 ≤ n_13411 i := fun i h1 h2 => by
      by_cases ei : i = 1
      · rw [ei, e_13412]; exact Nat.le_refl _
      · have := (hm_13414 i (by omega) h2).1; omega
    refine q_aast C0 hw m_13437 2 2 rfl rfl f_13426 0 (by decide) (by decide) m_13438 ((congrArg F_13405 e_13412.symm).trans (show F_13405 (n_13411 1) = _ from fb_13413.1)) dX5_init_53 (fun F_13442 H locs hw f_13443 o_13444 => ?_)
    refine lv_iinc (v := nI 1) (lv' := [(1, .int (nI (1))), (0, .ref a)]) hx hb dX5_init_54 hl (k := 0) rfl (by decide) (by decide) rfl (fun ls hl => ?_)
    refine lv_goto (tgt := 36) hx hb dX5_init_57 (by decide) ?_
    refine lv_iload_n hx hb dX5_init_36 rfl (lv_at hl 0 rfl) ?_
    refine lv_iconst (v := nI 2) hx hb dX5_init_37 (by decide) ?_
    refine n_icmp_ge (tgt := 60) hx hb dX5_init_38 (by decide) (by decide) (by decide) (fun c_38 => ?_) (fun c_38 => ?_)
    · skip
      exact absurd c_38 (by omega)
    · skip
      refine lv_aload_n hx hb dX5_init_41 rfl (lv_at hl 1 rfl) ?_
      have f_13445 : F_13442 a = .inr (5, [.ref a_13251, .ref a_13286, .ref a_13341, .null, .null, .null, .null, .null]) := (o_13444 a (by omega)).trans f_13423
      refine q_get C0 hw m_13433 f_13445 fw_X5_25 rfl dX5_init_42 ?_
      refine lv_iload_n hx hb dX5_init_45 rfl (lv_at hl 0 rfl) ?_
      refine k_new C0 hw nw_X5_23 (Nat.le_of_ble_eq_true rfl) (Nat.le_of_ble_eq_true rfl) dX5_init_46 (fun L_13446 F_13447 a_13448 H_13450 g_13449 hw1 => ?_)
      have hge_a_13448 : s.heap.size ≤ a_13448 := Nat.le_trans hw.2.2.1 g_13449.2.2.2.2
      have f_13451 : F_13447 a = .inr (5, [.ref a_13251, .ref a_13286, .ref a_13341, .null, .null, .null, .null, .null]) := (g_13449.2.2.1 a m_13433).1.trans f_13445
      have lt_13453 := (g_13449.2.2.1 a m_13433).2
      have m_13452 : a ∈ L_13446 := g_13449.1.1 a m_13433
      have f_13454 : F_13442 a_13286 = .inr (0, [.ref x_13308, .int (nI (0))]) := (o_13444 a_13286 (by omega)).trans f_13424
      have f_13455 : F_13447 a_13286 = .inr (0, [.ref x_13308, .int (nI (0))]) := (g_13449.2.2.1 a_13286 m_13435).1.trans f_13454
      have lt_13457 := (g_13449.2.2.1 a_13286 m_13435).2
      have m_13456 : a_13286 ∈ L_13446 := g_13449.1.1 a_13286 m_13435
      have f_13458 : F_13442 x_13308 = .inl (G.2 3, 6, .inr (.inr (.inr (.inr fa_13331)))) := (o_13444 x_13308 (by omega)).trans f_13425
      have f_13459 : F_13447 x_13308 = .inl (G.2 3, 6, .inr (.inr (.inr (.inr fa_13331)))) := (g_13449.2.2.1 x_13308 m_13436).1.trans f_13458
      have lt_13461 := (g_13449.2.2.1 x_13308 m_13436).2
      have m_13460 : x_13308 ∈ L_13446 := g_13449.1.1 x_13308 m_13436
      have f_13462 : F_13447 a_13341 = .inl (G.2 2, 2, .inr (.inr (.inr (.inr ((va_up ((fun _ => none)) 0 (some a_13373))))))) := (g_13449.2.2.1 a_13341 m_13437).1.trans f_13443
      have lt_13464 := (g_13449.2.2.1 a_13341 m_13437).2
      have m_13463 : a_13341 ∈ L_13446 := g_13449.1.1 a_13341 m_13437
      have lt_13466 := (g_13449.2.2.1 a_13251 m_13434).2
      have m_13465 : a_13251 ∈ L_13446 := g_13449.1.1 a_13251 m_13434
      have lt_13468 := (g_13449.2.2.1 a_13373 m_13438).2
      have m_13467 : a_13373 ∈ L_13446 := g_13449.1.1 a_13373 m_13438
      have fb_13469 : sta G F_13442 n_13267 0 st0 := fb_13427.keep (fun i hi => o_13444 (n_13267 i) (by (have := gb_13280 i (by omega); have := lb_13297 i (by omega); have := lb_13326 i (by omega); have := lb_13360 i (by omega); have := lb_13396 i (by omega); have := lb_13429 i (by omega); omega)))
      have lb_13472 : ∀ i, i < 16 → n_13267 i < a_13448 := fun i h1 => (g_13449.2.2.1 ((n_13267 i)) (mb_13428 i h1)).2
      have fb_13470 : sta G F_13447 n_13267 0 st0 := fb_13469.keep (fun i hi => (g_13449.2.2.1 ((n_13267 i)) (mb_13428 i (by omega))).1)
      have mb_13471 : ∀ i, i < 16 → n_13267 i ∈ L_13446 := fun i h1 => g_13449.1.1 ((n_13267 i)) (mb_13428 i h1)
      have fb_13473 : ∀ k, k < 6 → sta G F_13442 (nn_13309 k) 0 st0 := fun k hk => (fb_13430 k hk).keep (fun i hi => o_13444 (nn_13309 k i) (by (have := gb_13335 k i hk (by omega); have := lb_13364 k i hk (by omega); have := lb_13400 k i hk (by omega); have := lb_13432 k i hk (by omega); omega)))
      have lb_13476 : ∀ k i, k < 6 → i < 16 → nn_13309 k i < a_13448 := fun k i h1 h2 => (g_13449.2.2.1 ((nn_13309 k i)) (mb_13431 k i h1 h2)).2
      have fb_13474 : ∀ k, k < 6 → sta G F_13447 (nn_13309 k) 0 st0 := fun k hk => (fb_13473 k hk).keep (fun i hi => (g_13449.2.2.1 ((nn_13309 k i)) (mb_13431 k i hk (by omega))).1)
      have mb_13475 : ∀ k i, k < 6 → i < 16 → nn_13309 k i ∈ L_13446 := fun k i h1 h2 => g_13449.1.1 ((nn_13309 k i)) (mb_13431 k i h1 h2)
      have fb_13477 : shp G F_13442 n_13411 0 5 r0 := fb_13413.keep (fun i hi => o_13444 (n_13411 i) (by (have := gb_13441 i (by omega) (by omega); omega)))
      have lb_13480 : ∀ i, 1 ≤ i → i < 16 → n_13411 i < a_13448 := fun i h1 h2 => (g_13449.2.2.1 ((n_13411 i)) (mb_13440 i h1 h2)).2
      have fb_13478 : shp G F_13447 n_13411 0 5 r0 := fb_13477.keep (fun i hi => (g_13449.2.2.1 ((n_13411 i)) (mb_13440 i (by omega) (by omega))).1)
      have mb_13479 : ∀ i, 1 ≤ i → i < 16 → n_13411 i ∈ L_13446 := fun i h1 h2 => g_13449.1.1 ((n_13411 i)) (mb_13440 i h1 h2)
      have hg_13481 := hg_13439.step g_13449.1 hw.2.2.1
      have C0 := C0.grow g_13449.1 hw.2.2.1
      have hw := hw1
      have m_13482 : a_13448 ∈ L_13446 := g_13449.2.2.2.1
      have f_13483 : F_13447 a_13448 = .inr (2, [.int (nI (0)), .null, .null]) := g_13449.2.1
      refine lv_dup hx hb dX5_init_49 rfl ?_
      refine q_calln hw (fun L1 F1 h => h.1) (q_runI (As := []) (c_X2_init l G L_13446 F_13447 a_13448 m_13482 f_13483) C0 hOv hw iw_X5_29 rfl hl.1 rfl (Nat.le_of_ble_eq_true rfl) dX5_init_50 ⟨by decide, by decide⟩ ⟨by decide, by decide⟩) (fun L_13484 F_13485 H_13487 locs hz_13488 hw1 hp_13486 => ?_)
      have hgs_13489 : s.heap.size ≤ H_13450.size := hw.2.2.1
      obtain ⟨g_13490, n_13491, e_13492, fb_13493, hm_13494, hj_13495, hf_13496⟩ := hp_13486
      have lt_13497 := hw.lt m_13452
      have lt_13498 := hw.lt m_13465
      have lt_13499 := hw.lt m_13456
      have lt_13500 := hw.lt m_13460
      have lt_13501 := hw.lt m_13463
      have lt_13502 := hw.lt m_13467
      have lt_13503 := hw.lt m_13482
      have f_13504 : F_13485 a = .inr (5, [.ref a_13251, .ref a_13286, .ref a_13341, .null, .null, .null, .null, .null]) := (hf_13496 a m_13452 (by omega)).trans f_13451
      have f_13505 : F_13485 a_13286 = .inr (0, [.ref x_13308, .int (nI (0))]) := (hf_13496 a_13286 m_13456 (by omega)).trans f_13455
      have f_13506 : F_13485 x_13308 = .inl (G.2 3, 6, .inr (.inr (.inr (.inr fa_13331)))) := (hf_13496 x_13308 m_13460 (by omega)).trans f_13459
      have f_13507 : F_13485 a_13341 = .inl (G.2 2, 2, .inr (.inr (.inr (.inr ((va_up ((fun _ => none)) 0 (some a_13373))))))) := (hf_13496 a_13341 m_13463 (by omega)).trans f_13462
      have lb_13510 : ∀ i, i < 16 → n_13267 i < H_13450.size := fun i h1 => hw.lt (mb_13471 i h1)
      have fb_13508 : sta G F_13485 n_13267 0 st0 := fb_13470.keep (fun i hi => hf_13496 (n_13267 i) (mb_13471 i (by omega)) (by (have := gb_13280 i (by omega); have := lb_13297 i (by omega); have := lb_13326 i (by omega); have := lb_13360 i (by omega); have := lb_13396 i (by omega); have := lb_13429 i (by omega); have := lb_13472 i (by omega); omega)))
      have mb_13509 : ∀ i, i < 16 → n_13267 i ∈ L_13484 := fun i h1 => g_13490.1 (n_13267 i) (mb_13471 i h1)
      have lb_13513 : ∀ k i, k < 6 → i < 16 → nn_13309 k i < H_13450.size := fun k i h1 h2 => hw.lt (mb_13475 k i h1 h2)
      have fb_13511 : ∀ k, k < 6 → sta G F_13485 (nn_13309 k) 0 st0 := fun k hk => (fb_13474 k hk).keep (fun i hi => hf_13496 (nn_13309 k i) (mb_13475 k i hk (by omega)) (by (have := gb_13335 k i hk (by omega); have := lb_13364 k i hk (by omega); have := lb_13400 k i hk (by omega); have := lb_13432 k i hk (by omega); have := lb_13476 k i hk (by omega); omega)))
      have mb_13512 : ∀ k i, k < 6 → i < 16 → nn_13309 k i ∈ L_13484 := fun k i h1 h2 => g_13490.1 (nn_13309 k i) (mb_13475 k i h1 h2)
      have lb_13516 : ∀ i, 1 ≤ i → i < 16 → n_13411 i < H_13450.size := fun i h1 h2 => hw.lt (mb_13479 i h1 h2)
      have fb_13514 : shp G F_13485 n_13411 0 5 r0 := fb_13478.keep (fun i hi => hf_13496 (n_13411 i) (mb_13479 i (by omega) (by omega)) (by (have := gb_13441 i (by omega) (by omega); have := lb_13480 i (by omega) (by omega); omega)))
      have mb_13515 : ∀ i, 1 ≤ i → i < 16 → n_13411 i ∈ L_13484 := fun i h1 h2 => g_13490.1 (n_13411 i) (mb_13479 i h1 h2)
      have m_13517 : a ∈ L_13484 := g_13490.1 a m_13452
      have m_13518 : a_13251 ∈ L_13484 := g_13490.1 a_13251 m_13465
      have m_13519 : a_13286 ∈ L_13484 := g_13490.1 a_13286 m_13456
      have m_13520 : x_13308 ∈ L_13484 := g_13490.1 x_13308 m_13460
      have m_13521 : a_13341 ∈ L_13484 := g_13490.1 a_13341 m_13463
      have m_13522 : a_13373 ∈ L_13484 := g_13490.1 a_13373 m_13467
      have m_13523 : a_13448 ∈ L_13484 := g_13490.1 a_13448 m_13482
      have hg_13524 := hg_13481.step g_13490 hw.2.2.1
      have C0 := C0.grow g_13490 hw.2.2.1
      have hw := hw1
      have mb_13525 : ∀ i, 1 ≤ i → i < 16 → n_13491 i ∈ L_13484 := fun i h1 h2 => by
        by_cases ei : i = 1
        · rw [ei, e_13492]; exact m_13523
        · exact (hm_13494 i (by omega) h2).2
      have gb_13526 : ∀ i, 1 ≤ i → i < 16 → a_13448 ≤ n_13491 i := fun i h1 h2 => by
        by_cases ei : i = 1
        · rw [ei, e_13492]; exact Nat.le_refl _
        · have := (hm_13494 i (by omega) h2).1; omega
      refine q_aast C0 hw m_13521 2 2 rfl rfl f_13507 1 (by decide) (by decide) m_13523 ((congrArg F_13485 e_13492.symm).trans (show F_13485 (n_13491 1) = _ from fb_13493.1)) dX5_init_53 (fun F_13527 H locs hw f_13528 o_13529 => ?_)
      refine lv_iinc (v := nI 2) (lv' := [(1, .int (nI (2))), (0, .ref a)]) hx hb dX5_init_54 hl (k := 0) rfl (by decide) (by decide) rfl (fun ls hl => ?_)
      refine lv_goto (tgt := 36) hx hb dX5_init_57 (by decide) ?_
      refine lv_iload_n hx hb dX5_init_36 rfl (lv_at hl 0 rfl) ?_
      refine lv_iconst (v := nI 2) hx hb dX5_init_37 (by decide) ?_
      refine n_icmp_ge (tgt := 60) hx hb dX5_init_38 (by decide) (by decide) (by decide) (fun c_38 => ?_) (fun c_38 => ?_)
      · skip
        refine lv_aload_n hx hb dX5_init_60 rfl (lv_at hl 1 rfl) ?_
        refine lv_iconst (v := nI 2) hx hb dX5_init_61 (by decide) ?_
        refine k_newz C0 hw (by decide) (by decide) (Nat.le_of_ble_eq_true rfl) (Nat.le_of_ble_eq_true rfl) dX5_init_62 (fun L_13530 F_13531 a_13532 H_13534 g_13533 hw1 => ?_)
        have hge_a_13532 : s.heap.size ≤ a_13532 := Nat.le_trans hw.2.2.1 g_13533.2.2.2.2
        have f_13535 : F_13527 a = .inr (5, [.ref a_13251, .ref a_13286, .ref a_13341, .null, .null, .null, .null, .null]) := (o_13529 a (by omega)).trans f_13504
        have f_13536 : F_13531 a = .inr (5, [.ref a_13251, .ref a_13286, .ref a_13341, .null, .null, .null, .null, .null]) := (g_13533.2.2.1 a m_13517).1.trans f_13535
        have lt_13538 := (g_13533.2.2.1 a m_13517).2
        have m_13537 : a ∈ L_13530 := g_13533.1.1 a m_13517
        have f_13539 : F_13527 a_13286 = .inr (0, [.ref x_13308, .int (nI (0))]) := (o_13529 a_13286 (by omega)).trans f_13505
        have f_13540 : F_13531 a_13286 = .inr (0, [.ref x_13308, .int (nI (0))]) := (g_13533.2.2.1 a_13286 m_13519).1.trans f_13539
        have lt_13542 := (g_13533.2.2.1 a_13286 m_13519).2
        have m_13541 : a_13286 ∈ L_13530 := g_13533.1.1 a_13286 m_13519
        have f_13543 : F_13527 x_13308 = .inl (G.2 3, 6, .inr (.inr (.inr (.inr fa_13331)))) := (o_13529 x_13308 (by omega)).trans f_13506
        have f_13544 : F_13531 x_13308 = .inl (G.2 3, 6, .inr (.inr (.inr (.inr fa_13331)))) := (g_13533.2.2.1 x_13308 m_13520).1.trans f_13543
        have lt_13546 := (g_13533.2.2.1 x_13308 m_13520).2
        have m_13545 : x_13308 ∈ L_13530 := g_13533.1.1 x_13308 m_13520
        have f_13547 : F_13531 a_13341 = .inl (G.2 2, 2, .inr (.inr (.inr (.inr ((va_up ((va_up ((fun _ => none)) 0 (some a_13373))) 1 (some a_13448))))))) := (g_13533.2.2.1 a_13341 m_13521).1.trans f_13528
        have lt_13549 := (g_13533.2.2.1 a_13341 m_13521).2
        have m_13548 : a_13341 ∈ L_13530 := g_13533.1.1 a_13341 m_13521
        have lt_13551 := (g_13533.2.2.1 a_13251 m_13518).2
        have m_13550 : a_13251 ∈ L_13530 := g_13533.1.1 a_13251 m_13518
        have lt_13553 := (g_13533.2.2.1 a_13373 m_13522).2
        have m_13552 : a_13373 ∈ L_13530 := g_13533.1.1 a_13373 m_13522
        have lt_13555 := (g_13533.2.2.1 a_13448 m_13523).2
        have m_13554 : a_13448 ∈ L_13530 := g_13533.1.1 a_13448 m_13523
        have fb_13556 : sta G F_13527 n_13267 0 st0 := fb_13508.keep (fun i hi => o_13529 (n_13267 i) (by (have := gb_13280 i (by omega); have := lb_13297 i (by omega); have := lb_13326 i (by omega); have := lb_13360 i (by omega); have := lb_13396 i (by omega); have := lb_13429 i (by omega); have := lb_13472 i (by omega); have := lb_13510 i (by omega); omega)))
        have lb_13559 : ∀ i, i < 16 → n_13267 i < a_13532 := fun i h1 => (g_13533.2.2.1 ((n_13267 i)) (mb_13509 i h1)).2
        have fb_13557 : sta G F_13531 n_13267 0 st0 := fb_13556.keep (fun i hi => (g_13533.2.2.1 ((n_13267 i)) (mb_13509 i (by omega))).1)
        have mb_13558 : ∀ i, i < 16 → n_13267 i ∈ L_13530 := fun i h1 => g_13533.1.1 ((n_13267 i)) (mb_13509 i h1)
        have fb_13560 : ∀ k, k < 6 → sta G F_13527 (nn_13309 k) 0 st0 := fun k hk => (fb_13511 k hk).keep (fun i hi => o_13529 (nn_13309 k i) (by (have := gb_13335 k i hk (by omega); have := lb_13364 k i hk (by omega); have := lb_13400 k i hk (by omega); have := lb_13432 k i hk (by omega); have := lb_13476 k i hk (by omega); have := lb_13513 k i hk (by omega); omega)))
        have lb_13563 : ∀ k i, k < 6 → i < 16 → nn_13309 k i < a_13532 := fun k i h1 h2 => (g_13533.2.2.1 ((nn_13309 k i)) (mb_13512 k i h1 h2)).2
        have fb_13561 : ∀ k, k < 6 → sta G F_13531 (nn_13309 k) 0 st0 := fun k hk => (fb_13560 k hk).keep (fun i hi => (g_13533.2.2.1 ((nn_13309 k i)) (mb_13512 k i hk (by omega))).1)
        have mb_13562 : ∀ k i, k < 6 → i < 16 → nn_13309 k i ∈ L_13530 := fun k i h1 h2 => g_13533.1.1 ((nn_13309 k i)) (mb_13512 k i h1 h2)
        have fb_13564 : shp G F_13527 n_13411 0 5 r0 := fb_13514.keep (fun i hi => o_13529 (n_13411 i) (by (have := gb_13441 i (by omega) (by omega); have := lb_13480 i (by omega) (by omega); have := lb_13516 i (by omega) (by omega); omega)))
        have lb_13567 : ∀ i, 1 ≤ i → i < 16 → n_13411 i < a_13532 := fun i h1 h2 => (g_13533.2.2.1 ((n_13411 i)) (mb_13515 i h1 h2)).2
        have fb_13565 : shp G F_13531 n_13411 0 5 r0 := fb_13564.keep (fun i hi => (g_13533.2.2.1 ((n_13411 i)) (mb_13515 i (by omega) (by omega))).1)
        have mb_13566 : ∀ i, 1 ≤ i → i < 16 → n_13411 i ∈ L_13530 := fun i h1 h2 => g_13533.1.1 ((n_13411 i)) (mb_13515 i h1 h2)
        have fb_13568 : shp G F_13527 n_13491 0 5 r0 := fb_13493.keep (fun i hi => o_13529 (n_13491 i) (by (have := gb_13526 i (by omega) (by omega); omega)))
        have lb_13571 : ∀ i, 1 ≤ i → i < 16 → n_13491 i < a_13532 := fun i h1 h2 => (g_13533.2.2.1 ((n_13491 i)) (mb_13525 i h1 h2)).2
        have fb_13569 : shp G F_13531 n_13491 0 5 r0 := fb_13568.keep (fun i hi => (g_13533.2.2.1 ((n_13491 i)) (mb_13525 i (by omega) (by omega))).1)
        have mb_13570 : ∀ i, 1 ≤ i → i < 16 → n_13491 i ∈ L_13530 := fun i h1 h2 => g_13533.1.1 ((n_13491 i)) (mb_13525 i h1 h2)
        have hg_13572 := hg_13524.step g_13533.1 hw.2.2.1
        have C0 := C0.grow g_13533.1 hw.2.2.1
        have hw := hw1
        have m_13573 : a_13532 ∈ L_13530 := g_13533.2.2.2.1
        have f_13574 : F_13531 a_13532 = .inl (G.2 1, 2, .inl ((fun _ => nI 0))) := g_13533.2.1
        refine q_putF C0 hnm hw m_13537 f_13536 fw_X5_30 pw_X5_3 rfl rfl rfl rfl (Nat.le_of_ble_eq_true rfl) dX5_init_64 (fun F_13575 H locs hw f_13576 o_13577 => ?_)
        have f_13576 : F_13575 a = .inr (5, [.ref a_13251, .ref a_13286, .ref a_13341, .ref a_13532, .null, .null, .null, .null]) := f_13576
        refine lv_aload_n hx hb dX5_init_67 rfl (lv_at hl 1 rfl) ?_
        refine k_new C0 hw nw_X5_34 (Nat.le_of_ble_eq_true rfl) (Nat.le_of_ble_eq_true rfl) dX5_init_68 (fun L_13578 F_13579 a_13580 H_13582 g_13581 hw1 => ?_)
        have hge_a_13580 : s.heap.size ≤ a_13580 := Nat.le_trans hw.2.2.1 g_13581.2.2.2.2
        have f_13583 : F_13579 a = .inr (5, [.ref a_13251, .ref a_13286, .ref a_13341, .ref a_13532, .null, .null, .null, .null]) := (g_13581.2.2.1 a m_13537).1.trans f_13576
        have lt_13585 := (g_13581.2.2.1 a m_13537).2
        have m_13584 : a ∈ L_13578 := g_13581.1.1 a m_13537
        have f_13586 : F_13575 a_13286 = .inr (0, [.ref x_13308, .int (nI (0))]) := (o_13577 a_13286 (by omega)).trans f_13540
        have f_13587 : F_13579 a_13286 = .inr (0, [.ref x_13308, .int (nI (0))]) := (g_13581.2.2.1 a_13286 m_13541).1.trans f_13586
        have lt_13589 := (g_13581.2.2.1 a_13286 m_13541).2
        have m_13588 : a_13286 ∈ L_13578 := g_13581.1.1 a_13286 m_13541
        have f_13590 : F_13575 x_13308 = .inl (G.2 3, 6, .inr (.inr (.inr (.inr fa_13331)))) := (o_13577 x_13308 (by omega)).trans f_13544
        have f_13591 : F_13579 x_13308 = .inl (G.2 3, 6, .inr (.inr (.inr (.inr fa_13331)))) := (g_13581.2.2.1 x_13308 m_13545).1.trans f_13590
        have lt_13593 := (g_13581.2.2.1 x_13308 m_13545).2
        have m_13592 : x_13308 ∈ L_13578 := g_13581.1.1 x_13308 m_13545
        have f_13594 : F_13575 a_13341 = .inl (G.2 2, 2, .inr (.inr (.inr (.inr ((va_up ((va_up ((fun _ => none)) 0 (some a_13373))) 1 (some a_13448))))))) := (o_13577 a_13341 (by omega)).trans f_13547
        have f_13595 : F_13579 a_13341 = .inl (G.2 2, 2, .inr (.inr (.inr (.inr ((va_up ((va_up ((fun _ => none)) 0 (some a_13373))) 1 (some a_13448))))))) := (g_13581.2.2.1 a_13341 m_13548).1.trans f_13594
        have lt_13597 := (g_13581.2.2.1 a_13341 m_13548).2
        have m_13596 : a_13341 ∈ L_13578 := g_13581.1.1 a_13341 m_13548
        have f_13598 : F_13575 a_13532 = .inl (G.2 1, 2, .inl ((fun _ => nI 0))) := (o_13577 a_13532 (by omega)).trans f_13574
        have f_13599 : F_13579 a_13532 = .inl (G.2 1, 2, .inl ((fun _ => nI 0))) := (g_13581.2.2.1 a_13532 m_13573).1.trans f_13598
        have lt_13601 := (g_13581.2.2.1 a_13532 m_13573).2
        have m_13600 : a_13532 ∈ L_13578 := g_13581.1.1 a_13532 m_13573
        have lt_13603 := (g_13581.2.2.1 a_13251 m_13550).2
        have m_13602 : a_13251 ∈ L_13578 := g_13581.1.1 a_13251 m_13550
        have lt_13605 := (g_13581.2.2.1 a_13373 m_13552).2
        have m_13604 : a_13373 ∈ L_13578 := g_13581.1.1 a_13373 m_13552
        have lt_13607 := (g_13581.2.2.1 a_13448 m_13554).2
        have m_13606 : a_13448 ∈ L_13578 := g_13581.1.1 a_13448 m_13554
        have fb_13608 : sta G F_13575 n_13267 0 st0 := fb_13557.keep (fun i hi => o_13577 (n_13267 i) (by (have := gb_13280 i (by omega); have := lb_13297 i (by omega); have := lb_13326 i (by omega); have := lb_13360 i (by omega); have := lb_13396 i (by omega); have := lb_13429 i (by omega); have := lb_13472 i (by omega); have := lb_13510 i (by omega); have := lb_13559 i (by omega); omega)))
        have lb_13611 : ∀ i, i < 16 → n_13267 i < a_13580 := fun i h1 => (g_13581.2.2.1 ((n_13267 i)) (mb_13558 i h1)).2
        have fb_13609 : sta G F_13579 n_13267 0 st0 := fb_13608.keep (fun i hi => (g_13581.2.2.1 ((n_13267 i)) (mb_13558 i (by omega))).1)
        have mb_13610 : ∀ i, i < 16 → n_13267 i ∈ L_13578 := fun i h1 => g_13581.1.1 ((n_13267 i)) (mb_13558 i h1)
        have fb_13612 : ∀ k, k < 6 → sta G F_13575 (nn_13309 k) 0 st0 := fun k hk => (fb_13561 k hk).keep (fun i hi => o_13577 (nn_13309 k i) (by (have := gb_13335 k i hk (by omega); have := lb_13364 k i hk (by omega); have := lb_13400 k i hk (by omega); have := lb_13432 k i hk (by omega); have := lb_13476 k i hk (by omega); have := lb_13513 k i hk (by omega); have := lb_13563 k i hk (by omega); omega)))
        have lb_13615 : ∀ k i, k < 6 → i < 16 → nn_13309 k i < a_13580 := fun k i h1 h2 => (g_13581.2.2.1 ((nn_13309 k i)) (mb_13562 k i h1 h2)).2
        have fb_13613 : ∀ k, k < 6 → sta G F_13579 (nn_13309 k) 0 st0 := fun k hk => (fb_13612 k hk).keep (fun i hi => (g_13581.2.2.1 ((nn_13309 k i)) (mb_13562 k i hk (by omega))).1)
        have mb_13614 : ∀ k i, k < 6 → i < 16 → nn_13309 k i ∈ L_13578 := fun k i h1 h2 => g_13581.1.1 ((nn_13309 k i)) (mb_13562 k i h1 h2)
        have fb_13616 : shp G F_13575 n_13411 0 5 r0 := fb_13565.keep (fun i hi => o_13577 (n_13411 i) (by (have := gb_13441 i (by omega) (by omega); have := lb_13480 i (by omega) (by omega); have := lb_13516 i (by omega) (by omega); have := lb_13567 i (by omega) (by omega); omega)))
        have lb_13619 : ∀ i, 1 ≤ i → i < 16 → n_13411 i < a_13580 := fun i h1 h2 => (g_13581.2.2.1 ((n_13411 i)) (mb_13566 i h1 h2)).2
        have fb_13617 : shp G F_13579 n_13411 0 5 r0 := fb_13616.keep (fun i hi => (g_13581.2.2.1 ((n_13411 i)) (mb_13566 i (by omega) (by omega))).1)
        have mb_13618 : ∀ i, 1 ≤ i → i < 16 → n_13411 i ∈ L_13578 := fun i h1 h2 => g_13581.1.1 ((n_13411 i)) (mb_13566 i h1 h2)
        have fb_13620 : shp G F_13575 n_13491 0 5 r0 := fb_13569.keep (fun i hi => o_13577 (n_13491 i) (by (have := gb_13526 i (by omega) (by omega); have := lb_13571 i (by omega) (by omega); omega)))
        have lb_13623 : ∀ i, 1 ≤ i → i < 16 → n_13491 i < a_13580 := fun i h1 h2 => (g_13581.2.2.1 ((n_13491 i)) (mb_13570 i h1 h2)).2
        have fb_13621 : shp G F_13579 n_13491 0 5 r0 := fb_13620.keep (fun i hi => (g_13581.2.2.1 ((n_13491 i)) (mb_13570 i (by omega) (by omega))).1)
        have mb_13622 : ∀ i, 1 ≤ i → i < 16 → n_13491 i ∈ L_13578 := fun i h1 h2 => g_13581.1.1 ((n_13491 i)) (mb_13570 i h1 h2)
        have hg_13624 := hg_13572.step g_13581.1 hw.2.2.1
        have C0 := C0.grow g_13581.1 hw.2.2.1
        have hw := hw1
        have m_13625 : a_13580 ∈ L_13578 := g_13581.2.2.2.1
        have f_13626 : F_13579 a_13580 = .inr (4, [.null, .int (nI (0))]) := g_13581.2.1
        refine lv_dup hx hb dX5_init_71 rfl ?_
        refine q_calln hw (fun L1 F1 h => h.1) (q_runI (As := []) (c_X4_init l G L_13578 F_13579 a_13580 m_13625 f_13626) C0 hOv hw iw_X5_36 rfl hl.1 rfl (Nat.le_of_ble_eq_true rfl) dX5_init_72 ⟨by decide, by decide⟩ ⟨by decide, by decide⟩) (fun L_13627 F_13628 H_13630 locs hz_13631 hw1 hp_13629 => ?_)
        have hgs_13632 : s.heap.size ≤ H_13582.size := hw.2.2.1
        obtain ⟨g_13633, x_13634, f_13635, f_13636, hsx_13637, m_13638, hf_13639⟩ := hp_13629
        have lt_13640 := hw.lt m_13584
        have lt_13641 := hw.lt m_13602
        have lt_13642 := hw.lt m_13588
        have lt_13643 := hw.lt m_13592
        have lt_13644 := hw.lt m_13596
        have lt_13645 := hw.lt m_13604
        have lt_13646 := hw.lt m_13606
        have lt_13647 := hw.lt m_13600
        have lt_13648 := hw.lt m_13625
        have f_13649 : F_13628 a = .inr (5, [.ref a_13251, .ref a_13286, .ref a_13341, .ref a_13532, .null, .null, .null, .null]) := (hf_13639 a m_13584 (by omega)).trans f_13583
        have f_13650 : F_13628 a_13286 = .inr (0, [.ref x_13308, .int (nI (0))]) := (hf_13639 a_13286 m_13588 (by omega)).trans f_13587
        have f_13651 : F_13628 x_13308 = .inl (G.2 3, 6, .inr (.inr (.inr (.inr fa_13331)))) := (hf_13639 x_13308 m_13592 (by omega)).trans f_13591
        have f_13652 : F_13628 a_13341 = .inl (G.2 2, 2, .inr (.inr (.inr (.inr ((va_up ((va_up ((fun _ => none)) 0 (some a_13373))) 1 (some a_13448))))))) := (hf_13639 a_13341 m_13596 (by omega)).trans f_13595
        have f_13653 : F_13628 a_13532 = .inl (G.2 1, 2, .inl ((fun _ => nI 0))) := (hf_13639 a_13532 m_13600 (by omega)).trans f_13599
        have lb_13656 : ∀ i, i < 16 → n_13267 i < H_13582.size := fun i h1 => hw.lt (mb_13610 i h1)
        have fb_13654 : sta G F_13628 n_13267 0 st0 := fb_13609.keep (fun i hi => hf_13639 (n_13267 i) (mb_13610 i (by omega)) (by (have := gb_13280 i (by omega); have := lb_13297 i (by omega); have := lb_13326 i (by omega); have := lb_13360 i (by omega); have := lb_13396 i (by omega); have := lb_13429 i (by omega); have := lb_13472 i (by omega); have := lb_13510 i (by omega); have := lb_13559 i (by omega); have := lb_13611 i (by omega); omega)))
        have mb_13655 : ∀ i, i < 16 → n_13267 i ∈ L_13627 := fun i h1 => g_13633.1 (n_13267 i) (mb_13610 i h1)
        have lb_13659 : ∀ k i, k < 6 → i < 16 → nn_13309 k i < H_13582.size := fun k i h1 h2 => hw.lt (mb_13614 k i h1 h2)
        have fb_13657 : ∀ k, k < 6 → sta G F_13628 (nn_13309 k) 0 st0 := fun k hk => (fb_13613 k hk).keep (fun i hi => hf_13639 (nn_13309 k i) (mb_13614 k i hk (by omega)) (by (have := gb_13335 k i hk (by omega); have := lb_13364 k i hk (by omega); have := lb_13400 k i hk (by omega); have := lb_13432 k i hk (by omega); have := lb_13476 k i hk (by omega); have := lb_13513 k i hk (by omega); have := lb_13563 k i hk (by omega); have := lb_13615 k i hk (by omega); omega)))
        have mb_13658 : ∀ k i, k < 6 → i < 16 → nn_13309 k i ∈ L_13627 := fun k i h1 h2 => g_13633.1 (nn_13309 k i) (mb_13614 k i h1 h2)
        have lb_13662 : ∀ i, 1 ≤ i → i < 16 → n_13411 i < H_13582.size := fun i h1 h2 => hw.lt (mb_13618 i h1 h2)
        have fb_13660 : shp G F_13628 n_13411 0 5 r0 := fb_13617.keep (fun i hi => hf_13639 (n_13411 i) (mb_13618 i (by omega) (by omega)) (by (have := gb_13441 i (by omega) (by omega); have := lb_13480 i (by omega) (by omega); have := lb_13516 i (by omega) (by omega); have := lb_13567 i (by omega) (by omega); have := lb_13619 i (by omega) (by omega); omega)))
        have mb_13661 : ∀ i, 1 ≤ i → i < 16 → n_13411 i ∈ L_13627 := fun i h1 h2 => g_13633.1 (n_13411 i) (mb_13618 i h1 h2)
        have lb_13665 : ∀ i, 1 ≤ i → i < 16 → n_13491 i < H_13582.size := fun i h1 h2 => hw.lt (mb_13622 i h1 h2)
        have fb_13663 : shp G F_13628 n_13491 0 5 r0 := fb_13621.keep (fun i hi => hf_13639 (n_13491 i) (mb_13622 i (by omega) (by omega)) (by (have := gb_13526 i (by omega) (by omega); have := lb_13571 i (by omega) (by omega); have := lb_13623 i (by omega) (by omega); omega)))
        have mb_13664 : ∀ i, 1 ≤ i → i < 16 → n_13491 i ∈ L_13627 := fun i h1 h2 => g_13633.1 (n_13491 i) (mb_13622 i h1 h2)
        have m_13666 : a ∈ L_13627 := g_13633.1 a m_13584
        have m_13667 : a_13251 ∈ L_13627 := g_13633.1 a_13251 m_13602
        have m_13668 : a_13286 ∈ L_13627 := g_13633.1 a_13286 m_13588
        have m_13669 : x_13308 ∈ L_13627 := g_13633.1 x_13308 m_13592
        have m_13670 : a_13341 ∈ L_13627 := g_13633.1 a_13341 m_13596
        have m_13671 : a_13373 ∈ L_13627 := g_13633.1 a_13373 m_13604
        have m_13672 : a_13448 ∈ L_13627 := g_13633.1 a_13448 m_13606
        have m_13673 : a_13532 ∈ L_13627 := g_13633.1 a_13532 m_13600
        have m_13674 : a_13580 ∈ L_13627 := g_13633.1 a_13580 m_13625
        have hg_13675 := hg_13624.step g_13633 hw.2.2.1
        have C0 := C0.grow g_13633 hw.2.2.1
        have hw := hw1
        refine q_putF C0 hnm hw m_13666 f_13649 fw_X5_37 pw_X5_4 rfl rfl rfl rfl (Nat.le_of_ble_eq_true rfl) dX5_init_75 (fun F_13676 H locs hw f_13677 o_13678 => ?_)
        have f_13677 : F_13676 a = .inr (5, [.ref a_13251, .ref a_13286, .ref a_13341, .ref a_13532, .ref a_13580, .null, .null, .null]) := f_13677
        refine lv_aload_n hx hb dX5_init_78 rfl (lv_at hl 1 rfl) ?_
        refine k_new C0 hw nw_X5_41 (Nat.le_of_ble_eq_true rfl) (Nat.le_of_ble_eq_true rfl) dX5_init_79 (fun L_13679 F_13680 a_13681 H_13683 g_13682 hw1 => ?_)
        have hge_a_13681 : s.heap.size ≤ a_13681 := Nat.le_trans hw.2.2.1 g_13682.2.2.2.2
        have f_13684 : F_13680 a = .inr (5, [.ref a_13251, .ref a_13286, .ref a_13341, .ref a_13532, .ref a_13580, .null, .null, .null]) := (g_13682.2.2.1 a m_13666).1.trans f_13677
        have lt_13686 := (g_13682.2.2.1 a m_13666).2
        have m_13685 : a ∈ L_13679 := g_13682.1.1 a m_13666
        have f_13687 : F_13676 a_13286 = .inr (0, [.ref x_13308, .int (nI (0))]) := (o_13678 a_13286 (by omega)).trans f_13650
        have f_13688 : F_13680 a_13286 = .inr (0, [.ref x_13308, .int (nI (0))]) := (g_13682.2.2.1 a_13286 m_13668).1.trans f_13687
        have lt_13690 := (g_13682.2.2.1 a_13286 m_13668).2
        have m_13689 : a_13286 ∈ L_13679 := g_13682.1.1 a_13286 m_13668
        have f_13691 : F_13676 x_13308 = .inl (G.2 3, 6, .inr (.inr (.inr (.inr fa_13331)))) := (o_13678 x_13308 (by omega)).trans f_13651
        have f_13692 : F_13680 x_13308 = .inl (G.2 3, 6, .inr (.inr (.inr (.inr fa_13331)))) := (g_13682.2.2.1 x_13308 m_13669).1.trans f_13691
        have lt_13694 := (g_13682.2.2.1 x_13308 m_13669).2
        have m_13693 : x_13308 ∈ L_13679 := g_13682.1.1 x_13308 m_13669
        have f_13695 : F_13676 a_13341 = .inl (G.2 2, 2, .inr (.inr (.inr (.inr ((va_up ((va_up ((fun _ => none)) 0 (some a_13373))) 1 (some a_13448))))))) := (o_13678 a_13341 (by omega)).trans f_13652
        have f_13696 : F_13680 a_13341 = .inl (G.2 2, 2, .inr (.inr (.inr (.inr ((va_up ((va_up ((fun _ => none)) 0 (some a_13373))) 1 (some a_13448))))))) := (g_13682.2.2.1 a_13341 m_13670).1.trans f_13695
        have lt_13698 := (g_13682.2.2.1 a_13341 m_13670).2
        have m_13697 : a_13341 ∈ L_13679 := g_13682.1.1 a_13341 m_13670
        have f_13699 : F_13676 a_13532 = .inl (G.2 1, 2, .inl ((fun _ => nI 0))) := (o_13678 a_13532 (by omega)).trans f_13653
        have f_13700 : F_13680 a_13532 = .inl (G.2 1, 2, .inl ((fun _ => nI 0))) := (g_13682.2.2.1 a_13532 m_13673).1.trans f_13699
        have lt_13702 := (g_13682.2.2.1 a_13532 m_13673).2
        have m_13701 : a_13532 ∈ L_13679 := g_13682.1.1 a_13532 m_13673
        have f_13703 : F_13676 a_13580 = .inr (4, [.ref x_13634, .int (nI (0))]) := (o_13678 a_13580 (by omega)).trans f_13635
        have f_13704 : F_13680 a_13580 = .inr (4, [.ref x_13634, .int (nI (0))]) := (g_13682.2.2.1 a_13580 m_13674).1.trans f_13703
        have lt_13706 := (g_13682.2.2.1 a_13580 m_13674).2
        have m_13705 : a_13580 ∈ L_13679 := g_13682.1.1 a_13580 m_13674
        have f_13707 : F_13676 x_13634 = .inl (G.2 0, 60, .inl ((fun _ => nI 0))) := (o_13678 x_13634 (by omega)).trans f_13636
        have f_13708 : F_13680 x_13634 = .inl (G.2 0, 60, .inl ((fun _ => nI 0))) := (g_13682.2.2.1 x_13634 m_13638).1.trans f_13707
        have lt_13710 := (g_13682.2.2.1 x_13634 m_13638).2
        have m_13709 : x_13634 ∈ L_13679 := g_13682.1.1 x_13634 m_13638
        have lt_13712 := (g_13682.2.2.1 a_13251 m_13667).2
        have m_13711 : a_13251 ∈ L_13679 := g_13682.1.1 a_13251 m_13667
        have lt_13714 := (g_13682.2.2.1 a_13373 m_13671).2
        have m_13713 : a_13373 ∈ L_13679 := g_13682.1.1 a_13373 m_13671
        have lt_13716 := (g_13682.2.2.1 a_13448 m_13672).2
        have m_13715 : a_13448 ∈ L_13679 := g_13682.1.1 a_13448 m_13672
        have fb_13717 : sta G F_13676 n_13267 0 st0 := fb_13654.keep (fun i hi => o_13678 (n_13267 i) (by (have := gb_13280 i (by omega); have := lb_13297 i (by omega); have := lb_13326 i (by omega); have := lb_13360 i (by omega); have := lb_13396 i (by omega); have := lb_13429 i (by omega); have := lb_13472 i (by omega); have := lb_13510 i (by omega); have := lb_13559 i (by omega); have := lb_13611 i (by omega); have := lb_13656 i (by omega); omega)))
        have lb_13720 : ∀ i, i < 16 → n_13267 i < a_13681 := fun i h1 => (g_13682.2.2.1 ((n_13267 i)) (mb_13655 i h1)).2
        have fb_13718 : sta G F_13680 n_13267 0 st0 := fb_13717.keep (fun i hi => (g_13682.2.2.1 ((n_13267 i)) (mb_13655 i (by omega))).1)
        have mb_13719 : ∀ i, i < 16 → n_13267 i ∈ L_13679 := fun i h1 => g_13682.1.1 ((n_13267 i)) (mb_13655 i h1)
        have fb_13721 : ∀ k, k < 6 → sta G F_13676 (nn_13309 k) 0 st0 := fun k hk => (fb_13657 k hk).keep (fun i hi => o_13678 (nn_13309 k i) (by (have := gb_13335 k i hk (by omega); have := lb_13364 k i hk (by omega); have := lb_13400 k i hk (by omega); have := lb_13432 k i hk (by omega); have := lb_13476 k i hk (by omega); have := lb_13513 k i hk (by omega); have := lb_13563 k i hk (by omega); have := lb_13615 k i hk (by omega); have := lb_13659 k i hk (by omega); omega)))
        have lb_13724 : ∀ k i, k < 6 → i < 16 → nn_13309 k i < a_13681 := fun k i h1 h2 => (g_13682.2.2.1 ((nn_13309 k i)) (mb_13658 k i h1 h2)).2
        have fb_13722 : ∀ k, k < 6 → sta G F_13680 (nn_13309 k) 0 st0 := fun k hk => (fb_13721 k hk).keep (fun i hi => (g_13682.2.2.1 ((nn_13309 k i)) (mb_13658 k i hk (by omega))).1)
        have mb_13723 : ∀ k i, k < 6 → i < 16 → nn_13309 k i ∈ L_13679 := fun k i h1 h2 => g_13682.1.1 ((nn_13309 k i)) (mb_13658 k i h1 h2)
        have fb_13725 : shp G F_13676 n_13411 0 5 r0 := fb_13660.keep (fun i hi => o_13678 (n_13411 i) (by (have := gb_13441 i (by omega) (by omega); have := lb_13480 i (by omega) (by omega); have := lb_13516 i (by omega) (by omega); have := lb_13567 i (by omega) (by omega); have := lb_13619 i (by omega) (by omega); have := lb_13662 i (by omega) (by omega); omega)))
        have lb_13728 : ∀ i, 1 ≤ i → i < 16 → n_13411 i < a_13681 := fun i h1 h2 => (g_13682.2.2.1 ((n_13411 i)) (mb_13661 i h1 h2)).2
        have fb_13726 : shp G F_13680 n_13411 0 5 r0 := fb_13725.keep (fun i hi => (g_13682.2.2.1 ((n_13411 i)) (mb_13661 i (by omega) (by omega))).1)
        have mb_13727 : ∀ i, 1 ≤ i → i < 16 → n_13411 i ∈ L_13679 := fun i h1 h2 => g_13682.1.1 ((n_13411 i)) (mb_13661 i h1 h2)
        have fb_13729 : shp G F_13676 n_13491 0 5 r0 := fb_13663.keep (fun i hi => o_13678 (n_13491 i) (by (have := gb_13526 i (by omega) (by omega); have := lb_13571 i (by omega) (by omega); have := lb_13623 i (by omega) (by omega); have := lb_13665 i (by omega) (by omega); omega)))
        have lb_13732 : ∀ i, 1 ≤ i → i < 16 → n_13491 i < a_13681 := fun i h1 h2 => (g_13682.2.2.1 ((n_13491 i)) (mb_13664 i h1 h2)).2
        have fb_13730 : shp G F_13680 n_13491 0 5 r0 := fb_13729.keep (fun i hi => (g_13682.2.2.1 ((n_13491 i)) (mb_13664 i (by omega) (by omega))).1)
        have mb_13731 : ∀ i, 1 ≤ i → i < 16 → n_13491 i ∈ L_13679 := fun i h1 h2 => g_13682.1.1 ((n_13491 i)) (mb_13664 i h1 h2)
        have hg_13733 := hg_13675.step g_13682.1 hw.2.2.1
        have C0 := C0.grow g_13682.1 hw.2.2.1
        have hw := hw1
        have m_13734 : a_13681 ∈ L_13679 := g_13682.2.2.2.1
        have f_13735 : F_13680 a_13681 = .inr (1, [.null, .null, .null, .null, .null, .null, .null, .null, .null, .null, .null, .null, .null, .null]) := g_13682.2.1
        refine lv_dup hx hb dX5_init_82 rfl ?_
        refine q_calln hw (fun L1 F1 h => h.1) (q_runI (As := []) (c_X1_init l G L_13679 F_13680 a_13681 m_13734 f_13735) C0 hOv hw iw_X5_43 rfl hl.1 rfl (Nat.le_of_ble_eq_true rfl) dX5_init_83 ⟨by decide, by decide⟩ ⟨by decide, by decide⟩) (fun L_13736 F_13737 H_13739 locs hz_13740 hw1 hp_13738 => ?_)
        have hgs_13741 : s.heap.size ≤ H_13683.size := hw.2.2.1
        obtain ⟨g_13742, nr_13743, f_13744, fb_13745, hm_13746, hj_13747, hf_13748⟩ := hp_13738
        have lt_13749 := hw.lt m_13685
        have lt_13750 := hw.lt m_13711
        have lt_13751 := hw.lt m_13689
        have lt_13752 := hw.lt m_13693
        have lt_13753 := hw.lt m_13697
        have lt_13754 := hw.lt m_13713
        have lt_13755 := hw.lt m_13715
        have lt_13756 := hw.lt m_13701
        have lt_13757 := hw.lt m_13705
        have lt_13758 := hw.lt m_13709
        have lt_13759 := hw.lt m_13734
        have f_13760 : F_13737 a = .inr (5, [.ref a_13251, .ref a_13286, .ref a_13341, .ref a_13532, .ref a_13580, .null, .null, .null]) := (hf_13748 a m_13685 (by omega)).trans f_13684
        have f_13761 : F_13737 a_13286 = .inr (0, [.ref x_13308, .int (nI (0))]) := (hf_13748 a_13286 m_13689 (by omega)).trans f_13688
        have f_13762 : F_13737 x_13308 = .inl (G.2 3, 6, .inr (.inr (.inr (.inr fa_13331)))) := (hf_13748 x_13308 m_13693 (by omega)).trans f_13692
        have f_13763 : F_13737 a_13341 = .inl (G.2 2, 2, .inr (.inr (.inr (.inr ((va_up ((va_up ((fun _ => none)) 0 (some a_13373))) 1 (some a_13448))))))) := (hf_13748 a_13341 m_13697 (by omega)).trans f_13696
        have f_13764 : F_13737 a_13532 = .inl (G.2 1, 2, .inl ((fun _ => nI 0))) := (hf_13748 a_13532 m_13701 (by omega)).trans f_13700
        have f_13765 : F_13737 a_13580 = .inr (4, [.ref x_13634, .int (nI (0))]) := (hf_13748 a_13580 m_13705 (by omega)).trans f_13704
        have f_13766 : F_13737 x_13634 = .inl (G.2 0, 60, .inl ((fun _ => nI 0))) := (hf_13748 x_13634 m_13709 (by omega)).trans f_13708
        have lb_13769 : ∀ i, i < 16 → n_13267 i < H_13683.size := fun i h1 => hw.lt (mb_13719 i h1)
        have fb_13767 : sta G F_13737 n_13267 0 st0 := fb_13718.keep (fun i hi => hf_13748 (n_13267 i) (mb_13719 i (by omega)) (by (have := gb_13280 i (by omega); have := lb_13297 i (by omega); have := lb_13326 i (by omega); have := lb_13360 i (by omega); have := lb_13396 i (by omega); have := lb_13429 i (by omega); have := lb_13472 i (by omega); have := lb_13510 i (by omega); have := lb_13559 i (by omega); have := lb_13611 i (by omega); have := lb_13656 i (by omega); have := lb_13720 i (by omega); omega)))
        have mb_13768 : ∀ i, i < 16 → n_13267 i ∈ L_13736 := fun i h1 => g_13742.1 (n_13267 i) (mb_13719 i h1)
        have lb_13772 : ∀ k i, k < 6 → i < 16 → nn_13309 k i < H_13683.size := fun k i h1 h2 => hw.lt (mb_13723 k i h1 h2)
        have fb_13770 : ∀ k, k < 6 → sta G F_13737 (nn_13309 k) 0 st0 := fun k hk => (fb_13722 k hk).keep (fun i hi => hf_13748 (nn_13309 k i) (mb_13723 k i hk (by omega)) (by (have := gb_13335 k i hk (by omega); have := lb_13364 k i hk (by omega); have := lb_13400 k i hk (by omega); have := lb_13432 k i hk (by omega); have := lb_13476 k i hk (by omega); have := lb_13513 k i hk (by omega); have := lb_13563 k i hk (by omega); have := lb_13615 k i hk (by omega); have := lb_13659 k i hk (by omega); have := lb_13724 k i hk (by omega); omega)))
        have mb_13771 : ∀ k i, k < 6 → i < 16 → nn_13309 k i ∈ L_13736 := fun k i h1 h2 => g_13742.1 (nn_13309 k i) (mb_13723 k i h1 h2)
        have lb_13775 : ∀ i, 1 ≤ i → i < 16 → n_13411 i < H_13683.size := fun i h1 h2 => hw.lt (mb_13727 i h1 h2)
        have fb_13773 : shp G F_13737 n_13411 0 5 r0 := fb_13726.keep (fun i hi => hf_13748 (n_13411 i) (mb_13727 i (by omega) (by omega)) (by (have := gb_13441 i (by omega) (by omega); have := lb_13480 i (by omega) (by omega); have := lb_13516 i (by omega) (by omega); have := lb_13567 i (by omega) (by omega); have := lb_13619 i (by omega) (by omega); have := lb_13662 i (by omega) (by omega); have := lb_13728 i (by omega) (by omega); omega)))
        have mb_13774 : ∀ i, 1 ≤ i → i < 16 → n_13411 i ∈ L_13736 := fun i h1 h2 => g_13742.1 (n_13411 i) (mb_13727 i h1 h2)
        have lb_13778 : ∀ i, 1 ≤ i → i < 16 → n_13491 i < H_13683.size := fun i h1 h2 => hw.lt (mb_13731 i h1 h2)
        have fb_13776 : shp G F_13737 n_13491 0 5 r0 := fb_13730.keep (fun i hi => hf_13748 (n_13491 i) (mb_13731 i (by omega) (by omega)) (by (have := gb_13526 i (by omega) (by omega); have := lb_13571 i (by omega) (by omega); have := lb_13623 i (by omega) (by omega); have := lb_13665 i (by omega) (by omega); have := lb_13732 i (by omega) (by omega); omega)))
        have mb_13777 : ∀ i, 1 ≤ i → i < 16 → n_13491 i ∈ L_13736 := fun i h1 h2 => g_13742.1 (n_13491 i) (mb_13731 i h1 h2)
        have m_13779 : a ∈ L_13736 := g_13742.1 a m_13685
        have m_13780 : a_13251 ∈ L_13736 := g_13742.1 a_13251 m_13711
        have m_13781 : a_13286 ∈ L_13736 := g_13742.1 a_13286 m_13689
        have m_13782 : x_13308 ∈ L_13736 := g_13742.1 x_13308 m_13693
        have m_13783 : a_13341 ∈ L_13736 := g_13742.1 a_13341 m_13697
        have m_13784 : a_13373 ∈ L_13736 := g_13742.1 a_13373 m_13713
        have m_13785 : a_13448 ∈ L_13736 := g_13742.1 a_13448 m_13715
        have m_13786 : a_13532 ∈ L_13736 := g_13742.1 a_13532 m_13701
        have m_13787 : a_13580 ∈ L_13736 := g_13742.1 a_13580 m_13705
        have m_13788 : x_13634 ∈ L_13736 := g_13742.1 x_13634 m_13709
        have m_13789 : a_13681 ∈ L_13736 := g_13742.1 a_13681 m_13734
        have hg_13790 := hg_13733.step g_13742 hw.2.2.1
        have C0 := C0.grow g_13742 hw.2.2.1
        have hw := hw1
        have mb_13791 : ∀ i, i < 14 → nr_13743 i ∈ L_13736 := fun i h1 => (hm_13746 i h1).2
        have gb_13792 : ∀ i, i < 14 → H_13683.size ≤ nr_13743 i := fun i h1 => (hm_13746 i h1).1
        refine q_putF C0 hnm hw m_13779 f_13760 fw_X5_44 pw_X5_5 rfl rfl rfl rfl (Nat.le_of_ble_eq_true rfl) dX5_init_86 (fun F_13793 H locs hw f_13794 o_13795 => ?_)
        have f_13794 : F_13793 a = .inr (5, [.ref a_13251, .ref a_13286, .ref a_13341, .ref a_13532, .ref a_13580, .ref a_13681, .null, .null]) := f_13794
        refine lv_aload_n hx hb dX5_init_89 rfl (lv_at hl 1 rfl) ?_
        refine lv_bipush (v := nI 7) hx hb dX5_init_90 (by decide) ?_
        refine k_newi C0 hw (by decide) (by decide) (Nat.le_of_ble_eq_true rfl) (Nat.le_of_ble_eq_true rfl) dX5_init_92 (fun L_13796 F_13797 a_13798 H_13800 g_13799 hw1 => ?_)
        have hge_a_13798 : s.heap.size ≤ a_13798 := Nat.le_trans hw.2.2.1 g_13799.2.2.2.2
        have f_13801 : F_13797 a = .inr (5, [.ref a_13251, .ref a_13286, .ref a_13341, .ref a_13532, .ref a_13580, .ref a_13681, .null, .null]) := (g_13799.2.2.1 a m_13779).1.trans f_13794
        have lt_13803 := (g_13799.2.2.1 a m_13779).2
        have m_13802 : a ∈ L_13796 := g_13799.1.1 a m_13779
        have f_13804 : F_13793 a_13286 = .inr (0, [.ref x_13308, .int (nI (0))]) := (o_13795 a_13286 (by omega)).trans f_13761
        have f_13805 : F_13797 a_13286 = .inr (0, [.ref x_13308, .int (nI (0))]) := (g_13799.2.2.1 a_13286 m_13781).1.trans f_13804
        have lt_13807 := (g_13799.2.2.1 a_13286 m_13781).2
        have m_13806 : a_13286 ∈ L_13796 := g_13799.1.1 a_13286 m_13781
        have f_13808 : F_13793 x_13308 = .inl (G.2 3, 6, .inr (.inr (.inr (.inr fa_13331)))) := (o_13795 x_13308 (by omega)).trans f_13762
        have f_13809 : F_13797 x_13308 = .inl (G.2 3, 6, .inr (.inr (.inr (.inr fa_13331)))) := (g_13799.2.2.1 x_13308 m_13782).1.trans f_13808
        have lt_13811 := (g_13799.2.2.1 x_13308 m_13782).2
        have m_13810 : x_13308 ∈ L_13796 := g_13799.1.1 x_13308 m_13782
        have f_13812 : F_13793 a_13341 = .inl (G.2 2, 2, .inr (.inr (.inr (.inr ((va_up ((va_up ((fun _ => none)) 0 (some a_13373))) 1 (some a_13448))))))) := (o_13795 a_13341 (by omega)).trans f_13763
        have f_13813 : F_13797 a_13341 = .inl (G.2 2, 2, .inr (.inr (.inr (.inr ((va_up ((va_up ((fun _ => none)) 0 (some a_13373))) 1 (some a_13448))))))) := (g_13799.2.2.1 a_13341 m_13783).1.trans f_13812
        have lt_13815 := (g_13799.2.2.1 a_13341 m_13783).2
        have m_13814 : a_13341 ∈ L_13796 := g_13799.1.1 a_13341 m_13783
        have f_13816 : F_13793 a_13532 = .inl (G.2 1, 2, .inl ((fun _ => nI 0))) := (o_13795 a_13532 (by omega)).trans f_13764
        have f_13817 : F_13797 a_13532 = .inl (G.2 1, 2, .inl ((fun _ => nI 0))) := (g_13799.2.2.1 a_13532 m_13786).1.trans f_13816
        have lt_13819 := (g_13799.2.2.1 a_13532 m_13786).2
        have m_13818 : a_13532 ∈ L_13796 := g_13799.1.1 a_13532 m_13786
        have f_13820 : F_13793 a_13580 = .inr (4, [.ref x_13634, .int (nI (0))]) := (o_13795 a_13580 (by omega)).trans f_13765
        have f_13821 : F_13797 a_13580 = .inr (4, [.ref x_13634, .int (nI (0))]) := (g_13799.2.2.1 a_13580 m_13787).1.trans f_13820
        have lt_13823 := (g_13799.2.2.1 a_13580 m_13787).2
        have m_13822 : a_13580 ∈ L_13796 := g_13799.1.1 a_13580 m_13787
        have f_13824 : F_13793 x_13634 = .inl (G.2 0, 60, .inl ((fun _ => nI 0))) := (o_13795 x_13634 (by omega)).trans f_13766
        have f_13825 : F_13797 x_13634 = .inl (G.2 0, 60, .inl ((fun _ => nI 0))) := (g_13799.2.2.1 x_13634 m_13788).1.trans f_13824
        have lt_13827 := (g_13799.2.2.1 x_13634 m_13788).2
        have m_13826 : x_13634 ∈ L_13796 := g_13799.1.1 x_13634 m_13788
        have f_13828 : F_13793 a_13681 = rkO nr_13743 := (o_13795 a_13681 (by omega)).trans f_13744
        have f_13829 : F_13797 a_13681 = rkO nr_13743 := (g_13799.2.2.1 a_13681 m_13789).1.trans f_13828
        have lt_13831 := (g_13799.2.2.1 a_13681 m_13789).2
        have m_13830 : a_13681 ∈ L_13796 := g_13799.1.1 a_13681 m_13789
        have lt_13833 := (g_13799.2.2.1 a_13251 m_13780).2
        have m_13832 : a_13251 ∈ L_13796 := g_13799.1.1 a_13251 m_13780
        have lt_13835 := (g_13799.2.2.1 a_13373 m_13784).2
        have m_13834 : a_13373 ∈ L_13796 := g_13799.1.1 a_13373 m_13784
        have lt_13837 := (g_13799.2.2.1 a_13448 m_13785).2
        have m_13836 : a_13448 ∈ L_13796 := g_13799.1.1 a_13448 m_13785
        have fb_13838 : sta G F_13793 n_13267 0 st0 := fb_13767.keep (fun i hi => o_13795 (n_13267 i) (by (have := gb_13280 i (by omega); have := lb_13297 i (by omega); have := lb_13326 i (by omega); have := lb_13360 i (by omega); have := lb_13396 i (by omega); have := lb_13429 i (by omega); have := lb_13472 i (by omega); have := lb_13510 i (by omega); have := lb_13559 i (by omega); have := lb_13611 i (by omega); have := lb_13656 i (by omega); have := lb_13720 i (by omega); have := lb_13769 i (by omega); omega)))
        have lb_13841 : ∀ i, i < 16 → n_13267 i < a_13798 := fun i h1 => (g_13799.2.2.1 ((n_13267 i)) (mb_13768 i h1)).2
        have fb_13839 : sta G F_13797 n_13267 0 st0 := fb_13838.keep (fun i hi => (g_13799.2.2.1 ((n_13267 i)) (mb_13768 i (by omega))).1)
        have mb_13840 : ∀ i, i < 16 → n_13267 i ∈ L_13796 := fun i h1 => g_13799.1.1 ((n_13267 i)) (mb_13768 i h1)
        have fb_13842 : ∀ k, k < 6 → sta G F_13793 (nn_13309 k) 0 st0 := fun k hk => (fb_13770 k hk).keep (fun i hi => o_13795 (nn_13309 k i) (by (have := gb_13335 k i hk (by omega); have := lb_13364 k i hk (by omega); have := lb_13400 k i hk (by omega); have := lb_13432 k i hk (by omega); have := lb_13476 k i hk (by omega); have := lb_13513 k i hk (by omega); have := lb_13563 k i hk (by omega); have := lb_13615 k i hk (by omega); have := lb_13659 k i hk (by omega); have := lb_13724 k i hk (by omega); have := lb_13772 k i hk (by omega); omega)))
        have lb_13845 : ∀ k i, k < 6 → i < 16 → nn_13309 k i < a_13798 := fun k i h1 h2 => (g_13799.2.2.1 ((nn_13309 k i)) (mb_13771 k i h1 h2)).2
        have fb_13843 : ∀ k, k < 6 → sta G F_13797 (nn_13309 k) 0 st0 := fun k hk => (fb_13842 k hk).keep (fun i hi => (g_13799.2.2.1 ((nn_13309 k i)) (mb_13771 k i hk (by omega))).1)
        have mb_13844 : ∀ k i, k < 6 → i < 16 → nn_13309 k i ∈ L_13796 := fun k i h1 h2 => g_13799.1.1 ((nn_13309 k i)) (mb_13771 k i h1 h2)
        have fb_13846 : shp G F_13793 n_13411 0 5 r0 := fb_13773.keep (fun i hi => o_13795 (n_13411 i) (by (have := gb_13441 i (by omega) (by omega); have := lb_13480 i (by omega) (by omega); have := lb_13516 i (by omega) (by omega); have := lb_13567 i (by omega) (by omega); have := lb_13619 i (by omega) (by omega); have := lb_13662 i (by omega) (by omega); have := lb_13728 i (by omega) (by omega); have := lb_13775 i (by omega) (by omega); omega)))
        have lb_13849 : ∀ i, 1 ≤ i → i < 16 → n_13411 i < a_13798 := fun i h1 h2 => (g_13799.2.2.1 ((n_13411 i)) (mb_13774 i h1 h2)).2
        have fb_13847 : shp G F_13797 n_13411 0 5 r0 := fb_13846.keep (fun i hi => (g_13799.2.2.1 ((n_13411 i)) (mb_13774 i (by omega) (by omega))).1)
        have mb_13848 : ∀ i, 1 ≤ i → i < 16 → n_13411 i ∈ L_13796 := fun i h1 h2 => g_13799.1.1 ((n_13411 i)) (mb_13774 i h1 h2)
        have fb_13850 : shp G F_13793 n_13491 0 5 r0 := fb_13776.keep (fun i hi => o_13795 (n_13491 i) (by (have := gb_13526 i (by omega) (by omega); have := lb_13571 i (by omega) (by omega); have := lb_13623 i (by omega) (by omega); have := lb_13665 i (by omega) (by omega); have := lb_13732 i (by omega) (by omega); have := lb_13778 i (by omega) (by omega); omega)))
        have lb_13853 : ∀ i, 1 ≤ i → i < 16 → n_13491 i < a_13798 := fun i h1 h2 => (g_13799.2.2.1 ((n_13491 i)) (mb_13777 i h1 h2)).2
        have fb_13851 : shp G F_13797 n_13491 0 5 r0 := fb_13850.keep (fun i hi => (g_13799.2.2.1 ((n_13491 i)) (mb_13777 i (by omega) (by omega))).1)
        have mb_13852 : ∀ i, 1 ≤ i → i < 16 → n_13491 i ∈ L_13796 := fun i h1 h2 => g_13799.1.1 ((n_13491 i)) (mb_13777 i h1 h2)
        have fb_13854 : ∀ i, i < 14 → F_13793 (nr_13743 i) = rw7 G (fun _ => zc 0) := fun i hi => (o_13795 (nr_13743 i) (by (have := gb_13792 i hi; omega))).trans (fb_13745 i hi)
        have lb_13857 : ∀ i, i < 14 → nr_13743 i < a_13798 := fun i h1 => (g_13799.2.2.1 ((nr_13743 i)) (mb_13791 i h1)).2
        have fb_13855 : ∀ i, i < 14 → F_13797 (nr_13743 i) = rw7 G (fun _ => zc 0) := fun i hi => ((g_13799.2.2.1 ((nr_13743 i)) (mb_13791 i hi)).1).trans (fb_13854 i hi)
        have mb_13856 : ∀ i, i < 14 → nr_13743 i ∈ L_13796 := fun i h1 => g_13799.1.1 ((nr_13743 i)) (mb_13791 i h1)
        have hg_13858 := hg_13790.step g_13799.1 hw.2.2.1
        have C0 := C0.grow g_13799.1 hw.2.2.1
        have hw := hw1
        have m_13859 : a_13798 ∈ L_13796 := g_13799.2.2.2.1
        have f_13860 : F_13797 a_13798 = .inl (G.2 0, 7, .inl ((fun _ => nI 0))) := g_13799.2.1
        refine q_putF C0 hnm hw m_13802 f_13801 fw_X5_48 pw_X5_6 rfl rfl rfl rfl (Nat.le_of_ble_eq_true rfl) dX5_init_94 (fun F_13861 H locs hw f_13862 o_13863 => ?_)
        have f_13862 : F_13861 a = .inr (5, [.ref a_13251, .ref a_13286, .ref a_13341, .ref a_13532, .ref a_13580, .ref a_13681, .ref a_13798, .null]) := f_13862
        refine lv_aload_n hx hb dX5_init_97 rfl (lv_at hl 1 rfl) ?_
        refine lv_bipush (v := nI 7) hx hb dX5_init_98 (by decide) ?_
        refine k_newi C0 hw (by decide) (by decide) (Nat.le_of_ble_eq_true rfl) (Nat.le_of_ble_eq_true rfl) dX5_init_100 (fun L_13864 F_13865 a_13866 H_13868 g_13867 hw1 => ?_)
        have hge_a_13866 : s.heap.size ≤ a_13866 := Nat.le_trans hw.2.2.1 g_13867.2.2.2.2
        have f_13869 : F_13865 a = .inr (5, [.ref a_13251, .ref a_13286, .ref a_13341, .ref a_13532, .ref a_13580, .ref a_13681, .ref a_13798, .null]) := (g_13867.2.2.1 a m_13802).1.trans f_13862
        have lt_13871 := (g_13867.2.2.1 a m_13802).2
        have m_13870 : a ∈ L_13864 := g_13867.1.1 a m_13802
        have f_13872 : F_13861 a_13286 = .inr (0, [.ref x_13308, .int (nI (0))]) := (o_13863 a_13286 (by omega)).trans f_13805
        have f_13873 : F_13865 a_13286 = .inr (0, [.ref x_13308, .int (nI (0))]) := (g_13867.2.2.1 a_13286 m_13806).1.trans f_13872
        have lt_13875 := (g_13867.2.2.1 a_13286 m_13806).2
        have m_13874 : a_13286 ∈ L_13864 := g_13867.1.1 a_13286 m_13806
        have f_13876 : F_13861 x_13308 = .inl (G.2 3, 6, .inr (.inr (.inr (.inr fa_13331)))) := (o_13863 x_13308 (by omega)).trans f_13809
        have f_13877 : F_13865 x_13308 = .inl (G.2 3, 6, .inr (.inr (.inr (.inr fa_13331)))) := (g_13867.2.2.1 x_13308 m_13810).1.trans f_13876
        have lt_13879 := (g_13867.2.2.1 x_13308 m_13810).2
        have m_13878 : x_13308 ∈ L_13864 := g_13867.1.1 x_13308 m_13810
        have f_13880 : F_13861 a_13341 = .inl (G.2 2, 2, .inr (.inr (.inr (.inr ((va_up ((va_up ((fun _ => none)) 0 (some a_13373))) 1 (some a_13448))))))) := (o_13863 a_13341 (by omega)).trans f_13813
        have f_13881 : F_13865 a_13341 = .inl (G.2 2, 2, .inr (.inr (.inr (.inr ((va_up ((va_up ((fun _ => none)) 0 (some a_13373))) 1 (some a_13448))))))) := (g_13867.2.2.1 a_13341 m_13814).1.trans f_13880
        have lt_13883 := (g_13867.2.2.1 a_13341 m_13814).2
        have m_13882 : a_13341 ∈ L_13864 := g_13867.1.1 a_13341 m_13814
        have f_13884 : F_13861 a_13532 = .inl (G.2 1, 2, .inl ((fun _ => nI 0))) := (o_13863 a_13532 (by omega)).trans f_13817
        have f_13885 : F_13865 a_13532 = .inl (G.2 1, 2, .inl ((fun _ => nI 0))) := (g_13867.2.2.1 a_13532 m_13818).1.trans f_13884
        have lt_13887 := (g_13867.2.2.1 a_13532 m_13818).2
        have m_13886 : a_13532 ∈ L_13864 := g_13867.1.1 a_13532 m_13818
        have f_13888 : F_13861 a_13580 = .inr (4, [.ref x_13634, .int (nI (0))]) := (o_13863 a_13580 (by omega)).trans f_13821
        have f_13889 : F_13865 a_13580 = .inr (4, [.ref x_13634, .int (nI (0))]) := (g_13867.2.2.1 a_13580 m_13822).1.trans f_13888
        have lt_13891 := (g_13867.2.2.1 a_13580 m_13822).2
        have m_13890 : a_13580 ∈ L_13864 := g_13867.1.1 a_13580 m_13822
        have f_13892 : F_13861 x_13634 = .inl (G.2 0, 60, .inl ((fun _ => nI 0))) := (o_13863 x_13634 (by omega)).trans f_13825
        have f_13893 : F_13865 x_13634 = .inl (G.2 0, 60, .inl ((fun _ => nI 0))) := (g_13867.2.2.1 x_13634 m_13826).1.trans f_13892
        have lt_13895 := (g_13867.2.2.1 x_13634 m_13826).2
        have m_13894 : x_13634 ∈ L_13864 := g_13867.1.1 x_13634 m_13826
        have f_13896 : F_13861 a_13681 = rkO nr_13743 := (o_13863 a_13681 (by omega)).trans f_13829
        have f_13897 : F_13865 a_13681 = rkO nr_13743 := (g_13867.2.2.1 a_13681 m_13830).1.trans f_13896
        have lt_13899 := (g_13867.2.2.1 a_13681 m_13830).2
        have m_13898 : a_13681 ∈ L_13864 := g_13867.1.1 a_13681 m_13830
        have f_13900 : F_13861 a_13798 = .inl (G.2 0, 7, .inl ((fun _ => nI 0))) := (o_13863 a_13798 (by omega)).trans f_13860
        have f_13901 : F_13865 a_13798 = .inl (G.2 0, 7, .inl ((fun _ => nI 0))) := (g_13867.2.2.1 a_13798 m_13859).1.trans f_13900
        have lt_13903 := (g_13867.2.2.1 a_13798 m_13859).2
        have m_13902 : a_13798 ∈ L_13864 := g_13867.1.1 a_13798 m_13859
        have lt_13905 := (g_13867.2.2.1 a_13251 m_13832).2
        have m_13904 : a_13251 ∈ L_13864 := g_13867.1.1 a_13251 m_13832
        have lt_13907 := (g_13867.2.2.1 a_13373 m_13834).2
        have m_13906 : a_13373 ∈ L_13864 := g_13867.1.1 a_13373 m_13834
        have lt_13909 := (g_13867.2.2.1 a_13448 m_13836).2
        have m_13908 : a_13448 ∈ L_13864 := g_13867.1.1 a_13448 m_13836
        have fb_13910 : sta G F_13861 n_13267 0 st0 := fb_13839.keep (fun i hi => o_13863 (n_13267 i) (by (have := gb_13280 i (by omega); have := lb_13297 i (by omega); have := lb_13326 i (by omega); have := lb_13360 i (by omega); have := lb_13396 i (by omega); have := lb_13429 i (by omega); have := lb_13472 i (by omega); have := lb_13510 i (by omega); have := lb_13559 i (by omega); have := lb_13611 i (by omega); have := lb_13656 i (by omega); have := lb_13720 i (by omega); have := lb_13769 i (by omega); have := lb_13841 i (by omega); omega)))
        have lb_13913 : ∀ i, i < 16 → n_13267 i < a_13866 := fun i h1 => (g_13867.2.2.1 ((n_13267 i)) (mb_13840 i h1)).2
        have fb_13911 : sta G F_13865 n_13267 0 st0 := fb_13910.keep (fun i hi => (g_13867.2.2.1 ((n_13267 i)) (mb_13840 i (by omega))).1)
        have mb_13912 : ∀ i, i < 16 → n_13267 i ∈ L_13864 := fun i h1 => g_13867.1.1 ((n_13267 i)) (mb_13840 i h1)
        have fb_13914 : ∀ k, k < 6 → sta G F_13861 (nn_13309 k) 0 st0 := fun k hk => (fb_13843 k hk).keep (fun i hi => o_13863 (nn_13309 k i) (by (have := gb_13335 k i hk (by omega); have := lb_13364 k i hk (by omega); have := lb_13400 k i hk (by omega); have := lb_13432 k i hk (by omega); have := lb_13476 k i hk (by omega); have := lb_13513 k i hk (by omega); have := lb_13563 k i hk (by omega); have := lb_13615 k i hk (by omega); have := lb_13659 k i hk (by omega); have := lb_13724 k i hk (by omega); have := lb_13772 k i hk (by omega); have := lb_13845 k i hk (by omega); omega)))
        have lb_13917 : ∀ k i, k < 6 → i < 16 → nn_13309 k i < a_13866 := fun k i h1 h2 => (g_13867.2.2.1 ((nn_13309 k i)) (mb_13844 k i h1 h2)).2
        have fb_13915 : ∀ k, k < 6 → sta G F_13865 (nn_13309 k) 0 st0 := fun k hk => (fb_13914 k hk).keep (fun i hi => (g_13867.2.2.1 ((nn_13309 k i)) (mb_13844 k i hk (by omega))).1)
        have mb_13916 : ∀ k i, k < 6 → i < 16 → nn_13309 k i ∈ L_13864 := fun k i h1 h2 => g_13867.1.1 ((nn_13309 k i)) (mb_13844 k i h1 h2)
        have fb_13918 : shp G F_13861 n_13411 0 5 r0 := fb_13847.keep (fun i hi => o_13863 (n_13411 i) (by (have := gb_13441 i (by omega) (by omega); have := lb_13480 i (by omega) (by omega); have := lb_13516 i (by omega) (by omega); have := lb_13567 i (by omega) (by omega); have := lb_13619 i (by omega) (by omega); have := lb_13662 i (by omega) (by omega); have := lb_13728 i (by omega) (by omega); have := lb_13775 i (by omega) (by omega); have := lb_13849 i (by omega) (by omega); omega)))
        have lb_13921 : ∀ i, 1 ≤ i → i < 16 → n_13411 i < a_13866 := fun i h1 h2 => (g_13867.2.2.1 ((n_13411 i)) (mb_13848 i h1 h2)).2
        have fb_13919 : shp G F_13865 n_13411 0 5 r0 := fb_13918.keep (fun i hi => (g_13867.2.2.1 ((n_13411 i)) (mb_13848 i (by omega) (by omega))).1)
        have mb_13920 : ∀ i, 1 ≤ i → i < 16 → n_13411 i ∈ L_13864 := fun i h1 h2 => g_13867.1.1 ((n_13411 i)) (mb_13848 i h1 h2)
        have fb_13922 : shp G F_13861 n_13491 0 5 r0 := fb_13851.keep (fun i hi => o_13863 (n_13491 i) (by (have := gb_13526 i (by omega) (by omega); have := lb_13571 i (by omega) (by omega); have := lb_13623 i (by omega) (by omega); have := lb_13665 i (by omega) (by omega); have := lb_13732 i (by omega) (by omega); have := lb_13778 i (by omega) (by omega); have := lb_13853 i (by omega) (by omega); omega)))
        have lb_13925 : ∀ i, 1 ≤ i → i < 16 → n_13491 i < a_13866 := fun i h1 h2 => (g_13867.2.2.1 ((n_13491 i)) (mb_13852 i h1 h2)).2
        have fb_13923 : shp G F_13865 n_13491 0 5 r0 := fb_13922.keep (fun i hi => (g_13867.2.2.1 ((n_13491 i)) (mb_13852 i (by omega) (by omega))).1)
        have mb_13924 : ∀ i, 1 ≤ i → i < 16 → n_13491 i ∈ L_13864 := fun i h1 h2 => g_13867.1.1 ((n_13491 i)) (mb_13852 i h1 h2)
        have fb_13926 : ∀ i, i < 14 → F_13861 (nr_13743 i) = rw7 G (fun _ => zc 0) := fun i hi => (o_13863 (nr_13743 i) (by (have := gb_13792 i hi; have := lb_13857 i hi; omega))).trans (fb_13855 i hi)
        have lb_13929 : ∀ i, i < 14 → nr_13743 i < a_13866 := fun i h1 => (g_13867.2.2.1 ((nr_13743 i)) (mb_13856 i h1)).2
        have fb_13927 : ∀ i, i < 14 → F_13865 (nr_13743 i) = rw7 G (fun _ => zc 0) := fun i hi => ((g_13867.2.2.1 ((nr_13743 i)) (mb_13856 i hi)).1).trans (fb_13926 i hi)
        have mb_13928 : ∀ i, i < 14 → nr_13743 i ∈ L_13864 := fun i h1 => g_13867.1.1 ((nr_13743 i)) (mb_13856 i h1)
        have hg_13930 := hg_13858.step g_13867.1 hw.2.2.1
        have C0 := C0.grow g_13867.1 hw.2.2.1
        have hw := hw1
        have m_13931 : a_13866 ∈ L_13864 := g_13867.2.2.2.1
        have f_13932 : F_13865 a_13866 = .inl (G.2 0, 7, .inl ((fun _ => nI 0))) := g_13867.2.1
        refine q_putF C0 hnm hw m_13870 f_13869 fw_X5_52 pw_X5_7 rfl rfl rfl rfl (Nat.le_of_ble_eq_true rfl) dX5_init_102 (fun F_13933 H locs hw f_13934 o_13935 => ?_)
        have f_13934 : F_13933 a = .inr (5, [.ref a_13251, .ref a_13286, .ref a_13341, .ref a_13532, .ref a_13580, .ref a_13681, .ref a_13798, .ref a_13866]) := f_13934
        have fb_13936 : sta G F_13933 n_13267 0 st0 := fb_13911.keep (fun i hi => o_13935 (n_13267 i) (by (have := gb_13280 i (by omega); have := lb_13297 i (by omega); have := lb_13326 i (by omega); have := lb_13360 i (by omega); have := lb_13396 i (by omega); have := lb_13429 i (by omega); have := lb_13472 i (by omega); have := lb_13510 i (by omega); have := lb_13559 i (by omega); have := lb_13611 i (by omega); have := lb_13656 i (by omega); have := lb_13720 i (by omega); have := lb_13769 i (by omega); have := lb_13841 i (by omega); have := lb_13913 i (by omega); omega)))
        have fb_13937 : ∀ k, k < 6 → sta G F_13933 (nn_13309 k) 0 st0 := fun k hk => (fb_13915 k hk).keep (fun i hi => o_13935 (nn_13309 k i) (by (have := gb_13335 k i hk (by omega); have := lb_13364 k i hk (by omega); have := lb_13400 k i hk (by omega); have := lb_13432 k i hk (by omega); have := lb_13476 k i hk (by omega); have := lb_13513 k i hk (by omega); have := lb_13563 k i hk (by omega); have := lb_13615 k i hk (by omega); have := lb_13659 k i hk (by omega); have := lb_13724 k i hk (by omega); have := lb_13772 k i hk (by omega); have := lb_13845 k i hk (by omega); have := lb_13917 k i hk (by omega); omega)))
        have fb_13938 : shp G F_13933 n_13411 0 5 r0 := fb_13919.keep (fun i hi => o_13935 (n_13411 i) (by (have := gb_13441 i (by omega) (by omega); have := lb_13480 i (by omega) (by omega); have := lb_13516 i (by omega) (by omega); have := lb_13567 i (by omega) (by omega); have := lb_13619 i (by omega) (by omega); have := lb_13662 i (by omega) (by omega); have := lb_13728 i (by omega) (by omega); have := lb_13775 i (by omega) (by omega); have := lb_13849 i (by omega) (by omega); have := lb_13921 i (by omega) (by omega); omega)))
        have fb_13939 : shp G F_13933 n_13491 0 5 r0 := fb_13923.keep (fun i hi => o_13935 (n_13491 i) (by (have := gb_13526 i (by omega) (by omega); have := lb_13571 i (by omega) (by omega); have := lb_13623 i (by omega) (by omega); have := lb_13665 i (by omega) (by omega); have := lb_13732 i (by omega) (by omega); have := lb_13778 i (by omega) (by omega); have := lb_13853 i (by omega) (by omega); have := lb_13925 i (by omega) (by omega); omega)))
        have fb_13940 : ∀ i, i < 14 → F_13933 (nr_13743 i) = rw7 G (fun _ => zc 0) := fun i hi => (o_13935 (nr_13743 i) (by (have := gb_13792 i hi; have := lb_13857 i hi; have := lb_13929 i hi; omega))).trans (fb_13927 i hi)
        have f_13941 : F_13933 a_13286 = .inr (0, [.ref x_13308, .int (nI (0))]) := (o_13935 a_13286 (by omega)).trans f_13873
        have f_13942 : F_13933 x_13308 = .inl (G.2 3, 6, .inr (.inr (.inr (.inr fa_13331)))) := (o_13935 x_13308 (by omega)).trans f_13877
        have f_13943 : F_13933 a_13341 = .inl (G.2 2, 2, .inr (.inr (.inr (.inr ((va_up ((va_up ((fun _ => none)) 0 (some a_13373))) 1 (some a_13448))))))) := (o_13935 a_13341 (by omega)).trans f_13881
        have f_13944 : F_13933 a_13532 = .inl (G.2 1, 2, .inl ((fun _ => nI 0))) := (o_13935 a_13532 (by omega)).trans f_13885
        have f_13945 : F_13933 a_13580 = .inr (4, [.ref x_13634, .int (nI (0))]) := (o_13935 a_13580 (by omega)).trans f_13889
        have f_13946 : F_13933 x_13634 = .inl (G.2 0, 60, .inl ((fun _ => nI 0))) := (o_13935 x_13634 (by omega)).trans f_13893
        have f_13947 : F_13933 a_13681 = rkO nr_13743 := (o_13935 a_13681 (by omega)).trans f_13897
        have f_13948 : F_13933 a_13798 = .inl (G.2 0, 7, .inl ((fun _ => nI 0))) := (o_13935 a_13798 (by omega)).trans f_13901
        have f_13949 : F_13933 a_13866 = .inl (G.2 0, 7, .inl ((fun _ => nI 0))) := (o_13935 a_13866 (by omega)).trans f_13932
        have hfr_13950 : ∀ q ∈ L, q ≠ a → F_13933 q = F q := by
          intro q hq hne
          have hqlt := hwS.lt hq
          exact ((((((((((((((((((((((((((o_13935 q (by omega)).trans (g_13867.2.2.1 q (hg_13858.1 q hq)).1).trans (o_13863 q (by omega))).trans (g_13799.2.2.1 q (hg_13790.1 q hq)).1).trans (o_13795 q (by omega))).trans (hf_13748 q (hg_13733.1 q hq) (by omega))).trans (g_13682.2.2.1 q (hg_13675.1 q hq)).1).trans (o_13678 q (by omega))).trans (hf_13639 q (hg_13624.1 q hq) (by omega))).trans (g_13581.2.2.1 q (hg_13572.1 q hq)).1).trans (o_13577 q (by omega))).trans (g_13533.2.2.1 q (hg_13524.1 q hq)).1).trans (o_13529 q (by omega))).trans (hf_13496 q (hg_13481.1 q hq) (by omega))).trans (g_13449.2.2.1 q (hg_13439.1 q hq)).1).trans (o_13444 q (by omega))).trans (hf_13416 q (hg_13401.1 q hq) (by omega))).trans (g_13374.2.2.1 q (hg_13365.1 q hq)).1).trans (o_13370 q (by omega))).trans (g_13342.2.2.1 q (hg_13330.1 q hq)).1).trans (o_13338 q (by omega))).trans (hf_13319 q (hg_13298.1 q hq) (by omega))).trans (g_13287.2.2.1 q (hg_13278.1 q hq)).1).trans (o_13283 q (by omega))).trans (hf_13272 q (hg_13257.1 q hq) (by omega))).trans (g_13252.2.2.1 q (hg0.1 q hq)).1)
        obtain ⟨hlfB, hlfm⟩ := lf_B (a := a) (xh := a_13286) (xs := x_13308) (x3 := a_13341) (x4 := a_13532) (xt := a_13580) (xc := x_13634) (xr := a_13681) (y0 := a_13798) (y1 := a_13866) (p0 := a_13251) (q0 := a_13373) (q1 := a_13448) (nr := nr_13743) (n0 := n_13267) (s0 := n_13411) (s1 := n_13491) (nn := nn_13309) (by omega) (fun i hi => ⟨gb_13280 i hi, lb_13297 i hi⟩) (by omega) (fun k i hk hi => ⟨gb_13335 k i hk hi, lb_13364 k i hk hi⟩) hnl_13318 ho_13316 (by omega) (fun i h1 h2 => ⟨gb_13441 i h1 h2, lb_13480 i h1 h2⟩) (fun i h1 h2 => ⟨gb_13526 i h1 h2, lb_13571 i h1 h2⟩) (by omega) (by omega) (by omega) (fun i hi => ⟨by have := gb_13792 i hi; omega, lb_13857 i hi⟩) (by omega)
        have hNj : ∀ k i j, k < 9 → i < 16 → j < 16 → (k < 7 ∨ 1 ≤ i) → (k < 7 ∨ 1 ≤ j) → i ≠ j → lfN n_13267 nn_13309 n_13411 n_13491 k i ≠ lfN n_13267 nn_13309 n_13411 n_13491 k j := by
          intro k i j hk hi hj h1 h2 hne
          unfold lfN
          by_cases k0 : k = 0
          · rw [if_pos k0, if_pos k0]; exact hj_13271 i j hi hj hne
          · rw [if_neg k0, if_neg k0]
            by_cases k7 : k < 7
            · rw [if_pos k7, if_pos k7]; exact hj_13317 (k - 1) i j (by omega) hi hj hne
            · rw [if_neg k7, if_neg k7]
              by_cases k8 : k = 7
              · rw [if_pos k8, if_pos k8]; exact hj_13415 i j (by omega) hi (by omega) hj hne
              · rw [if_neg k8, if_neg k8]; exact hj_13495 i j (by omega) hi (by omega) hj hne
        have hin := lf_inj hlfm hlfB hj_13747 hNj
        have hlo := lf_lo hlfm hlfB
        have hmem : ∀ i, i < 166 → lfA a a_13286 x_13308 a_13341 a_13532 a_13580 x_13634 a_13681 a_13798 a_13866 nr_13743 n_13267 nn_13309 n_13411 n_13491 i ∈ L_13864 := by
          intro i hi
          rcases lf_cat hi with h | ⟨r, hr9, rfl⟩ | ⟨k, r, hk, hr9, hkr, rfl⟩
          · rcases (show i = 0 ∨ i = 1 ∨ i = 2 ∨ i = 3 ∨ i = 4 ∨ i = 5 ∨ i = 6 ∨ i = 7 ∨ i = 134 ∨ i = 150 by omega) with rfl | rfl | rfl | rfl | rfl | rfl | rfl | rfl | rfl | rfl
            · exact m_13870
            · exact m_13874
            · exact m_13878
            · exact m_13882
            · exact m_13886
            · exact m_13890
            · exact m_13894
            · exact m_13898
            · exact m_13902
            · exact m_13931
          · rw [lf_r hr9]; exact mb_13928 r hr9
          · rw [lf_n hk hr9 hkr]
            unfold lfN
            by_cases k0 : k = 0
            · rw [if_pos k0]; exact mb_13912 r hr9
            · rw [if_neg k0]
              by_cases k7 : k < 7
              · rw [if_pos k7]; exact mb_13916 (k - 1) r (by omega) hr9
              · rw [if_neg k7]
                by_cases k8 : k = 7
                · rw [if_pos k8]; exact mb_13920 r (by omega) hr9
                · rw [if_neg k8]; exact mb_13924 r (by omega) hr9
        have eN : ∀ k, 1 ≤ k → k < 7 → lfN n_13267 nn_13309 n_13411 n_13491 k = nn_13309 (k - 1) := fun k h1 h2 => funext fun i => by unfold lfN; rw [if_neg (by omega), if_pos h2]
        have hxo : F_13933 a = xO (lfA a a_13286 x_13308 a_13341 a_13532 a_13580 x_13634 a_13681 a_13798 a_13866 nr_13743 n_13267 nn_13309 n_13411 n_13491) := f_13934.trans (congrArg (fun z9 => (.inr (5, [.ref z9, .ref a_13286, .ref a_13341, .ref a_13532, .ref a_13580, .ref a_13681, .ref a_13798, .ref a_13866]) : va_E)) e_13268.symm)
        have hx2 : ∀ i, i < 6 → fa_13331 i = some (lfN n_13267 nn_13309 n_13411 n_13491 (i + 1) 0) := fun i hi => by rw [hf9_13333 i hi, eN (i + 1) (by omega) (by omega), Nat.add_sub_cancel]
        have hx3 : ∀ j, j < 2 → ((va_up ((va_up ((fun _ => none)) 0 (some a_13373))) 1 (some a_13448))) j = some (lfN n_13267 nn_13309 n_13411 n_13491 (7 + j) 1) := by
          intro j hj
          match j, hj with
          | 0, _ => exact congrArg some e_13412.symm
          | 1, _ => exact congrArg some e_13492.symm
          | j + 2, h9 => exact absurd h9 (by omega)
        have hS9 : ∀ k, k < 7 → F_13933 (lfN n_13267 nn_13309 n_13411 n_13491 k 0) = stO (lfN n_13267 nn_13309 n_13411 n_13491 k 1) 500 0 0 0 := by
          intro k hk
          by_cases k0 : k = 0
          · subst k0; exact fb_13936.1
          · rw [eN k (by omega) hk]; exact (fb_13937 (k - 1) (by omega)).1
        have hN9 : ∀ k, k < 9 → shp G F_13933 (lfN n_13267 nn_13309 n_13411 n_13491 k) 0 5 r0 := by
          intro k hk
          by_cases k0 : k = 0
          · subst k0; exact fb_13936.2
          · by_cases k7 : k < 7
            · rw [eN k (by omega) k7]; exact (fb_13937 (k - 1) (by omega)).2
            · by_cases k8 : k = 7
              · subst k8; exact fb_13938
              · have k9 : k = 8 := by omega
                subst k9; exact fb_13939
        obtain ⟨F9, hw9, hX9, hf9⟩ := lf_XW (N := lfN n_13267 nn_13309 n_13411 n_13491) (ad := lfA a a_13286 x_13308 a_13341 a_13532 a_13580 x_13634 a_13681 a_13798 a_13866 nr_13743 n_13267 nn_13309 n_13411 n_13491) (nr := nr_13743) hw hin (fun k i hk hi h => lf_n hk hi h) (fun i hi => lf_r hi) hxo f_13941 ⟨_, f_13942, hx2⟩ ⟨_, f_13943, hx3⟩ f_13944 f_13945 f_13946 f_13947 fb_13940 f_13948 f_13949 hS9 hN9
        have hsz9 : ∀ i, 0 < i → i < 166 → s.heap.size ≤ lfA a a_13286 x_13308 a_13341 a_13532 a_13580 x_13634 a_13681 a_13798 a_13866 nr_13743 n_13267 nn_13309 n_13411 n_13491 i := fun i h1 h2 => Nat.le_trans (show s.heap.size ≤ a_13251 by omega) (hlo i h1 h2)
        have hw := hw9
        exact r_vN C0 hg_13930 hr hlk hw ⟨hg_13930, lfA a a_13286 x_13308 a_13341 a_13532 a_13580 x_13634 a_13681 a_13798 a_13866 nr_13743 n_13267 nn_13309 n_13411 n_13491, rfl, hX9, hmem, hsz9, hin, fun q hq hne => (hf9 q (fun i h1 h2 h3 => by have a1 := hwS.lt hq; have a2 := hsz9 i h2 h1; omega)).trans (hfr_13950 q hq hne)⟩ (Nat.le_of_ble_eq_true rfl) (Nat.le_of_ble_eq_true rfl) dX5_init_105 hQ
      · skip
        exact absurd c_38 (by omega)
