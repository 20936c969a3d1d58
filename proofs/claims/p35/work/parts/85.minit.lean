def r0 : Rws := fun i k => if 6 ≤ i ∧ k = 1 then 1 else 0
def st0 : Sta := (5, 500, 0, 0, 0, r0)
/-- one address by a rule for others -/
def ixf (l : List Nat) : Nat → Nat := fun i => l.getD i 0
abbrev rm_X2_init : Room := { frames := 1, cells := 14, slots := 96, locals := 40 }
theorem r0_fl (i : Nat) (h : 6 ≤ i) (k : Nat) : va_up (fun _ => zc 0) 1 (zc 1) k = r0 i k := by
  unfold r0
  by_cases e : k = 1
  · subst e
    rw [va_up_self, if_pos ⟨h, rfl⟩, zc_1]
  · rw [va_up_ne _ _ e, if_neg (fun h9 => e h9.2), zc_0]
theorem r0_lo {i : Nat} (h : i < 6) (k : Nat) : (fun _ => zc 0 : Nat → ZP) k = r0 i k := by
  unfold r0
  rw [if_neg (fun h9 => by omega)]
  exact zc_0
theorem wD.canonqE {s : State} {H : Heap} {locs : List Loc} {G : Gl} {L : List Nat} {F : Nat → va_E} {a : Nat} {N : Nat} {d : ClassId} {f : Nat → Option Nat} (hw : wD G L F s H locs) (ha : F a = .inl (d, N, .inr (.inr (.inr (.inr f))))) {g : Nat → Option Nat} (h : ∀ k, k < N → f k = g k) : ∃ F', wD G L F' s H locs ∧ F' a = .inl (d, N, .inr (.inr (.inr (.inr g)))) ∧ ∀ q, q ≠ a → F' q = F q := by
  refine ⟨va_up F a (.inl (d, N, .inr (.inr (.inr (.inr g))))), ⟨fun k q hk => ?_, va_pl_D hw.2.1, hw.2.2⟩, va_up_self _ _ _, fun _ hq => va_up_ne _ _ hq⟩
  have hm := List.mem_of_getElem? hk
  obtain ⟨b, hb, rfl⟩ := List.mem_map.mp hm
  obtain ⟨k9, hk9⟩ := va_pl_get (X := []) (f := F) hb
  have h9 := hw.1 k9 _ hk9
  by_cases hba : b = a
  · subst hba
    rw [va_up_self]
    rw [ha] at h9
    show H[b]? = some (vp_cell d (N, .inr (.inr (.inr (.inr g)))))
    have h8 : H[b]? = some (vp_cell d (N, .inr (.inr (.inr (.inr f))))) := h9
    rw [h8, vp_cell_q, vp_cell_q]
    unfold arrV
    have h7 : (fun j : Fin N => va_rf (f j.val)) = (fun j : Fin N => va_rf (g j.val)) := funext fun j => by rw [h j.val j.isLt]
    rw [h7]
  · rw [va_up_ne _ _ hba]
    exact h9
set_option maxHeartbeats 4000000 in
set_option maxRecDepth 100000 in
theorem c_X2_init (l : Launch) (G : Gl) (L : List Nat) (F : Nat → va_E) (a : Nat) (ma : a ∈ L) (fa : F a = .inr (2, [.int (nI (0)), .null, .null])) : CN l yX2_init cX2_init 2 rm_X2_init G L F [.ref a] (fun sz L1 F1 => gr L L1 sz ∧ ∃ n : Nat → Nat, n 1 = a ∧ shp G F1 n 0 5 r0 ∧ (∀ i, 2 ≤ i → i < 16 → sz ≤ n i ∧ n i ∈ L1) ∧ (∀ i j, 1 ≤ i → i < 16 → 1 ≤ j → j < 16 → i ≠ j → n i ≠ n j) ∧ (∀ q ∈ L, q ≠ a → F1 q = F q)) := by
  refine CN_of (by decide) (Nat.le_of_ble_eq_true rfl) rfl ?_
  intro p e s m args below meth c Q C0 hOv hr hlk hnm hQ hw ls hl
  have hx := C0.x
  have hb := C0.b
  have hwS := hw
  have hg0 := gr.rfl (L := L) s.heap.size
  have hlt0 := hw.lt ma
  refine lv_aload_n hx hb dX2_init_0 rfl (lv_at hl 0 rfl) ?_
  refine q_obj C0 hl.1 ob_X2 ob_i ob_c (by decide) (by decide) dX2_init_1 ?_
  refine lv_aload_n hx hb dX2_init_4 rfl (lv_at hl 0 rfl) ?_
  refine lv_iconst (v := nI 5) hx hb dX2_init_5 (by decide) ?_
  refine q_put C0 hw ma fa fw_X2_9 pw_X2_0 rfl rfl rfl (Nat.le_of_ble_eq_true rfl) dX2_init_6 (fun F_2199 H locs hw f_2200 o_2201 => ?_)
  have f_2200 : F_2199 a = .inr (2, [.int (nI (5)), .null, .null]) := f_2200
  refine lv_aload_n hx hb dX2_init_9 rfl (lv_at hl 0 rfl) ?_
  refine lv_bipush (v := nI 6) hx hb dX2_init_10 (by decide) ?_
  refine lv_bipush (v := nI 7) hx hb dX2_init_12 (by decide) ?_
  refine k_newM C0 hOv.2.2 hw cl_X2_15 (Nat.le_of_ble_eq_true rfl) (Nat.le_of_ble_eq_true rfl) dX2_init_14 (fun L_2202 F_2203 a_2204 H1 g_2205 hr_2206 hm_2207 hw1 => ?_)
  have hge_a_2204 : s.heap.size ≤ a_2204 := Nat.le_trans hw.2.2.1 g_2205.2.2.2.2
  have f_2208 : F_2203 a = .inr (2, [.int (nI (5)), .null, .null]) := (g_2205.2.2.1 a ma).1.trans f_2200
  have lt_2210 := (g_2205.2.2.1 a ma).2
  have m_2209 : a ∈ L_2202 := g_2205.1.1 a ma
  have hg_2211 := hg0.step g_2205.1 hw.2.2.1
  have C0 := C0.grow g_2205.1 hw.2.2.1
  have hw := hw1
  have m_2212 : a_2204 ∈ L_2202 := g_2205.2.2.2.1
  have f_2213 : F_2203 a_2204 = oE G (fun i => a_2204 + 1 + i) := g_2205.2.1
  have f_2214 : F_2203 (a_2204 + 1 + 0) = rw7 G ((fun _ => zc 0)) := hr_2206 0 (by decide)
  have m_2215 : a_2204 + 1 + 0 ∈ L_2202 := hm_2207 0 (by decide)
  have f_2216 : F_2203 (a_2204 + 1 + 1) = rw7 G ((fun _ => zc 0)) := hr_2206 1 (by decide)
  have m_2217 : a_2204 + 1 + 1 ∈ L_2202 := hm_2207 1 (by decide)
  have f_2218 : F_2203 (a_2204 + 1 + 2) = rw7 G ((fun _ => zc 0)) := hr_2206 2 (by decide)
  have m_2219 : a_2204 + 1 + 2 ∈ L_2202 := hm_2207 2 (by decide)
  have f_2220 : F_2203 (a_2204 + 1 + 3) = rw7 G ((fun _ => zc 0)) := hr_2206 3 (by decide)
  have m_2221 : a_2204 + 1 + 3 ∈ L_2202 := hm_2207 3 (by decide)
  have f_2222 : F_2203 (a_2204 + 1 + 4) = rw7 G ((fun _ => zc 0)) := hr_2206 4 (by decide)
  have m_2223 : a_2204 + 1 + 4 ∈ L_2202 := hm_2207 4 (by decide)
  have f_2224 : F_2203 (a_2204 + 1 + 5) = rw7 G ((fun _ => zc 0)) := hr_2206 5 (by decide)
  have m_2225 : a_2204 + 1 + 5 ∈ L_2202 := hm_2207 5 (by decide)
  refine q_putF C0 hnm hw m_2209 f_2208 fw_X2_17 pw_X2_1 rfl rfl rfl rfl (Nat.le_of_ble_eq_true rfl) dX2_init_18 (fun F_2226 H locs hw f_2227 o_2228 => ?_)
  have f_2227 : F_2226 a = .inr (2, [.int (nI (5)), .ref a_2204, .null]) := f_2227
  refine lv_aload_n hx hb dX2_init_21 rfl (lv_at hl 0 rfl) ?_
  refine lv_bipush (v := nI 6) hx hb dX2_init_22 (by decide) ?_
  refine lv_bipush (v := nI 7) hx hb dX2_init_24 (by decide) ?_
  refine k_newM C0 hOv.2.2 hw cl_X2_15 (Nat.le_of_ble_eq_true rfl) (Nat.le_of_ble_eq_true rfl) dX2_init_26 (fun L_2229 F_2230 a_2231 H1 g_2232 hr_2233 hm_2234 hw1 => ?_)
  have hge_a_2231 : s.heap.size ≤ a_2231 := Nat.le_trans hw.2.2.1 g_2232.2.2.2.2
  have f_2235 : F_2230 a = .inr (2, [.int (nI (5)), .ref a_2204, .null]) := (g_2232.2.2.1 a m_2209).1.trans f_2227
  have lt_2237 := (g_2232.2.2.1 a m_2209).2
  have m_2236 : a ∈ L_2229 := g_2232.1.1 a m_2209
  have f_2238 : F_2226 a_2204 = oE G (fun i => a_2204 + 1 + i) := (o_2228 a_2204 (by omega)).trans f_2213
  have f_2239 : F_2230 a_2204 = oE G (fun i => a_2204 + 1 + i) := (g_2232.2.2.1 a_2204 m_2212).1.trans f_2238
  have lt_2241 := (g_2232.2.2.1 a_2204 m_2212).2
  have m_2240 : a_2204 ∈ L_2229 := g_2232.1.1 a_2204 m_2212
  have f_2242 : F_2226 (a_2204 + 1 + 0) = rw7 G ((fun _ => zc 0)) := (o_2228 (a_2204 + 1 + 0) (by omega)).trans f_2214
  have f_2243 : F_2230 (a_2204 + 1 + 0) = rw7 G ((fun _ => zc 0)) := (g_2232.2.2.1 (a_2204 + 1 + 0) m_2215).1.trans f_2242
  have lt_2245 := (g_2232.2.2.1 (a_2204 + 1 + 0) m_2215).2
  have m_2244 : (a_2204 + 1 + 0) ∈ L_2229 := g_2232.1.1 (a_2204 + 1 + 0) m_2215
  have f_2246 : F_2226 (a_2204 + 1 + 1) = rw7 G ((fun _ => zc 0)) := (o_2228 (a_2204 + 1 + 1) (by omega)).trans f_2216
  have f_2247 : F_2230 (a_2204 + 1 + 1) = rw7 G ((fun _ => zc 0)) := (g_2232.2.2.1 (a_2204 + 1 + 1) m_2217).1.trans f_2246
  have lt_2249 := (g_2232.2.2.1 (a_2204 + 1 + 1) m_2217).2
  have m_2248 : (a_2204 + 1 + 1) ∈ L_2229 := g_2232.1.1 (a_2204 + 1 + 1) m_2217
  have f_2250 : F_2226 (a_2204 + 1 + 2) = rw7 G ((fun _ => zc 0)) := (o_2228 (a_2204 + 1 + 2) (by omega)).trans f_2218
  have f_2251 : F_2230 (a_2204 + 1 + 2) = rw7 G ((fun _ => zc 0)) := (g_2232.2.2.1 (a_2204 + 1 + 2) m_2219).1.trans f_2250
  have lt_2253 := (g_2232.2.2.1 (a_2204 + 1 + 2) m_2219).2
  have m_2252 : (a_2204 + 1 + 2) ∈ L_2229 := g_2232.1.1 (a_2204 + 1 + 2) m_2219
  have f_2254 : F_2226 (a_2204 + 1 + 3) = rw7 G ((fun _ => zc 0)) := (o_2228 (a_2204 + 1 + 3) (by omega)).trans f_2220
  have f_2255 : F_2230 (a_2204 + 1 + 3) = rw7 G ((fun _ => zc 0)) := (g_2232.2.2.1 (a_2204 + 1 + 3) m_2221).1.trans f_2254
  have lt_2257 := (g_2232.2.2.1 (a_2204 + 1 + 3) m_2221).2
  have m_2256 : (a_2204 + 1 + 3) ∈ L_2229 := g_2232.1.1 (a_2204 + 1 + 3) m_2221
  have f_2258 : F_2226 (a_2204 + 1 + 4) = rw7 G ((fun _ => zc 0)) := (o_2228 (a_2204 + 1 + 4) (by omega)).trans f_2222
  have f_2259 : F_2230 (a_2204 + 1 + 4) = rw7 G ((fun _ => zc 0)) := (g_2232.2.2.1 (a_2204 + 1 + 4) m_2223).1.trans f_2258
  have lt_2261 := (g_2232.2.2.1 (a_2204 + 1 + 4) m_2223).2
  have m_2260 : (a_2204 + 1 + 4) ∈ L_2229 := g_2232.1.1 (a_2204 + 1 + 4) m_2223
  have f_2262 : F_2226 (a_2204 + 1 + 5) = rw7 G ((fun _ => zc 0)) := (o_2228 (a_2204 + 1 + 5) (by omega)).trans f_2224
  have f_2263 : F_2230 (a_2204 + 1 + 5) = rw7 G ((fun _ => zc 0)) := (g_2232.2.2.1 (a_2204 + 1 + 5) m_2225).1.trans f_2262
  have lt_2265 := (g_2232.2.2.1 (a_2204 + 1 + 5) m_2225).2
  have m_2264 : (a_2204 + 1 + 5) ∈ L_2229 := g_2232.1.1 (a_2204 + 1 + 5) m_2225
  have hg_2266 := hg_2211.step g_2232.1 hw.2.2.1
  have C0 := C0.grow g_2232.1 hw.2.2.1
  have hw := hw1
  have m_2267 : a_2231 ∈ L_2229 := g_2232.2.2.2.1
  have f_2268 : F_2230 a_2231 = oE G (fun i => a_2231 + 1 + i) := g_2232.2.1
  have f_2269 : F_2230 (a_2231 + 1 + 0) = rw7 G ((fun _ => zc 0)) := hr_2233 0 (by decide)
  have m_2270 : a_2231 + 1 + 0 ∈ L_2229 := hm_2234 0 (by decide)
  have f_2271 : F_2230 (a_2231 + 1 + 1) = rw7 G ((fun _ => zc 0)) := hr_2233 1 (by decide)
  have m_2272 : a_2231 + 1 + 1 ∈ L_2229 := hm_2234 1 (by decide)
  have f_2273 : F_2230 (a_2231 + 1 + 2) = rw7 G ((fun _ => zc 0)) := hr_2233 2 (by decide)
  have m_2274 : a_2231 + 1 + 2 ∈ L_2229 := hm_2234 2 (by decide)
  have f_2275 : F_2230 (a_2231 + 1 + 3) = rw7 G ((fun _ => zc 0)) := hr_2233 3 (by decide)
  have m_2276 : a_2231 + 1 + 3 ∈ L_2229 := hm_2234 3 (by decide)
  have f_2277 : F_2230 (a_2231 + 1 + 4) = rw7 G ((fun _ => zc 0)) := hr_2233 4 (by decide)
  have m_2278 : a_2231 + 1 + 4 ∈ L_2229 := hm_2234 4 (by decide)
  have f_2279 : F_2230 (a_2231 + 1 + 5) = rw7 G ((fun _ => zc 0)) := hr_2233 5 (by decide)
  have m_2280 : a_2231 + 1 + 5 ∈ L_2229 := hm_2234 5 (by decide)
  refine q_putF C0 hnm hw m_2236 f_2235 fw_X2_20 pw_X2_2 rfl rfl rfl rfl (Nat.le_of_ble_eq_true rfl) dX2_init_30 (fun F_2281 H locs hw f_2282 o_2283 => ?_)
  have f_2282 : F_2281 a = .inr (2, [.int (nI (5)), .ref a_2204, .ref a_2231]) := f_2282
  refine lv_iconst (v := nI 0) hx hb dX2_init_33 (by decide) ?_
  refine lv_istore_n (lv' := [(1, .int (nI (0))), (0, .ref a)]) hx hb dX2_init_34 rfl hl (by decide) rfl (fun ls hl => ?_)
  refine lv_iload_n hx hb dX2_init_35 rfl (lv_at hl 0 rfl) ?_
  refine lv_bipush (v := nI 6) hx hb dX2_init_36 (by decide) ?_
  refine n_icmp_ge (tgt := 56) hx hb dX2_init_38 (by decide) (by decide) (by decide) (fun c_38 => ?_) (fun c_38 => ?_)
  · skip
    exact absurd c_38 (by omega)
  · skip
    refine lv_aload_n hx hb dX2_init_41 rfl (lv_at hl 1 rfl) ?_
    refine q_get C0 hw m_2236 f_2282 fw_X2_20 rfl dX2_init_42 ?_
    refine lv_iload_n hx hb dX2_init_45 rfl (lv_at hl 0 rfl) ?_
    have f_2284 : F_2281 a_2231 = oE G (fun i => a_2231 + 1 + i) := (o_2283 a_2231 (by omega)).trans f_2268
    refine q_aaldi C0 hw m_2267 f_2284 (0) (by omega) (by decide) (b := a_2231 + 1 + 0) rfl dX2_init_46 ?_
    refine lv_iconst (v := nI 1) hx hb dX2_init_47 (by decide) ?_
    refine lv_iconst (v := nI 1) hx hb dX2_init_48 (by decide) ?_
    have f_2285 : F_2281 (a_2231 + 1 + 0) = rw7 G ((fun _ => zc 0)) := (o_2283 (a_2231 + 1 + 0) (by omega)).trans f_2269
    refine q_rst C0 hw m_2270 f_2285 (1) (by omega) (z := zc 1) dX2_init_49 (fun F_2286 H locs hw f_2287 o_2288 => ?_)
    refine lv_iinc (v := nI 1) (lv' := [(1, .int (nI (1))), (0, .ref a)]) hx hb dX2_init_50 hl (k := 0) rfl (by decide) (by decide) rfl (fun ls hl => ?_)
    refine lv_goto (tgt := 35) hx hb dX2_init_53 (by decide) ?_
    refine lv_iload_n hx hb dX2_init_35 rfl (lv_at hl 0 rfl) ?_
    refine lv_bipush (v := nI 6) hx hb dX2_init_36 (by decide) ?_
    refine n_icmp_ge (tgt := 56) hx hb dX2_init_38 (by decide) (by decide) (by decide) (fun c_38 => ?_) (fun c_38 => ?_)
    · skip
      exact absurd c_38 (by omega)
    · skip
      refine lv_aload_n hx hb dX2_init_41 rfl (lv_at hl 1 rfl) ?_
      have f_2289 : F_2286 a = .inr (2, [.int (nI (5)), .ref a_2204, .ref a_2231]) := (o_2288 a (by omega)).trans f_2282
      refine q_get C0 hw m_2236 f_2289 fw_X2_20 rfl dX2_init_42 ?_
      refine lv_iload_n hx hb dX2_init_45 rfl (lv_at hl 0 rfl) ?_
      have f_2290 : F_2286 a_2231 = oE G (fun i => a_2231 + 1 + i) := (o_2288 a_2231 (by omega)).trans f_2284
      refine q_aaldi C0 hw m_2267 f_2290 (1) (by omega) (by decide) (b := a_2231 + 1 + 1) rfl dX2_init_46 ?_
      refine lv_iconst (v := nI 1) hx hb dX2_init_47 (by decide) ?_
      refine lv_iconst (v := nI 1) hx hb dX2_init_48 (by decide) ?_
      have f_2291 : F_2281 (a_2231 + 1 + 1) = rw7 G ((fun _ => zc 0)) := (o_2283 (a_2231 + 1 + 1) (by omega)).trans f_2271
      have f_2292 : F_2286 (a_2231 + 1 + 1) = rw7 G ((fun _ => zc 0)) := (o_2288 (a_2231 + 1 + 1) (by omega)).trans f_2291
      refine q_rst C0 hw m_2272 f_2292 (1) (by omega) (z := zc 1) dX2_init_49 (fun F_2293 H locs hw f_2294 o_2295 => ?_)
      refine lv_iinc (v := nI 2) (lv' := [(1, .int (nI (2))), (0, .ref a)]) hx hb dX2_init_50 hl (k := 0) rfl (by decide) (by decide) rfl (fun ls hl => ?_)
      refine lv_goto (tgt := 35) hx hb dX2_init_53 (by decide) ?_
      refine lv_iload_n hx hb dX2_init_35 rfl (lv_at hl 0 rfl) ?_
      refine lv_bipush (v := nI 6) hx hb dX2_init_36 (by decide) ?_
      refine n_icmp_ge (tgt := 56) hx hb dX2_init_38 (by decide) (by decide) (by decide) (fun c_38 => ?_) (fun c_38 => ?_)
      · skip
        exact absurd c_38 (by omega)
      · skip
        refine lv_aload_n hx hb dX2_init_41 rfl (lv_at hl 1 rfl) ?_
        have f_2296 : F_2293 a = .inr (2, [.int (nI (5)), .ref a_2204, .ref a_2231]) := (o_2295 a (by omega)).trans f_2289
        refine q_get C0 hw m_2236 f_2296 fw_X2_20 rfl dX2_init_42 ?_
        refine lv_iload_n hx hb dX2_init_45 rfl (lv_at hl 0 rfl) ?_
        have f_2297 : F_2293 a_2231 = oE G (fun i => a_2231 + 1 + i) := (o_2295 a_2231 (by omega)).trans f_2290
        refine q_aaldi C0 hw m_2267 f_2297 (2) (by omega) (by decide) (b := a_2231 + 1 + 2) rfl dX2_init_46 ?_
        refine lv_iconst (v := nI 1) hx hb dX2_init_47 (by decide) ?_
        refine lv_iconst (v := nI 1) hx hb dX2_init_48 (by decide) ?_
        have f_2298 : F_2281 (a_2231 + 1 + 2) = rw7 G ((fun _ => zc 0)) := (o_2283 (a_2231 + 1 + 2) (by omega)).trans f_2273
        have f_2299 : F_2286 (a_2231 + 1 + 2) = rw7 G ((fun _ => zc 0)) := (o_2288 (a_2231 + 1 + 2) (by omega)).trans f_2298
        have f_2300 : F_2293 (a_2231 + 1 + 2) = rw7 G ((fun _ => zc 0)) := (o_2295 (a_2231 + 1 + 2) (by omega)).trans f_2299
        refine q_rst C0 hw m_2274 f_2300 (1) (by omega) (z := zc 1) dX2_init_49 (fun F_2301 H locs hw f_2302 o_2303 => ?_)
        refine lv_iinc (v := nI 3) (lv' := [(1, .int (nI (3))), (0, .ref a)]) hx hb dX2_init_50 hl (k := 0) rfl (by decide) (by decide) rfl (fun ls hl => ?_)
        refine lv_goto (tgt := 35) hx hb dX2_init_53 (by decide) ?_
        refine lv_iload_n hx hb dX2_init_35 rfl (lv_at hl 0 rfl) ?_
        refine lv_bipush (v := nI 6) hx hb dX2_init_36 (by decide) ?_
        refine n_icmp_ge (tgt := 56) hx hb dX2_init_38 (by decide) (by decide) (by decide) (fun c_38 => ?_) (fun c_38 => ?_)
        · skip
          exact absurd c_38 (by omega)
        · skip
          refine lv_aload_n hx hb dX2_init_41 rfl (lv_at hl 1 rfl) ?_
          have f_2304 : F_2301 a = .inr (2, [.int (nI (5)), .ref a_2204, .ref a_2231]) := (o_2303 a (by omega)).trans f_2296
          refine q_get C0 hw m_2236 f_2304 fw_X2_20 rfl dX2_init_42 ?_
          refine lv_iload_n hx hb dX2_init_45 rfl (lv_at hl 0 rfl) ?_
          have f_2305 : F_2301 a_2231 = oE G (fun i => a_2231 + 1 + i) := (o_2303 a_2231 (by omega)).trans f_2297
          refine q_aaldi C0 hw m_2267 f_2305 (3) (by omega) (by decide) (b := a_2231 + 1 + 3) rfl dX2_init_46 ?_
          refine lv_iconst (v := nI 1) hx hb dX2_init_47 (by decide) ?_
          refine lv_iconst (v := nI 1) hx hb dX2_init_48 (by decide) ?_
          have f_2306 : F_2281 (a_2231 + 1 + 3) = rw7 G ((fun _ => zc 0)) := (o_2283 (a_2231 + 1 + 3) (by omega)).trans f_2275
          have f_2307 : F_2286 (a_2231 + 1 + 3) = rw7 G ((fun _ => zc 0)) := (o_2288 (a_2231 + 1 + 3) (by omega)).trans f_2306
          have f_2308 : F_2293 (a_2231 + 1 + 3) = rw7 G ((fun _ => zc 0)) := (o_2295 (a_2231 + 1 + 3) (by omega)).trans f_2307
          have f_2309 : F_2301 (a_2231 + 1 + 3) = rw7 G ((fun _ => zc 0)) := (o_2303 (a_2231 + 1 + 3) (by omega)).trans f_2308
          refine q_rst C0 hw m_2276 f_2309 (1) (by omega) (z := zc 1) dX2_init_49 (fun F_2310 H locs hw f_2311 o_2312 => ?_)
          refine lv_iinc (v := nI 4) (lv' := [(1, .int (nI (4))), (0, .ref a)]) hx hb dX2_init_50 hl (k := 0) rfl (by decide) (by decide) rfl (fun ls hl => ?_)
          refine lv_goto (tgt := 35) hx hb dX2_init_53 (by decide) ?_
          refine lv_iload_n hx hb dX2_init_35 rfl (lv_at hl 0 rfl) ?_
          refine lv_bipush (v := nI 6) hx hb dX2_init_36 (by decide) ?_
          refine n_icmp_ge (tgt := 56) hx hb dX2_init_38 (by decide) (by decide) (by decide) (fun c_38 => ?_) (fun c_38 => ?_)
          · skip
            exact absurd c_38 (by omega)
          · skip
            refine lv_aload_n hx hb dX2_init_41 rfl (lv_at hl 1 rfl) ?_
            have f_2313 : F_2310 a = .inr (2, [.int (nI (5)), .ref a_2204, .ref a_2231]) := (o_2312 a (by omega)).trans f_2304
            refine q_get C0 hw m_2236 f_2313 fw_X2_20 rfl dX2_init_42 ?_
            refine lv_iload_n hx hb dX2_init_45 rfl (lv_at hl 0 rfl) ?_
            have f_2314 : F_2310 a_2231 = oE G (fun i => a_2231 + 1 + i) := (o_2312 a_2231 (by omega)).trans f_2305
            refine q_aaldi C0 hw m_2267 f_2314 (4) (by omega) (by decide) (b := a_2231 + 1 + 4) rfl dX2_init_46 ?_
            refine lv_iconst (v := nI 1) hx hb dX2_init_47 (by decide) ?_
            refine lv_iconst (v := nI 1) hx hb dX2_init_48 (by decide) ?_
            have f_2315 : F_2281 (a_2231 + 1 + 4) = rw7 G ((fun _ => zc 0)) := (o_2283 (a_2231 + 1 + 4) (by omega)).trans f_2277
            have f_2316 : F_2286 (a_2231 + 1 + 4) = rw7 G ((fun _ => zc 0)) := (o_2288 (a_2231 + 1 + 4) (by omega)).trans f_2315
            have f_2317 : F_2293 (a_2231 + 1 + 4) = rw7 G ((fun _ => zc 0)) := (o_2295 (a_2231 + 1 + 4) (by omega)).trans f_2316
            have f_2318 : F_2301 (a_2231 + 1 + 4) = rw7 G ((fun _ => zc 0)) := (o_2303 (a_2231 + 1 + 4) (by omega)).trans f_2317
            have f_2319 : F_2310 (a_2231 + 1 + 4) = rw7 G ((fun _ => zc 0)) := (o_2312 (a_2231 + 1 + 4) (by omega)).trans f_2318
            refine q_rst C0 hw m_2278 f_2319 (1) (by omega) (z := zc 1) dX2_init_49 (fun F_2320 H locs hw f_2321 o_2322 => ?_)
            refine lv_iinc (v := nI 5) (lv' := [(1, .int (nI (5))), (0, .ref a)]) hx hb dX2_init_50 hl (k := 0) rfl (by decide) (by decide) rfl (fun ls hl => ?_)
            refine lv_goto (tgt := 35) hx hb dX2_init_53 (by decide) ?_
            refine lv_iload_n hx hb dX2_init_35 rfl (lv_at hl 0 rfl) ?_
            refine lv_bipush (v := nI 6) hx hb dX2_init_36 (by decide) ?_
            refine n_icmp_ge (tgt := 56) hx hb dX2_init_38 (by decide) (by decide) (by decide) (fun c_38 => ?_) (fun c_38 => ?_)
            · skip
              exact absurd c_38 (by omega)
            · skip
              refine lv_aload_n hx hb dX2_init_41 rfl (lv_at hl 1 rfl) ?_
              have f_2323 : F_2320 a = .inr (2, [.int (nI (5)), .ref a_2204, .ref a_2231]) := (o_2322 a (by omega)).trans f_2313
              refine q_get C0 hw m_2236 f_2323 fw_X2_20 rfl dX2_init_42 ?_
              refine lv_iload_n hx hb dX2_init_45 rfl (lv_at hl 0 rfl) ?_
              have f_2324 : F_2320 a_2231 = oE G (fun i => a_2231 + 1 + i) := (o_2322 a_2231 (by omega)).trans f_2314
              refine q_aaldi C0 hw m_2267 f_2324 (5) (by omega) (by decide) (b := a_2231 + 1 + 5) rfl dX2_init_46 ?_
              refine lv_iconst (v := nI 1) hx hb dX2_init_47 (by decide) ?_
              refine lv_iconst (v := nI 1) hx hb dX2_init_48 (by decide) ?_
              have f_2325 : F_2281 (a_2231 + 1 + 5) = rw7 G ((fun _ => zc 0)) := (o_2283 (a_2231 + 1 + 5) (by omega)).trans f_2279
              have f_2326 : F_2286 (a_2231 + 1 + 5) = rw7 G ((fun _ => zc 0)) := (o_2288 (a_2231 + 1 + 5) (by omega)).trans f_2325
              have f_2327 : F_2293 (a_2231 + 1 + 5) = rw7 G ((fun _ => zc 0)) := (o_2295 (a_2231 + 1 + 5) (by omega)).trans f_2326
              have f_2328 : F_2301 (a_2231 + 1 + 5) = rw7 G ((fun _ => zc 0)) := (o_2303 (a_2231 + 1 + 5) (by omega)).trans f_2327
              have f_2329 : F_2310 (a_2231 + 1 + 5) = rw7 G ((fun _ => zc 0)) := (o_2312 (a_2231 + 1 + 5) (by omega)).trans f_2328
              have f_2330 : F_2320 (a_2231 + 1 + 5) = rw7 G ((fun _ => zc 0)) := (o_2322 (a_2231 + 1 + 5) (by omega)).trans f_2329
              refine q_rst C0 hw m_2280 f_2330 (1) (by omega) (z := zc 1) dX2_init_49 (fun F_2331 H locs hw f_2332 o_2333 => ?_)
              refine lv_iinc (v := nI 6) (lv' := [(1, .int (nI (6))), (0, .ref a)]) hx hb dX2_init_50 hl (k := 0) rfl (by decide) (by decide) rfl (fun ls hl => ?_)
              refine lv_goto (tgt := 35) hx hb dX2_init_53 (by decide) ?_
              refine lv_iload_n hx hb dX2_init_35 rfl (lv_at hl 0 rfl) ?_
              refine lv_bipush (v := nI 6) hx hb dX2_init_36 (by decide) ?_
              refine n_icmp_ge (tgt := 56) hx hb dX2_init_38 (by decide) (by decide) (by decide) (fun c_38 => ?_) (fun c_38 => ?_)
              · skip
                obtain ⟨n, en⟩ : ∃ n : Nat → Nat, n = (fun i => if i = 1 then a else if i = 2 then a_2204 else if i = 3 then a_2231 else if i < 10 then a_2204 + 1 + (i - 4) else a_2231 + 1 + (i - 10)) := ⟨_, rfl⟩
                have e1 : n 1 = a := by rw [en]; rfl
                have e2 : n 2 = a_2204 := by rw [en]; rfl
                have e3 : n 3 = a_2231 := by rw [en]; rfl
                have e4 : n 4 = a_2204 + 1 + 0 := by rw [en]; rfl
                have e5 : n 5 = a_2204 + 1 + 1 := by rw [en]; rfl
                have e6 : n 6 = a_2204 + 1 + 2 := by rw [en]; rfl
                have e7 : n 7 = a_2204 + 1 + 3 := by rw [en]; rfl
                have e8 : n 8 = a_2204 + 1 + 4 := by rw [en]; rfl
                have e9 : n 9 = a_2204 + 1 + 5 := by rw [en]; rfl
                have e10 : n 10 = a_2231 + 1 + 0 := by rw [en]; rfl
                have e11 : n 11 = a_2231 + 1 + 1 := by rw [en]; rfl
                have e12 : n 12 = a_2231 + 1 + 2 := by rw [en]; rfl
                have e13 : n 13 = a_2231 + 1 + 3 := by rw [en]; rfl
                have e14 : n 14 = a_2231 + 1 + 4 := by rw [en]; rfl
                have e15 : n 15 = a_2231 + 1 + 5 := by rw [en]; rfl
                have f_2334 : F_2281 a_2204 = oE G (fun i => a_2204 + 1 + i) := (o_2283 a_2204 (by omega)).trans f_2239
                have f_2335 : F_2286 a_2204 = oE G (fun i => a_2204 + 1 + i) := (o_2288 a_2204 (by omega)).trans f_2334
                have f_2336 : F_2293 a_2204 = oE G (fun i => a_2204 + 1 + i) := (o_2295 a_2204 (by omega)).trans f_2335
                have f_2337 : F_2301 a_2204 = oE G (fun i => a_2204 + 1 + i) := (o_2303 a_2204 (by omega)).trans f_2336
                have f_2338 : F_2310 a_2204 = oE G (fun i => a_2204 + 1 + i) := (o_2312 a_2204 (by omega)).trans f_2337
                have f_2339 : F_2320 a_2204 = oE G (fun i => a_2204 + 1 + i) := (o_2322 a_2204 (by omega)).trans f_2338
                have f_2340 : F_2331 a_2204 = oE G (fun i => a_2204 + 1 + i) := (o_2333 a_2204 (by omega)).trans f_2339
                obtain ⟨F_2341, hw, f_2342, o_2343⟩ := hw.canonqE f_2340 (g := (fun i => some (n (0 + 4 + i)))) (fun i hi => by match i, hi with | 0, _ => exact congrArg some e4.symm | 1, _ => exact congrArg some e5.symm | 2, _ => exact congrArg some e6.symm | 3, _ => exact congrArg some e7.symm | 4, _ => exact congrArg some e8.symm | 5, _ => exact congrArg some e9.symm | i + 6, h9 => exact absurd h9 (by omega))
                have f_2344 : F_2331 a_2231 = oE G (fun i => a_2231 + 1 + i) := (o_2333 a_2231 (by omega)).trans f_2324
                have f_2345 : F_2341 a_2231 = oE G (fun i => a_2231 + 1 + i) := (o_2343 a_2231 (by omega)).trans f_2344
                obtain ⟨F_2346, hw, f_2347, o_2348⟩ := hw.canonqE f_2345 (g := (fun i => some (n (0 + 10 + i)))) (fun i hi => by match i, hi with | 0, _ => exact congrArg some e10.symm | 1, _ => exact congrArg some e11.symm | 2, _ => exact congrArg some e12.symm | 3, _ => exact congrArg some e13.symm | 4, _ => exact congrArg some e14.symm | 5, _ => exact congrArg some e15.symm | i + 6, h9 => exact absurd h9 (by omega))
                have hfr_2349 : ∀ q ∈ L, q ≠ a → F_2346 q = F q := by
                  intro q hq hne
                  have hqlt := hwS.lt hq
                  exact (((((((((((((o_2348 q (by omega)).trans (o_2343 q (by omega))).trans (o_2333 q (by omega))).trans (o_2322 q (by omega))).trans (o_2312 q (by omega))).trans (o_2303 q (by omega))).trans (o_2295 q (by omega))).trans (o_2288 q (by omega))).trans (o_2283 q (by omega))).trans (g_2232.2.2.1 q (hg_2211.1 q hq)).1).trans (o_2228 q (by omega))).trans (g_2205.2.2.1 q (hg0.1 q hq)).1).trans (o_2201 q (by omega)))
                have f_2350 : F_2331 a = .inr (2, [.int (nI (5)), .ref a_2204, .ref a_2231]) := (o_2333 a (by omega)).trans f_2323
                have f_2351 : F_2341 a = .inr (2, [.int (nI (5)), .ref a_2204, .ref a_2231]) := (o_2343 a (by omega)).trans f_2350
                have f_2352 : F_2346 a = .inr (2, [.int (nI (5)), .ref a_2204, .ref a_2231]) := (o_2348 a (by omega)).trans f_2351
                have f_2353 : F_2346 a_2204 = oE G (fun i => n (0 + 4 + i)) := (o_2348 a_2204 (by omega)).trans f_2342
                have f_2354 : F_2281 (a_2204 + 1 + 0) = rw7 G ((fun _ => zc 0)) := (o_2283 (a_2204 + 1 + 0) (by omega)).trans f_2243
                have f_2355 : F_2286 (a_2204 + 1 + 0) = rw7 G ((fun _ => zc 0)) := (o_2288 (a_2204 + 1 + 0) (by omega)).trans f_2354
                have f_2356 : F_2293 (a_2204 + 1 + 0) = rw7 G ((fun _ => zc 0)) := (o_2295 (a_2204 + 1 + 0) (by omega)).trans f_2355
                have f_2357 : F_2301 (a_2204 + 1 + 0) = rw7 G ((fun _ => zc 0)) := (o_2303 (a_2204 + 1 + 0) (by omega)).trans f_2356
                have f_2358 : F_2310 (a_2204 + 1 + 0) = rw7 G ((fun _ => zc 0)) := (o_2312 (a_2204 + 1 + 0) (by omega)).trans f_2357
                have f_2359 : F_2320 (a_2204 + 1 + 0) = rw7 G ((fun _ => zc 0)) := (o_2322 (a_2204 + 1 + 0) (by omega)).trans f_2358
                have f_2360 : F_2331 (a_2204 + 1 + 0) = rw7 G ((fun _ => zc 0)) := (o_2333 (a_2204 + 1 + 0) (by omega)).trans f_2359
                have f_2361 : F_2341 (a_2204 + 1 + 0) = rw7 G ((fun _ => zc 0)) := (o_2343 (a_2204 + 1 + 0) (by omega)).trans f_2360
                have f_2362 : F_2346 (a_2204 + 1 + 0) = rw7 G ((fun _ => zc 0)) := (o_2348 (a_2204 + 1 + 0) (by omega)).trans f_2361
                have f_2363 : F_2281 (a_2204 + 1 + 1) = rw7 G ((fun _ => zc 0)) := (o_2283 (a_2204 + 1 + 1) (by omega)).trans f_2247
                have f_2364 : F_2286 (a_2204 + 1 + 1) = rw7 G ((fun _ => zc 0)) := (o_2288 (a_2204 + 1 + 1) (by omega)).trans f_2363
                have f_2365 : F_2293 (a_2204 + 1 + 1) = rw7 G ((fun _ => zc 0)) := (o_2295 (a_2204 + 1 + 1) (by omega)).trans f_2364
                have f_2366 : F_2301 (a_2204 + 1 + 1) = rw7 G ((fun _ => zc 0)) := (o_2303 (a_2204 + 1 + 1) (by omega)).trans f_2365
                have f_2367 : F_2310 (a_2204 + 1 + 1) = rw7 G ((fun _ => zc 0)) := (o_2312 (a_2204 + 1 + 1) (by omega)).trans f_2366
                have f_2368 : F_2320 (a_2204 + 1 + 1) = rw7 G ((fun _ => zc 0)) := (o_2322 (a_2204 + 1 + 1) (by omega)).trans f_2367
                have f_2369 : F_2331 (a_2204 + 1 + 1) = rw7 G ((fun _ => zc 0)) := (o_2333 (a_2204 + 1 + 1) (by omega)).trans f_2368
                have f_2370 : F_2341 (a_2204 + 1 + 1) = rw7 G ((fun _ => zc 0)) := (o_2343 (a_2204 + 1 + 1) (by omega)).trans f_2369
                have f_2371 : F_2346 (a_2204 + 1 + 1) = rw7 G ((fun _ => zc 0)) := (o_2348 (a_2204 + 1 + 1) (by omega)).trans f_2370
                have f_2372 : F_2281 (a_2204 + 1 + 2) = rw7 G ((fun _ => zc 0)) := (o_2283 (a_2204 + 1 + 2) (by omega)).trans f_2251
                have f_2373 : F_2286 (a_2204 + 1 + 2) = rw7 G ((fun _ => zc 0)) := (o_2288 (a_2204 + 1 + 2) (by omega)).trans f_2372
                have f_2374 : F_2293 (a_2204 + 1 + 2) = rw7 G ((fun _ => zc 0)) := (o_2295 (a_2204 + 1 + 2) (by omega)).trans f_2373
                have f_2375 : F_2301 (a_2204 + 1 + 2) = rw7 G ((fun _ => zc 0)) := (o_2303 (a_2204 + 1 + 2) (by omega)).trans f_2374
                have f_2376 : F_2310 (a_2204 + 1 + 2) = rw7 G ((fun _ => zc 0)) := (o_2312 (a_2204 + 1 + 2) (by omega)).trans f_2375
                have f_2377 : F_2320 (a_2204 + 1 + 2) = rw7 G ((fun _ => zc 0)) := (o_2322 (a_2204 + 1 + 2) (by omega)).trans f_2376
                have f_2378 : F_2331 (a_2204 + 1 + 2) = rw7 G ((fun _ => zc 0)) := (o_2333 (a_2204 + 1 + 2) (by omega)).trans f_2377
                have f_2379 : F_2341 (a_2204 + 1 + 2) = rw7 G ((fun _ => zc 0)) := (o_2343 (a_2204 + 1 + 2) (by omega)).trans f_2378
                have f_2380 : F_2346 (a_2204 + 1 + 2) = rw7 G ((fun _ => zc 0)) := (o_2348 (a_2204 + 1 + 2) (by omega)).trans f_2379
                have f_2381 : F_2281 (a_2204 + 1 + 3) = rw7 G ((fun _ => zc 0)) := (o_2283 (a_2204 + 1 + 3) (by omega)).trans f_2255
                have f_2382 : F_2286 (a_2204 + 1 + 3) = rw7 G ((fun _ => zc 0)) := (o_2288 (a_2204 + 1 + 3) (by omega)).trans f_2381
                have f_2383 : F_2293 (a_2204 + 1 + 3) = rw7 G ((fun _ => zc 0)) := (o_2295 (a_2204 + 1 + 3) (by omega)).trans f_2382
                have f_2384 : F_2301 (a_2204 + 1 + 3) = rw7 G ((fun _ => zc 0)) := (o_2303 (a_2204 + 1 + 3) (by omega)).trans f_2383
                have f_2385 : F_2310 (a_2204 + 1 + 3) = rw7 G ((fun _ => zc 0)) := (o_2312 (a_2204 + 1 + 3) (by omega)).trans f_2384
                have f_2386 : F_2320 (a_2204 + 1 + 3) = rw7 G ((fun _ => zc 0)) := (o_2322 (a_2204 + 1 + 3) (by omega)).trans f_2385
                have f_2387 : F_2331 (a_2204 + 1 + 3) = rw7 G ((fun _ => zc 0)) := (o_2333 (a_2204 + 1 + 3) (by omega)).trans f_2386
                have f_2388 : F_2341 (a_2204 + 1 + 3) = rw7 G ((fun _ => zc 0)) := (o_2343 (a_2204 + 1 + 3) (by omega)).trans f_2387
                have f_2389 : F_2346 (a_2204 + 1 + 3) = rw7 G ((fun _ => zc 0)) := (o_2348 (a_2204 + 1 + 3) (by omega)).trans f_2388
                have f_2390 : F_2281 (a_2204 + 1 + 4) = rw7 G ((fun _ => zc 0)) := (o_2283 (a_2204 + 1 + 4) (by omega)).trans f_2259
                have f_2391 : F_2286 (a_2204 + 1 + 4) = rw7 G ((fun _ => zc 0)) := (o_2288 (a_2204 + 1 + 4) (by omega)).trans f_2390
                have f_2392 : F_2293 (a_2204 + 1 + 4) = rw7 G ((fun _ => zc 0)) := (o_2295 (a_2204 + 1 + 4) (by omega)).trans f_2391
                have f_2393 : F_2301 (a_2204 + 1 + 4) = rw7 G ((fun _ => zc 0)) := (o_2303 (a_2204 + 1 + 4) (by omega)).trans f_2392
                have f_2394 : F_2310 (a_2204 + 1 + 4) = rw7 G ((fun _ => zc 0)) := (o_2312 (a_2204 + 1 + 4) (by omega)).trans f_2393
                have f_2395 : F_2320 (a_2204 + 1 + 4) = rw7 G ((fun _ => zc 0)) := (o_2322 (a_2204 + 1 + 4) (by omega)).trans f_2394
                have f_2396 : F_2331 (a_2204 + 1 + 4) = rw7 G ((fun _ => zc 0)) := (o_2333 (a_2204 + 1 + 4) (by omega)).trans f_2395
                have f_2397 : F_2341 (a_2204 + 1 + 4) = rw7 G ((fun _ => zc 0)) := (o_2343 (a_2204 + 1 + 4) (by omega)).trans f_2396
                have f_2398 : F_2346 (a_2204 + 1 + 4) = rw7 G ((fun _ => zc 0)) := (o_2348 (a_2204 + 1 + 4) (by omega)).trans f_2397
                have f_2399 : F_2281 (a_2204 + 1 + 5) = rw7 G ((fun _ => zc 0)) := (o_2283 (a_2204 + 1 + 5) (by omega)).trans f_2263
                have f_2400 : F_2286 (a_2204 + 1 + 5) = rw7 G ((fun _ => zc 0)) := (o_2288 (a_2204 + 1 + 5) (by omega)).trans f_2399
                have f_2401 : F_2293 (a_2204 + 1 + 5) = rw7 G ((fun _ => zc 0)) := (o_2295 (a_2204 + 1 + 5) (by omega)).trans f_2400
                have f_2402 : F_2301 (a_2204 + 1 + 5) = rw7 G ((fun _ => zc 0)) := (o_2303 (a_2204 + 1 + 5) (by omega)).trans f_2401
                have f_2403 : F_2310 (a_2204 + 1 + 5) = rw7 G ((fun _ => zc 0)) := (o_2312 (a_2204 + 1 + 5) (by omega)).trans f_2402
                have f_2404 : F_2320 (a_2204 + 1 + 5) = rw7 G ((fun _ => zc 0)) := (o_2322 (a_2204 + 1 + 5) (by omega)).trans f_2403
                have f_2405 : F_2331 (a_2204 + 1 + 5) = rw7 G ((fun _ => zc 0)) := (o_2333 (a_2204 + 1 + 5) (by omega)).trans f_2404
                have f_2406 : F_2341 (a_2204 + 1 + 5) = rw7 G ((fun _ => zc 0)) := (o_2343 (a_2204 + 1 + 5) (by omega)).trans f_2405
                have f_2407 : F_2346 (a_2204 + 1 + 5) = rw7 G ((fun _ => zc 0)) := (o_2348 (a_2204 + 1 + 5) (by omega)).trans f_2406
                have f_2408 : F_2293 (a_2231 + 1 + 0) = rw7 G (va_up ((fun _ => zc 0)) (1) (zc 1)) := (o_2295 (a_2231 + 1 + 0) (by omega)).trans f_2287
                have f_2409 : F_2301 (a_2231 + 1 + 0) = rw7 G (va_up ((fun _ => zc 0)) (1) (zc 1)) := (o_2303 (a_2231 + 1 + 0) (by omega)).trans f_2408
                have f_2410 : F_2310 (a_2231 + 1 + 0) = rw7 G (va_up ((fun _ => zc 0)) (1) (zc 1)) := (o_2312 (a_2231 + 1 + 0) (by omega)).trans f_2409
                have f_2411 : F_2320 (a_2231 + 1 + 0) = rw7 G (va_up ((fun _ => zc 0)) (1) (zc 1)) := (o_2322 (a_2231 + 1 + 0) (by omega)).trans f_2410
                have f_2412 : F_2331 (a_2231 + 1 + 0) = rw7 G (va_up ((fun _ => zc 0)) (1) (zc 1)) := (o_2333 (a_2231 + 1 + 0) (by omega)).trans f_2411
                have f_2413 : F_2341 (a_2231 + 1 + 0) = rw7 G (va_up ((fun _ => zc 0)) (1) (zc 1)) := (o_2343 (a_2231 + 1 + 0) (by omega)).trans f_2412
                have f_2414 : F_2346 (a_2231 + 1 + 0) = rw7 G (va_up ((fun _ => zc 0)) (1) (zc 1)) := (o_2348 (a_2231 + 1 + 0) (by omega)).trans f_2413
                have f_2415 : F_2301 (a_2231 + 1 + 1) = rw7 G (va_up ((fun _ => zc 0)) (1) (zc 1)) := (o_2303 (a_2231 + 1 + 1) (by omega)).trans f_2294
                have f_2416 : F_2310 (a_2231 + 1 + 1) = rw7 G (va_up ((fun _ => zc 0)) (1) (zc 1)) := (o_2312 (a_2231 + 1 + 1) (by omega)).trans f_2415
                have f_2417 : F_2320 (a_2231 + 1 + 1) = rw7 G (va_up ((fun _ => zc 0)) (1) (zc 1)) := (o_2322 (a_2231 + 1 + 1) (by omega)).trans f_2416
                have f_2418 : F_2331 (a_2231 + 1 + 1) = rw7 G (va_up ((fun _ => zc 0)) (1) (zc 1)) := (o_2333 (a_2231 + 1 + 1) (by omega)).trans f_2417
                have f_2419 : F_2341 (a_2231 + 1 + 1) = rw7 G (va_up ((fun _ => zc 0)) (1) (zc 1)) := (o_2343 (a_2231 + 1 + 1) (by omega)).trans f_2418
                have f_2420 : F_2346 (a_2231 + 1 + 1) = rw7 G (va_up ((fun _ => zc 0)) (1) (zc 1)) := (o_2348 (a_2231 + 1 + 1) (by omega)).trans f_2419
                have f_2421 : F_2310 (a_2231 + 1 + 2) = rw7 G (va_up ((fun _ => zc 0)) (1) (zc 1)) := (o_2312 (a_2231 + 1 + 2) (by omega)).trans f_2302
                have f_2422 : F_2320 (a_2231 + 1 + 2) = rw7 G (va_up ((fun _ => zc 0)) (1) (zc 1)) := (o_2322 (a_2231 + 1 + 2) (by omega)).trans f_2421
                have f_2423 : F_2331 (a_2231 + 1 + 2) = rw7 G (va_up ((fun _ => zc 0)) (1) (zc 1)) := (o_2333 (a_2231 + 1 + 2) (by omega)).trans f_2422
                have f_2424 : F_2341 (a_2231 + 1 + 2) = rw7 G (va_up ((fun _ => zc 0)) (1) (zc 1)) := (o_2343 (a_2231 + 1 + 2) (by omega)).trans f_2423
                have f_2425 : F_2346 (a_2231 + 1 + 2) = rw7 G (va_up ((fun _ => zc 0)) (1) (zc 1)) := (o_2348 (a_2231 + 1 + 2) (by omega)).trans f_2424
                have f_2426 : F_2320 (a_2231 + 1 + 3) = rw7 G (va_up ((fun _ => zc 0)) (1) (zc 1)) := (o_2322 (a_2231 + 1 + 3) (by omega)).trans f_2311
                have f_2427 : F_2331 (a_2231 + 1 + 3) = rw7 G (va_up ((fun _ => zc 0)) (1) (zc 1)) := (o_2333 (a_2231 + 1 + 3) (by omega)).trans f_2426
                have f_2428 : F_2341 (a_2231 + 1 + 3) = rw7 G (va_up ((fun _ => zc 0)) (1) (zc 1)) := (o_2343 (a_2231 + 1 + 3) (by omega)).trans f_2427
                have f_2429 : F_2346 (a_2231 + 1 + 3) = rw7 G (va_up ((fun _ => zc 0)) (1) (zc 1)) := (o_2348 (a_2231 + 1 + 3) (by omega)).trans f_2428
                have f_2430 : F_2331 (a_2231 + 1 + 4) = rw7 G (va_up ((fun _ => zc 0)) (1) (zc 1)) := (o_2333 (a_2231 + 1 + 4) (by omega)).trans f_2321
                have f_2431 : F_2341 (a_2231 + 1 + 4) = rw7 G (va_up ((fun _ => zc 0)) (1) (zc 1)) := (o_2343 (a_2231 + 1 + 4) (by omega)).trans f_2430
                have f_2432 : F_2346 (a_2231 + 1 + 4) = rw7 G (va_up ((fun _ => zc 0)) (1) (zc 1)) := (o_2348 (a_2231 + 1 + 4) (by omega)).trans f_2431
                have f_2433 : F_2341 (a_2231 + 1 + 5) = rw7 G (va_up ((fun _ => zc 0)) (1) (zc 1)) := (o_2343 (a_2231 + 1 + 5) (by omega)).trans f_2332
                have f_2434 : F_2346 (a_2231 + 1 + 5) = rw7 G (va_up ((fun _ => zc 0)) (1) (zc 1)) := (o_2348 (a_2231 + 1 + 5) (by omega)).trans f_2433
                have hrr : ∀ i, i < 12 → F_2346 (n (0 + 4 + i)) = rw7 G (r0 i) := by
                  intro i hi
                  match i, hi with
                  | 0, _ => exact (congrArg F_2346 e4).trans (f_2362.trans (congrArg (rw7 G) (by funext k; exact r0_lo (by decide) k)))
                  | 1, _ => exact (congrArg F_2346 e5).trans (f_2371.trans (congrArg (rw7 G) (by funext k; exact r0_lo (by decide) k)))
                  | 2, _ => exact (congrArg F_2346 e6).trans (f_2380.trans (congrArg (rw7 G) (by funext k; exact r0_lo (by decide) k)))
                  | 3, _ => exact (congrArg F_2346 e7).trans (f_2389.trans (congrArg (rw7 G) (by funext k; exact r0_lo (by decide) k)))
                  | 4, _ => exact (congrArg F_2346 e8).trans (f_2398.trans (congrArg (rw7 G) (by funext k; exact r0_lo (by decide) k)))
                  | 5, _ => exact (congrArg F_2346 e9).trans (f_2407.trans (congrArg (rw7 G) (by funext k; exact r0_lo (by decide) k)))
                  | 6, _ => exact (congrArg F_2346 e10).trans (f_2414.trans (congrArg (rw7 G) (by funext k; exact r0_fl 6 (by decide) k)))
                  | 7, _ => exact (congrArg F_2346 e11).trans (f_2420.trans (congrArg (rw7 G) (by funext k; exact r0_fl 7 (by decide) k)))
                  | 8, _ => exact (congrArg F_2346 e12).trans (f_2425.trans (congrArg (rw7 G) (by funext k; exact r0_fl 8 (by decide) k)))
                  | 9, _ => exact (congrArg F_2346 e13).trans (f_2429.trans (congrArg (rw7 G) (by funext k; exact r0_fl 9 (by decide) k)))
                  | 10, _ => exact (congrArg F_2346 e14).trans (f_2432.trans (congrArg (rw7 G) (by funext k; exact r0_fl 10 (by decide) k)))
                  | 11, _ => exact (congrArg F_2346 e15).trans (f_2434.trans (congrArg (rw7 G) (by funext k; exact r0_fl 11 (by decide) k)))
                  | i + 12, h9 => exact absurd h9 (by omega)
                have hshp : shp G F_2346 n 0 5 r0 := ⟨(congrArg F_2346 e1).trans (f_2352.trans (by rw [← e2, ← e3])), (congrArg F_2346 e2).trans f_2353, (congrArg F_2346 e3).trans f_2347, hrr⟩
                have hnm9 : ∀ i, 2 ≤ i → i < 16 → s.heap.size ≤ n i ∧ n i ∈ L_2229 := by
                  intro i h2 hi
                  match i, h2, hi with
                  | 2, _, _ => exact ⟨by rw [e2]; omega, by rw [e2]; exact m_2240⟩
                  | 3, _, _ => exact ⟨by rw [e3]; omega, by rw [e3]; exact m_2267⟩
                  | 4, _, _ => exact ⟨by rw [e4]; omega, by rw [e4]; exact m_2244⟩
                  | 5, _, _ => exact ⟨by rw [e5]; omega, by rw [e5]; exact m_2248⟩
                  | 6, _, _ => exact ⟨by rw [e6]; omega, by rw [e6]; exact m_2252⟩
                  | 7, _, _ => exact ⟨by rw [e7]; omega, by rw [e7]; exact m_2256⟩
                  | 8, _, _ => exact ⟨by rw [e8]; omega, by rw [e8]; exact m_2260⟩
                  | 9, _, _ => exact ⟨by rw [e9]; omega, by rw [e9]; exact m_2264⟩
                  | 10, _, _ => exact ⟨by rw [e10]; omega, by rw [e10]; exact m_2270⟩
                  | 11, _, _ => exact ⟨by rw [e11]; omega, by rw [e11]; exact m_2272⟩
                  | 12, _, _ => exact ⟨by rw [e12]; omega, by rw [e12]; exact m_2274⟩
                  | 13, _, _ => exact ⟨by rw [e13]; omega, by rw [e13]; exact m_2276⟩
                  | 14, _, _ => exact ⟨by rw [e14]; omega, by rw [e14]; exact m_2278⟩
                  | 15, _, _ => exact ⟨by rw [e15]; omega, by rw [e15]; exact m_2280⟩
                  | i + 16, _, h9 => exact absurd h9 (by omega)
                have hinj : ∀ i j, 1 ≤ i → i < 16 → 1 ≤ j → j < 16 → i ≠ j → n i ≠ n j := by
                  intro i j h1 h2 h3 h4 hne
                  rw [en]
                  show (if i = 1 then a else if i = 2 then a_2204 else if i = 3 then a_2231 else if i < 10 then a_2204 + 1 + (i - 4) else a_2231 + 1 + (i - 10)) ≠ (if j = 1 then a else if j = 2 then a_2204 else if j = 3 then a_2231 else if j < 10 then a_2204 + 1 + (j - 4) else a_2231 + 1 + (j - 10))
                  repeat' split
                  all_goals omega
                exact r_vN C0 hg_2266 hr hlk hw ⟨hg_2266, n, e1, hshp, hnm9, hinj, hfr_2349⟩ (Nat.le_of_ble_eq_true rfl) (Nat.le_of_ble_eq_true rfl) dX2_init_56 hQ
              · skip
                exact absurd c_38 (by omega)
