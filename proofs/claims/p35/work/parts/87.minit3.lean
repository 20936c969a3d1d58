theorem blk_chain {A : Nat → Nat} {nn : Nat → Nat → Nat} {m : Nat} (h1 : ∀ k i, k < m → i < 16 → A k ≤ nn k i) (h2 : ∀ k i, k + 1 < m → i < 16 → nn k i < A (k + 1)) : ∀ k k2 i j, k < k2 → k2 < m → i < 16 → j < 16 → nn k i < nn k2 j := by
  intro k k2 i j hk hm hi hj
  have hs : ∀ q, q < m - 1 → A q < A (q + 1) := fun q hq => by
    have a1 := h1 q 0 (by omega) (by decide)
    have a2 := h2 q 0 (by omega) (by decide)
    omega
  have a1 := h2 k i (by omega) hi
  have a2 := h1 k2 j hm hj
  rcases Nat.lt_or_ge (k + 1) k2 with h | h
  · have a3 := lt_chain hs (k + 1) k2 h (by omega)
    omega
  · have e : k + 1 = k2 := by omega
    rw [e] at a1
    omega
abbrev rm_X0_init : Room := { frames := 3, cells := 97, slots := 630, locals := 81 }
set_option maxHeartbeats 4000000 in
set_option maxRecDepth 100000 in
theorem c_X0_init (l : Launch) (G : Gl) (L : List Nat) (F : Nat → va_E) (a : Nat) (ma : a ∈ L) (fa : F a = .inr (0, [.null, .int (nI (0))])) : CN l yX0_init cX0_init 2 rm_X0_init G L F [.ref a] (fun sz L1 F1 => gr L L1 sz ∧ ∃ (x : Nat) (nn : Nat → Nat → Nat), F1 a = hO x 0 ∧ (∃ f : Nat → Option Nat, F1 x = .inl (G.2 3, 6, .inr (.inr (.inr (.inr f)))) ∧ ∀ i, i < 6 → f i = some (nn i 0)) ∧ sz ≤ x ∧ x ∈ L1 ∧ (∀ k, k < 6 → sta G F1 (nn k) 0 st0) ∧ (∀ k i, k < 6 → i < 16 → x < nn k i ∧ nn k i ∈ L1) ∧ (∀ k k2 i j, k < k2 → k2 < 6 → i < 16 → j < 16 → nn k i < nn k2 j) ∧ (∀ k i j, k < 6 → i < 16 → j < 16 → i ≠ j → nn k i ≠ nn k j) ∧ (∀ k i, k < 6 → i < 16 → nn k 0 ≤ nn k i) ∧ (∀ q ∈ L, q ≠ a → F1 q = F q)) := by
  refine CN_of (by decide) (Nat.le_of_ble_eq_true rfl) rfl ?_
  intro p e s m args below meth c Q C0 hOv hr hlk hnm hQ hw ls hl
  have hx := C0.x
  have hb := C0.b
  have hwS := hw
  have hg0 := gr.rfl (L := L) s.heap.size
  have hlt0 := hw.lt ma
  refine lv_aload_n hx hb dX0_init_0 rfl (lv_at hl 0 rfl) ?_
  refine q_obj C0 hl.1 ob_X0 ob_i ob_c (by decide) (by decide) dX0_init_1 ?_
  refine lv_aload_n hx hb dX0_init_4 rfl (lv_at hl 0 rfl) ?_
  refine lv_bipush (v := nI 6) hx hb dX0_init_5 (by decide) ?_
  refine k_newq C0 hw 3 rfl cl_X0_9 hOv.1 (by decide) (Nat.le_of_ble_eq_true rfl) (Nat.le_of_ble_eq_true rfl) dX0_init_7 (fun L_3067 F_3068 a_3069 H_3071 g_3070 hw1 => ?_)
  have hge_a_3069 : s.heap.size ≤ a_3069 := Nat.le_trans hw.2.2.1 g_3070.2.2.2.2
  have f_3072 : F_3068 a = .inr (0, [.null, .int (nI (0))]) := (g_3070.2.2.1 a ma).1.trans fa
  have lt_3074 := (g_3070.2.2.1 a ma).2
  have m_3073 : a ∈ L_3067 := g_3070.1.1 a ma
  have hg_3075 := hg0.step g_3070.1 hw.2.2.1
  have C0 := C0.grow g_3070.1 hw.2.2.1
  have hw := hw1
  have m_3076 : a_3069 ∈ L_3067 := g_3070.2.2.2.1
  have f_3077 : F_3068 a_3069 = .inl (G.2 3, 6, .inr (.inr (.inr (.inr ((fun _ => none)))))) := g_3070.2.1
  refine q_putF C0 hnm hw m_3073 f_3072 fw_X0_11 pw_X0_0 rfl rfl rfl rfl (Nat.le_of_ble_eq_true rfl) dX0_init_10 (fun F_3078 H locs hw f_3079 o_3080 => ?_)
  have f_3079 : F_3078 a = .inr (0, [.ref a_3069, .int (nI (0))]) := f_3079
  refine lv_iconst (v := nI 0) hx hb dX0_init_13 (by decide) ?_
  refine lv_istore_n (lv' := [(1, .int (nI (0))), (0, .ref a)]) hx hb dX0_init_14 rfl hl (by decide) rfl (fun ls hl => ?_)
  refine lv_iload_n hx hb dX0_init_15 rfl (lv_at hl 0 rfl) ?_
  refine lv_bipush (v := nI 6) hx hb dX0_init_16 (by decide) ?_
  refine n_icmp_ge (tgt := 40) hx hb dX0_init_18 (by decide) (by decide) (by decide) (fun c_18 => ?_) (fun c_18 => ?_)
  · skip
    exact absurd c_18 (by omega)
  · skip
    refine lv_aload_n hx hb dX0_init_21 rfl (lv_at hl 1 rfl) ?_
    refine q_get C0 hw m_3073 f_3079 fw_X0_11 rfl dX0_init_22 ?_
    refine lv_iload_n hx hb dX0_init_25 rfl (lv_at hl 0 rfl) ?_
    refine k_new C0 hw nw_X0_9 (Nat.le_of_ble_eq_true rfl) (Nat.le_of_ble_eq_true rfl) dX0_init_26 (fun L_3081 F_3082 a_3083 H_3085 g_3084 hw1 => ?_)
    have hge_a_3083 : s.heap.size ≤ a_3083 := Nat.le_trans hw.2.2.1 g_3084.2.2.2.2
    have f_3086 : F_3082 a = .inr (0, [.ref a_3069, .int (nI (0))]) := (g_3084.2.2.1 a m_3073).1.trans f_3079
    have lt_3088 := (g_3084.2.2.1 a m_3073).2
    have m_3087 : a ∈ L_3081 := g_3084.1.1 a m_3073
    have f_3089 : F_3078 a_3069 = .inl (G.2 3, 6, .inr (.inr (.inr (.inr ((fun _ => none)))))) := (o_3080 a_3069 (by omega)).trans f_3077
    have f_3090 : F_3082 a_3069 = .inl (G.2 3, 6, .inr (.inr (.inr (.inr ((fun _ => none)))))) := (g_3084.2.2.1 a_3069 m_3076).1.trans f_3089
    have lt_3092 := (g_3084.2.2.1 a_3069 m_3076).2
    have m_3091 : a_3069 ∈ L_3081 := g_3084.1.1 a_3069 m_3076
    have hg_3093 := hg_3075.step g_3084.1 hw.2.2.1
    have C0 := C0.grow g_3084.1 hw.2.2.1
    have hw := hw1
    have m_3094 : a_3083 ∈ L_3081 := g_3084.2.2.2.1
    have f_3095 : F_3082 a_3083 = .inr (3, [.null, .int (nI (0)), .int (nI (0)), .int (nI (0)), .int (nI (0))]) := g_3084.2.1
    refine lv_dup hx hb dX0_init_29 rfl ?_
    refine q_calln hw (fun L1 F1 h => h.1) (q_runI (As := []) (c_X3_init l G L_3081 F_3082 a_3083 m_3094 f_3095) C0 hOv hw iw_X0_17 rfl hl.1 rfl (Nat.le_of_ble_eq_true rfl) dX0_init_30 ⟨by decide, by decide⟩ ⟨by decide, by decide⟩) (fun L_3096 F_3097 H_3099 locs hz_3100 hw1 hp_3098 => ?_)
    have hgs_3101 : s.heap.size ≤ H_3085.size := hw.2.2.1
    obtain ⟨g_3102, n_3103, e_3104, fb_3105, hm_3106, hj_3107, hf_3108⟩ := hp_3098
    have lt_3109 := hw.lt m_3087
    have lt_3110 := hw.lt m_3091
    have lt_3111 := hw.lt m_3094
    have f_3112 : F_3097 a = .inr (0, [.ref a_3069, .int (nI (0))]) := (hf_3108 a m_3087 (by omega)).trans f_3086
    have f_3113 : F_3097 a_3069 = .inl (G.2 3, 6, .inr (.inr (.inr (.inr ((fun _ => none)))))) := (hf_3108 a_3069 m_3091 (by omega)).trans f_3090
    have m_3114 : a ∈ L_3096 := g_3102.1 a m_3087
    have m_3115 : a_3069 ∈ L_3096 := g_3102.1 a_3069 m_3091
    have m_3116 : a_3083 ∈ L_3096 := g_3102.1 a_3083 m_3094
    have hg_3117 := hg_3093.step g_3102 hw.2.2.1
    have C0 := C0.grow g_3102 hw.2.2.1
    have hw := hw1
    have mb_3118 : ∀ i, i < 16 → n_3103 i ∈ L_3096 := fun i h2 => by
      by_cases ei : i = 0
      · rw [ei, e_3104]; exact m_3116
      · exact (hm_3106 i (by omega) h2).2
    have gb_3119 : ∀ i, i < 16 → a_3083 ≤ n_3103 i := fun i h2 => by
      by_cases ei : i = 0
      · rw [ei, e_3104]; exact Nat.le_refl _
      · have := (hm_3106 i (by omega) h2).1; omega
    refine q_aast C0 hw m_3115 3 3 rfl rfl f_3113 0 (by decide) (by decide) m_3116 ((congrArg F_3097 e_3104.symm).trans (show F_3097 (n_3103 0) = _ from fb_3105.1)) dX0_init_33 (fun F_3120 H locs hw f_3121 o_3122 => ?_)
    refine lv_iinc (v := nI 1) (lv' := [(1, .int (nI (1))), (0, .ref a)]) hx hb dX0_init_34 hl (k := 0) rfl (by decide) (by decide) rfl (fun ls hl => ?_)
    refine lv_goto (tgt := 15) hx hb dX0_init_37 (by decide) ?_
    refine lv_iload_n hx hb dX0_init_15 rfl (lv_at hl 0 rfl) ?_
    refine lv_bipush (v := nI 6) hx hb dX0_init_16 (by decide) ?_
    refine n_icmp_ge (tgt := 40) hx hb dX0_init_18 (by decide) (by decide) (by decide) (fun c_18 => ?_) (fun c_18 => ?_)
    · skip
      exact absurd c_18 (by omega)
    · skip
      refine lv_aload_n hx hb dX0_init_21 rfl (lv_at hl 1 rfl) ?_
      have f_3123 : F_3120 a = .inr (0, [.ref a_3069, .int (nI (0))]) := (o_3122 a (by omega)).trans f_3112
      refine q_get C0 hw m_3114 f_3123 fw_X0_11 rfl dX0_init_22 ?_
      refine lv_iload_n hx hb dX0_init_25 rfl (lv_at hl 0 rfl) ?_
      refine k_new C0 hw nw_X0_9 (Nat.le_of_ble_eq_true rfl) (Nat.le_of_ble_eq_true rfl) dX0_init_26 (fun L_3124 F_3125 a_3126 H_3128 g_3127 hw1 => ?_)
      have hge_a_3126 : s.heap.size ≤ a_3126 := Nat.le_trans hw.2.2.1 g_3127.2.2.2.2
      have f_3129 : F_3125 a = .inr (0, [.ref a_3069, .int (nI (0))]) := (g_3127.2.2.1 a m_3114).1.trans f_3123
      have lt_3131 := (g_3127.2.2.1 a m_3114).2
      have m_3130 : a ∈ L_3124 := g_3127.1.1 a m_3114
      have f_3132 : F_3125 a_3069 = .inl (G.2 3, 6, .inr (.inr (.inr (.inr ((va_up ((fun _ => none)) 0 (some a_3083))))))) := (g_3127.2.2.1 a_3069 m_3115).1.trans f_3121
      have lt_3134 := (g_3127.2.2.1 a_3069 m_3115).2
      have m_3133 : a_3069 ∈ L_3124 := g_3127.1.1 a_3069 m_3115
      have lt_3136 := (g_3127.2.2.1 a_3083 m_3116).2
      have m_3135 : a_3083 ∈ L_3124 := g_3127.1.1 a_3083 m_3116
      have fb_3137 : sta G F_3120 n_3103 0 st0 := fb_3105.keep (fun i hi => o_3122 (n_3103 i) (by (have := gb_3119 i (by omega); omega)))
      have lb_3140 : ∀ i, i < 16 → n_3103 i < a_3126 := fun i h1 => (g_3127.2.2.1 ((n_3103 i)) (mb_3118 i h1)).2
      have fb_3138 : sta G F_3125 n_3103 0 st0 := fb_3137.keep (fun i hi => (g_3127.2.2.1 ((n_3103 i)) (mb_3118 i (by omega))).1)
      have mb_3139 : ∀ i, i < 16 → n_3103 i ∈ L_3124 := fun i h1 => g_3127.1.1 ((n_3103 i)) (mb_3118 i h1)
      have hg_3141 := hg_3117.step g_3127.1 hw.2.2.1
      have C0 := C0.grow g_3127.1 hw.2.2.1
      have hw := hw1
      have m_3142 : a_3126 ∈ L_3124 := g_3127.2.2.2.1
      have f_3143 : F_3125 a_3126 = .inr (3, [.null, .int (nI (0)), .int (nI (0)), .int (nI (0)), .int (nI (0))]) := g_3127.2.1
      refine lv_dup hx hb dX0_init_29 rfl ?_
      refine q_calln hw (fun L1 F1 h => h.1) (q_runI (As := []) (c_X3_init l G L_3124 F_3125 a_3126 m_3142 f_3143) C0 hOv hw iw_X0_17 rfl hl.1 rfl (Nat.le_of_ble_eq_true rfl) dX0_init_30 ⟨by decide, by decide⟩ ⟨by decide, by decide⟩) (fun L_3144 F_3145 H_3147 locs hz_3148 hw1 hp_3146 => ?_)
      have hgs_3149 : s.heap.size ≤ H_3128.size := hw.2.2.1
      obtain ⟨g_3150, n_3151, e_3152, fb_3153, hm_3154, hj_3155, hf_3156⟩ := hp_3146
      have lt_3157 := hw.lt m_3130
      have lt_3158 := hw.lt m_3133
      have lt_3159 := hw.lt m_3135
      have lt_3160 := hw.lt m_3142
      have f_3161 : F_3145 a = .inr (0, [.ref a_3069, .int (nI (0))]) := (hf_3156 a m_3130 (by omega)).trans f_3129
      have f_3162 : F_3145 a_3069 = .inl (G.2 3, 6, .inr (.inr (.inr (.inr ((va_up ((fun _ => none)) 0 (some a_3083))))))) := (hf_3156 a_3069 m_3133 (by omega)).trans f_3132
      have lb_3165 : ∀ i, i < 16 → n_3103 i < H_3128.size := fun i h1 => hw.lt (mb_3139 i h1)
      have fb_3163 : sta G F_3145 n_3103 0 st0 := fb_3138.keep (fun i hi => hf_3156 (n_3103 i) (mb_3139 i (by omega)) (by (have := gb_3119 i (by omega); have := lb_3140 i (by omega); omega)))
      have mb_3164 : ∀ i, i < 16 → n_3103 i ∈ L_3144 := fun i h1 => g_3150.1 (n_3103 i) (mb_3139 i h1)
      have m_3166 : a ∈ L_3144 := g_3150.1 a m_3130
      have m_3167 : a_3069 ∈ L_3144 := g_3150.1 a_3069 m_3133
      have m_3168 : a_3083 ∈ L_3144 := g_3150.1 a_3083 m_3135
      have m_3169 : a_3126 ∈ L_3144 := g_3150.1 a_3126 m_3142
      have hg_3170 := hg_3141.step g_3150 hw.2.2.1
      have C0 := C0.grow g_3150 hw.2.2.1
      have hw := hw1
      have mb_3171 : ∀ i, i < 16 → n_3151 i ∈ L_3144 := fun i h2 => by
        by_cases ei : i = 0
        · rw [ei, e_3152]; exact m_3169
        · exact (hm_3154 i (by omega) h2).2
      have gb_3172 : ∀ i, i < 16 → a_3126 ≤ n_3151 i := fun i h2 => by
        by_cases ei : i = 0
        · rw [ei, e_3152]; exact Nat.le_refl _
        · have := (hm_3154 i (by omega) h2).1; omega
      refine q_aast C0 hw m_3167 3 3 rfl rfl f_3162 1 (by decide) (by decide) m_3169 ((congrArg F_3145 e_3152.symm).trans (show F_3145 (n_3151 0) = _ from fb_3153.1)) dX0_init_33 (fun F_3173 H locs hw f_3174 o_3175 => ?_)
      refine lv_iinc (v := nI 2) (lv' := [(1, .int (nI (2))), (0, .ref a)]) hx hb dX0_init_34 hl (k := 0) rfl (by decide) (by decide) rfl (fun ls hl => ?_)
      refine lv_goto (tgt := 15) hx hb dX0_init_37 (by decide) ?_
      refine lv_iload_n hx hb dX0_init_15 rfl (lv_at hl 0 rfl) ?_
      refine lv_bipush (v := nI 6) hx hb dX0_init_16 (by decide) ?_
      refine n_icmp_ge (tgt := 40) hx hb dX0_init_18 (by decide) (by decide) (by decide) (fun c_18 => ?_) (fun c_18 => ?_)
      · skip
        exact absurd c_18 (by omega)
      · skip
        refine lv_aload_n hx hb dX0_init_21 rfl (lv_at hl 1 rfl) ?_
        have f_3176 : F_3173 a = .inr (0, [.ref a_3069, .int (nI (0))]) := (o_3175 a (by omega)).trans f_3161
        refine q_get C0 hw m_3166 f_3176 fw_X0_11 rfl dX0_init_22 ?_
        refine lv_iload_n hx hb dX0_init_25 rfl (lv_at hl 0 rfl) ?_
        refine k_new C0 hw nw_X0_9 (Nat.le_of_ble_eq_true rfl) (Nat.le_of_ble_eq_true rfl) dX0_init_26 (fun L_3177 F_3178 a_3179 H_3181 g_3180 hw1 => ?_)
        have hge_a_3179 : s.heap.size ≤ a_3179 := Nat.le_trans hw.2.2.1 g_3180.2.2.2.2
        have f_3182 : F_3178 a = .inr (0, [.ref a_3069, .int (nI (0))]) := (g_3180.2.2.1 a m_3166).1.trans f_3176
        have lt_3184 := (g_3180.2.2.1 a m_3166).2
        have m_3183 : a ∈ L_3177 := g_3180.1.1 a m_3166
        have f_3185 : F_3178 a_3069 = .inl (G.2 3, 6, .inr (.inr (.inr (.inr ((va_up ((va_up ((fun _ => none)) 0 (some a_3083))) 1 (some a_3126))))))) := (g_3180.2.2.1 a_3069 m_3167).1.trans f_3174
        have lt_3187 := (g_3180.2.2.1 a_3069 m_3167).2
        have m_3186 : a_3069 ∈ L_3177 := g_3180.1.1 a_3069 m_3167
        have lt_3189 := (g_3180.2.2.1 a_3083 m_3168).2
        have m_3188 : a_3083 ∈ L_3177 := g_3180.1.1 a_3083 m_3168
        have lt_3191 := (g_3180.2.2.1 a_3126 m_3169).2
        have m_3190 : a_3126 ∈ L_3177 := g_3180.1.1 a_3126 m_3169
        have fb_3192 : sta G F_3173 n_3103 0 st0 := fb_3163.keep (fun i hi => o_3175 (n_3103 i) (by (have := gb_3119 i (by omega); have := lb_3140 i (by omega); have := lb_3165 i (by omega); omega)))
        have lb_3195 : ∀ i, i < 16 → n_3103 i < a_3179 := fun i h1 => (g_3180.2.2.1 ((n_3103 i)) (mb_3164 i h1)).2
        have fb_3193 : sta G F_3178 n_3103 0 st0 := fb_3192.keep (fun i hi => (g_3180.2.2.1 ((n_3103 i)) (mb_3164 i (by omega))).1)
        have mb_3194 : ∀ i, i < 16 → n_3103 i ∈ L_3177 := fun i h1 => g_3180.1.1 ((n_3103 i)) (mb_3164 i h1)
        have fb_3196 : sta G F_3173 n_3151 0 st0 := fb_3153.keep (fun i hi => o_3175 (n_3151 i) (by (have := gb_3172 i (by omega); omega)))
        have lb_3199 : ∀ i, i < 16 → n_3151 i < a_3179 := fun i h1 => (g_3180.2.2.1 ((n_3151 i)) (mb_3171 i h1)).2
        have fb_3197 : sta G F_3178 n_3151 0 st0 := fb_3196.keep (fun i hi => (g_3180.2.2.1 ((n_3151 i)) (mb_3171 i (by omega))).1)
        have mb_3198 : ∀ i, i < 16 → n_3151 i ∈ L_3177 := fun i h1 => g_3180.1.1 ((n_3151 i)) (mb_3171 i h1)
        have hg_3200 := hg_3170.step g_3180.1 hw.2.2.1
        have C0 := C0.grow g_3180.1 hw.2.2.1
        have hw := hw1
        have m_3201 : a_3179 ∈ L_3177 := g_3180.2.2.2.1
        have f_3202 : F_3178 a_3179 = .inr (3, [.null, .int (nI (0)), .int (nI (0)), .int (nI (0)), .int (nI (0))]) := g_3180.2.1
        refine lv_dup hx hb dX0_init_29 rfl ?_
        refine q_calln hw (fun L1 F1 h => h.1) (q_runI (As := []) (c_X3_init l G L_3177 F_3178 a_3179 m_3201 f_3202) C0 hOv hw iw_X0_17 rfl hl.1 rfl (Nat.le_of_ble_eq_true rfl) dX0_init_30 ⟨by decide, by decide⟩ ⟨by decide, by decide⟩) (fun L_3203 F_3204 H_3206 locs hz_3207 hw1 hp_3205 => ?_)
        have hgs_3208 : s.heap.size ≤ H_3181.size := hw.2.2.1
        obtain ⟨g_3209, n_3210, e_3211, fb_3212, hm_3213, hj_3214, hf_3215⟩ := hp_3205
        have lt_3216 := hw.lt m_3183
        have lt_3217 := hw.lt m_3186
        have lt_3218 := hw.lt m_3188
        have lt_3219 := hw.lt m_3190
        have lt_3220 := hw.lt m_3201
        have f_3221 : F_3204 a = .inr (0, [.ref a_3069, .int (nI (0))]) := (hf_3215 a m_3183 (by omega)).trans f_3182
        have f_3222 : F_3204 a_3069 = .inl (G.2 3, 6, .inr (.inr (.inr (.inr ((va_up ((va_up ((fun _ => none)) 0 (some a_3083))) 1 (some a_3126))))))) := (hf_3215 a_3069 m_3186 (by omega)).trans f_3185
        have lb_3225 : ∀ i, i < 16 → n_3103 i < H_3181.size := fun i h1 => hw.lt (mb_3194 i h1)
        have fb_3223 : sta G F_3204 n_3103 0 st0 := fb_3193.keep (fun i hi => hf_3215 (n_3103 i) (mb_3194 i (by omega)) (by (have := gb_3119 i (by omega); have := lb_3140 i (by omega); have := lb_3165 i (by omega); have := lb_3195 i (by omega); omega)))
        have mb_3224 : ∀ i, i < 16 → n_3103 i ∈ L_3203 := fun i h1 => g_3209.1 (n_3103 i) (mb_3194 i h1)
        have lb_3228 : ∀ i, i < 16 → n_3151 i < H_3181.size := fun i h1 => hw.lt (mb_3198 i h1)
        have fb_3226 : sta G F_3204 n_3151 0 st0 := fb_3197.keep (fun i hi => hf_3215 (n_3151 i) (mb_3198 i (by omega)) (by (have := gb_3172 i (by omega); have := lb_3199 i (by omega); omega)))
        have mb_3227 : ∀ i, i < 16 → n_3151 i ∈ L_3203 := fun i h1 => g_3209.1 (n_3151 i) (mb_3198 i h1)
        have m_3229 : a ∈ L_3203 := g_3209.1 a m_3183
        have m_3230 : a_3069 ∈ L_3203 := g_3209.1 a_3069 m_3186
        have m_3231 : a_3083 ∈ L_3203 := g_3209.1 a_3083 m_3188
        have m_3232 : a_3126 ∈ L_3203 := g_3209.1 a_3126 m_3190
        have m_3233 : a_3179 ∈ L_3203 := g_3209.1 a_3179 m_3201
        have hg_3234 := hg_3200.step g_3209 hw.2.2.1
        have C0 := C0.grow g_3209 hw.2.2.1
        have hw := hw1
        have mb_3235 : ∀ i, i < 16 → n_3210 i ∈ L_3203 := fun i h2 => by
          by_cases ei : i = 0
          · rw [ei, e_3211]; exact m_3233
          · exact (hm_3213 i (by omega) h2).2
        have gb_3236 : ∀ i, i < 16 → a_3179 ≤ n_3210 i := fun i h2 => by
          by_cases ei : i = 0
          · rw [ei, e_3211]; exact Nat.le_refl _
          · have := (hm_3213 i (by omega) h2).1; omega
        refine q_aast C0 hw m_3230 3 3 rfl rfl f_3222 2 (by decide) (by decide) m_3233 ((congrArg F_3204 e_3211.symm).trans (show F_3204 (n_3210 0) = _ from fb_3212.1)) dX0_init_33 (fun F_3237 H locs hw f_3238 o_3239 => ?_)
        refine lv_iinc (v := nI 3) (lv' := [(1, .int (nI (3))), (0, .ref a)]) hx hb dX0_init_34 hl (k := 0) rfl (by decide) (by decide) rfl (fun ls hl => ?_)
        refine lv_goto (tgt := 15) hx hb dX0_init_37 (by decide) ?_
        refine lv_iload_n hx hb dX0_init_15 rfl (lv_at hl 0 rfl) ?_
        refine lv_bipush (v := nI 6) hx hb dX0_init_16 (by decide) ?_
        refine n_icmp_ge (tgt := 40) hx hb dX0_init_18 (by decide) (by decide) (by decide) (fun c_18 => ?_) (fun c_18 => ?_)
        · skip
          exact absurd c_18 (by omega)
        · skip
          refine lv_aload_n hx hb dX0_init_21 rfl (lv_at hl 1 rfl) ?_
          have f_3240 : F_3237 a = .inr (0, [.ref a_3069, .int (nI (0))]) := (o_3239 a (by omega)).trans f_3221
          refine q_get C0 hw m_3229 f_3240 fw_X0_11 rfl dX0_init_22 ?_
          refine lv_iload_n hx hb dX0_init_25 rfl (lv_at hl 0 rfl) ?_
          refine k_new C0 hw nw_X0_9 (Nat.le_of_ble_eq_true rfl) (Nat.le_of_ble_eq_true rfl) dX0_init_26 (fun L_3241 F_3242 a_3243 H_3245 g_3244 hw1 => ?_)
          have hge_a_3243 : s.heap.size ≤ a_3243 := Nat.le_trans hw.2.2.1 g_3244.2.2.2.2
          have f_3246 : F_3242 a = .inr (0, [.ref a_3069, .int (nI (0))]) := (g_3244.2.2.1 a m_3229).1.trans f_3240
          have lt_3248 := (g_3244.2.2.1 a m_3229).2
          have m_3247 : a ∈ L_3241 := g_3244.1.1 a m_3229
          have f_3249 : F_3242 a_3069 = .inl (G.2 3, 6, .inr (.inr (.inr (.inr ((va_up ((va_up ((va_up ((fun _ => none)) 0 (some a_3083))) 1 (some a_3126))) 2 (some a_3179))))))) := (g_3244.2.2.1 a_3069 m_3230).1.trans f_3238
          have lt_3251 := (g_3244.2.2.1 a_3069 m_3230).2
          have m_3250 : a_3069 ∈ L_3241 := g_3244.1.1 a_3069 m_3230
          have lt_3253 := (g_3244.2.2.1 a_3083 m_3231).2
          have m_3252 : a_3083 ∈ L_3241 := g_3244.1.1 a_3083 m_3231
          have lt_3255 := (g_3244.2.2.1 a_3126 m_3232).2
          have m_3254 : a_3126 ∈ L_3241 := g_3244.1.1 a_3126 m_3232
          have lt_3257 := (g_3244.2.2.1 a_3179 m_3233).2
          have m_3256 : a_3179 ∈ L_3241 := g_3244.1.1 a_3179 m_3233
          have fb_3258 : sta G F_3237 n_3103 0 st0 := fb_3223.keep (fun i hi => o_3239 (n_3103 i) (by (have := gb_3119 i (by omega); have := lb_3140 i (by omega); have := lb_3165 i (by omega); have := lb_3195 i (by omega); have := lb_3225 i (by omega); omega)))
          have lb_3261 : ∀ i, i < 16 → n_3103 i < a_3243 := fun i h1 => (g_3244.2.2.1 ((n_3103 i)) (mb_3224 i h1)).2
          have fb_3259 : sta G F_3242 n_3103 0 st0 := fb_3258.keep (fun i hi => (g_3244.2.2.1 ((n_3103 i)) (mb_3224 i (by omega))).1)
          have mb_3260 : ∀ i, i < 16 → n_3103 i ∈ L_3241 := fun i h1 => g_3244.1.1 ((n_3103 i)) (mb_3224 i h1)
          have fb_3262 : sta G F_3237 n_3151 0 st0 := fb_3226.keep (fun i hi => o_3239 (n_3151 i) (by (have := gb_3172 i (by omega); have := lb_3199 i (by omega); have := lb_3228 i (by omega); omega)))
          have lb_3265 : ∀ i, i < 16 → n_3151 i < a_3243 := fun i h1 => (g_3244.2.2.1 ((n_3151 i)) (mb_3227 i h1)).2
          have fb_3263 : sta G F_3242 n_3151 0 st0 := fb_3262.keep (fun i hi => (g_3244.2.2.1 ((n_3151 i)) (mb_3227 i (by omega))).1)
          have mb_3264 : ∀ i, i < 16 → n_3151 i ∈ L_3241 := fun i h1 => g_3244.1.1 ((n_3151 i)) (mb_3227 i h1)
          have fb_3266 : sta G F_3237 n_3210 0 st0 := fb_3212.keep (fun i hi => o_3239 (n_3210 i) (by (have := gb_3236 i (by omega); omega)))
          have lb_3269 : ∀ i, i < 16 → n_3210 i < a_3243 := fun i h1 => (g_3244.2.2.1 ((n_3210 i)) (mb_3235 i h1)).2
          have fb_3267 : sta G F_3242 n_3210 0 st0 := fb_3266.keep (fun i hi => (g_3244.2.2.1 ((n_3210 i)) (mb_3235 i (by omega))).1)
          have mb_3268 : ∀ i, i < 16 → n_3210 i ∈ L_3241 := fun i h1 => g_3244.1.1 ((n_3210 i)) (mb_3235 i h1)
          have hg_3270 := hg_3234.step g_3244.1 hw.2.2.1
          have C0 := C0.grow g_3244.1 hw.2.2.1
          have hw := hw1
          have m_3271 : a_3243 ∈ L_3241 := g_3244.2.2.2.1
          have f_3272 : F_3242 a_3243 = .inr (3, [.null, .int (nI (0)), .int (nI (0)), .int (nI (0)), .int (nI (0))]) := g_3244.2.1
          refine lv_dup hx hb dX0_init_29 rfl ?_
          refine q_calln hw (fun L1 F1 h => h.1) (q_runI (As := []) (c_X3_init l G L_3241 F_3242 a_3243 m_3271 f_3272) C0 hOv hw iw_X0_17 rfl hl.1 rfl (Nat.le_of_ble_eq_true rfl) dX0_init_30 ⟨by decide, by decide⟩ ⟨by decide, by decide⟩) (fun L_3273 F_3274 H_3276 locs hz_3277 hw1 hp_3275 => ?_)
          have hgs_3278 : s.heap.size ≤ H_3245.size := hw.2.2.1
          obtain ⟨g_3279, n_3280, e_3281, fb_3282, hm_3283, hj_3284, hf_3285⟩ := hp_3275
          have lt_3286 := hw.lt m_3247
          have lt_3287 := hw.lt m_3250
          have lt_3288 := hw.lt m_3252
          have lt_3289 := hw.lt m_3254
          have lt_3290 := hw.lt m_3256
          have lt_3291 := hw.lt m_3271
          have f_3292 : F_3274 a = .inr (0, [.ref a_3069, .int (nI (0))]) := (hf_3285 a m_3247 (by omega)).trans f_3246
          have f_3293 : F_3274 a_3069 = .inl (G.2 3, 6, .inr (.inr (.inr (.inr ((va_up ((va_up ((va_up ((fun _ => none)) 0 (some a_3083))) 1 (some a_3126))) 2 (some a_3179))))))) := (hf_3285 a_3069 m_3250 (by omega)).trans f_3249
          have lb_3296 : ∀ i, i < 16 → n_3103 i < H_3245.size := fun i h1 => hw.lt (mb_3260 i h1)
          have fb_3294 : sta G F_3274 n_3103 0 st0 := fb_3259.keep (fun i hi => hf_3285 (n_3103 i) (mb_3260 i (by omega)) (by (have := gb_3119 i (by omega); have := lb_3140 i (by omega); have := lb_3165 i (by omega); have := lb_3195 i (by omega); have := lb_3225 i (by omega); have := lb_3261 i (by omega); omega)))
          have mb_3295 : ∀ i, i < 16 → n_3103 i ∈ L_3273 := fun i h1 => g_3279.1 (n_3103 i) (mb_3260 i h1)
          have lb_3299 : ∀ i, i < 16 → n_3151 i < H_3245.size := fun i h1 => hw.lt (mb_3264 i h1)
          have fb_3297 : sta G F_3274 n_3151 0 st0 := fb_3263.keep (fun i hi => hf_3285 (n_3151 i) (mb_3264 i (by omega)) (by (have := gb_3172 i (by omega); have := lb_3199 i (by omega); have := lb_3228 i (by omega); have := lb_3265 i (by omega); omega)))
          have mb_3298 : ∀ i, i < 16 → n_3151 i ∈ L_3273 := fun i h1 => g_3279.1 (n_3151 i) (mb_3264 i h1)
          have lb_3302 : ∀ i, i < 16 → n_3210 i < H_3245.size := fun i h1 => hw.lt (mb_3268 i h1)
          have fb_3300 : sta G F_3274 n_3210 0 st0 := fb_3267.keep (fun i hi => hf_3285 (n_3210 i) (mb_3268 i (by omega)) (by (have := gb_3236 i (by omega); have := lb_3269 i (by omega); omega)))
          have mb_3301 : ∀ i, i < 16 → n_3210 i ∈ L_3273 := fun i h1 => g_3279.1 (n_3210 i) (mb_3268 i h1)
          have m_3303 : a ∈ L_3273 := g_3279.1 a m_3247
          have m_3304 : a_3069 ∈ L_3273 := g_3279.1 a_3069 m_3250
          have m_3305 : a_3083 ∈ L_3273 := g_3279.1 a_3083 m_3252
          have m_3306 : a_3126 ∈ L_3273 := g_3279.1 a_3126 m_3254
          have m_3307 : a_3179 ∈ L_3273 := g_3279.1 a_3179 m_3256
          have m_3308 : a_3243 ∈ L_3273 := g_3279.1 a_3243 m_3271
          have hg_3309 := hg_3270.step g_3279 hw.2.2.1
          have C0 := C0.grow g_3279 hw.2.2.1
          have hw := hw1
          have mb_3310 : ∀ i, i < 16 → n_3280 i ∈ L_3273 := fun i h2 => by
            by_cases ei : i = 0
            · rw [ei, e_3281]; exact m_3308
            · exact (hm_3283 i (by omega) h2).2
          have gb_3311 : ∀ i, i < 16 → a_3243 ≤ n_3280 i := fun i h2 => by
            by_cases ei : i = 0
            · rw [ei, e_3281]; exact Nat.le_refl _
            · have := (hm_3283 i (by omega) h2).1; omega
          refine q_aast C0 hw m_3304 3 3 rfl rfl f_3293 3 (by decide) (by decide) m_3308 ((congrArg F_3274 e_3281.symm).trans (show F_3274 (n_3280 0) = _ from fb_3282.1)) dX0_init_33 (fun F_3312 H locs hw f_3313 o_3314 => ?_)
          refine lv_iinc (v := nI 4) (lv' := [(1, .int (nI (4))), (0, .ref a)]) hx hb dX0_init_34 hl (k := 0) rfl (by decide) (by decide) rfl (fun ls hl => ?_)
          refine lv_goto (tgt := 15) hx hb dX0_init_37 (by decide) ?_
          refine lv_iload_n hx hb dX0_init_15 rfl (lv_at hl 0 rfl) ?_
          refine lv_bipush (v := nI 6) hx hb dX0_init_16 (by decide) ?_
          refine n_icmp_ge (tgt := 40) hx hb dX0_init_18 (by decide) (by decide) (by decide) (fun c_18 => ?_) (fun c_18 => ?_)
          · skip
            exact absurd c_18 (by omega)
          · skip
            refine lv_aload_n hx hb dX0_init_21 rfl (lv_at hl 1 rfl) ?_
            have f_3315 : F_3312 a = .inr (0, [.ref a_3069, .int (nI (0))]) := (o_3314 a (by omega)).trans f_3292
            refine q_get C0 hw m_3303 f_3315 fw_X0_11 rfl dX0_init_22 ?_
            refine lv_iload_n hx hb dX0_init_25 rfl (lv_at hl 0 rfl) ?_
            refine k_new C0 hw nw_X0_9 (Nat.le_of_ble_eq_true rfl) (Nat.le_of_ble_eq_true rfl) dX0_init_26 (fun L_3316 F_3317 a_3318 H_3320 g_3319 hw1 => ?_)
            have hge_a_3318 : s.heap.size ≤ a_3318 := Nat.le_trans hw.2.2.1 g_3319.2.2.2.2
            have f_3321 : F_3317 a = .inr (0, [.ref a_3069, .int (nI (0))]) := (g_3319.2.2.1 a m_3303).1.trans f_3315
            have lt_3323 := (g_3319.2.2.1 a m_3303).2
            have m_3322 : a ∈ L_3316 := g_3319.1.1 a m_3303
            have f_3324 : F_3317 a_3069 = .inl (G.2 3, 6, .inr (.inr (.inr (.inr ((va_up ((va_up ((va_up ((va_up ((fun _ => none)) 0 (some a_3083))) 1 (some a_3126))) 2 (some a_3179))) 3 (some a_3243))))))) := (g_3319.2.2.1 a_3069 m_3304).1.trans f_3313
            have lt_3326 := (g_3319.2.2.1 a_3069 m_3304).2
            have m_3325 : a_3069 ∈ L_3316 := g_3319.1.1 a_3069 m_3304
            have lt_3328 := (g_3319.2.2.1 a_3083 m_3305).2
            have m_3327 : a_3083 ∈ L_3316 := g_3319.1.1 a_3083 m_3305
            have lt_3330 := (g_3319.2.2.1 a_3126 m_3306).2
            have m_3329 : a_3126 ∈ L_3316 := g_3319.1.1 a_3126 m_3306
            have lt_3332 := (g_3319.2.2.1 a_3179 m_3307).2
            have m_3331 : a_3179 ∈ L_3316 := g_3319.1.1 a_3179 m_3307
            have lt_3334 := (g_3319.2.2.1 a_3243 m_3308).2
            have m_3333 : a_3243 ∈ L_3316 := g_3319.1.1 a_3243 m_3308
            have fb_3335 : sta G F_3312 n_3103 0 st0 := fb_3294.keep (fun i hi => o_3314 (n_3103 i) (by (have := gb_3119 i (by omega); have := lb_3140 i (by omega); have := lb_3165 i (by omega); have := lb_3195 i (by omega); have := lb_3225 i (by omega); have := lb_3261 i (by omega); have := lb_3296 i (by omega); omega)))
            have lb_3338 : ∀ i, i < 16 → n_3103 i < a_3318 := fun i h1 => (g_3319.2.2.1 ((n_3103 i)) (mb_3295 i h1)).2
            have fb_3336 : sta G F_3317 n_3103 0 st0 := fb_3335.keep (fun i hi => (g_3319.2.2.1 ((n_3103 i)) (mb_3295 i (by omega))).1)
            have mb_3337 : ∀ i, i < 16 → n_3103 i ∈ L_3316 := fun i h1 => g_3319.1.1 ((n_3103 i)) (mb_3295 i h1)
            have fb_3339 : sta G F_3312 n_3151 0 st0 := fb_3297.keep (fun i hi => o_3314 (n_3151 i) (by (have := gb_3172 i (by omega); have := lb_3199 i (by omega); have := lb_3228 i (by omega); have := lb_3265 i (by omega); have := lb_3299 i (by omega); omega)))
            have lb_3342 : ∀ i, i < 16 → n_3151 i < a_3318 := fun i h1 => (g_3319.2.2.1 ((n_3151 i)) (mb_3298 i h1)).2
            have fb_3340 : sta G F_3317 n_3151 0 st0 := fb_3339.keep (fun i hi => (g_3319.2.2.1 ((n_3151 i)) (mb_3298 i (by omega))).1)
            have mb_3341 : ∀ i, i < 16 → n_3151 i ∈ L_3316 := fun i h1 => g_3319.1.1 ((n_3151 i)) (mb_3298 i h1)
            have fb_3343 : sta G F_3312 n_3210 0 st0 := fb_3300.keep (fun i hi => o_3314 (n_3210 i) (by (have := gb_3236 i (by omega); have := lb_3269 i (by omega); have := lb_3302 i (by omega); omega)))
            have lb_3346 : ∀ i, i < 16 → n_3210 i < a_3318 := fun i h1 => (g_3319.2.2.1 ((n_3210 i)) (mb_3301 i h1)).2
            have fb_3344 : sta G F_3317 n_3210 0 st0 := fb_3343.keep (fun i hi => (g_3319.2.2.1 ((n_3210 i)) (mb_3301 i (by omega))).1)
            have mb_3345 : ∀ i, i < 16 → n_3210 i ∈ L_3316 := fun i h1 => g_3319.1.1 ((n_3210 i)) (mb_3301 i h1)
            have fb_3347 : sta G F_3312 n_3280 0 st0 := fb_3282.keep (fun i hi => o_3314 (n_3280 i) (by (have := gb_3311 i (by omega); omega)))
            have lb_3350 : ∀ i, i < 16 → n_3280 i < a_3318 := fun i h1 => (g_3319.2.2.1 ((n_3280 i)) (mb_3310 i h1)).2
            have fb_3348 : sta G F_3317 n_3280 0 st0 := fb_3347.keep (fun i hi => (g_3319.2.2.1 ((n_3280 i)) (mb_3310 i (by omega))).1)
            have mb_3349 : ∀ i, i < 16 → n_3280 i ∈ L_3316 := fun i h1 => g_3319.1.1 ((n_3280 i)) (mb_3310 i h1)
            have hg_3351 := hg_3309.step g_3319.1 hw.2.2.1
            have C0 := C0.grow g_3319.1 hw.2.2.1
            have hw := hw1
            have m_3352 : a_3318 ∈ L_3316 := g_3319.2.2.2.1
            have f_3353 : F_3317 a_3318 = .inr (3, [.null, .int (nI (0)), .int (nI (0)), .int (nI (0)), .int (nI (0))]) := g_3319.2.1
            refine lv_dup hx hb dX0_init_29 rfl ?_
            refine q_calln hw (fun L1 F1 h => h.1) (q_runI (As := []) (c_X3_init l G L_3316 F_3317 a_3318 m_3352 f_3353) C0 hOv hw iw_X0_17 rfl hl.1 rfl (Nat.le_of_ble_eq_true rfl) dX0_init_30 ⟨by decide, by decide⟩ ⟨by decide, by decide⟩) (fun L_3354 F_3355 H_3357 locs hz_3358 hw1 hp_3356 => ?_)
            have hgs_3359 : s.heap.size ≤ H_3320.size := hw.2.2.1
            obtain ⟨g_3360, n_3361, e_3362, fb_3363, hm_3364, hj_3365, hf_3366⟩ := hp_3356
            have lt_3367 := hw.lt m_3322
            have lt_3368 := hw.lt m_3325
            have lt_3369 := hw.lt m_3327
            have lt_3370 := hw.lt m_3329
            have lt_3371 := hw.lt m_3331
            have lt_3372 := hw.lt m_3333
            have lt_3373 := hw.lt m_3352
            have f_3374 : F_3355 a = .inr (0, [.ref a_3069, .int (nI (0))]) := (hf_3366 a m_3322 (by omega)).trans f_3321
            have f_3375 : F_3355 a_3069 = .inl (G.2 3, 6, .inr (.inr (.inr (.inr ((va_up ((va_up ((va_up ((va_up ((fun _ => none)) 0 (some a_3083))) 1 (some a_3126))) 2 (some a_3179))) 3 (some a_3243))))))) := (hf_3366 a_3069 m_3325 (by omega)).trans f_3324
            have lb_3378 : ∀ i, i < 16 → n_3103 i < H_3320.size := fun i h1 => hw.lt (mb_3337 i h1)
            have fb_3376 : sta G F_3355 n_3103 0 st0 := fb_3336.keep (fun i hi => hf_3366 (n_3103 i) (mb_3337 i (by omega)) (by (have := gb_3119 i (by omega); have := lb_3140 i (by omega); have := lb_3165 i (by omega); have := lb_3195 i (by omega); have := lb_3225 i (by omega); have := lb_3261 i (by omega); have := lb_3296 i (by omega); have := lb_3338 i (by omega); omega)))
            have mb_3377 : ∀ i, i < 16 → n_3103 i ∈ L_3354 := fun i h1 => g_3360.1 (n_3103 i) (mb_3337 i h1)
            have lb_3381 : ∀ i, i < 16 → n_3151 i < H_3320.size := fun i h1 => hw.lt (mb_3341 i h1)
            have fb_3379 : sta G F_3355 n_3151 0 st0 := fb_3340.keep (fun i hi => hf_3366 (n_3151 i) (mb_3341 i (by omega)) (by (have := gb_3172 i (by omega); have := lb_3199 i (by omega); have := lb_3228 i (by omega); have := lb_3265 i (by omega); have := lb_3299 i (by omega); have := lb_3342 i (by omega); omega)))
            have mb_3380 : ∀ i, i < 16 → n_3151 i ∈ L_3354 := fun i h1 => g_3360.1 (n_3151 i) (mb_3341 i h1)
            have lb_3384 : ∀ i, i < 16 → n_3210 i < H_3320.size := fun i h1 => hw.lt (mb_3345 i h1)
            have fb_3382 : sta G F_3355 n_3210 0 st0 := fb_3344.keep (fun i hi => hf_3366 (n_3210 i) (mb_3345 i (by omega)) (by (have := gb_3236 i (by omega); have := lb_3269 i (by omega); have := lb_3302 i (by omega); have := lb_3346 i (by omega); omega)))
            have mb_3383 : ∀ i, i < 16 → n_3210 i ∈ L_3354 := fun i h1 => g_3360.1 (n_3210 i) (mb_3345 i h1)
            have lb_3387 : ∀ i, i < 16 → n_3280 i < H_3320.size := fun i h1 => hw.lt (mb_3349 i h1)
            have fb_3385 : sta G F_3355 n_3280 0 st0 := fb_3348.keep (fun i hi => hf_3366 (n_3280 i) (mb_3349 i (by omega)) (by (have := gb_3311 i (by omega); have := lb_3350 i (by omega); omega)))
            have mb_3386 : ∀ i, i < 16 → n_3280 i ∈ L_3354 := fun i h1 => g_3360.1 (n_3280 i) (mb_3349 i h1)
            have m_3388 : a ∈ L_3354 := g_3360.1 a m_3322
            have m_3389 : a_3069 ∈ L_3354 := g_3360.1 a_3069 m_3325
            have m_3390 : a_3083 ∈ L_3354 := g_3360.1 a_3083 m_3327
            have m_3391 : a_3126 ∈ L_3354 := g_3360.1 a_3126 m_3329
            have m_3392 : a_3179 ∈ L_3354 := g_3360.1 a_3179 m_3331
            have m_3393 : a_3243 ∈ L_3354 := g_3360.1 a_3243 m_3333
            have m_3394 : a_3318 ∈ L_3354 := g_3360.1 a_3318 m_3352
            have hg_3395 := hg_3351.step g_3360 hw.2.2.1
            have C0 := C0.grow g_3360 hw.2.2.1
            have hw := hw1
            have mb_3396 : ∀ i, i < 16 → n_3361 i ∈ L_3354 := fun i h2 => by
              by_cases ei : i = 0
              · rw [ei, e_3362]; exact m_3394
              · exact (hm_3364 i (by omega) h2).2
            have gb_3397 : ∀ i, i < 16 → a_3318 ≤ n_3361 i := fun i h2 => by
              by_cases ei : i = 0
              · rw [ei, e_3362]; exact Nat.le_refl _
              · have := (hm_3364 i (by omega) h2).1; omega
            refine q_aast C0 hw m_3389 3 3 rfl rfl f_3375 4 (by decide) (by decide) m_3394 ((congrArg F_3355 e_3362.symm).trans (show F_3355 (n_3361 0) = _ from fb_3363.1)) dX0_init_33 (fun F_3398 H locs hw f_3399 o_3400 => ?_)
            refine lv_iinc (v := nI 5) (lv' := [(1, .int (nI (5))), (0, .ref a)]) hx hb dX0_init_34 hl (k := 0) rfl (by decide) (by decide) rfl (fun ls hl => ?_)
            refine lv_goto (tgt := 15) hx hb dX0_init_37 (by decide) ?_
            refine lv_iload_n hx hb dX0_init_15 rfl (lv_at hl 0 rfl) ?_
            refine lv_bipush (v := nI 6) hx hb dX0_init_16 (by decide) ?_
            refine n_icmp_ge (tgt := 40) hx hb dX0_init_18 (by decide) (by decide) (by decide) (fun c_18 => ?_) (fun c_18 => ?_)
            · skip
              exact absurd c_18 (by omega)
            · skip
              refine lv_aload_n hx hb dX0_init_21 rfl (lv_at hl 1 rfl) ?_
              have f_3401 : F_3398 a = .inr (0, [.ref a_3069, .int (nI (0))]) := (o_3400 a (by omega)).trans f_3374
              refine q_get C0 hw m_3388 f_3401 fw_X0_11 rfl dX0_init_22 ?_
              refine lv_iload_n hx hb dX0_init_25 rfl (lv_at hl 0 rfl) ?_
              refine k_new C0 hw nw_X0_9 (Nat.le_of_ble_eq_true rfl) (Nat.le_of_ble_eq_true rfl) dX0_init_26 (fun L_3402 F_3403 a_3404 H_3406 g_3405 hw1 => ?_)
              have hge_a_3404 : s.heap.size ≤ a_3404 := Nat.le_trans hw.2.2.1 g_3405.2.2.2.2
              have f_3407 : F_3403 a = .inr (0, [.ref a_3069, .int (nI (0))]) := (g_3405.2.2.1 a m_3388).1.trans f_3401
              have lt_3409 := (g_3405.2.2.1 a m_3388).2
              have m_3408 : a ∈ L_3402 := g_3405.1.1 a m_3388
              have f_3410 : F_3403 a_3069 = .inl (G.2 3, 6, .inr (.inr (.inr (.inr ((va_up ((va_up ((va_up ((va_up ((va_up ((fun _ => none)) 0 (some a_3083))) 1 (some a_3126))) 2 (some a_3179))) 3 (some a_3243))) 4 (some a_3318))))))) := (g_3405.2.2.1 a_3069 m_3389).1.trans f_3399
              have lt_3412 := (g_3405.2.2.1 a_3069 m_3389).2
              have m_3411 : a_3069 ∈ L_3402 := g_3405.1.1 a_3069 m_3389
              have lt_3414 := (g_3405.2.2.1 a_3083 m_3390).2
              have m_3413 : a_3083 ∈ L_3402 := g_3405.1.1 a_3083 m_3390
              have lt_3416 := (g_3405.2.2.1 a_3126 m_3391).2
              have m_3415 : a_3126 ∈ L_3402 := g_3405.1.1 a_3126 m_3391
              have lt_3418 := (g_3405.2.2.1 a_3179 m_3392).2
              have m_3417 : a_3179 ∈ L_3402 := g_3405.1.1 a_3179 m_3392
              have lt_3420 := (g_3405.2.2.1 a_3243 m_3393).2
              have m_3419 : a_3243 ∈ L_3402 := g_3405.1.1 a_3243 m_3393
              have lt_3422 := (g_3405.2.2.1 a_3318 m_3394).2
              have m_3421 : a_3318 ∈ L_3402 := g_3405.1.1 a_3318 m_3394
              have fb_3423 : sta G F_3398 n_3103 0 st0 := fb_3376.keep (fun i hi => o_3400 (n_3103 i) (by (have := gb_3119 i (by omega); have := lb_3140 i (by omega); have := lb_3165 i (by omega); have := lb_3195 i (by omega); have := lb_3225 i (by omega); have := lb_3261 i (by omega); have := lb_3296 i (by omega); have := lb_3338 i (by omega); have := lb_3378 i (by omega); omega)))
              have lb_3426 : ∀ i, i < 16 → n_3103 i < a_3404 := fun i h1 => (g_3405.2.2.1 ((n_3103 i)) (mb_3377 i h1)).2
              have fb_3424 : sta G F_3403 n_3103 0 st0 := fb_3423.keep (fun i hi => (g_3405.2.2.1 ((n_3103 i)) (mb_3377 i (by omega))).1)
              have mb_3425 : ∀ i, i < 16 → n_3103 i ∈ L_3402 := fun i h1 => g_3405.1.1 ((n_3103 i)) (mb_3377 i h1)
              have fb_3427 : sta G F_3398 n_3151 0 st0 := fb_3379.keep (fun i hi => o_3400 (n_3151 i) (by (have := gb_3172 i (by omega); have := lb_3199 i (by omega); have := lb_3228 i (by omega); have := lb_3265 i (by omega); have := lb_3299 i (by omega); have := lb_3342 i (by omega); have := lb_3381 i (by omega); omega)))
              have lb_3430 : ∀ i, i < 16 → n_3151 i < a_3404 := fun i h1 => (g_3405.2.2.1 ((n_3151 i)) (mb_3380 i h1)).2
              have fb_3428 : sta G F_3403 n_3151 0 st0 := fb_3427.keep (fun i hi => (g_3405.2.2.1 ((n_3151 i)) (mb_3380 i (by omega))).1)
              have mb_3429 : ∀ i, i < 16 → n_3151 i ∈ L_3402 := fun i h1 => g_3405.1.1 ((n_3151 i)) (mb_3380 i h1)
              have fb_3431 : sta G F_3398 n_3210 0 st0 := fb_3382.keep (fun i hi => o_3400 (n_3210 i) (by (have := gb_3236 i (by omega); have := lb_3269 i (by omega); have := lb_3302 i (by omega); have := lb_3346 i (by omega); have := lb_3384 i (by omega); omega)))
              have lb_3434 : ∀ i, i < 16 → n_3210 i < a_3404 := fun i h1 => (g_3405.2.2.1 ((n_3210 i)) (mb_3383 i h1)).2
              have fb_3432 : sta G F_3403 n_3210 0 st0 := fb_3431.keep (fun i hi => (g_3405.2.2.1 ((n_3210 i)) (mb_3383 i (by omega))).1)
              have mb_3433 : ∀ i, i < 16 → n_3210 i ∈ L_3402 := fun i h1 => g_3405.1.1 ((n_3210 i)) (mb_3383 i h1)
              have fb_3435 : sta G F_3398 n_3280 0 st0 := fb_3385.keep (fun i hi => o_3400 (n_3280 i) (by (have := gb_3311 i (by omega); have := lb_3350 i (by omega); have := lb_3387 i (by omega); omega)))
              have lb_3438 : ∀ i, i < 16 → n_3280 i < a_3404 := fun i h1 => (g_3405.2.2.1 ((n_3280 i)) (mb_3386 i h1)).2
              have fb_3436 : sta G F_3403 n_3280 0 st0 := fb_3435.keep (fun i hi => (g_3405.2.2.1 ((n_3280 i)) (mb_3386 i (by omega))).1)
              have mb_3437 : ∀ i, i < 16 → n_3280 i ∈ L_3402 := fun i h1 => g_3405.1.1 ((n_3280 i)) (mb_3386 i h1)
              have fb_3439 : sta G F_3398 n_3361 0 st0 := fb_3363.keep (fun i hi => o_3400 (n_3361 i) (by (have := gb_3397 i (by omega); omega)))
              have lb_3442 : ∀ i, i < 16 → n_3361 i < a_3404 := fun i h1 => (g_3405.2.2.1 ((n_3361 i)) (mb_3396 i h1)).2
              have fb_3440 : sta G F_3403 n_3361 0 st0 := fb_3439.keep (fun i hi => (g_3405.2.2.1 ((n_3361 i)) (mb_3396 i (by omega))).1)
              have mb_3441 : ∀ i, i < 16 → n_3361 i ∈ L_3402 := fun i h1 => g_3405.1.1 ((n_3361 i)) (mb_3396 i h1)
              have hg_3443 := hg_3395.step g_3405.1 hw.2.2.1
              have C0 := C0.grow g_3405.1 hw.2.2.1
              have hw := hw1
              have m_3444 : a_3404 ∈ L_3402 := g_3405.2.2.2.1
              have f_3445 : F_3403 a_3404 = .inr (3, [.null, .int (nI (0)), .int (nI (0)), .int (nI (0)), .int (nI (0))]) := g_3405.2.1
              refine lv_dup hx hb dX0_init_29 rfl ?_
              refine q_calln hw (fun L1 F1 h => h.1) (q_runI (As := []) (c_X3_init l G L_3402 F_3403 a_3404 m_3444 f_3445) C0 hOv hw iw_X0_17 rfl hl.1 rfl (Nat.le_of_ble_eq_true rfl) dX0_init_30 ⟨by decide, by decide⟩ ⟨by decide, by decide⟩) (fun L_3446 F_3447 H_3449 locs hz_3450 hw1 hp_3448 => ?_)
              have hgs_3451 : s.heap.size ≤ H_3406.size := hw.2.2.1
              obtain ⟨g_3452, n_3453, e_3454, fb_3455, hm_3456, hj_3457, hf_3458⟩ := hp_3448
              have lt_3459 := hw.lt m_3408
              have lt_3460 := hw.lt m_3411
              have lt_3461 := hw.lt m_3413
              have lt_3462 := hw.lt m_3415
              have lt_3463 := hw.lt m_3417
              have lt_3464 := hw.lt m_3419
              have lt_3465 := hw.lt m_3421
              have lt_3466 := hw.lt m_3444
              have f_3467 : F_3447 a = .inr (0, [.ref a_3069, .int (nI (0))]) := (hf_3458 a m_3408 (by omega)).trans f_3407
              have f_3468 : F_3447 a_3069 = .inl (G.2 3, 6, .inr (.inr (.inr (.inr ((va_up ((va_up ((va_up ((va_up ((va_up ((fun _ => none)) 0 (some a_3083))) 1 (some a_3126))) 2 (some a_3179))) 3 (some a_3243))) 4 (some a_3318))))))) := (hf_3458 a_3069 m_3411 (by omega)).trans f_3410
              have lb_3471 : ∀ i, i < 16 → n_3103 i < H_3406.size := fun i h1 => hw.lt (mb_3425 i h1)
              have fb_3469 : sta G F_3447 n_3103 0 st0 := fb_3424.keep (fun i hi => hf_3458 (n_3103 i) (mb_3425 i (by omega)) (by (have := gb_3119 i (by omega); have := lb_3140 i (by omega); have := lb_3165 i (by omega); have := lb_3195 i (by omega); have := lb_3225 i (by omega); have := lb_3261 i (by omega); have := lb_3296 i (by omega); have := lb_3338 i (by omega); have := lb_3378 i (by omega); have := lb_3426 i (by omega); omega)))
              have mb_3470 : ∀ i, i < 16 → n_3103 i ∈ L_3446 := fun i h1 => g_3452.1 (n_3103 i) (mb_3425 i h1)
              have lb_3474 : ∀ i, i < 16 → n_3151 i < H_3406.size := fun i h1 => hw.lt (mb_3429 i h1)
              have fb_3472 : sta G F_3447 n_3151 0 st0 := fb_3428.keep (fun i hi => hf_3458 (n_3151 i) (mb_3429 i (by omega)) (by (have := gb_3172 i (by omega); have := lb_3199 i (by omega); have := lb_3228 i (by omega); have := lb_3265 i (by omega); have := lb_3299 i (by omega); have := lb_3342 i (by omega); have := lb_3381 i (by omega); have := lb_3430 i (by omega); omega)))
              have mb_3473 : ∀ i, i < 16 → n_3151 i ∈ L_3446 := fun i h1 => g_3452.1 (n_3151 i) (mb_3429 i h1)
              have lb_3477 : ∀ i, i < 16 → n_3210 i < H_3406.size := fun i h1 => hw.lt (mb_3433 i h1)
              have fb_3475 : sta G F_3447 n_3210 0 st0 := fb_3432.keep (fun i hi => hf_3458 (n_3210 i) (mb_3433 i (by omega)) (by (have := gb_3236 i (by omega); have := lb_3269 i (by omega); have := lb_3302 i (by omega); have := lb_3346 i (by omega); have := lb_3384 i (by omega); have := lb_3434 i (by omega); omega)))
              have mb_3476 : ∀ i, i < 16 → n_3210 i ∈ L_3446 := fun i h1 => g_3452.1 (n_3210 i) (mb_3433 i h1)
              have lb_3480 : ∀ i, i < 16 → n_3280 i < H_3406.size := fun i h1 => hw.lt (mb_3437 i h1)
              have fb_3478 : sta G F_3447 n_3280 0 st0 := fb_3436.keep (fun i hi => hf_3458 (n_3280 i) (mb_3437 i (by omega)) (by (have := gb_3311 i (by omega); have := lb_3350 i (by omega); have := lb_3387 i (by omega); have := lb_3438 i (by omega); omega)))
              have mb_3479 : ∀ i, i < 16 → n_3280 i ∈ L_3446 := fun i h1 => g_3452.1 (n_3280 i) (mb_3437 i h1)
              have lb_3483 : ∀ i, i < 16 → n_3361 i < H_3406.size := fun i h1 => hw.lt (mb_3441 i h1)
              have fb_3481 : sta G F_3447 n_3361 0 st0 := fb_3440.keep (fun i hi => hf_3458 (n_3361 i) (mb_3441 i (by omega)) (by (have := gb_3397 i (by omega); have := lb_3442 i (by omega); omega)))
              have mb_3482 : ∀ i, i < 16 → n_3361 i ∈ L_3446 := fun i h1 => g_3452.1 (n_3361 i) (mb_3441 i h1)
              have m_3484 : a ∈ L_3446 := g_3452.1 a m_3408
              have m_3485 : a_3069 ∈ L_3446 := g_3452.1 a_3069 m_3411
              have m_3486 : a_3083 ∈ L_3446 := g_3452.1 a_3083 m_3413
              have m_3487 : a_3126 ∈ L_3446 := g_3452.1 a_3126 m_3415
              have m_3488 : a_3179 ∈ L_3446 := g_3452.1 a_3179 m_3417
              have m_3489 : a_3243 ∈ L_3446 := g_3452.1 a_3243 m_3419
              have m_3490 : a_3318 ∈ L_3446 := g_3452.1 a_3318 m_3421
              have m_3491 : a_3404 ∈ L_3446 := g_3452.1 a_3404 m_3444
              have hg_3492 := hg_3443.step g_3452 hw.2.2.1
              have C0 := C0.grow g_3452 hw.2.2.1
              have hw := hw1
              have mb_3493 : ∀ i, i < 16 → n_3453 i ∈ L_3446 := fun i h2 => by
                by_cases ei : i = 0
                · rw [ei, e_3454]; exact m_3491
                · exact (hm_3456 i (by omega) h2).2
              have gb_3494 : ∀ i, i < 16 → a_3404 ≤ n_3453 i := fun i h2 => by
                by_cases ei : i = 0
                · rw [ei, e_3454]; exact Nat.le_refl _
                · have := (hm_3456 i (by omega) h2).1; omega
              refine q_aast C0 hw m_3485 3 3 rfl rfl f_3468 5 (by decide) (by decide) m_3491 ((congrArg F_3447 e_3454.symm).trans (show F_3447 (n_3453 0) = _ from fb_3455.1)) dX0_init_33 (fun F_3495 H locs hw f_3496 o_3497 => ?_)
              refine lv_iinc (v := nI 6) (lv' := [(1, .int (nI (6))), (0, .ref a)]) hx hb dX0_init_34 hl (k := 0) rfl (by decide) (by decide) rfl (fun ls hl => ?_)
              refine lv_goto (tgt := 15) hx hb dX0_init_37 (by decide) ?_
              refine lv_iload_n hx hb dX0_init_15 rfl (lv_at hl 0 rfl) ?_
              refine lv_bipush (v := nI 6) hx hb dX0_init_16 (by decide) ?_
              refine n_icmp_ge (tgt := 40) hx hb dX0_init_18 (by decide) (by decide) (by decide) (fun c_18 => ?_) (fun c_18 => ?_)
              · skip
                have fb_3498 : sta G F_3495 n_3103 0 st0 := fb_3469.keep (fun i hi => o_3497 (n_3103 i) (by (have := gb_3119 i (by omega); have := lb_3140 i (by omega); have := lb_3165 i (by omega); have := lb_3195 i (by omega); have := lb_3225 i (by omega); have := lb_3261 i (by omega); have := lb_3296 i (by omega); have := lb_3338 i (by omega); have := lb_3378 i (by omega); have := lb_3426 i (by omega); have := lb_3471 i (by omega); omega)))
                have fb_3499 : sta G F_3495 n_3151 0 st0 := fb_3472.keep (fun i hi => o_3497 (n_3151 i) (by (have := gb_3172 i (by omega); have := lb_3199 i (by omega); have := lb_3228 i (by omega); have := lb_3265 i (by omega); have := lb_3299 i (by omega); have := lb_3342 i (by omega); have := lb_3381 i (by omega); have := lb_3430 i (by omega); have := lb_3474 i (by omega); omega)))
                have fb_3500 : sta G F_3495 n_3210 0 st0 := fb_3475.keep (fun i hi => o_3497 (n_3210 i) (by (have := gb_3236 i (by omega); have := lb_3269 i (by omega); have := lb_3302 i (by omega); have := lb_3346 i (by omega); have := lb_3384 i (by omega); have := lb_3434 i (by omega); have := lb_3477 i (by omega); omega)))
                have fb_3501 : sta G F_3495 n_3280 0 st0 := fb_3478.keep (fun i hi => o_3497 (n_3280 i) (by (have := gb_3311 i (by omega); have := lb_3350 i (by omega); have := lb_3387 i (by omega); have := lb_3438 i (by omega); have := lb_3480 i (by omega); omega)))
                have fb_3502 : sta G F_3495 n_3361 0 st0 := fb_3481.keep (fun i hi => o_3497 (n_3361 i) (by (have := gb_3397 i (by omega); have := lb_3442 i (by omega); have := lb_3483 i (by omega); omega)))
                have fb_3503 : sta G F_3495 n_3453 0 st0 := fb_3455.keep (fun i hi => o_3497 (n_3453 i) (by (have := gb_3494 i (by omega); omega)))
                have hfr_3504 : ∀ q ∈ L, q ≠ a → F_3495 q = F q := by
                  intro q hq hne
                  have hqlt := hwS.lt hq
                  exact ((((((((((((((((((((o_3497 q (by omega)).trans (hf_3458 q (hg_3443.1 q hq) (by omega))).trans (g_3405.2.2.1 q (hg_3395.1 q hq)).1).trans (o_3400 q (by omega))).trans (hf_3366 q (hg_3351.1 q hq) (by omega))).trans (g_3319.2.2.1 q (hg_3309.1 q hq)).1).trans (o_3314 q (by omega))).trans (hf_3285 q (hg_3270.1 q hq) (by omega))).trans (g_3244.2.2.1 q (hg_3234.1 q hq)).1).trans (o_3239 q (by omega))).trans (hf_3215 q (hg_3200.1 q hq) (by omega))).trans (g_3180.2.2.1 q (hg_3170.1 q hq)).1).trans (o_3175 q (by omega))).trans (hf_3156 q (hg_3141.1 q hq) (by omega))).trans (g_3127.2.2.1 q (hg_3117.1 q hq)).1).trans (o_3122 q (by omega))).trans (hf_3108 q (hg_3093.1 q hq) (by omega))).trans (g_3084.2.2.1 q (hg_3075.1 q hq)).1).trans (o_3080 q (by omega))).trans (g_3070.2.2.1 q (hg0.1 q hq)).1)
                have f_3505 : F_3495 a = .inr (0, [.ref a_3069, .int (nI (0))]) := (o_3497 a (by omega)).trans f_3467
                obtain ⟨nn, en⟩ : ∃ nn : Nat → Nat → Nat, nn = (fun k => if k = 0 then n_3103 else if k = 1 then n_3151 else if k = 2 then n_3210 else if k = 3 then n_3280 else if k = 4 then n_3361 else n_3453) := ⟨_, rfl⟩
                obtain ⟨A9, eA⟩ : ∃ A9 : Nat → Nat, A9 = (fun k => if k = 0 then a_3083 else if k = 1 then a_3126 else if k = 2 then a_3179 else if k = 3 then a_3243 else if k = 4 then a_3318 else a_3404) := ⟨_, rfl⟩
                have e0 : nn 0 = n_3103 := by rw [en]; rfl
                have g0 : A9 0 = a_3083 := by rw [eA]; rfl
                have e1 : nn 1 = n_3151 := by rw [en]; rfl
                have g1 : A9 1 = a_3126 := by rw [eA]; rfl
                have e2 : nn 2 = n_3210 := by rw [en]; rfl
                have g2 : A9 2 = a_3179 := by rw [eA]; rfl
                have e3 : nn 3 = n_3280 := by rw [en]; rfl
                have g3 : A9 3 = a_3243 := by rw [eA]; rfl
                have e4 : nn 4 = n_3361 := by rw [en]; rfl
                have g4 : A9 4 = a_3318 := by rw [eA]; rfl
                have e5 : nn 5 = n_3453 := by rw [en]; rfl
                have g5 : A9 5 = a_3404 := by rw [eA]; rfl
                have hf9 : ∀ k, k < 6 → ((va_up ((va_up ((va_up ((va_up ((va_up ((va_up ((fun _ => none)) 0 (some a_3083))) 1 (some a_3126))) 2 (some a_3179))) 3 (some a_3243))) 4 (some a_3318))) 5 (some a_3404))) k = some (nn k 0) := by
                  intro k hk9
                  match k, hk9 with
                  | 0, _ => rw [e0, e_3104]; rfl
                  | 1, _ => rw [e1, e_3152]; rfl
                  | 2, _ => rw [e2, e_3211]; rfl
                  | 3, _ => rw [e3, e_3281]; rfl
                  | 4, _ => rw [e4, e_3362]; rfl
                  | 5, _ => rw [e5, e_3454]; rfl
                  | k + 6, h9 => exact absurd h9 (by omega)
                have hst : ∀ k, k < 6 → sta G F_3495 (nn k) 0 st0 := by
                  intro k hk9
                  match k, hk9 with
                  | 0, _ => rw [e0]; exact fb_3498
                  | 1, _ => rw [e1]; exact fb_3499
                  | 2, _ => rw [e2]; exact fb_3500
                  | 3, _ => rw [e3]; exact fb_3501
                  | 4, _ => rw [e4]; exact fb_3502
                  | 5, _ => rw [e5]; exact fb_3503
                  | k + 6, h9 => exact absurd h9 (by omega)
                have hm9 : ∀ k, k < 6 → ∀ i, i < 16 → a_3069 < nn k i ∧ nn k i ∈ L_3446 := by
                  intro k hk9
                  match k, hk9 with
                  | 0, _ => exact fun i hi => by rw [e0]; exact ⟨by have := gb_3119 i hi; omega, mb_3470 i hi⟩
                  | 1, _ => exact fun i hi => by rw [e1]; exact ⟨by have := gb_3172 i hi; omega, mb_3473 i hi⟩
                  | 2, _ => exact fun i hi => by rw [e2]; exact ⟨by have := gb_3236 i hi; omega, mb_3476 i hi⟩
                  | 3, _ => exact fun i hi => by rw [e3]; exact ⟨by have := gb_3311 i hi; omega, mb_3479 i hi⟩
                  | 4, _ => exact fun i hi => by rw [e4]; exact ⟨by have := gb_3397 i hi; omega, mb_3482 i hi⟩
                  | 5, _ => exact fun i hi => by rw [e5]; exact ⟨by have := gb_3494 i hi; omega, mb_3493 i hi⟩
                  | k + 6, h9 => exact absurd h9 (by omega)
                have h19 : ∀ k, k < 6 → ∀ i, i < 16 → A9 k ≤ nn k i := by
                  intro k hk9
                  match k, hk9 with
                  | 0, _ => exact fun i hi => by rw [e0, g0]; exact gb_3119 i hi
                  | 1, _ => exact fun i hi => by rw [e1, g1]; exact gb_3172 i hi
                  | 2, _ => exact fun i hi => by rw [e2, g2]; exact gb_3236 i hi
                  | 3, _ => exact fun i hi => by rw [e3, g3]; exact gb_3311 i hi
                  | 4, _ => exact fun i hi => by rw [e4, g4]; exact gb_3397 i hi
                  | 5, _ => exact fun i hi => by rw [e5, g5]; exact gb_3494 i hi
                  | k + 6, h9 => exact absurd h9 (by omega)
                have h29 : ∀ k, k < 5 → ∀ i, i < 16 → nn k i < A9 (k + 1) := by
                  intro k hk9
                  match k, hk9 with
                  | 0, _ => exact fun i hi => by rw [e0, show A9 (0 + 1) = _ from g1]; exact lb_3140 i hi
                  | 1, _ => exact fun i hi => by rw [e1, show A9 (1 + 1) = _ from g2]; exact lb_3199 i hi
                  | 2, _ => exact fun i hi => by rw [e2, show A9 (2 + 1) = _ from g3]; exact lb_3269 i hi
                  | 3, _ => exact fun i hi => by rw [e3, show A9 (3 + 1) = _ from g4]; exact lb_3350 i hi
                  | 4, _ => exact fun i hi => by rw [e4, show A9 (4 + 1) = _ from g5]; exact lb_3442 i hi
                  | k + 5, h9 => exact absurd h9 (by omega)
                have hj9 : ∀ k, k < 6 → ∀ i j, i < 16 → j < 16 → i ≠ j → nn k i ≠ nn k j := by
                  intro k hk9
                  match k, hk9 with
                  | 0, _ => exact by rw [e0]; exact hj_3107
                  | 1, _ => exact by rw [e1]; exact hj_3155
                  | 2, _ => exact by rw [e2]; exact hj_3214
                  | 3, _ => exact by rw [e3]; exact hj_3284
                  | 4, _ => exact by rw [e4]; exact hj_3365
                  | 5, _ => exact by rw [e5]; exact hj_3457
                  | k + 6, h9 => exact absurd h9 (by omega)
                have hl9 : ∀ k, k < 6 → ∀ i, i < 16 → nn k 0 ≤ nn k i := by
                  intro k hk9
                  match k, hk9 with
                  | 0, _ => exact fun i hi => by rw [e0, e_3104]; exact gb_3119 i hi
                  | 1, _ => exact fun i hi => by rw [e1, e_3152]; exact gb_3172 i hi
                  | 2, _ => exact fun i hi => by rw [e2, e_3211]; exact gb_3236 i hi
                  | 3, _ => exact fun i hi => by rw [e3, e_3281]; exact gb_3311 i hi
                  | 4, _ => exact fun i hi => by rw [e4, e_3362]; exact gb_3397 i hi
                  | 5, _ => exact fun i hi => by rw [e5, e_3454]; exact gb_3494 i hi
                  | k + 6, h9 => exact absurd h9 (by omega)
                exact r_vN C0 hg_3492 hr hlk hw ⟨hg_3492, a_3069, nn, f_3505, ⟨_, f_3496, hf9⟩, by omega, m_3485, hst, fun k i hk hi => hm9 k hk i hi, blk_chain (fun k i hk hi => h19 k hk i hi) (fun k i hk hi => h29 k (by omega) i hi), fun k i j hk => hj9 k hk i j, fun k i hk hi => hl9 k hk i hi, hfr_3504⟩ (Nat.le_of_ble_eq_true rfl) (Nat.le_of_ble_eq_true rfl) dX0_init_40 hQ
              · skip
                exact absurd c_18 (by omega)
def A0 : AB := (st0, (0, fun _ => st0), (fun _ => (false, 0, r0)), (0, fun _ => 0))
