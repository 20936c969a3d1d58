theorem shp_mv {G : Gl} {F : Nat → va_E} {n n2 : Nat → Nat} {tb cu : Nat} {r : Rws} (e : ∀ i, 1 ≤ i → n2 (tb + i) = n (0 + i)) (h : shp G F n 0 cu r) : shp G F n2 tb cu r := by
  obtain ⟨h1, h2, h3, h4⟩ := h
  have q : ∀ k, (fun i => n2 (tb + (k + 1) + i)) = (fun i => n (0 + (k + 1) + i)) := fun k => funext fun i => by rw [show tb + (k + 1) + i = tb + (k + 1 + i) by omega, show 0 + (k + 1) + i = 0 + (k + 1 + i) by omega]; exact e (k + 1 + i) (by omega)
  refine ⟨?_, ?_, ?_, fun i hi => ?_⟩
  · rw [e 1 (by decide), e 2 (by decide), e 3 (by decide)]; exact h1
  · rw [e 2 (by decide), q 3]; exact h2
  · rw [e 3 (by decide), q 9]; exact h3
  · rw [show tb + 4 + i = tb + (4 + i) by omega, e (4 + i) (by omega), ← Nat.add_assoc]; exact h4 i hi
abbrev rm_X3_init : Room := { frames := 2, cells := 15, slots := 99, locals := 61 }
set_option maxHeartbeats 4000000 in
set_option maxRecDepth 100000 in
theorem c_X3_init (l : Launch) (G : Gl) (L : List Nat) (F : Nat → va_E) (a : Nat) (ma : a ∈ L) (fa : F a = .inr (3, [.null, .int (nI (0)), .int (nI (0)), .int (nI (0)), .int (nI (0))])) : CN l yX3_init cX3_init 1 rm_X3_init G L F [.ref a] (fun sz L1 F1 => gr L L1 sz ∧ ∃ n : Nat → Nat, n 0 = a ∧ sta G F1 n 0 st0 ∧ (∀ i, 1 ≤ i → i < 16 → sz ≤ n i ∧ n i ∈ L1) ∧ (∀ i j, i < 16 → j < 16 → i ≠ j → n i ≠ n j) ∧ (∀ q ∈ L, q ≠ a → F1 q = F q)) := by
  refine CN_of (by decide) (Nat.le_of_ble_eq_true rfl) rfl ?_
  intro p e s m args below meth c Q C0 hOv hr hlk hnm hQ hw ls hl
  have hx := C0.x
  have hb := C0.b
  have hwS := hw
  have hg0 := gr.rfl (L := L) s.heap.size
  have hlt0 := hw.lt ma
  refine lv_aload_n hx hb dX3_init_0 rfl (lv_at hl 0 rfl) ?_
  refine q_obj C0 hl.1 ob_X3 ob_i ob_c (by decide) (by decide) dX3_init_1 ?_
  refine lv_aload_n hx hb dX3_init_4 rfl (lv_at hl 0 rfl) ?_
  refine k_new C0 hw nw_X3_9 (Nat.le_of_ble_eq_true rfl) (Nat.le_of_ble_eq_true rfl) dX3_init_5 (fun L_11908 F_11909 a_11910 H_11912 g_11911 hw1 => ?_)
  have hge_a_11910 : s.heap.size ≤ a_11910 := Nat.le_trans hw.2.2.1 g_11911.2.2.2.2
  have f_11913 : F_11909 a = .inr (3, [.null, .int (nI (0)), .int (nI (0)), .int (nI (0)), .int (nI (0))]) := (g_11911.2.2.1 a ma).1.trans fa
  have lt_11915 := (g_11911.2.2.1 a ma).2
  have m_11914 : a ∈ L_11908 := g_11911.1.1 a ma
  have hg_11916 := hg0.step g_11911.1 hw.2.2.1
  have C0 := C0.grow g_11911.1 hw.2.2.1
  have hw := hw1
  have m_11917 : a_11910 ∈ L_11908 := g_11911.2.2.2.1
  have f_11918 : F_11909 a_11910 = .inr (2, [.int (nI (0)), .null, .null]) := g_11911.2.1
  refine lv_dup hx hb dX3_init_8 rfl ?_
  refine q_calln hw (fun L1 F1 h => h.1) (q_runI (As := []) (c_X2_init l G L_11908 F_11909 a_11910 m_11917 f_11918) C0 hOv hw iw_X3_11 rfl hl.1 rfl (Nat.le_of_ble_eq_true rfl) dX3_init_9 ⟨by decide, by decide⟩ ⟨by decide, by decide⟩) (fun L_11919 F_11920 H_11922 locs hz_11923 hw1 hp_11921 => ?_)
  have hgs_11924 : s.heap.size ≤ H_11912.size := hw.2.2.1
  obtain ⟨g_11925, n_11926, e_11927, fb_11928, hm_11929, hj_11930, hf_11931⟩ := hp_11921
  have lt_11932 := hw.lt m_11914
  have lt_11933 := hw.lt m_11917
  have f_11934 : F_11920 a = .inr (3, [.null, .int (nI (0)), .int (nI (0)), .int (nI (0)), .int (nI (0))]) := (hf_11931 a m_11914 (by omega)).trans f_11913
  have m_11935 : a ∈ L_11919 := g_11925.1 a m_11914
  have m_11936 : a_11910 ∈ L_11919 := g_11925.1 a_11910 m_11917
  have hg_11937 := hg_11916.step g_11925 hw.2.2.1
  have C0 := C0.grow g_11925 hw.2.2.1
  have hw := hw1
  have mb_11938 : ∀ i, 1 ≤ i → i < 16 → n_11926 i ∈ L_11919 := fun i h1 h2 => by
    by_cases ei : i = 1
    · rw [ei, e_11927]; exact m_11936
    · exact (hm_11929 i (by omega) h2).2
  have gb_11939 : ∀ i, 1 ≤ i → i < 16 → a_11910 ≤ n_11926 i := fun i h1 h2 => by
    by_cases ei : i = 1
    · rw [ei, e_11927]; exact Nat.le_refl _
    · have := (hm_11929 i (by omega) h2).1; omega
  refine q_putF C0 hnm hw m_11935 f_11934 fw_X3_12 pw_X3_0 rfl rfl rfl rfl (Nat.le_of_ble_eq_true rfl) dX3_init_12 (fun F_11940 H locs hw f_11941 o_11942 => ?_)
  have f_11941 : F_11940 a = .inr (3, [.ref a_11910, .int (nI (0)), .int (nI (0)), .int (nI (0)), .int (nI (0))]) := f_11941
  refine lv_aload_n hx hb dX3_init_15 rfl (lv_at hl 0 rfl) ?_
  refine lv_sipush (v := nI 500) hx hb dX3_init_16 (by decide) ?_
  refine q_put C0 hw m_11935 f_11941 fw_X3_18 pw_X3_1 rfl rfl rfl (Nat.le_of_ble_eq_true rfl) dX3_init_19 (fun F_11943 H locs hw f_11944 o_11945 => ?_)
  have f_11944 : F_11943 a = .inr (3, [.ref a_11910, .int (nI (500)), .int (nI (0)), .int (nI (0)), .int (nI (0))]) := f_11944
  have fb_11946 : shp G F_11940 n_11926 0 5 r0 := fb_11928.keep (fun i hi => o_11942 (n_11926 i) (by (have := gb_11939 i (by omega) (by omega); omega)))
  have fb_11947 : shp G F_11943 n_11926 0 5 r0 := fb_11946.keep (fun i hi => o_11945 (n_11926 i) (by (have := gb_11939 i (by omega) (by omega); omega)))
  have hfr_11948 : ∀ q ∈ L, q ≠ a → F_11943 q = F q := by
    intro q hq hne
    have hqlt := hwS.lt hq
    exact ((((o_11945 q (by omega)).trans (o_11942 q (by omega))).trans (hf_11931 q (hg_11916.1 q hq) (by omega))).trans (g_11911.2.2.1 q (hg0.1 q hq)).1)
  obtain ⟨n, en⟩ : ∃ n : Nat → Nat, n = (fun i => if i = 0 then a else n_11926 i) := ⟨_, rfl⟩
  have e0 : n 0 = a := by rw [en]; rfl
  have ei : ∀ i, 1 ≤ i → n i = n_11926 i := fun i hi => by rw [en]; exact if_neg (by omega)
  have hsta : sta G F_11943 n 0 st0 := ⟨by rw [e0, show n (0 + 1) = _ from (ei 1 (by decide)).trans e_11927]; exact f_11944, shp_mv (fun i hi => by rw [Nat.zero_add, ei i hi]) fb_11947⟩
  have hnm9 : ∀ i, 1 ≤ i → i < 16 → s.heap.size ≤ n i ∧ n i ∈ L_11919 := fun i h1 h2 => by rw [ei i h1]; exact ⟨by have := gb_11939 i (by omega) (by omega); omega, mb_11938 i (by omega) h2⟩
  have hinj : ∀ i j, i < 16 → j < 16 → i ≠ j → n i ≠ n j := by
    intro i j hi hj hne
    rcases Nat.eq_zero_or_pos i with rfl | h1 <;> rcases Nat.eq_zero_or_pos j with rfl | h2
    · exact absurd rfl hne
    · rw [e0, ei j h2]; have := gb_11939 j h2 hj; omega
    · rw [e0, ei i h1]; have := gb_11939 i h1 hi; omega
    · rw [ei i h1, ei j h2]; exact hj_11930 i j h1 hi h2 hj hne
  exact r_vN C0 hg_11937 hr hlk hw ⟨hg_11937, n, e0, hsta, hnm9, hinj, hfr_11948⟩ (Nat.le_of_ble_eq_true rfl) (Nat.le_of_ble_eq_true rfl) dX3_init_22 hQ
abbrev rm_X4_init : Room := { frames := 1, cells := 1, slots := 60, locals := 40 }
set_option maxHeartbeats 4000000 in
set_option maxRecDepth 100000 in
theorem c_X4_init (l : Launch) (G : Gl) (L : List Nat) (F : Nat → va_E) (a : Nat) (ma : a ∈ L) (fa : F a = .inr (4, [.null, .int (nI (0))])) : CN l yX4_init cX4_init 1 rm_X4_init G L F [.ref a] (fun sz L1 F1 => gr L L1 sz ∧ ∃ x : Nat, F1 a = tO x 0 ∧ F1 x = .inl (G.2 0, 60, .inl (fun _ => nI 0)) ∧ sz ≤ x ∧ x ∈ L1 ∧ (∀ q ∈ L, q ≠ a → F1 q = F q)) := by
  refine CN_of (by decide) (Nat.le_of_ble_eq_true rfl) rfl ?_
  intro p e s m args below meth c Q C0 hOv hr hlk hnm hQ hw ls hl
  have hx := C0.x
  have hb := C0.b
  have hwS := hw
  have hg0 := gr.rfl (L := L) s.heap.size
  have hlt0 := hw.lt ma
  refine lv_aload_n hx hb dX4_init_0 rfl (lv_at hl 0 rfl) ?_
  refine q_obj C0 hl.1 ob_X4 ob_i ob_c (by decide) (by decide) dX4_init_1 ?_
  refine lv_aload_n hx hb dX4_init_4 rfl (lv_at hl 0 rfl) ?_
  refine lv_bipush (v := nI 60) hx hb dX4_init_5 (by decide) ?_
  refine k_newi C0 hw (by decide) (by decide) (Nat.le_of_ble_eq_true rfl) (Nat.le_of_ble_eq_true rfl) dX4_init_7 (fun L_11949 F_11950 a_11951 H_11953 g_11952 hw1 => ?_)
  have hge_a_11951 : s.heap.size ≤ a_11951 := Nat.le_trans hw.2.2.1 g_11952.2.2.2.2
  have f_11954 : F_11950 a = .inr (4, [.null, .int (nI (0))]) := (g_11952.2.2.1 a ma).1.trans fa
  have lt_11956 := (g_11952.2.2.1 a ma).2
  have m_11955 : a ∈ L_11949 := g_11952.1.1 a ma
  have hg_11957 := hg0.step g_11952.1 hw.2.2.1
  have C0 := C0.grow g_11952.1 hw.2.2.1
  have hw := hw1
  have m_11958 : a_11951 ∈ L_11949 := g_11952.2.2.2.1
  have f_11959 : F_11950 a_11951 = .inl (G.2 0, 60, .inl ((fun _ => nI 0))) := g_11952.2.1
  refine q_putF C0 hnm hw m_11955 f_11954 fw_X4_9 pw_X4_0 rfl rfl rfl rfl (Nat.le_of_ble_eq_true rfl) dX4_init_9 (fun F_11960 H locs hw f_11961 o_11962 => ?_)
  have f_11961 : F_11960 a = .inr (4, [.ref a_11951, .int (nI (0))]) := f_11961
  have hfr_11963 : ∀ q ∈ L, q ≠ a → F_11960 q = F q := by
    intro q hq hne
    have hqlt := hwS.lt hq
    exact ((o_11962 q (by omega)).trans (g_11952.2.2.1 q (hg0.1 q hq)).1)
  have f_11964 : F_11960 a_11951 = .inl (G.2 0, 60, .inl ((fun _ => nI 0))) := (o_11962 a_11951 (by omega)).trans f_11959
  exact r_vN C0 hg_11957 hr hlk hw ⟨hg_11957, a_11951, f_11961, f_11964, by omega, m_11958, hfr_11963⟩ (Nat.le_of_ble_eq_true rfl) (Nat.le_of_ble_eq_true rfl) dX4_init_12 hQ
abbrev rm_X1_init : Room := { frames := 1, cells := 14, slots := 98, locals := 40 }
theorem lt_chain {n : Nat → Nat} {m : Nat} (hs : ∀ k, k < m → n k < n (k + 1)) : ∀ i j, i < j → j ≤ m → n i < n j := by
  intro i j hij
  induction j with
  | zero => exact absurd hij (Nat.not_lt_zero i)
  | succ j ih =>
    intro hj
    have h1 := hs j (by omega)
    rcases Nat.lt_or_ge i j with h | h
    · have h2 := ih h (by omega)
      omega
    · have e : i = j := by omega
      rw [e]
      exact h1
set_option maxHeartbeats 4000000 in
set_option maxRecDepth 100000 in
theorem c_X1_init (l : Launch) (G : Gl) (L : List Nat) (F : Nat → va_E) (a : Nat) (ma : a ∈ L) (fa : F a = .inr (1, [.null, .null, .null, .null, .null, .null, .null, .null, .null, .null, .null, .null, .null, .null])) : CN l yX1_init cX1_init 1 rm_X1_init G L F [.ref a] (fun sz L1 F1 => gr L L1 sz ∧ ∃ n : Nat → Nat, F1 a = rkO n ∧ (∀ i, i < 14 → F1 (n i) = rw7 G (fun _ => zc 0)) ∧ (∀ i, i < 14 → sz ≤ n i ∧ n i ∈ L1) ∧ (∀ i j, i < 14 → j < 14 → i ≠ j → n i ≠ n j) ∧ (∀ q ∈ L, q ≠ a → F1 q = F q)) := by
  refine CN_of (by decide) (Nat.le_of_ble_eq_true rfl) rfl ?_
  intro p e s m args below meth c Q C0 hOv hr hlk hnm hQ hw ls hl
  have hx := C0.x
  have hb := C0.b
  have hwS := hw
  have hg0 := gr.rfl (L := L) s.heap.size
  have hlt0 := hw.lt ma
  refine lv_aload_n hx hb dX1_init_0 rfl (lv_at hl 0 rfl) ?_
  refine q_obj C0 hl.1 ob_X1 ob_i ob_c (by decide) (by decide) dX1_init_1 ?_
  refine lv_aload_n hx hb dX1_init_4 rfl (lv_at hl 0 rfl) ?_
  refine lv_bipush (v := nI 7) hx hb dX1_init_5 (by decide) ?_
  refine k_newi C0 hw (by decide) (by decide) (Nat.le_of_ble_eq_true rfl) (Nat.le_of_ble_eq_true rfl) dX1_init_7 (fun L_11965 F_11966 a_11967 H_11969 g_11968 hw1 => ?_)
  have hge_a_11967 : s.heap.size ≤ a_11967 := Nat.le_trans hw.2.2.1 g_11968.2.2.2.2
  have f_11970 : F_11966 a = .inr (1, [.null, .null, .null, .null, .null, .null, .null, .null, .null, .null, .null, .null, .null, .null]) := (g_11968.2.2.1 a ma).1.trans fa
  have lt_11972 := (g_11968.2.2.1 a ma).2
  have m_11971 : a ∈ L_11965 := g_11968.1.1 a ma
  have hg_11973 := hg0.step g_11968.1 hw.2.2.1
  have C0 := C0.grow g_11968.1 hw.2.2.1
  have hw := hw1
  have m_11974 : a_11967 ∈ L_11965 := g_11968.2.2.2.1
  have f_11975 : F_11966 a_11967 = .inl (G.2 0, 7, .inl ((fun _ => nI 0))) := g_11968.2.1
  refine q_putF C0 hnm hw m_11971 f_11970 fw_X1_9 pw_X1_0 rfl rfl rfl rfl (Nat.le_of_ble_eq_true rfl) dX1_init_9 (fun F_11976 H locs hw f_11977 o_11978 => ?_)
  have f_11977 : F_11976 a = .inr (1, [.ref a_11967, .null, .null, .null, .null, .null, .null, .null, .null, .null, .null, .null, .null, .null]) := f_11977
  refine lv_aload_n hx hb dX1_init_12 rfl (lv_at hl 0 rfl) ?_
  refine lv_bipush (v := nI 7) hx hb dX1_init_13 (by decide) ?_
  refine k_newi C0 hw (by decide) (by decide) (Nat.le_of_ble_eq_true rfl) (Nat.le_of_ble_eq_true rfl) dX1_init_15 (fun L_11979 F_11980 a_11981 H_11983 g_11982 hw1 => ?_)
  have hge_a_11981 : s.heap.size ≤ a_11981 := Nat.le_trans hw.2.2.1 g_11982.2.2.2.2
  have f_11984 : F_11980 a = .inr (1, [.ref a_11967, .null, .null, .null, .null, .null, .null, .null, .null, .null, .null, .null, .null, .null]) := (g_11982.2.2.1 a m_11971).1.trans f_11977
  have lt_11986 := (g_11982.2.2.1 a m_11971).2
  have m_11985 : a ∈ L_11979 := g_11982.1.1 a m_11971
  have f_11987 : F_11976 a_11967 = .inl (G.2 0, 7, .inl ((fun _ => nI 0))) := (o_11978 a_11967 (by omega)).trans f_11975
  have f_11988 : F_11980 a_11967 = .inl (G.2 0, 7, .inl ((fun _ => nI 0))) := (g_11982.2.2.1 a_11967 m_11974).1.trans f_11987
  have lt_11990 := (g_11982.2.2.1 a_11967 m_11974).2
  have m_11989 : a_11967 ∈ L_11979 := g_11982.1.1 a_11967 m_11974
  have hg_11991 := hg_11973.step g_11982.1 hw.2.2.1
  have C0 := C0.grow g_11982.1 hw.2.2.1
  have hw := hw1
  have m_11992 : a_11981 ∈ L_11979 := g_11982.2.2.2.1
  have f_11993 : F_11980 a_11981 = .inl (G.2 0, 7, .inl ((fun _ => nI 0))) := g_11982.2.1
  refine q_putF C0 hnm hw m_11985 f_11984 fw_X1_15 pw_X1_1 rfl rfl rfl rfl (Nat.le_of_ble_eq_true rfl) dX1_init_17 (fun F_11994 H locs hw f_11995 o_11996 => ?_)
  have f_11995 : F_11994 a = .inr (1, [.ref a_11967, .ref a_11981, .null, .null, .null, .null, .null, .null, .null, .null, .null, .null, .null, .null]) := f_11995
  refine lv_aload_n hx hb dX1_init_20 rfl (lv_at hl 0 rfl) ?_
  refine lv_bipush (v := nI 7) hx hb dX1_init_21 (by decide) ?_
  refine k_newi C0 hw (by decide) (by decide) (Nat.le_of_ble_eq_true rfl) (Nat.le_of_ble_eq_true rfl) dX1_init_23 (fun L_11997 F_11998 a_11999 H_12001 g_12000 hw1 => ?_)
  have hge_a_11999 : s.heap.size ≤ a_11999 := Nat.le_trans hw.2.2.1 g_12000.2.2.2.2
  have f_12002 : F_11998 a = .inr (1, [.ref a_11967, .ref a_11981, .null, .null, .null, .null, .null, .null, .null, .null, .null, .null, .null, .null]) := (g_12000.2.2.1 a m_11985).1.trans f_11995
  have lt_12004 := (g_12000.2.2.1 a m_11985).2
  have m_12003 : a ∈ L_11997 := g_12000.1.1 a m_11985
  have f_12005 : F_11994 a_11967 = .inl (G.2 0, 7, .inl ((fun _ => nI 0))) := (o_11996 a_11967 (by omega)).trans f_11988
  have f_12006 : F_11998 a_11967 = .inl (G.2 0, 7, .inl ((fun _ => nI 0))) := (g_12000.2.2.1 a_11967 m_11989).1.trans f_12005
  have lt_12008 := (g_12000.2.2.1 a_11967 m_11989).2
  have m_12007 : a_11967 ∈ L_11997 := g_12000.1.1 a_11967 m_11989
  have f_12009 : F_11994 a_11981 = .inl (G.2 0, 7, .inl ((fun _ => nI 0))) := (o_11996 a_11981 (by omega)).trans f_11993
  have f_12010 : F_11998 a_11981 = .inl (G.2 0, 7, .inl ((fun _ => nI 0))) := (g_12000.2.2.1 a_11981 m_11992).1.trans f_12009
  have lt_12012 := (g_12000.2.2.1 a_11981 m_11992).2
  have m_12011 : a_11981 ∈ L_11997 := g_12000.1.1 a_11981 m_11992
  have hg_12013 := hg_11991.step g_12000.1 hw.2.2.1
  have C0 := C0.grow g_12000.1 hw.2.2.1
  have hw := hw1
  have m_12014 : a_11999 ∈ L_11997 := g_12000.2.2.2.1
  have f_12015 : F_11998 a_11999 = .inl (G.2 0, 7, .inl ((fun _ => nI 0))) := g_12000.2.1
  refine q_putF C0 hnm hw m_12003 f_12002 fw_X1_18 pw_X1_2 rfl rfl rfl rfl (Nat.le_of_ble_eq_true rfl) dX1_init_25 (fun F_12016 H locs hw f_12017 o_12018 => ?_)
  have f_12017 : F_12016 a = .inr (1, [.ref a_11967, .ref a_11981, .ref a_11999, .null, .null, .null, .null, .null, .null, .null, .null, .null, .null, .null]) := f_12017
  refine lv_aload_n hx hb dX1_init_28 rfl (lv_at hl 0 rfl) ?_
  refine lv_bipush (v := nI 7) hx hb dX1_init_29 (by decide) ?_
  refine k_newi C0 hw (by decide) (by decide) (Nat.le_of_ble_eq_true rfl) (Nat.le_of_ble_eq_true rfl) dX1_init_31 (fun L_12019 F_12020 a_12021 H_12023 g_12022 hw1 => ?_)
  have hge_a_12021 : s.heap.size ≤ a_12021 := Nat.le_trans hw.2.2.1 g_12022.2.2.2.2
  have f_12024 : F_12020 a = .inr (1, [.ref a_11967, .ref a_11981, .ref a_11999, .null, .null, .null, .null, .null, .null, .null, .null, .null, .null, .null]) := (g_12022.2.2.1 a m_12003).1.trans f_12017
  have lt_12026 := (g_12022.2.2.1 a m_12003).2
  have m_12025 : a ∈ L_12019 := g_12022.1.1 a m_12003
  have f_12027 : F_12016 a_11967 = .inl (G.2 0, 7, .inl ((fun _ => nI 0))) := (o_12018 a_11967 (by omega)).trans f_12006
  have f_12028 : F_12020 a_11967 = .inl (G.2 0, 7, .inl ((fun _ => nI 0))) := (g_12022.2.2.1 a_11967 m_12007).1.trans f_12027
  have lt_12030 := (g_12022.2.2.1 a_11967 m_12007).2
  have m_12029 : a_11967 ∈ L_12019 := g_12022.1.1 a_11967 m_12007
  have f_12031 : F_12016 a_11981 = .inl (G.2 0, 7, .inl ((fun _ => nI 0))) := (o_12018 a_11981 (by omega)).trans f_12010
  have f_12032 : F_12020 a_11981 = .inl (G.2 0, 7, .inl ((fun _ => nI 0))) := (g_12022.2.2.1 a_11981 m_12011).1.trans f_12031
  have lt_12034 := (g_12022.2.2.1 a_11981 m_12011).2
  have m_12033 : a_11981 ∈ L_12019 := g_12022.1.1 a_11981 m_12011
  have f_12035 : F_12016 a_11999 = .inl (G.2 0, 7, .inl ((fun _ => nI 0))) := (o_12018 a_11999 (by omega)).trans f_12015
  have f_12036 : F_12020 a_11999 = .inl (G.2 0, 7, .inl ((fun _ => nI 0))) := (g_12022.2.2.1 a_11999 m_12014).1.trans f_12035
  have lt_12038 := (g_12022.2.2.1 a_11999 m_12014).2
  have m_12037 : a_11999 ∈ L_12019 := g_12022.1.1 a_11999 m_12014
  have hg_12039 := hg_12013.step g_12022.1 hw.2.2.1
  have C0 := C0.grow g_12022.1 hw.2.2.1
  have hw := hw1
  have m_12040 : a_12021 ∈ L_12019 := g_12022.2.2.2.1
  have f_12041 : F_12020 a_12021 = .inl (G.2 0, 7, .inl ((fun _ => nI 0))) := g_12022.2.1
  refine q_putF C0 hnm hw m_12025 f_12024 fw_X1_21 pw_X1_3 rfl rfl rfl rfl (Nat.le_of_ble_eq_true rfl) dX1_init_33 (fun F_12042 H locs hw f_12043 o_12044 => ?_)
  have f_12043 : F_12042 a = .inr (1, [.ref a_11967, .ref a_11981, .ref a_11999, .ref a_12021, .null, .null, .null, .null, .null, .null, .null, .null, .null, .null]) := f_12043
  refine lv_aload_n hx hb dX1_init_36 rfl (lv_at hl 0 rfl) ?_
  refine lv_bipush (v := nI 7) hx hb dX1_init_37 (by decide) ?_
  refine k_newi C0 hw (by decide) (by decide) (Nat.le_of_ble_eq_true rfl) (Nat.le_of_ble_eq_true rfl) dX1_init_39 (fun L_12045 F_12046 a_12047 H_12049 g_12048 hw1 => ?_)
  have hge_a_12047 : s.heap.size ≤ a_12047 := Nat.le_trans hw.2.2.1 g_12048.2.2.2.2
  have f_12050 : F_12046 a = .inr (1, [.ref a_11967, .ref a_11981, .ref a_11999, .ref a_12021, .null, .null, .null, .null, .null, .null, .null, .null, .null, .null]) := (g_12048.2.2.1 a m_12025).1.trans f_12043
  have lt_12052 := (g_12048.2.2.1 a m_12025).2
  have m_12051 : a ∈ L_12045 := g_12048.1.1 a m_12025
  have f_12053 : F_12042 a_11967 = .inl (G.2 0, 7, .inl ((fun _ => nI 0))) := (o_12044 a_11967 (by omega)).trans f_12028
  have f_12054 : F_12046 a_11967 = .inl (G.2 0, 7, .inl ((fun _ => nI 0))) := (g_12048.2.2.1 a_11967 m_12029).1.trans f_12053
  have lt_12056 := (g_12048.2.2.1 a_11967 m_12029).2
  have m_12055 : a_11967 ∈ L_12045 := g_12048.1.1 a_11967 m_12029
  have f_12057 : F_12042 a_11981 = .inl (G.2 0, 7, .inl ((fun _ => nI 0))) := (o_12044 a_11981 (by omega)).trans f_12032
  have f_12058 : F_12046 a_11981 = .inl (G.2 0, 7, .inl ((fun _ => nI 0))) := (g_12048.2.2.1 a_11981 m_12033).1.trans f_12057
  have lt_12060 := (g_12048.2.2.1 a_11981 m_12033).2
  have m_12059 : a_11981 ∈ L_12045 := g_12048.1.1 a_11981 m_12033
  have f_12061 : F_12042 a_11999 = .inl (G.2 0, 7, .inl ((fun _ => nI 0))) := (o_12044 a_11999 (by omega)).trans f_12036
  have f_12062 : F_12046 a_11999 = .inl (G.2 0, 7, .inl ((fun _ => nI 0))) := (g_12048.2.2.1 a_11999 m_12037).1.trans f_12061
  have lt_12064 := (g_12048.2.2.1 a_11999 m_12037).2
  have m_12063 : a_11999 ∈ L_12045 := g_12048.1.1 a_11999 m_12037
  have f_12065 : F_12042 a_12021 = .inl (G.2 0, 7, .inl ((fun _ => nI 0))) := (o_12044 a_12021 (by omega)).trans f_12041
  have f_12066 : F_12046 a_12021 = .inl (G.2 0, 7, .inl ((fun _ => nI 0))) := (g_12048.2.2.1 a_12021 m_12040).1.trans f_12065
  have lt_12068 := (g_12048.2.2.1 a_12021 m_12040).2
  have m_12067 : a_12021 ∈ L_12045 := g_12048.1.1 a_12021 m_12040
  have hg_12069 := hg_12039.step g_12048.1 hw.2.2.1
  have C0 := C0.grow g_12048.1 hw.2.2.1
  have hw := hw1
  have m_12070 : a_12047 ∈ L_12045 := g_12048.2.2.2.1
  have f_12071 : F_12046 a_12047 = .inl (G.2 0, 7, .inl ((fun _ => nI 0))) := g_12048.2.1
  refine q_putF C0 hnm hw m_12051 f_12050 fw_X1_24 pw_X1_4 rfl rfl rfl rfl (Nat.le_of_ble_eq_true rfl) dX1_init_41 (fun F_12072 H locs hw f_12073 o_12074 => ?_)
  have f_12073 : F_12072 a = .inr (1, [.ref a_11967, .ref a_11981, .ref a_11999, .ref a_12021, .ref a_12047, .null, .null, .null, .null, .null, .null, .null, .null, .null]) := f_12073
  refine lv_aload_n hx hb dX1_init_44 rfl (lv_at hl 0 rfl) ?_
  refine lv_bipush (v := nI 7) hx hb dX1_init_45 (by decide) ?_
  refine k_newi C0 hw (by decide) (by decide) (Nat.le_of_ble_eq_true rfl) (Nat.le_of_ble_eq_true rfl) dX1_init_47 (fun L_12075 F_12076 a_12077 H_12079 g_12078 hw1 => ?_)
  have hge_a_12077 : s.heap.size ≤ a_12077 := Nat.le_trans hw.2.2.1 g_12078.2.2.2.2
  have f_12080 : F_12076 a = .inr (1, [.ref a_11967, .ref a_11981, .ref a_11999, .ref a_12021, .ref a_12047, .null, .null, .null, .null, .null, .null, .null, .null, .null]) := (g_12078.2.2.1 a m_12051).1.trans f_12073
  have lt_12082 := (g_12078.2.2.1 a m_12051).2
  have m_12081 : a ∈ L_12075 := g_12078.1.1 a m_12051
  have f_12083 : F_12072 a_11967 = .inl (G.2 0, 7, .inl ((fun _ => nI 0))) := (o_12074 a_11967 (by omega)).trans f_12054
  have f_12084 : F_12076 a_11967 = .inl (G.2 0, 7, .inl ((fun _ => nI 0))) := (g_12078.2.2.1 a_11967 m_12055).1.trans f_12083
  have lt_12086 := (g_12078.2.2.1 a_11967 m_12055).2
  have m_12085 : a_11967 ∈ L_12075 := g_12078.1.1 a_11967 m_12055
  have f_12087 : F_12072 a_11981 = .inl (G.2 0, 7, .inl ((fun _ => nI 0))) := (o_12074 a_11981 (by omega)).trans f_12058
  have f_12088 : F_12076 a_11981 = .inl (G.2 0, 7, .inl ((fun _ => nI 0))) := (g_12078.2.2.1 a_11981 m_12059).1.trans f_12087
  have lt_12090 := (g_12078.2.2.1 a_11981 m_12059).2
  have m_12089 : a_11981 ∈ L_12075 := g_12078.1.1 a_11981 m_12059
  have f_12091 : F_12072 a_11999 = .inl (G.2 0, 7, .inl ((fun _ => nI 0))) := (o_12074 a_11999 (by omega)).trans f_12062
  have f_12092 : F_12076 a_11999 = .inl (G.2 0, 7, .inl ((fun _ => nI 0))) := (g_12078.2.2.1 a_11999 m_12063).1.trans f_12091
  have lt_12094 := (g_12078.2.2.1 a_11999 m_12063).2
  have m_12093 : a_11999 ∈ L_12075 := g_12078.1.1 a_11999 m_12063
  have f_12095 : F_12072 a_12021 = .inl (G.2 0, 7, .inl ((fun _ => nI 0))) := (o_12074 a_12021 (by omega)).trans f_12066
  have f_12096 : F_12076 a_12021 = .inl (G.2 0, 7, .inl ((fun _ => nI 0))) := (g_12078.2.2.1 a_12021 m_12067).1.trans f_12095
  have lt_12098 := (g_12078.2.2.1 a_12021 m_12067).2
  have m_12097 : a_12021 ∈ L_12075 := g_12078.1.1 a_12021 m_12067
  have f_12099 : F_12072 a_12047 = .inl (G.2 0, 7, .inl ((fun _ => nI 0))) := (o_12074 a_12047 (by omega)).trans f_12071
  have f_12100 : F_12076 a_12047 = .inl (G.2 0, 7, .inl ((fun _ => nI 0))) := (g_12078.2.2.1 a_12047 m_12070).1.trans f_12099
  have lt_12102 := (g_12078.2.2.1 a_12047 m_12070).2
  have m_12101 : a_12047 ∈ L_12075 := g_12078.1.1 a_12047 m_12070
  have hg_12103 := hg_12069.step g_12078.1 hw.2.2.1
  have C0 := C0.grow g_12078.1 hw.2.2.1
  have hw := hw1
  have m_12104 : a_12077 ∈ L_12075 := g_12078.2.2.2.1
  have f_12105 : F_12076 a_12077 = .inl (G.2 0, 7, .inl ((fun _ => nI 0))) := g_12078.2.1
  refine q_putF C0 hnm hw m_12081 f_12080 fw_X1_27 pw_X1_5 rfl rfl rfl rfl (Nat.le_of_ble_eq_true rfl) dX1_init_49 (fun F_12106 H locs hw f_12107 o_12108 => ?_)
  have f_12107 : F_12106 a = .inr (1, [.ref a_11967, .ref a_11981, .ref a_11999, .ref a_12021, .ref a_12047, .ref a_12077, .null, .null, .null, .null, .null, .null, .null, .null]) := f_12107
  refine lv_aload_n hx hb dX1_init_52 rfl (lv_at hl 0 rfl) ?_
  refine lv_bipush (v := nI 7) hx hb dX1_init_53 (by decide) ?_
  refine k_newi C0 hw (by decide) (by decide) (Nat.le_of_ble_eq_true rfl) (Nat.le_of_ble_eq_true rfl) dX1_init_55 (fun L_12109 F_12110 a_12111 H_12113 g_12112 hw1 => ?_)
  have hge_a_12111 : s.heap.size ≤ a_12111 := Nat.le_trans hw.2.2.1 g_12112.2.2.2.2
  have f_12114 : F_12110 a = .inr (1, [.ref a_11967, .ref a_11981, .ref a_11999, .ref a_12021, .ref a_12047, .ref a_12077, .null, .null, .null, .null, .null, .null, .null, .null]) := (g_12112.2.2.1 a m_12081).1.trans f_12107
  have lt_12116 := (g_12112.2.2.1 a m_12081).2
  have m_12115 : a ∈ L_12109 := g_12112.1.1 a m_12081
  have f_12117 : F_12106 a_11967 = .inl (G.2 0, 7, .inl ((fun _ => nI 0))) := (o_12108 a_11967 (by omega)).trans f_12084
  have f_12118 : F_12110 a_11967 = .inl (G.2 0, 7, .inl ((fun _ => nI 0))) := (g_12112.2.2.1 a_11967 m_12085).1.trans f_12117
  have lt_12120 := (g_12112.2.2.1 a_11967 m_12085).2
  have m_12119 : a_11967 ∈ L_12109 := g_12112.1.1 a_11967 m_12085
  have f_12121 : F_12106 a_11981 = .inl (G.2 0, 7, .inl ((fun _ => nI 0))) := (o_12108 a_11981 (by omega)).trans f_12088
  have f_12122 : F_12110 a_11981 = .inl (G.2 0, 7, .inl ((fun _ => nI 0))) := (g_12112.2.2.1 a_11981 m_12089).1.trans f_12121
  have lt_12124 := (g_12112.2.2.1 a_11981 m_12089).2
  have m_12123 : a_11981 ∈ L_12109 := g_12112.1.1 a_11981 m_12089
  have f_12125 : F_12106 a_11999 = .inl (G.2 0, 7, .inl ((fun _ => nI 0))) := (o_12108 a_11999 (by omega)).trans f_12092
  have f_12126 : F_12110 a_11999 = .inl (G.2 0, 7, .inl ((fun _ => nI 0))) := (g_12112.2.2.1 a_11999 m_12093).1.trans f_12125
  have lt_12128 := (g_12112.2.2.1 a_11999 m_12093).2
  have m_12127 : a_11999 ∈ L_12109 := g_12112.1.1 a_11999 m_12093
  have f_12129 : F_12106 a_12021 = .inl (G.2 0, 7, .inl ((fun _ => nI 0))) := (o_12108 a_12021 (by omega)).trans f_12096
  have f_12130 : F_12110 a_12021 = .inl (G.2 0, 7, .inl ((fun _ => nI 0))) := (g_12112.2.2.1 a_12021 m_12097).1.trans f_12129
  have lt_12132 := (g_12112.2.2.1 a_12021 m_12097).2
  have m_12131 : a_12021 ∈ L_12109 := g_12112.1.1 a_12021 m_12097
  have f_12133 : F_12106 a_12047 = .inl (G.2 0, 7, .inl ((fun _ => nI 0))) := (o_12108 a_12047 (by omega)).trans f_12100
  have f_12134 : F_12110 a_12047 = .inl (G.2 0, 7, .inl ((fun _ => nI 0))) := (g_12112.2.2.1 a_12047 m_12101).1.trans f_12133
  have lt_12136 := (g_12112.2.2.1 a_12047 m_12101).2
  have m_12135 : a_12047 ∈ L_12109 := g_12112.1.1 a_12047 m_12101
  have f_12137 : F_12106 a_12077 = .inl (G.2 0, 7, .inl ((fun _ => nI 0))) := (o_12108 a_12077 (by omega)).trans f_12105
  have f_12138 : F_12110 a_12077 = .inl (G.2 0, 7, .inl ((fun _ => nI 0))) := (g_12112.2.2.1 a_12077 m_12104).1.trans f_12137
  have lt_12140 := (g_12112.2.2.1 a_12077 m_12104).2
  have m_12139 : a_12077 ∈ L_12109 := g_12112.1.1 a_12077 m_12104
  have hg_12141 := hg_12103.step g_12112.1 hw.2.2.1
  have C0 := C0.grow g_12112.1 hw.2.2.1
  have hw := hw1
  have m_12142 : a_12111 ∈ L_12109 := g_12112.2.2.2.1
  have f_12143 : F_12110 a_12111 = .inl (G.2 0, 7, .inl ((fun _ => nI 0))) := g_12112.2.1
  refine q_putF C0 hnm hw m_12115 f_12114 fw_X1_30 pw_X1_6 rfl rfl rfl rfl (Nat.le_of_ble_eq_true rfl) dX1_init_57 (fun F_12144 H locs hw f_12145 o_12146 => ?_)
  have f_12145 : F_12144 a = .inr (1, [.ref a_11967, .ref a_11981, .ref a_11999, .ref a_12021, .ref a_12047, .ref a_12077, .ref a_12111, .null, .null, .null, .null, .null, .null, .null]) := f_12145
  refine lv_aload_n hx hb dX1_init_60 rfl (lv_at hl 0 rfl) ?_
  refine lv_bipush (v := nI 7) hx hb dX1_init_61 (by decide) ?_
  refine k_newi C0 hw (by decide) (by decide) (Nat.le_of_ble_eq_true rfl) (Nat.le_of_ble_eq_true rfl) dX1_init_63 (fun L_12147 F_12148 a_12149 H_12151 g_12150 hw1 => ?_)
  have hge_a_12149 : s.heap.size ≤ a_12149 := Nat.le_trans hw.2.2.1 g_12150.2.2.2.2
  have f_12152 : F_12148 a = .inr (1, [.ref a_11967, .ref a_11981, .ref a_11999, .ref a_12021, .ref a_12047, .ref a_12077, .ref a_12111, .null, .null, .null, .null, .null, .null, .null]) := (g_12150.2.2.1 a m_12115).1.trans f_12145
  have lt_12154 := (g_12150.2.2.1 a m_12115).2
  have m_12153 : a ∈ L_12147 := g_12150.1.1 a m_12115
  have f_12155 : F_12144 a_11967 = .inl (G.2 0, 7, .inl ((fun _ => nI 0))) := (o_12146 a_11967 (by omega)).trans f_12118
  have f_12156 : F_12148 a_11967 = .inl (G.2 0, 7, .inl ((fun _ => nI 0))) := (g_12150.2.2.1 a_11967 m_12119).1.trans f_12155
  have lt_12158 := (g_12150.2.2.1 a_11967 m_12119).2
  have m_12157 : a_11967 ∈ L_12147 := g_12150.1.1 a_11967 m_12119
  have f_12159 : F_12144 a_11981 = .inl (G.2 0, 7, .inl ((fun _ => nI 0))) := (o_12146 a_11981 (by omega)).trans f_12122
  have f_12160 : F_12148 a_11981 = .inl (G.2 0, 7, .inl ((fun _ => nI 0))) := (g_12150.2.2.1 a_11981 m_12123).1.trans f_12159
  have lt_12162 := (g_12150.2.2.1 a_11981 m_12123).2
  have m_12161 : a_11981 ∈ L_12147 := g_12150.1.1 a_11981 m_12123
  have f_12163 : F_12144 a_11999 = .inl (G.2 0, 7, .inl ((fun _ => nI 0))) := (o_12146 a_11999 (by omega)).trans f_12126
  have f_12164 : F_12148 a_11999 = .inl (G.2 0, 7, .inl ((fun _ => nI 0))) := (g_12150.2.2.1 a_11999 m_12127).1.trans f_12163
  have lt_12166 := (g_12150.2.2.1 a_11999 m_12127).2
  have m_12165 : a_11999 ∈ L_12147 := g_12150.1.1 a_11999 m_12127
  have f_12167 : F_12144 a_12021 = .inl (G.2 0, 7, .inl ((fun _ => nI 0))) := (o_12146 a_12021 (by omega)).trans f_12130
  have f_12168 : F_12148 a_12021 = .inl (G.2 0, 7, .inl ((fun _ => nI 0))) := (g_12150.2.2.1 a_12021 m_12131).1.trans f_12167
  have lt_12170 := (g_12150.2.2.1 a_12021 m_12131).2
  have m_12169 : a_12021 ∈ L_12147 := g_12150.1.1 a_12021 m_12131
  have f_12171 : F_12144 a_12047 = .inl (G.2 0, 7, .inl ((fun _ => nI 0))) := (o_12146 a_12047 (by omega)).trans f_12134
  have f_12172 : F_12148 a_12047 = .inl (G.2 0, 7, .inl ((fun _ => nI 0))) := (g_12150.2.2.1 a_12047 m_12135).1.trans f_12171
  have lt_12174 := (g_12150.2.2.1 a_12047 m_12135).2
  have m_12173 : a_12047 ∈ L_12147 := g_12150.1.1 a_12047 m_12135
  have f_12175 : F_12144 a_12077 = .inl (G.2 0, 7, .inl ((fun _ => nI 0))) := (o_12146 a_12077 (by omega)).trans f_12138
  have f_12176 : F_12148 a_12077 = .inl (G.2 0, 7, .inl ((fun _ => nI 0))) := (g_12150.2.2.1 a_12077 m_12139).1.trans f_12175
  have lt_12178 := (g_12150.2.2.1 a_12077 m_12139).2
  have m_12177 : a_12077 ∈ L_12147 := g_12150.1.1 a_12077 m_12139
  have f_12179 : F_12144 a_12111 = .inl (G.2 0, 7, .inl ((fun _ => nI 0))) := (o_12146 a_12111 (by omega)).trans f_12143
  have f_12180 : F_12148 a_12111 = .inl (G.2 0, 7, .inl ((fun _ => nI 0))) := (g_12150.2.2.1 a_12111 m_12142).1.trans f_12179
  have lt_12182 := (g_12150.2.2.1 a_12111 m_12142).2
  have m_12181 : a_12111 ∈ L_12147 := g_12150.1.1 a_12111 m_12142
  have hg_12183 := hg_12141.step g_12150.1 hw.2.2.1
  have C0 := C0.grow g_12150.1 hw.2.2.1
  have hw := hw1
  have m_12184 : a_12149 ∈ L_12147 := g_12150.2.2.2.1
  have f_12185 : F_12148 a_12149 = .inl (G.2 0, 7, .inl ((fun _ => nI 0))) := g_12150.2.1
  refine q_putF C0 hnm hw m_12153 f_12152 fw_X1_33 pw_X1_7 rfl rfl rfl rfl (Nat.le_of_ble_eq_true rfl) dX1_init_65 (fun F_12186 H locs hw f_12187 o_12188 => ?_)
  have f_12187 : F_12186 a = .inr (1, [.ref a_11967, .ref a_11981, .ref a_11999, .ref a_12021, .ref a_12047, .ref a_12077, .ref a_12111, .ref a_12149, .null, .null, .null, .null, .null, .null]) := f_12187
  refine lv_aload_n hx hb dX1_init_68 rfl (lv_at hl 0 rfl) ?_
  refine lv_bipush (v := nI 7) hx hb dX1_init_69 (by decide) ?_
  refine k_newi C0 hw (by decide) (by decide) (Nat.le_of_ble_eq_true rfl) (Nat.le_of_ble_eq_true rfl) dX1_init_71 (fun L_12189 F_12190 a_12191 H_12193 g_12192 hw1 => ?_)
  have hge_a_12191 : s.heap.size ≤ a_12191 := Nat.le_trans hw.2.2.1 g_12192.2.2.2.2
  have f_12194 : F_12190 a = .inr (1, [.ref a_11967, .ref a_11981, .ref a_11999, .ref a_12021, .ref a_12047, .ref a_12077, .ref a_12111, .ref a_12149, .null, .null, .null, .null, .null, .null]) := (g_12192.2.2.1 a m_12153).1.trans f_12187
  have lt_12196 := (g_12192.2.2.1 a m_12153).2
  have m_12195 : a ∈ L_12189 := g_12192.1.1 a m_12153
  have f_12197 : F_12186 a_11967 = .inl (G.2 0, 7, .inl ((fun _ => nI 0))) := (o_12188 a_11967 (by omega)).trans f_12156
  have f_12198 : F_12190 a_11967 = .inl (G.2 0, 7, .inl ((fun _ => nI 0))) := (g_12192.2.2.1 a_11967 m_12157).1.trans f_12197
  have lt_12200 := (g_12192.2.2.1 a_11967 m_12157).2
  have m_12199 : a_11967 ∈ L_12189 := g_12192.1.1 a_11967 m_12157
  have f_12201 : F_12186 a_11981 = .inl (G.2 0, 7, .inl ((fun _ => nI 0))) := (o_12188 a_11981 (by omega)).trans f_12160
  have f_12202 : F_12190 a_11981 = .inl (G.2 0, 7, .inl ((fun _ => nI 0))) := (g_12192.2.2.1 a_11981 m_12161).1.trans f_12201
  have lt_12204 := (g_12192.2.2.1 a_11981 m_12161).2
  have m_12203 : a_11981 ∈ L_12189 := g_12192.1.1 a_11981 m_12161
  have f_12205 : F_12186 a_11999 = .inl (G.2 0, 7, .inl ((fun _ => nI 0))) := (o_12188 a_11999 (by omega)).trans f_12164
  have f_12206 : F_12190 a_11999 = .inl (G.2 0, 7, .inl ((fun _ => nI 0))) := (g_12192.2.2.1 a_11999 m_12165).1.trans f_12205
  have lt_12208 := (g_12192.2.2.1 a_11999 m_12165).2
  have m_12207 : a_11999 ∈ L_12189 := g_12192.1.1 a_11999 m_12165
  have f_12209 : F_12186 a_12021 = .inl (G.2 0, 7, .inl ((fun _ => nI 0))) := (o_12188 a_12021 (by omega)).trans f_12168
  have f_12210 : F_12190 a_12021 = .inl (G.2 0, 7, .inl ((fun _ => nI 0))) := (g_12192.2.2.1 a_12021 m_12169).1.trans f_12209
  have lt_12212 := (g_12192.2.2.1 a_12021 m_12169).2
  have m_12211 : a_12021 ∈ L_12189 := g_12192.1.1 a_12021 m_12169
  have f_12213 : F_12186 a_12047 = .inl (G.2 0, 7, .inl ((fun _ => nI 0))) := (o_12188 a_12047 (by omega)).trans f_12172
  have f_12214 : F_12190 a_12047 = .inl (G.2 0, 7, .inl ((fun _ => nI 0))) := (g_12192.2.2.1 a_12047 m_12173).1.trans f_12213
  have lt_12216 := (g_12192.2.2.1 a_12047 m_12173).2
  have m_12215 : a_12047 ∈ L_12189 := g_12192.1.1 a_12047 m_12173
  have f_12217 : F_12186 a_12077 = .inl (G.2 0, 7, .inl ((fun _ => nI 0))) := (o_12188 a_12077 (by omega)).trans f_12176
  have f_12218 : F_12190 a_12077 = .inl (G.2 0, 7, .inl ((fun _ => nI 0))) := (g_12192.2.2.1 a_12077 m_12177).1.trans f_12217
  have lt_12220 := (g_12192.2.2.1 a_12077 m_12177).2
  have m_12219 : a_12077 ∈ L_12189 := g_12192.1.1 a_12077 m_12177
  have f_12221 : F_12186 a_12111 = .inl (G.2 0, 7, .inl ((fun _ => nI 0))) := (o_12188 a_12111 (by omega)).trans f_12180
  have f_12222 : F_12190 a_12111 = .inl (G.2 0, 7, .inl ((fun _ => nI 0))) := (g_12192.2.2.1 a_12111 m_12181).1.trans f_12221
  have lt_12224 := (g_12192.2.2.1 a_12111 m_12181).2
  have m_12223 : a_12111 ∈ L_12189 := g_12192.1.1 a_12111 m_12181
  have f_12225 : F_12186 a_12149 = .inl (G.2 0, 7, .inl ((fun _ => nI 0))) := (o_12188 a_12149 (by omega)).trans f_12185
  have f_12226 : F_12190 a_12149 = .inl (G.2 0, 7, .inl ((fun _ => nI 0))) := (g_12192.2.2.1 a_12149 m_12184).1.trans f_12225
  have lt_12228 := (g_12192.2.2.1 a_12149 m_12184).2
  have m_12227 : a_12149 ∈ L_12189 := g_12192.1.1 a_12149 m_12184
  have hg_12229 := hg_12183.step g_12192.1 hw.2.2.1
  have C0 := C0.grow g_12192.1 hw.2.2.1
  have hw := hw1
  have m_12230 : a_12191 ∈ L_12189 := g_12192.2.2.2.1
  have f_12231 : F_12190 a_12191 = .inl (G.2 0, 7, .inl ((fun _ => nI 0))) := g_12192.2.1
  refine q_putF C0 hnm hw m_12195 f_12194 fw_X1_36 pw_X1_8 rfl rfl rfl rfl (Nat.le_of_ble_eq_true rfl) dX1_init_73 (fun F_12232 H locs hw f_12233 o_12234 => ?_)
  have f_12233 : F_12232 a = .inr (1, [.ref a_11967, .ref a_11981, .ref a_11999, .ref a_12021, .ref a_12047, .ref a_12077, .ref a_12111, .ref a_12149, .ref a_12191, .null, .null, .null, .null, .null]) := f_12233
  refine lv_aload_n hx hb dX1_init_76 rfl (lv_at hl 0 rfl) ?_
  refine lv_bipush (v := nI 7) hx hb dX1_init_77 (by decide) ?_
  refine k_newi C0 hw (by decide) (by decide) (Nat.le_of_ble_eq_true rfl) (Nat.le_of_ble_eq_true rfl) dX1_init_79 (fun L_12235 F_12236 a_12237 H_12239 g_12238 hw1 => ?_)
  have hge_a_12237 : s.heap.size ≤ a_12237 := Nat.le_trans hw.2.2.1 g_12238.2.2.2.2
  have f_12240 : F_12236 a = .inr (1, [.ref a_11967, .ref a_11981, .ref a_11999, .ref a_12021, .ref a_12047, .ref a_12077, .ref a_12111, .ref a_12149, .ref a_12191, .null, .null, .null, .null, .null]) := (g_12238.2.2.1 a m_12195).1.trans f_12233
  have lt_12242 := (g_12238.2.2.1 a m_12195).2
  have m_12241 : a ∈ L_12235 := g_12238.1.1 a m_12195
  have f_12243 : F_12232 a_11967 = .inl (G.2 0, 7, .inl ((fun _ => nI 0))) := (o_12234 a_11967 (by omega)).trans f_12198
  have f_12244 : F_12236 a_11967 = .inl (G.2 0, 7, .inl ((fun _ => nI 0))) := (g_12238.2.2.1 a_11967 m_12199).1.trans f_12243
  have lt_12246 := (g_12238.2.2.1 a_11967 m_12199).2
  have m_12245 : a_11967 ∈ L_12235 := g_12238.1.1 a_11967 m_12199
  have f_12247 : F_12232 a_11981 = .inl (G.2 0, 7, .inl ((fun _ => nI 0))) := (o_12234 a_11981 (by omega)).trans f_12202
  have f_12248 : F_12236 a_11981 = .inl (G.2 0, 7, .inl ((fun _ => nI 0))) := (g_12238.2.2.1 a_11981 m_12203).1.trans f_12247
  have lt_12250 := (g_12238.2.2.1 a_11981 m_12203).2
  have m_12249 : a_11981 ∈ L_12235 := g_12238.1.1 a_11981 m_12203
  have f_12251 : F_12232 a_11999 = .inl (G.2 0, 7, .inl ((fun _ => nI 0))) := (o_12234 a_11999 (by omega)).trans f_12206
  have f_12252 : F_12236 a_11999 = .inl (G.2 0, 7, .inl ((fun _ => nI 0))) := (g_12238.2.2.1 a_11999 m_12207).1.trans f_12251
  have lt_12254 := (g_12238.2.2.1 a_11999 m_12207).2
  have m_12253 : a_11999 ∈ L_12235 := g_12238.1.1 a_11999 m_12207
  have f_12255 : F_12232 a_12021 = .inl (G.2 0, 7, .inl ((fun _ => nI 0))) := (o_12234 a_12021 (by omega)).trans f_12210
  have f_12256 : F_12236 a_12021 = .inl (G.2 0, 7, .inl ((fun _ => nI 0))) := (g_12238.2.2.1 a_12021 m_12211).1.trans f_12255
  have lt_12258 := (g_12238.2.2.1 a_12021 m_12211).2
  have m_12257 : a_12021 ∈ L_12235 := g_12238.1.1 a_12021 m_12211
  have f_12259 : F_12232 a_12047 = .inl (G.2 0, 7, .inl ((fun _ => nI 0))) := (o_12234 a_12047 (by omega)).trans f_12214
  have f_12260 : F_12236 a_12047 = .inl (G.2 0, 7, .inl ((fun _ => nI 0))) := (g_12238.2.2.1 a_12047 m_12215).1.trans f_12259
  have lt_12262 := (g_12238.2.2.1 a_12047 m_12215).2
  have m_12261 : a_12047 ∈ L_12235 := g_12238.1.1 a_12047 m_12215
  have f_12263 : F_12232 a_12077 = .inl (G.2 0, 7, .inl ((fun _ => nI 0))) := (o_12234 a_12077 (by omega)).trans f_12218
  have f_12264 : F_12236 a_12077 = .inl (G.2 0, 7, .inl ((fun _ => nI 0))) := (g_12238.2.2.1 a_12077 m_12219).1.trans f_12263
  have lt_12266 := (g_12238.2.2.1 a_12077 m_12219).2
  have m_12265 : a_12077 ∈ L_12235 := g_12238.1.1 a_12077 m_12219
  have f_12267 : F_12232 a_12111 = .inl (G.2 0, 7, .inl ((fun _ => nI 0))) := (o_12234 a_12111 (by omega)).trans f_12222
  have f_12268 : F_12236 a_12111 = .inl (G.2 0, 7, .inl ((fun _ => nI 0))) := (g_12238.2.2.1 a_12111 m_12223).1.trans f_12267
  have lt_12270 := (g_12238.2.2.1 a_12111 m_12223).2
  have m_12269 : a_12111 ∈ L_12235 := g_12238.1.1 a_12111 m_12223
  have f_12271 : F_12232 a_12149 = .inl (G.2 0, 7, .inl ((fun _ => nI 0))) := (o_12234 a_12149 (by omega)).trans f_12226
  have f_12272 : F_12236 a_12149 = .inl (G.2 0, 7, .inl ((fun _ => nI 0))) := (g_12238.2.2.1 a_12149 m_12227).1.trans f_12271
  have lt_12274 := (g_12238.2.2.1 a_12149 m_12227).2
  have m_12273 : a_12149 ∈ L_12235 := g_12238.1.1 a_12149 m_12227
  have f_12275 : F_12232 a_12191 = .inl (G.2 0, 7, .inl ((fun _ => nI 0))) := (o_12234 a_12191 (by omega)).trans f_12231
  have f_12276 : F_12236 a_12191 = .inl (G.2 0, 7, .inl ((fun _ => nI 0))) := (g_12238.2.2.1 a_12191 m_12230).1.trans f_12275
  have lt_12278 := (g_12238.2.2.1 a_12191 m_12230).2
  have m_12277 : a_12191 ∈ L_12235 := g_12238.1.1 a_12191 m_12230
  have hg_12279 := hg_12229.step g_12238.1 hw.2.2.1
  have C0 := C0.grow g_12238.1 hw.2.2.1
  have hw := hw1
  have m_12280 : a_12237 ∈ L_12235 := g_12238.2.2.2.1
  have f_12281 : F_12236 a_12237 = .inl (G.2 0, 7, .inl ((fun _ => nI 0))) := g_12238.2.1
  refine q_putF C0 hnm hw m_12241 f_12240 fw_X1_39 pw_X1_9 rfl rfl rfl rfl (Nat.le_of_ble_eq_true rfl) dX1_init_81 (fun F_12282 H locs hw f_12283 o_12284 => ?_)
  have f_12283 : F_12282 a = .inr (1, [.ref a_11967, .ref a_11981, .ref a_11999, .ref a_12021, .ref a_12047, .ref a_12077, .ref a_12111, .ref a_12149, .ref a_12191, .ref a_12237, .null, .null, .null, .null]) := f_12283
  refine lv_aload_n hx hb dX1_init_84 rfl (lv_at hl 0 rfl) ?_
  refine lv_bipush (v := nI 7) hx hb dX1_init_85 (by decide) ?_
  refine k_newi C0 hw (by decide) (by decide) (Nat.le_of_ble_eq_true rfl) (Nat.le_of_ble_eq_true rfl) dX1_init_87 (fun L_12285 F_12286 a_12287 H_12289 g_12288 hw1 => ?_)
  have hge_a_12287 : s.heap.size ≤ a_12287 := Nat.le_trans hw.2.2.1 g_12288.2.2.2.2
  have f_12290 : F_12286 a = .inr (1, [.ref a_11967, .ref a_11981, .ref a_11999, .ref a_12021, .ref a_12047, .ref a_12077, .ref a_12111, .ref a_12149, .ref a_12191, .ref a_12237, .null, .null, .null, .null]) := (g_12288.2.2.1 a m_12241).1.trans f_12283
  have lt_12292 := (g_12288.2.2.1 a m_12241).2
  have m_12291 : a ∈ L_12285 := g_12288.1.1 a m_12241
  have f_12293 : F_12282 a_11967 = .inl (G.2 0, 7, .inl ((fun _ => nI 0))) := (o_12284 a_11967 (by omega)).trans f_12244
  have f_12294 : F_12286 a_11967 = .inl (G.2 0, 7, .inl ((fun _ => nI 0))) := (g_12288.2.2.1 a_11967 m_12245).1.trans f_12293
  have lt_12296 := (g_12288.2.2.1 a_11967 m_12245).2
  have m_12295 : a_11967 ∈ L_12285 := g_12288.1.1 a_11967 m_12245
  have f_12297 : F_12282 a_11981 = .inl (G.2 0, 7, .inl ((fun _ => nI 0))) := (o_12284 a_11981 (by omega)).trans f_12248
  have f_12298 : F_12286 a_11981 = .inl (G.2 0, 7, .inl ((fun _ => nI 0))) := (g_12288.2.2.1 a_11981 m_12249).1.trans f_12297
  have lt_12300 := (g_12288.2.2.1 a_11981 m_12249).2
  have m_12299 : a_11981 ∈ L_12285 := g_12288.1.1 a_11981 m_12249
  have f_12301 : F_12282 a_11999 = .inl (G.2 0, 7, .inl ((fun _ => nI 0))) := (o_12284 a_11999 (by omega)).trans f_12252
  have f_12302 : F_12286 a_11999 = .inl (G.2 0, 7, .inl ((fun _ => nI 0))) := (g_12288.2.2.1 a_11999 m_12253).1.trans f_12301
  have lt_12304 := (g_12288.2.2.1 a_11999 m_12253).2
  have m_12303 : a_11999 ∈ L_12285 := g_12288.1.1 a_11999 m_12253
  have f_12305 : F_12282 a_12021 = .inl (G.2 0, 7, .inl ((fun _ => nI 0))) := (o_12284 a_12021 (by omega)).trans f_12256
  have f_12306 : F_12286 a_12021 = .inl (G.2 0, 7, .inl ((fun _ => nI 0))) := (g_12288.2.2.1 a_12021 m_12257).1.trans f_12305
  have lt_12308 := (g_12288.2.2.1 a_12021 m_12257).2
  have m_12307 : a_12021 ∈ L_12285 := g_12288.1.1 a_12021 m_12257
  have f_12309 : F_12282 a_12047 = .inl (G.2 0, 7, .inl ((fun _ => nI 0))) := (o_12284 a_12047 (by omega)).trans f_12260
  have f_12310 : F_12286 a_12047 = .inl (G.2 0, 7, .inl ((fun _ => nI 0))) := (g_12288.2.2.1 a_12047 m_12261).1.trans f_12309
  have lt_12312 := (g_12288.2.2.1 a_12047 m_12261).2
  have m_12311 : a_12047 ∈ L_12285 := g_12288.1.1 a_12047 m_12261
  have f_12313 : F_12282 a_12077 = .inl (G.2 0, 7, .inl ((fun _ => nI 0))) := (o_12284 a_12077 (by omega)).trans f_12264
  have f_12314 : F_12286 a_12077 = .inl (G.2 0, 7, .inl ((fun _ => nI 0))) := (g_12288.2.2.1 a_12077 m_12265).1.trans f_12313
  have lt_12316 := (g_12288.2.2.1 a_12077 m_12265).2
  have m_12315 : a_12077 ∈ L_12285 := g_12288.1.1 a_12077 m_12265
  have f_12317 : F_12282 a_12111 = .inl (G.2 0, 7, .inl ((fun _ => nI 0))) := (o_12284 a_12111 (by omega)).trans f_12268
  have f_12318 : F_12286 a_12111 = .inl (G.2 0, 7, .inl ((fun _ => nI 0))) := (g_12288.2.2.1 a_12111 m_12269).1.trans f_12317
  have lt_12320 := (g_12288.2.2.1 a_12111 m_12269).2
  have m_12319 : a_12111 ∈ L_12285 := g_12288.1.1 a_12111 m_12269
  have f_12321 : F_12282 a_12149 = .inl (G.2 0, 7, .inl ((fun _ => nI 0))) := (o_12284 a_12149 (by omega)).trans f_12272
  have f_12322 : F_12286 a_12149 = .inl (G.2 0, 7, .inl ((fun _ => nI 0))) := (g_12288.2.2.1 a_12149 m_12273).1.trans f_12321
  have lt_12324 := (g_12288.2.2.1 a_12149 m_12273).2
  have m_12323 : a_12149 ∈ L_12285 := g_12288.1.1 a_12149 m_12273
  have f_12325 : F_12282 a_12191 = .inl (G.2 0, 7, .inl ((fun _ => nI 0))) := (o_12284 a_12191 (by omega)).trans f_12276
  have f_12326 : F_12286 a_12191 = .inl (G.2 0, 7, .inl ((fun _ => nI 0))) := (g_12288.2.2.1 a_12191 m_12277).1.trans f_12325
  have lt_12328 := (g_12288.2.2.1 a_12191 m_12277).2
  have m_12327 : a_12191 ∈ L_12285 := g_12288.1.1 a_12191 m_12277
  have f_12329 : F_12282 a_12237 = .inl (G.2 0, 7, .inl ((fun _ => nI 0))) := (o_12284 a_12237 (by omega)).trans f_12281
  have f_12330 : F_12286 a_12237 = .inl (G.2 0, 7, .inl ((fun _ => nI 0))) := (g_12288.2.2.1 a_12237 m_12280).1.trans f_12329
  have lt_12332 := (g_12288.2.2.1 a_12237 m_12280).2
  have m_12331 : a_12237 ∈ L_12285 := g_12288.1.1 a_12237 m_12280
  have hg_12333 := hg_12279.step g_12288.1 hw.2.2.1
  have C0 := C0.grow g_12288.1 hw.2.2.1
  have hw := hw1
  have m_12334 : a_12287 ∈ L_12285 := g_12288.2.2.2.1
  have f_12335 : F_12286 a_12287 = .inl (G.2 0, 7, .inl ((fun _ => nI 0))) := g_12288.2.1
  refine q_putF C0 hnm hw m_12291 f_12290 fw_X1_42 pw_X1_10 rfl rfl rfl rfl (Nat.le_of_ble_eq_true rfl) dX1_init_89 (fun F_12336 H locs hw f_12337 o_12338 => ?_)
  have f_12337 : F_12336 a = .inr (1, [.ref a_11967, .ref a_11981, .ref a_11999, .ref a_12021, .ref a_12047, .ref a_12077, .ref a_12111, .ref a_12149, .ref a_12191, .ref a_12237, .ref a_12287, .null, .null, .null]) := f_12337
  refine lv_aload_n hx hb dX1_init_92 rfl (lv_at hl 0 rfl) ?_
  refine lv_bipush (v := nI 7) hx hb dX1_init_93 (by decide) ?_
  refine k_newi C0 hw (by decide) (by decide) (Nat.le_of_ble_eq_true rfl) (Nat.le_of_ble_eq_true rfl) dX1_init_95 (fun L_12339 F_12340 a_12341 H_12343 g_12342 hw1 => ?_)
  have hge_a_12341 : s.heap.size ≤ a_12341 := Nat.le_trans hw.2.2.1 g_12342.2.2.2.2
  have f_12344 : F_12340 a = .inr (1, [.ref a_11967, .ref a_11981, .ref a_11999, .ref a_12021, .ref a_12047, .ref a_12077, .ref a_12111, .ref a_12149, .ref a_12191, .ref a_12237, .ref a_12287, .null, .null, .null]) := (g_12342.2.2.1 a m_12291).1.trans f_12337
  have lt_12346 := (g_12342.2.2.1 a m_12291).2
  have m_12345 : a ∈ L_12339 := g_12342.1.1 a m_12291
  have f_12347 : F_12336 a_11967 = .inl (G.2 0, 7, .inl ((fun _ => nI 0))) := (o_12338 a_11967 (by omega)).trans f_12294
  have f_12348 : F_12340 a_11967 = .inl (G.2 0, 7, .inl ((fun _ => nI 0))) := (g_12342.2.2.1 a_11967 m_12295).1.trans f_12347
  have lt_12350 := (g_12342.2.2.1 a_11967 m_12295).2
  have m_12349 : a_11967 ∈ L_12339 := g_12342.1.1 a_11967 m_12295
  have f_12351 : F_12336 a_11981 = .inl (G.2 0, 7, .inl ((fun _ => nI 0))) := (o_12338 a_11981 (by omega)).trans f_12298
  have f_12352 : F_12340 a_11981 = .inl (G.2 0, 7, .inl ((fun _ => nI 0))) := (g_12342.2.2.1 a_11981 m_12299).1.trans f_12351
  have lt_12354 := (g_12342.2.2.1 a_11981 m_12299).2
  have m_12353 : a_11981 ∈ L_12339 := g_12342.1.1 a_11981 m_12299
  have f_12355 : F_12336 a_11999 = .inl (G.2 0, 7, .inl ((fun _ => nI 0))) := (o_12338 a_11999 (by omega)).trans f_12302
  have f_12356 : F_12340 a_11999 = .inl (G.2 0, 7, .inl ((fun _ => nI 0))) := (g_12342.2.2.1 a_11999 m_12303).1.trans f_12355
  have lt_12358 := (g_12342.2.2.1 a_11999 m_12303).2
  have m_12357 : a_11999 ∈ L_12339 := g_12342.1.1 a_11999 m_12303
  have f_12359 : F_12336 a_12021 = .inl (G.2 0, 7, .inl ((fun _ => nI 0))) := (o_12338 a_12021 (by omega)).trans f_12306
  have f_12360 : F_12340 a_12021 = .inl (G.2 0, 7, .inl ((fun _ => nI 0))) := (g_12342.2.2.1 a_12021 m_12307).1.trans f_12359
  have lt_12362 := (g_12342.2.2.1 a_12021 m_12307).2
  have m_12361 : a_12021 ∈ L_12339 := g_12342.1.1 a_12021 m_12307
  have f_12363 : F_12336 a_12047 = .inl (G.2 0, 7, .inl ((fun _ => nI 0))) := (o_12338 a_12047 (by omega)).trans f_12310
  have f_12364 : F_12340 a_12047 = .inl (G.2 0, 7, .inl ((fun _ => nI 0))) := (g_12342.2.2.1 a_12047 m_12311).1.trans f_12363
  have lt_12366 := (g_12342.2.2.1 a_12047 m_12311).2
  have m_12365 : a_12047 ∈ L_12339 := g_12342.1.1 a_12047 m_12311
  have f_12367 : F_12336 a_12077 = .inl (G.2 0, 7, .inl ((fun _ => nI 0))) := (o_12338 a_12077 (by omega)).trans f_12314
  have f_12368 : F_12340 a_12077 = .inl (G.2 0, 7, .inl ((fun _ => nI 0))) := (g_12342.2.2.1 a_12077 m_12315).1.trans f_12367
  have lt_12370 := (g_12342.2.2.1 a_12077 m_12315).2
  have m_12369 : a_12077 ∈ L_12339 := g_12342.1.1 a_12077 m_12315
  have f_12371 : F_12336 a_12111 = .inl (G.2 0, 7, .inl ((fun _ => nI 0))) := (o_12338 a_12111 (by omega)).trans f_12318
  have f_12372 : F_12340 a_12111 = .inl (G.2 0, 7, .inl ((fun _ => nI 0))) := (g_12342.2.2.1 a_12111 m_12319).1.trans f_12371
  have lt_12374 := (g_12342.2.2.1 a_12111 m_12319).2
  have m_12373 : a_12111 ∈ L_12339 := g_12342.1.1 a_12111 m_12319
  have f_12375 : F_12336 a_12149 = .inl (G.2 0, 7, .inl ((fun _ => nI 0))) := (o_12338 a_12149 (by omega)).trans f_12322
  have f_12376 : F_12340 a_12149 = .inl (G.2 0, 7, .inl ((fun _ => nI 0))) := (g_12342.2.2.1 a_12149 m_12323).1.trans f_12375
  have lt_12378 := (g_12342.2.2.1 a_12149 m_12323).2
  have m_12377 : a_12149 ∈ L_12339 := g_12342.1.1 a_12149 m_12323
  have f_12379 : F_12336 a_12191 = .inl (G.2 0, 7, .inl ((fun _ => nI 0))) := (o_12338 a_12191 (by omega)).trans f_12326
  have f_12380 : F_12340 a_12191 = .inl (G.2 0, 7, .inl ((fun _ => nI 0))) := (g_12342.2.2.1 a_12191 m_12327).1.trans f_12379
  have lt_12382 := (g_12342.2.2.1 a_12191 m_12327).2
  have m_12381 : a_12191 ∈ L_12339 := g_12342.1.1 a_12191 m_12327
  have f_12383 : F_12336 a_12237 = .inl (G.2 0, 7, .inl ((fun _ => nI 0))) := (o_12338 a_12237 (by omega)).trans f_12330
  have f_12384 : F_12340 a_12237 = .inl (G.2 0, 7, .inl ((fun _ => nI 0))) := (g_12342.2.2.1 a_12237 m_12331).1.trans f_12383
  have lt_12386 := (g_12342.2.2.1 a_12237 m_12331).2
  have m_12385 : a_12237 ∈ L_12339 := g_12342.1.1 a_12237 m_12331
  have f_12387 : F_12336 a_12287 = .inl (G.2 0, 7, .inl ((fun _ => nI 0))) := (o_12338 a_12287 (by omega)).trans f_12335
  have f_12388 : F_12340 a_12287 = .inl (G.2 0, 7, .inl ((fun _ => nI 0))) := (g_12342.2.2.1 a_12287 m_12334).1.trans f_12387
  have lt_12390 := (g_12342.2.2.1 a_12287 m_12334).2
  have m_12389 : a_12287 ∈ L_12339 := g_12342.1.1 a_12287 m_12334
  have hg_12391 := hg_12333.step g_12342.1 hw.2.2.1
  have C0 := C0.grow g_12342.1 hw.2.2.1
  have hw := hw1
  have m_12392 : a_12341 ∈ L_12339 := g_12342.2.2.2.1
  have f_12393 : F_12340 a_12341 = .inl (G.2 0, 7, .inl ((fun _ => nI 0))) := g_12342.2.1
  refine q_putF C0 hnm hw m_12345 f_12344 fw_X1_45 pw_X1_11 rfl rfl rfl rfl (Nat.le_of_ble_eq_true rfl) dX1_init_97 (fun F_12394 H locs hw f_12395 o_12396 => ?_)
  have f_12395 : F_12394 a = .inr (1, [.ref a_11967, .ref a_11981, .ref a_11999, .ref a_12021, .ref a_12047, .ref a_12077, .ref a_12111, .ref a_12149, .ref a_12191, .ref a_12237, .ref a_12287, .ref a_12341, .null, .null]) := f_12395
  refine lv_aload_n hx hb dX1_init_100 rfl (lv_at hl 0 rfl) ?_
  refine lv_bipush (v := nI 7) hx hb dX1_init_101 (by decide) ?_
  refine k_newi C0 hw (by decide) (by decide) (Nat.le_of_ble_eq_true rfl) (Nat.le_of_ble_eq_true rfl) dX1_init_103 (fun L_12397 F_12398 a_12399 H_12401 g_12400 hw1 => ?_)
  have hge_a_12399 : s.heap.size ≤ a_12399 := Nat.le_trans hw.2.2.1 g_12400.2.2.2.2
  have f_12402 : F_12398 a = .inr (1, [.ref a_11967, .ref a_11981, .ref a_11999, .ref a_12021, .ref a_12047, .ref a_12077, .ref a_12111, .ref a_12149, .ref a_12191, .ref a_12237, .ref a_12287, .ref a_12341, .null, .null]) := (g_12400.2.2.1 a m_12345).1.trans f_12395
  have lt_12404 := (g_12400.2.2.1 a m_12345).2
  have m_12403 : a ∈ L_12397 := g_12400.1.1 a m_12345
  have f_12405 : F_12394 a_11967 = .inl (G.2 0, 7, .inl ((fun _ => nI 0))) := (o_12396 a_11967 (by omega)).trans f_12348
  have f_12406 : F_12398 a_11967 = .inl (G.2 0, 7, .inl ((fun _ => nI 0))) := (g_12400.2.2.1 a_11967 m_12349).1.trans f_12405
  have lt_12408 := (g_12400.2.2.1 a_11967 m_12349).2
  have m_12407 : a_11967 ∈ L_12397 := g_12400.1.1 a_11967 m_12349
  have f_12409 : F_12394 a_11981 = .inl (G.2 0, 7, .inl ((fun _ => nI 0))) := (o_12396 a_11981 (by omega)).trans f_12352
  have f_12410 : F_12398 a_11981 = .inl (G.2 0, 7, .inl ((fun _ => nI 0))) := (g_12400.2.2.1 a_11981 m_12353).1.trans f_12409
  have lt_12412 := (g_12400.2.2.1 a_11981 m_12353).2
  have m_12411 : a_11981 ∈ L_12397 := g_12400.1.1 a_11981 m_12353
  have f_12413 : F_12394 a_11999 = .inl (G.2 0, 7, .inl ((fun _ => nI 0))) := (o_12396 a_11999 (by omega)).trans f_12356
  have f_12414 : F_12398 a_11999 = .inl (G.2 0, 7, .inl ((fun _ => nI 0))) := (g_12400.2.2.1 a_11999 m_12357).1.trans f_12413
  have lt_12416 := (g_12400.2.2.1 a_11999 m_12357).2
  have m_12415 : a_11999 ∈ L_12397 := g_12400.1.1 a_11999 m_12357
  have f_12417 : F_12394 a_12021 = .inl (G.2 0, 7, .inl ((fun _ => nI 0))) := (o_12396 a_12021 (by omega)).trans f_12360
  have f_12418 : F_12398 a_12021 = .inl (G.2 0, 7, .inl ((fun _ => nI 0))) := (g_12400.2.2.1 a_12021 m_12361).1.trans f_12417
  have lt_12420 := (g_12400.2.2.1 a_12021 m_12361).2
  have m_12419 : a_12021 ∈ L_12397 := g_12400.1.1 a_12021 m_12361
  have f_12421 : F_12394 a_12047 = .inl (G.2 0, 7, .inl ((fun _ => nI 0))) := (o_12396 a_12047 (by omega)).trans f_12364
  have f_12422 : F_12398 a_12047 = .inl (G.2 0, 7, .inl ((fun _ => nI 0))) := (g_12400.2.2.1 a_12047 m_12365).1.trans f_12421
  have lt_12424 := (g_12400.2.2.1 a_12047 m_12365).2
  have m_12423 : a_12047 ∈ L_12397 := g_12400.1.1 a_12047 m_12365
  have f_12425 : F_12394 a_12077 = .inl (G.2 0, 7, .inl ((fun _ => nI 0))) := (o_12396 a_12077 (by omega)).trans f_12368
  have f_12426 : F_12398 a_12077 = .inl (G.2 0, 7, .inl ((fun _ => nI 0))) := (g_12400.2.2.1 a_12077 m_12369).1.trans f_12425
  have lt_12428 := (g_12400.2.2.1 a_12077 m_12369).2
  have m_12427 : a_12077 ∈ L_12397 := g_12400.1.1 a_12077 m_12369
  have f_12429 : F_12394 a_12111 = .inl (G.2 0, 7, .inl ((fun _ => nI 0))) := (o_12396 a_12111 (by omega)).trans f_12372
  have f_12430 : F_12398 a_12111 = .inl (G.2 0, 7, .inl ((fun _ => nI 0))) := (g_12400.2.2.1 a_12111 m_12373).1.trans f_12429
  have lt_12432 := (g_12400.2.2.1 a_12111 m_12373).2
  have m_12431 : a_12111 ∈ L_12397 := g_12400.1.1 a_12111 m_12373
  have f_12433 : F_12394 a_12149 = .inl (G.2 0, 7, .inl ((fun _ => nI 0))) := (o_12396 a_12149 (by omega)).trans f_12376
  have f_12434 : F_12398 a_12149 = .inl (G.2 0, 7, .inl ((fun _ => nI 0))) := (g_12400.2.2.1 a_12149 m_12377).1.trans f_12433
  have lt_12436 := (g_12400.2.2.1 a_12149 m_12377).2
  have m_12435 : a_12149 ∈ L_12397 := g_12400.1.1 a_12149 m_12377
  have f_12437 : F_12394 a_12191 = .inl (G.2 0, 7, .inl ((fun _ => nI 0))) := (o_12396 a_12191 (by omega)).trans f_12380
  have f_12438 : F_12398 a_12191 = .inl (G.2 0, 7, .inl ((fun _ => nI 0))) := (g_12400.2.2.1 a_12191 m_12381).1.trans f_12437
  have lt_12440 := (g_12400.2.2.1 a_12191 m_12381).2
  have m_12439 : a_12191 ∈ L_12397 := g_12400.1.1 a_12191 m_12381
  have f_12441 : F_12394 a_12237 = .inl (G.2 0, 7, .inl ((fun _ => nI 0))) := (o_12396 a_12237 (by omega)).trans f_12384
  have f_12442 : F_12398 a_12237 = .inl (G.2 0, 7, .inl ((fun _ => nI 0))) := (g_12400.2.2.1 a_12237 m_12385).1.trans f_12441
  have lt_12444 := (g_12400.2.2.1 a_12237 m_12385).2
  have m_12443 : a_12237 ∈ L_12397 := g_12400.1.1 a_12237 m_12385
  have f_12445 : F_12394 a_12287 = .inl (G.2 0, 7, .inl ((fun _ => nI 0))) := (o_12396 a_12287 (by omega)).trans f_12388
  have f_12446 : F_12398 a_12287 = .inl (G.2 0, 7, .inl ((fun _ => nI 0))) := (g_12400.2.2.1 a_12287 m_12389).1.trans f_12445
  have lt_12448 := (g_12400.2.2.1 a_12287 m_12389).2
  have m_12447 : a_12287 ∈ L_12397 := g_12400.1.1 a_12287 m_12389
  have f_12449 : F_12394 a_12341 = .inl (G.2 0, 7, .inl ((fun _ => nI 0))) := (o_12396 a_12341 (by omega)).trans f_12393
  have f_12450 : F_12398 a_12341 = .inl (G.2 0, 7, .inl ((fun _ => nI 0))) := (g_12400.2.2.1 a_12341 m_12392).1.trans f_12449
  have lt_12452 := (g_12400.2.2.1 a_12341 m_12392).2
  have m_12451 : a_12341 ∈ L_12397 := g_12400.1.1 a_12341 m_12392
  have hg_12453 := hg_12391.step g_12400.1 hw.2.2.1
  have C0 := C0.grow g_12400.1 hw.2.2.1
  have hw := hw1
  have m_12454 : a_12399 ∈ L_12397 := g_12400.2.2.2.1
  have f_12455 : F_12398 a_12399 = .inl (G.2 0, 7, .inl ((fun _ => nI 0))) := g_12400.2.1
  refine q_putF C0 hnm hw m_12403 f_12402 fw_X1_48 pw_X1_12 rfl rfl rfl rfl (Nat.le_of_ble_eq_true rfl) dX1_init_105 (fun F_12456 H locs hw f_12457 o_12458 => ?_)
  have f_12457 : F_12456 a = .inr (1, [.ref a_11967, .ref a_11981, .ref a_11999, .ref a_12021, .ref a_12047, .ref a_12077, .ref a_12111, .ref a_12149, .ref a_12191, .ref a_12237, .ref a_12287, .ref a_12341, .ref a_12399, .null]) := f_12457
  refine lv_aload_n hx hb dX1_init_108 rfl (lv_at hl 0 rfl) ?_
  refine lv_bipush (v := nI 7) hx hb dX1_init_109 (by decide) ?_
  refine k_newi C0 hw (by decide) (by decide) (Nat.le_of_ble_eq_true rfl) (Nat.le_of_ble_eq_true rfl) dX1_init_111 (fun L_12459 F_12460 a_12461 H_12463 g_12462 hw1 => ?_)
  have hge_a_12461 : s.heap.size ≤ a_12461 := Nat.le_trans hw.2.2.1 g_12462.2.2.2.2
  have f_12464 : F_12460 a = .inr (1, [.ref a_11967, .ref a_11981, .ref a_11999, .ref a_12021, .ref a_12047, .ref a_12077, .ref a_12111, .ref a_12149, .ref a_12191, .ref a_12237, .ref a_12287, .ref a_12341, .ref a_12399, .null]) := (g_12462.2.2.1 a m_12403).1.trans f_12457
  have lt_12466 := (g_12462.2.2.1 a m_12403).2
  have m_12465 : a ∈ L_12459 := g_12462.1.1 a m_12403
  have f_12467 : F_12456 a_11967 = .inl (G.2 0, 7, .inl ((fun _ => nI 0))) := (o_12458 a_11967 (by omega)).trans f_12406
  have f_12468 : F_12460 a_11967 = .inl (G.2 0, 7, .inl ((fun _ => nI 0))) := (g_12462.2.2.1 a_11967 m_12407).1.trans f_12467
  have lt_12470 := (g_12462.2.2.1 a_11967 m_12407).2
  have m_12469 : a_11967 ∈ L_12459 := g_12462.1.1 a_11967 m_12407
  have f_12471 : F_12456 a_11981 = .inl (G.2 0, 7, .inl ((fun _ => nI 0))) := (o_12458 a_11981 (by omega)).trans f_12410
  have f_12472 : F_12460 a_11981 = .inl (G.2 0, 7, .inl ((fun _ => nI 0))) := (g_12462.2.2.1 a_11981 m_12411).1.trans f_12471
  have lt_12474 := (g_12462.2.2.1 a_11981 m_12411).2
  have m_12473 : a_11981 ∈ L_12459 := g_12462.1.1 a_11981 m_12411
  have f_12475 : F_12456 a_11999 = .inl (G.2 0, 7, .inl ((fun _ => nI 0))) := (o_12458 a_11999 (by omega)).trans f_12414
  have f_12476 : F_12460 a_11999 = .inl (G.2 0, 7, .inl ((fun _ => nI 0))) := (g_12462.2.2.1 a_11999 m_12415).1.trans f_12475
  have lt_12478 := (g_12462.2.2.1 a_11999 m_12415).2
  have m_12477 : a_11999 ∈ L_12459 := g_12462.1.1 a_11999 m_12415
  have f_12479 : F_12456 a_12021 = .inl (G.2 0, 7, .inl ((fun _ => nI 0))) := (o_12458 a_12021 (by omega)).trans f_12418
  have f_12480 : F_12460 a_12021 = .inl (G.2 0, 7, .inl ((fun _ => nI 0))) := (g_12462.2.2.1 a_12021 m_12419).1.trans f_12479
  have lt_12482 := (g_12462.2.2.1 a_12021 m_12419).2
  have m_12481 : a_12021 ∈ L_12459 := g_12462.1.1 a_12021 m_12419
  have f_12483 : F_12456 a_12047 = .inl (G.2 0, 7, .inl ((fun _ => nI 0))) := (o_12458 a_12047 (by omega)).trans f_12422
  have f_12484 : F_12460 a_12047 = .inl (G.2 0, 7, .inl ((fun _ => nI 0))) := (g_12462.2.2.1 a_12047 m_12423).1.trans f_12483
  have lt_12486 := (g_12462.2.2.1 a_12047 m_12423).2
  have m_12485 : a_12047 ∈ L_12459 := g_12462.1.1 a_12047 m_12423
  have f_12487 : F_12456 a_12077 = .inl (G.2 0, 7, .inl ((fun _ => nI 0))) := (o_12458 a_12077 (by omega)).trans f_12426
  have f_12488 : F_12460 a_12077 = .inl (G.2 0, 7, .inl ((fun _ => nI 0))) := (g_12462.2.2.1 a_12077 m_12427).1.trans f_12487
  have lt_12490 := (g_12462.2.2.1 a_12077 m_12427).2
  have m_12489 : a_12077 ∈ L_12459 := g_12462.1.1 a_12077 m_12427
  have f_12491 : F_12456 a_12111 = .inl (G.2 0, 7, .inl ((fun _ => nI 0))) := (o_12458 a_12111 (by omega)).trans f_12430
  have f_12492 : F_12460 a_12111 = .inl (G.2 0, 7, .inl ((fun _ => nI 0))) := (g_12462.2.2.1 a_12111 m_12431).1.trans f_12491
  have lt_12494 := (g_12462.2.2.1 a_12111 m_12431).2
  have m_12493 : a_12111 ∈ L_12459 := g_12462.1.1 a_12111 m_12431
  have f_12495 : F_12456 a_12149 = .inl (G.2 0, 7, .inl ((fun _ => nI 0))) := (o_12458 a_12149 (by omega)).trans f_12434
  have f_12496 : F_12460 a_12149 = .inl (G.2 0, 7, .inl ((fun _ => nI 0))) := (g_12462.2.2.1 a_12149 m_12435).1.trans f_12495
  have lt_12498 := (g_12462.2.2.1 a_12149 m_12435).2
  have m_12497 : a_12149 ∈ L_12459 := g_12462.1.1 a_12149 m_12435
  have f_12499 : F_12456 a_12191 = .inl (G.2 0, 7, .inl ((fun _ => nI 0))) := (o_12458 a_12191 (by omega)).trans f_12438
  have f_12500 : F_12460 a_12191 = .inl (G.2 0, 7, .inl ((fun _ => nI 0))) := (g_12462.2.2.1 a_12191 m_12439).1.trans f_12499
  have lt_12502 := (g_12462.2.2.1 a_12191 m_12439).2
  have m_12501 : a_12191 ∈ L_12459 := g_12462.1.1 a_12191 m_12439
  have f_12503 : F_12456 a_12237 = .inl (G.2 0, 7, .inl ((fun _ => nI 0))) := (o_12458 a_12237 (by omega)).trans f_12442
  have f_12504 : F_12460 a_12237 = .inl (G.2 0, 7, .inl ((fun _ => nI 0))) := (g_12462.2.2.1 a_12237 m_12443).1.trans f_12503
  have lt_12506 := (g_12462.2.2.1 a_12237 m_12443).2
  have m_12505 : a_12237 ∈ L_12459 := g_12462.1.1 a_12237 m_12443
  have f_12507 : F_12456 a_12287 = .inl (G.2 0, 7, .inl ((fun _ => nI 0))) := (o_12458 a_12287 (by omega)).trans f_12446
  have f_12508 : F_12460 a_12287 = .inl (G.2 0, 7, .inl ((fun _ => nI 0))) := (g_12462.2.2.1 a_12287 m_12447).1.trans f_12507
  have lt_12510 := (g_12462.2.2.1 a_12287 m_12447).2
  have m_12509 : a_12287 ∈ L_12459 := g_12462.1.1 a_12287 m_12447
  have f_12511 : F_12456 a_12341 = .inl (G.2 0, 7, .inl ((fun _ => nI 0))) := (o_12458 a_12341 (by omega)).trans f_12450
  have f_12512 : F_12460 a_12341 = .inl (G.2 0, 7, .inl ((fun _ => nI 0))) := (g_12462.2.2.1 a_12341 m_12451).1.trans f_12511
  have lt_12514 := (g_12462.2.2.1 a_12341 m_12451).2
  have m_12513 : a_12341 ∈ L_12459 := g_12462.1.1 a_12341 m_12451
  have f_12515 : F_12456 a_12399 = .inl (G.2 0, 7, .inl ((fun _ => nI 0))) := (o_12458 a_12399 (by omega)).trans f_12455
  have f_12516 : F_12460 a_12399 = .inl (G.2 0, 7, .inl ((fun _ => nI 0))) := (g_12462.2.2.1 a_12399 m_12454).1.trans f_12515
  have lt_12518 := (g_12462.2.2.1 a_12399 m_12454).2
  have m_12517 : a_12399 ∈ L_12459 := g_12462.1.1 a_12399 m_12454
  have hg_12519 := hg_12453.step g_12462.1 hw.2.2.1
  have C0 := C0.grow g_12462.1 hw.2.2.1
  have hw := hw1
  have m_12520 : a_12461 ∈ L_12459 := g_12462.2.2.2.1
  have f_12521 : F_12460 a_12461 = .inl (G.2 0, 7, .inl ((fun _ => nI 0))) := g_12462.2.1
  refine q_putF C0 hnm hw m_12465 f_12464 fw_X1_51 pw_X1_13 rfl rfl rfl rfl (Nat.le_of_ble_eq_true rfl) dX1_init_113 (fun F_12522 H locs hw f_12523 o_12524 => ?_)
  have f_12523 : F_12522 a = .inr (1, [.ref a_11967, .ref a_11981, .ref a_11999, .ref a_12021, .ref a_12047, .ref a_12077, .ref a_12111, .ref a_12149, .ref a_12191, .ref a_12237, .ref a_12287, .ref a_12341, .ref a_12399, .ref a_12461]) := f_12523
  have hfr_12525 : ∀ q ∈ L, q ≠ a → F_12522 q = F q := by
    intro q hq hne
    have hqlt := hwS.lt hq
    exact ((((((((((((((((((((((((((((o_12524 q (by omega)).trans (g_12462.2.2.1 q (hg_12453.1 q hq)).1).trans (o_12458 q (by omega))).trans (g_12400.2.2.1 q (hg_12391.1 q hq)).1).trans (o_12396 q (by omega))).trans (g_12342.2.2.1 q (hg_12333.1 q hq)).1).trans (o_12338 q (by omega))).trans (g_12288.2.2.1 q (hg_12279.1 q hq)).1).trans (o_12284 q (by omega))).trans (g_12238.2.2.1 q (hg_12229.1 q hq)).1).trans (o_12234 q (by omega))).trans (g_12192.2.2.1 q (hg_12183.1 q hq)).1).trans (o_12188 q (by omega))).trans (g_12150.2.2.1 q (hg_12141.1 q hq)).1).trans (o_12146 q (by omega))).trans (g_12112.2.2.1 q (hg_12103.1 q hq)).1).trans (o_12108 q (by omega))).trans (g_12078.2.2.1 q (hg_12069.1 q hq)).1).trans (o_12074 q (by omega))).trans (g_12048.2.2.1 q (hg_12039.1 q hq)).1).trans (o_12044 q (by omega))).trans (g_12022.2.2.1 q (hg_12013.1 q hq)).1).trans (o_12018 q (by omega))).trans (g_12000.2.2.1 q (hg_11991.1 q hq)).1).trans (o_11996 q (by omega))).trans (g_11982.2.2.1 q (hg_11973.1 q hq)).1).trans (o_11978 q (by omega))).trans (g_11968.2.2.1 q (hg0.1 q hq)).1)
  have f_12526 : F_12522 a_11967 = .inl (G.2 0, 7, .inl ((fun _ => nI 0))) := (o_12524 a_11967 (by omega)).trans f_12468
  have f_12527 : F_12522 a_11981 = .inl (G.2 0, 7, .inl ((fun _ => nI 0))) := (o_12524 a_11981 (by omega)).trans f_12472
  have f_12528 : F_12522 a_11999 = .inl (G.2 0, 7, .inl ((fun _ => nI 0))) := (o_12524 a_11999 (by omega)).trans f_12476
  have f_12529 : F_12522 a_12021 = .inl (G.2 0, 7, .inl ((fun _ => nI 0))) := (o_12524 a_12021 (by omega)).trans f_12480
  have f_12530 : F_12522 a_12047 = .inl (G.2 0, 7, .inl ((fun _ => nI 0))) := (o_12524 a_12047 (by omega)).trans f_12484
  have f_12531 : F_12522 a_12077 = .inl (G.2 0, 7, .inl ((fun _ => nI 0))) := (o_12524 a_12077 (by omega)).trans f_12488
  have f_12532 : F_12522 a_12111 = .inl (G.2 0, 7, .inl ((fun _ => nI 0))) := (o_12524 a_12111 (by omega)).trans f_12492
  have f_12533 : F_12522 a_12149 = .inl (G.2 0, 7, .inl ((fun _ => nI 0))) := (o_12524 a_12149 (by omega)).trans f_12496
  have f_12534 : F_12522 a_12191 = .inl (G.2 0, 7, .inl ((fun _ => nI 0))) := (o_12524 a_12191 (by omega)).trans f_12500
  have f_12535 : F_12522 a_12237 = .inl (G.2 0, 7, .inl ((fun _ => nI 0))) := (o_12524 a_12237 (by omega)).trans f_12504
  have f_12536 : F_12522 a_12287 = .inl (G.2 0, 7, .inl ((fun _ => nI 0))) := (o_12524 a_12287 (by omega)).trans f_12508
  have f_12537 : F_12522 a_12341 = .inl (G.2 0, 7, .inl ((fun _ => nI 0))) := (o_12524 a_12341 (by omega)).trans f_12512
  have f_12538 : F_12522 a_12399 = .inl (G.2 0, 7, .inl ((fun _ => nI 0))) := (o_12524 a_12399 (by omega)).trans f_12516
  have f_12539 : F_12522 a_12461 = .inl (G.2 0, 7, .inl ((fun _ => nI 0))) := (o_12524 a_12461 (by omega)).trans f_12521
  obtain ⟨n, en⟩ : ∃ n : Nat → Nat, n = (fun i => if i = 0 then a_11967 else if i = 1 then a_11981 else if i = 2 then a_11999 else if i = 3 then a_12021 else if i = 4 then a_12047 else if i = 5 then a_12077 else if i = 6 then a_12111 else if i = 7 then a_12149 else if i = 8 then a_12191 else if i = 9 then a_12237 else if i = 10 then a_12287 else if i = 11 then a_12341 else if i = 12 then a_12399 else a_12461) := ⟨_, rfl⟩
  have e0 : n 0 = a_11967 := by rw [en]; rfl
  have e1 : n 1 = a_11981 := by rw [en]; rfl
  have e2 : n 2 = a_11999 := by rw [en]; rfl
  have e3 : n 3 = a_12021 := by rw [en]; rfl
  have e4 : n 4 = a_12047 := by rw [en]; rfl
  have e5 : n 5 = a_12077 := by rw [en]; rfl
  have e6 : n 6 = a_12111 := by rw [en]; rfl
  have e7 : n 7 = a_12149 := by rw [en]; rfl
  have e8 : n 8 = a_12191 := by rw [en]; rfl
  have e9 : n 9 = a_12237 := by rw [en]; rfl
  have e10 : n 10 = a_12287 := by rw [en]; rfl
  have e11 : n 11 = a_12341 := by rw [en]; rfl
  have e12 : n 12 = a_12399 := by rw [en]; rfl
  have e13 : n 13 = a_12461 := by rw [en]; rfl
  have hro : F_12522 a = rkO n := f_12523.trans (by unfold rkO; rw [e0, e1, e2, e3, e4, e5, e6, e7, e8, e9, e10, e11, e12, e13])
  have hrr : ∀ i, i < 14 → F_12522 (n i) = rw7 G (fun _ => zc 0) := by
    intro i hi
    match i, hi with
    | 0, _ => rw [e0]; exact f_12526
    | 1, _ => rw [e1]; exact f_12527
    | 2, _ => rw [e2]; exact f_12528
    | 3, _ => rw [e3]; exact f_12529
    | 4, _ => rw [e4]; exact f_12530
    | 5, _ => rw [e5]; exact f_12531
    | 6, _ => rw [e6]; exact f_12532
    | 7, _ => rw [e7]; exact f_12533
    | 8, _ => rw [e8]; exact f_12534
    | 9, _ => rw [e9]; exact f_12535
    | 10, _ => rw [e10]; exact f_12536
    | 11, _ => rw [e11]; exact f_12537
    | 12, _ => rw [e12]; exact f_12538
    | 13, _ => rw [e13]; exact f_12539
    | i + 14, h9 => exact absurd h9 (by omega)
  have hnm9 : ∀ i, i < 14 → s.heap.size ≤ n i ∧ n i ∈ L_12459 := by
    intro i hi
    match i, hi with
    | 0, _ => rw [e0]; exact ⟨by omega, m_12469⟩
    | 1, _ => rw [e1]; exact ⟨by omega, m_12473⟩
    | 2, _ => rw [e2]; exact ⟨by omega, m_12477⟩
    | 3, _ => rw [e3]; exact ⟨by omega, m_12481⟩
    | 4, _ => rw [e4]; exact ⟨by omega, m_12485⟩
    | 5, _ => rw [e5]; exact ⟨by omega, m_12489⟩
    | 6, _ => rw [e6]; exact ⟨by omega, m_12493⟩
    | 7, _ => rw [e7]; exact ⟨by omega, m_12497⟩
    | 8, _ => rw [e8]; exact ⟨by omega, m_12501⟩
    | 9, _ => rw [e9]; exact ⟨by omega, m_12505⟩
    | 10, _ => rw [e10]; exact ⟨by omega, m_12509⟩
    | 11, _ => rw [e11]; exact ⟨by omega, m_12513⟩
    | 12, _ => rw [e12]; exact ⟨by omega, m_12517⟩
    | 13, _ => rw [e13]; exact ⟨by omega, m_12520⟩
    | i + 14, h9 => exact absurd h9 (by omega)
  have hlt9 : ∀ i j, i < 14 → j < 14 → i < j → n i < n j := by
    intro i j hi hj hij
    have hs : ∀ k, k < 13 → n k < n (k + 1) := by
      intro k hk
      match k, hk with
      | 0, _ => rw [show n 0 = _ from e0, show n (0 + 1) = _ from e1]; omega
      | 1, _ => rw [show n 1 = _ from e1, show n (1 + 1) = _ from e2]; omega
      | 2, _ => rw [show n 2 = _ from e2, show n (2 + 1) = _ from e3]; omega
      | 3, _ => rw [show n 3 = _ from e3, show n (3 + 1) = _ from e4]; omega
      | 4, _ => rw [show n 4 = _ from e4, show n (4 + 1) = _ from e5]; omega
      | 5, _ => rw [show n 5 = _ from e5, show n (5 + 1) = _ from e6]; omega
      | 6, _ => rw [show n 6 = _ from e6, show n (6 + 1) = _ from e7]; omega
      | 7, _ => rw [show n 7 = _ from e7, show n (7 + 1) = _ from e8]; omega
      | 8, _ => rw [show n 8 = _ from e8, show n (8 + 1) = _ from e9]; omega
      | 9, _ => rw [show n 9 = _ from e9, show n (9 + 1) = _ from e10]; omega
      | 10, _ => rw [show n 10 = _ from e10, show n (10 + 1) = _ from e11]; omega
      | 11, _ => rw [show n 11 = _ from e11, show n (11 + 1) = _ from e12]; omega
      | 12, _ => rw [show n 12 = _ from e12, show n (12 + 1) = _ from e13]; omega
      | k + 13, h9 => exact absurd h9 (by omega)
    exact lt_chain (n := n) (m := 13) hs i j hij (by omega)
  have hinj : ∀ i j, i < 14 → j < 14 → i ≠ j → n i ≠ n j := fun i j hi hj hne => by
    rcases Nat.lt_or_gt_of_ne hne with h | h
    · have := hlt9 i j hi hj h; omega
    · have := hlt9 j i hj hi h; omega
  exact r_vN C0 hg_12519 hr hlk hw ⟨hg_12519, n, hro, hrr, hnm9, hinj, hfr_12525⟩ (Nat.le_of_ble_eq_true rfl) (Nat.le_of_ble_eq_true rfl) dX1_init_116 hQ
