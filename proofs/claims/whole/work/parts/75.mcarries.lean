abbrev rm_X6_layOrder : Room := { frames := 6, cells := 0, slots := 0, locals := 139 }
set_option maxHeartbeats 4000000 in
set_option maxRecDepth 100000 in
theorem c_X6_layOrder_98 (l : Launch) (G : Gl) (L : List Nat) (F : Nat → va_E) (b : Nat) (ma : Nat → Nat) (mi : Nat → Int32) (hh : Int64) (pl : Nat → Nat → ZP) (zf : Nat → Int32) (cu : Nat) (r9 : Rws) (f9 g9 : Nat) (v9 : Int32) (mb : b ∈ L) (fb : F b = mO ma mi hh) (hma : ∀ i, i < 7 → ma i ∈ L) (fp : F (ma 4) = pcE G pl) (fz : F (ma 0) = .inl (G.2 0, 89, .inl zf)) (hz0 : zf 0 = nI cu) (hc : cu ≤ 6) (hc2 : 2 ≤ cu) (hf9 : f9 < 6) (hg9 : g9 < 6) (hrw : ∀ i k, i < 12 → k < 7 → zf (5 + 7 * i + k) = nI (r9 i k).val) (hR : okR r9) : CV l yX6_layOrder cX6_layOrder 4 none rm_X6_layOrder G L F [.ref b, .int (nI (98)), .int (nI (f9)), .int (nI (g9))] (fun F1 => (∃ P9, F1 (ma 4) = pcE G P9 ∧ P9 2 = ordR 98 f9 g9 cu r9) ∧ ∀ q, q ≠ ma 4 → F1 q = F q) := by
  refine CG_of (by decide) (Nat.le_of_ble_eq_true rfl) rfl ?_
  intro p e s m args below meth c Q C0 hr hlk hnm hQ hw ls hl
  have hx := C0.x
  have hb := C0.b
  refine lv_iload_n hx hb dX6_layOrder_0 rfl (lv_at hl 1 rfl) ?_
  refine lv_tableIn (off := 103) (tgt := 104) hx hb dX6_layOrder_1 (by decide) (by decide) rfl (by decide) ?_
  refine lv_aload_n hx hb dX6_layOrder_104 rfl (lv_at hl 0 rfl) ?_
  refine lv_iload_n hx hb dX6_layOrder_105 rfl (lv_at hl 2 rfl) ?_
  refine lv_iload_n hx hb dX6_layOrder_106 rfl (lv_at hl 3 rfl) ?_
  refine q_callv hw (q_runV (As := [.int (nI (f9)), .int (nI (g9))]) (c_X6_layBracket l G L F b ma mi hh pl zf cu r9 f9 g9 mb fb hma fp fz hz0 (by omega) (by omega) (by omega) (by omega) hrw) C0 hw vw_X6_123 mb fb rfl rfl rfl hl.1 rfl (Nat.le_of_ble_eq_true rfl) dX6_layOrder_107 ⟨by decide, by decide⟩ ⟨by decide, by decide⟩) rfl rfl (fun F_8295 H locs hw hp_8296 => ?_)
  obtain ⟨⟨P_8297, f_8300, r_8298, ro_8299⟩, o_8301⟩ := hp_8296
  refine lv_goto (tgt := 171) hx hb dX6_layOrder_110 (by decide) ?_
  exact r_v C0 hr hlk hw ⟨⟨_, f_8300, r_8298.trans (br_eq (hR f9 (by omega)).1 (hR f9 (by omega)).2 (hR g9 (by omega)).1 (hR g9 (by omega)).2 hc)⟩, (fun q k0 => (o_8301 q k0))⟩ (Nat.le_refl _) (Nat.le_refl _) dX6_layOrder_171 hQ
set_option maxHeartbeats 4000000 in
set_option maxRecDepth 100000 in
theorem c_X6_layOrder_115 (l : Launch) (G : Gl) (L : List Nat) (F : Nat → va_E) (b : Nat) (ma : Nat → Nat) (mi : Nat → Int32) (hh : Int64) (pl : Nat → Nat → ZP) (zf : Nat → Int32) (cu : Nat) (r9 : Rws) (f9 g9 : Nat) (v9 : Int32) (mb : b ∈ L) (fb : F b = mO ma mi hh) (hma : ∀ i, i < 7 → ma i ∈ L) (fp : F (ma 4) = pcE G pl) (fz : F (ma 0) = .inl (G.2 0, 89, .inl zf)) (hz0 : zf 0 = nI cu) (hc : cu ≤ 6) (hc2 : 2 ≤ cu) (hf9 : f9 < 6) (hg9 : g9 < 6) (hrw : ∀ i k, i < 12 → k < 7 → zf (5 + 7 * i + k) = nI (r9 i k).val) (hR : okR r9) : CV l yX6_layOrder cX6_layOrder 4 none rm_X6_layOrder G L F [.ref b, .int (nI (115)), .int (nI (f9)), .int (nI (g9))] (fun F1 => (∃ P9, F1 (ma 4) = pcE G P9 ∧ P9 2 = ordR 115 f9 g9 cu r9) ∧ ∀ q, q ≠ ma 4 → F1 q = F q) := by
  refine CG_of (by decide) (Nat.le_of_ble_eq_true rfl) rfl ?_
  intro p e s m args below meth c Q C0 hr hlk hnm hQ hw ls hl
  have hx := C0.x
  have hb := C0.b
  refine lv_iload_n hx hb dX6_layOrder_0 rfl (lv_at hl 1 rfl) ?_
  refine lv_tableIn (off := 112) (tgt := 113) hx hb dX6_layOrder_1 (by decide) (by decide) rfl (by decide) ?_
  refine lv_aload_n hx hb dX6_layOrder_113 rfl (lv_at hl 0 rfl) ?_
  refine lv_iload_n hx hb dX6_layOrder_114 rfl (lv_at hl 2 rfl) ?_
  refine lv_iload_n hx hb dX6_layOrder_115 rfl (lv_at hl 3 rfl) ?_
  refine q_callv hw (q_runV (As := [.int (nI (f9)), .int (nI (g9))]) (c_X6_laySum l G L F b ma mi hh pl zf cu r9 f9 g9 mb fb hma fp fz hz0 (by omega) (by omega) (by omega) (by omega) hrw) C0 hw vw_X6_126 mb fb rfl rfl rfl hl.1 rfl (Nat.le_of_ble_eq_true rfl) dX6_layOrder_116 ⟨by decide, by decide⟩ ⟨by decide, by decide⟩) rfl rfl (fun F_8302 H locs hw hp_8303 => ?_)
  obtain ⟨⟨P_8304, f_8307, r_8305, ro_8306⟩, o_8308⟩ := hp_8303
  refine lv_goto (tgt := 171) hx hb dX6_layOrder_119 (by decide) ?_
  exact r_v C0 hr hlk hw ⟨⟨_, f_8307, r_8305.trans (am_1 _ _)⟩, (fun q k0 => (o_8308 q k0))⟩ (Nat.le_refl _) (Nat.le_refl _) dX6_layOrder_171 hQ
set_option maxHeartbeats 4000000 in
set_option maxRecDepth 100000 in
theorem c_X6_layOrder_119 (l : Launch) (G : Gl) (L : List Nat) (F : Nat → va_E) (b : Nat) (ma : Nat → Nat) (mi : Nat → Int32) (hh : Int64) (pl : Nat → Nat → ZP) (zf : Nat → Int32) (cu : Nat) (r9 : Rws) (f9 g9 : Nat) (v9 : Int32) (mb : b ∈ L) (fb : F b = mO ma mi hh) (hma : ∀ i, i < 7 → ma i ∈ L) (fp : F (ma 4) = pcE G pl) (fz : F (ma 0) = .inl (G.2 0, 89, .inl zf)) (hz0 : zf 0 = nI cu) (hc : cu ≤ 6) (hc2 : 2 ≤ cu) (hf9 : f9 < 6) (hg9 : g9 < 6) (hrw : ∀ i k, i < 12 → k < 7 → zf (5 + 7 * i + k) = nI (r9 i k).val) (hR : okR r9) : CV l yX6_layOrder cX6_layOrder 4 none rm_X6_layOrder G L F [.ref b, .int (nI (119)), .int (nI (f9)), .int (nI (g9))] (fun F1 => (∃ P9, F1 (ma 4) = pcE G P9 ∧ P9 2 = ordR 119 f9 g9 cu r9) ∧ ∀ q, q ≠ ma 4 → F1 q = F q) := by
  refine CG_of (by decide) (Nat.le_of_ble_eq_true rfl) rfl ?_
  intro p e s m args below meth c Q C0 hr hlk hnm hQ hw ls hl
  have hx := C0.x
  have hb := C0.b
  refine lv_iload_n hx hb dX6_layOrder_0 rfl (lv_at hl 1 rfl) ?_
  refine lv_tableIn (off := 121) (tgt := 122) hx hb dX6_layOrder_1 (by decide) (by decide) rfl (by decide) ?_
  refine lv_aload_n hx hb dX6_layOrder_122 rfl (lv_at hl 0 rfl) ?_
  refine lv_iload_n hx hb dX6_layOrder_123 rfl (lv_at hl 2 rfl) ?_
  refine lv_iload_n hx hb dX6_layOrder_124 rfl (lv_at hl 3 rfl) ?_
  refine lv_iconst (v := nI 5) hx hb dX6_layOrder_125 (by decide) ?_
  refine q_callv hw (q_runV (As := [.int (nI (f9)), .int (nI (g9)), .int (nI (5))]) (c_X6_layWay l G L F b ma mi hh pl zf cu r9 f9 g9 5 mb fb hma fp fz hz0 (by omega) (by omega) (by omega) (by omega) (by omega) (by omega) hrw) C0 hw vw_X6_135 mb fb rfl rfl rfl hl.1 rfl (Nat.le_of_ble_eq_true rfl) dX6_layOrder_126 ⟨by decide, by decide⟩ ⟨by decide, by decide⟩) rfl rfl (fun F_8309 H locs hw hp_8310 => ?_)
  obtain ⟨⟨P_8311, f_8314, r_8312, r_8316, r_8317, ro_8313⟩, o_8315⟩ := hp_8310
  refine lv_goto (tgt := 171) hx hb dX6_layOrder_129 (by decide) ?_
  exact r_v C0 hr hlk hw ⟨⟨_, f_8314, r_8312.trans (way_eq (hR f9 (by omega)).1 (hR f9 (by omega)).2 (hR g9 (by omega)).1 (hR g9 (by omega)).2 hc)⟩, (fun q k0 => (o_8315 q k0))⟩ (Nat.le_refl _) (Nat.le_refl _) dX6_layOrder_171 hQ
set_option maxHeartbeats 4000000 in
set_option maxRecDepth 100000 in
theorem c_X6_layOrder_112 (l : Launch) (G : Gl) (L : List Nat) (F : Nat → va_E) (b : Nat) (ma : Nat → Nat) (mi : Nat → Int32) (hh : Int64) (pl : Nat → Nat → ZP) (zf : Nat → Int32) (cu : Nat) (r9 : Rws) (f9 g9 : Nat) (v9 : Int32) (mb : b ∈ L) (fb : F b = mO ma mi hh) (hma : ∀ i, i < 7 → ma i ∈ L) (fp : F (ma 4) = pcE G pl) (fz : F (ma 0) = .inl (G.2 0, 89, .inl zf)) (hz0 : zf 0 = nI cu) (hc : cu ≤ 6) (hc2 : 2 ≤ cu) (hf9 : f9 < 6) (hg9 : g9 < 6) (hrw : ∀ i k, i < 12 → k < 7 → zf (5 + 7 * i + k) = nI (r9 i k).val) (hR : okR r9) : CV l yX6_layOrder cX6_layOrder 4 none rm_X6_layOrder G L F [.ref b, .int (nI (112)), .int (nI (f9)), .int (nI (g9))] (fun F1 => (∃ P9, F1 (ma 4) = pcE G P9 ∧ P9 2 = ordR 112 f9 g9 cu r9) ∧ ∀ q, q ≠ ma 4 → F1 q = F q) := by
  refine CG_of (by decide) (Nat.le_of_ble_eq_true rfl) rfl ?_
  intro p e s m args below meth c Q C0 hr hlk hnm hQ hw ls hl
  have hx := C0.x
  have hb := C0.b
  refine lv_iload_n hx hb dX6_layOrder_0 rfl (lv_at hl 1 rfl) ?_
  refine lv_tableIn (off := 147) (tgt := 148) hx hb dX6_layOrder_1 (by decide) (by decide) rfl (by decide) ?_
  refine lv_aload_n hx hb dX6_layOrder_148 rfl (lv_at hl 0 rfl) ?_
  refine lv_iload_n hx hb dX6_layOrder_149 rfl (lv_at hl 2 rfl) ?_
  refine lv_iload_n hx hb dX6_layOrder_150 rfl (lv_at hl 3 rfl) ?_
  refine q_callv hw (q_runV (As := [.int (nI (f9)), .int (nI (g9))]) (c_X6_layPush l G L F b ma mi hh pl zf cu r9 f9 g9 mb fb hma fp fz hz0 (by omega) (by omega) (by omega) (by omega) hrw) C0 hw vw_X6_144 mb fb rfl rfl rfl hl.1 rfl (Nat.le_of_ble_eq_true rfl) dX6_layOrder_151 ⟨by decide, by decide⟩ ⟨by decide, by decide⟩) rfl rfl (fun F_8318 H locs hw hp_8319 => ?_)
  obtain ⟨⟨P_8320, f_8323, r_8321, ro_8322⟩, o_8324⟩ := hp_8319
  refine lv_goto (tgt := 171) hx hb dX6_layOrder_154 (by decide) ?_
  exact r_v C0 hr hlk hw ⟨⟨_, f_8323, r_8321.trans (push_eq _ (hR g9 (by omega)).1 (hR g9 (by omega)).2 (by omega) hc)⟩, (fun q k0 => (o_8324 q k0))⟩ (Nat.le_refl _) (Nat.le_refl _) dX6_layOrder_171 hQ
set_option maxHeartbeats 4000000 in
set_option maxRecDepth 100000 in
theorem c_X6_layOrder_108 (l : Launch) (G : Gl) (L : List Nat) (F : Nat → va_E) (b : Nat) (ma : Nat → Nat) (mi : Nat → Int32) (hh : Int64) (pl : Nat → Nat → ZP) (zf : Nat → Int32) (cu : Nat) (r9 : Rws) (f9 g9 : Nat) (v9 : Int32) (mb : b ∈ L) (fb : F b = mO ma mi hh) (hma : ∀ i, i < 7 → ma i ∈ L) (fp : F (ma 4) = pcE G pl) (fz : F (ma 0) = .inl (G.2 0, 89, .inl zf)) (hz0 : zf 0 = nI cu) (hc : cu ≤ 6) (hc2 : 2 ≤ cu) (hf9 : f9 < 6) (hrw : ∀ i k, i < 12 → k < 7 → zf (5 + 7 * i + k) = nI (r9 i k).val) (hR : okR r9) : CV l yX6_layOrder cX6_layOrder 4 none rm_X6_layOrder G L F [.ref b, .int (nI (108)), .int (nI (f9)), .int (v9)] (fun F1 => (∃ P9, F1 (ma 4) = pcE G P9 ∧ P9 2 = ordR 108 f9 g9 cu r9) ∧ ∀ q, q ≠ ma 4 → F1 q = F q) := by
  refine CG_of (by decide) (Nat.le_of_ble_eq_true rfl) rfl ?_
  intro p e s m args below meth c Q C0 hr hlk hnm hQ hw ls hl
  have hx := C0.x
  have hb := C0.b
  refine lv_iload_n hx hb dX6_layOrder_0 rfl (lv_at hl 1 rfl) ?_
  refine lv_tableIn (off := 139) (tgt := 140) hx hb dX6_layOrder_1 (by decide) (by decide) rfl (by decide) ?_
  refine lv_aload_n hx hb dX6_layOrder_140 rfl (lv_at hl 0 rfl) ?_
  refine lv_iload_n hx hb dX6_layOrder_141 rfl (lv_at hl 2 rfl) ?_
  refine q_callv hw (q_runV (As := [.int (nI (f9))]) (c_X6_layLog l G L F b ma mi hh pl zf cu r9 f9 mb fb hma fp fz hz0 (by omega) (by omega) (by omega) hrw) C0 hw vw_X6_150 mb fb rfl rfl rfl hl.1 rfl (Nat.le_of_ble_eq_true rfl) dX6_layOrder_142 ⟨by decide, by decide⟩ ⟨by decide, by decide⟩) rfl rfl (fun F_8325 H locs hw hp_8326 => ?_)
  obtain ⟨⟨P_8327, f_8330, r_8328, ro_8329⟩, o_8331⟩ := hp_8326
  refine lv_goto (tgt := 171) hx hb dX6_layOrder_145 (by decide) ?_
  exact r_v C0 hr hlk hw ⟨⟨_, f_8330, r_8328.trans (log_eq _ (by omega) hc)⟩, (fun q k0 => (o_8331 q k0))⟩ (Nat.le_refl _) (Nat.le_refl _) dX6_layOrder_171 hQ
set_option maxHeartbeats 4000000 in
set_option maxRecDepth 100000 in
theorem c_X6_layOrder_101 (l : Launch) (G : Gl) (L : List Nat) (F : Nat → va_E) (b : Nat) (ma : Nat → Nat) (mi : Nat → Int32) (hh : Int64) (pl : Nat → Nat → ZP) (zf : Nat → Int32) (cu : Nat) (r9 : Rws) (f9 g9 : Nat) (v9 : Int32) (mb : b ∈ L) (fb : F b = mO ma mi hh) (hma : ∀ i, i < 7 → ma i ∈ L) (fp : F (ma 4) = pcE G pl) (fz : F (ma 0) = .inl (G.2 0, 89, .inl zf)) (hz0 : zf 0 = nI cu) (hc : cu ≤ 6) (hc2 : 2 ≤ cu) (hf9 : f9 < 6) (hrw : ∀ i k, i < 12 → k < 7 → zf (5 + 7 * i + k) = nI (r9 i k).val) (hR : okR r9) : CV l yX6_layOrder cX6_layOrder 4 none rm_X6_layOrder G L F [.ref b, .int (nI (101)), .int (nI (f9)), .int (v9)] (fun F1 => (∃ P9, F1 (ma 4) = pcE G P9 ∧ P9 2 = ordR 101 f9 g9 cu r9) ∧ ∀ q, q ≠ ma 4 → F1 q = F q) := by
  refine CG_of (by decide) (Nat.le_of_ble_eq_true rfl) rfl ?_
  intro p e s m args below meth c Q C0 hr hlk hnm hQ hw ls hl
  have hx := C0.x
  have hb := C0.b
  refine lv_iload_n hx hb dX6_layOrder_0 rfl (lv_at hl 1 rfl) ?_
  refine lv_tableIn (off := 131) (tgt := 132) hx hb dX6_layOrder_1 (by decide) (by decide) rfl (by decide) ?_
  refine lv_aload_n hx hb dX6_layOrder_132 rfl (lv_at hl 0 rfl) ?_
  refine lv_iload_n hx hb dX6_layOrder_133 rfl (lv_at hl 2 rfl) ?_
  refine q_callv hw (q_runV (As := [.int (nI (f9))]) (c_X6_layExp l G L F b ma mi hh pl zf cu r9 f9 mb fb hma fp fz hz0 (by omega) (by omega) (by omega) hrw) C0 hw vw_X6_153 mb fb rfl rfl rfl hl.1 rfl (Nat.le_of_ble_eq_true rfl) dX6_layOrder_134 ⟨by decide, by decide⟩ ⟨by decide, by decide⟩) rfl rfl (fun F_8332 H locs hw hp_8333 => ?_)
  obtain ⟨⟨P_8334, f_8337, r_8335, ro_8336⟩, o_8338⟩ := hp_8333
  refine lv_goto (tgt := 171) hx hb dX6_layOrder_137 (by decide) ?_
  exact r_v C0 hr hlk hw ⟨⟨_, f_8337, r_8335.trans (exp_eq (hR f9 (by omega)).1 (hR f9 (by omega)).2 hc)⟩, (fun q k0 => (o_8338 q k0))⟩ (Nat.le_refl _) (Nat.le_refl _) dX6_layOrder_171 hQ
set_option maxHeartbeats 4000000 in
set_option maxRecDepth 100000 in
theorem c_X6_layOrder_99 (l : Launch) (G : Gl) (L : List Nat) (F : Nat → va_E) (b : Nat) (ma : Nat → Nat) (mi : Nat → Int32) (hh : Int64) (pl : Nat → Nat → ZP) (zf : Nat → Int32) (cu : Nat) (r9 : Rws) (f9 g9 : Nat) (v9 : Int32) (mb : b ∈ L) (fb : F b = mO ma mi hh) (hma : ∀ i, i < 7 → ma i ∈ L) (fp : F (ma 4) = pcE G pl) (fz : F (ma 0) = .inl (G.2 0, 89, .inl zf)) (hz0 : zf 0 = nI cu) (hc : cu ≤ 6) (hc2 : 2 ≤ cu) (hf9 : f9 < 6) (hg9 : g9 < 6) (hrw : ∀ i k, i < 12 → k < 7 → zf (5 + 7 * i + k) = nI (r9 i k).val) (hR : okR r9) : CV l yX6_layOrder cX6_layOrder 4 none rm_X6_layOrder G L F [.ref b, .int (nI (99)), .int (nI (f9)), .int (nI (g9))] (fun F1 => (∃ P9, F1 (ma 4) = pcE G P9 ∧ P9 2 = ordR 99 f9 g9 cu r9) ∧ ∀ q, q ≠ ma 4 → F1 q = F q) := by
  refine CG_of (by decide) (Nat.le_of_ble_eq_true rfl) rfl ?_
  intro p e s m args below meth c Q C0 hr hlk hnm hQ hw ls hl
  have hx := C0.x
  have hb := C0.b
  refine lv_iload_n hx hb dX6_layOrder_0 rfl (lv_at hl 1 rfl) ?_
  refine lv_tableIn (off := 156) (tgt := 157) hx hb dX6_layOrder_1 (by decide) (by decide) rfl (by decide) ?_
  refine lv_aload_n hx hb dX6_layOrder_157 rfl (lv_at hl 0 rfl) ?_
  refine lv_iload_n hx hb dX6_layOrder_158 rfl (lv_at hl 2 rfl) ?_
  refine lv_iload_n hx hb dX6_layOrder_159 rfl (lv_at hl 3 rfl) ?_
  refine q_callv hw (q_runV (As := [.int (nI (f9)), .int (nI (g9))]) (c_X6_layCompose l G L F b ma mi hh pl zf cu r9 f9 g9 mb fb hma fp fz hz0 (by omega) (by omega) (by omega) (by omega) hrw) C0 hw vw_X6_156 mb fb rfl rfl rfl hl.1 rfl (Nat.le_of_ble_eq_true rfl) dX6_layOrder_160 ⟨by decide, by decide⟩ ⟨by decide, by decide⟩) rfl rfl (fun F_8339 H locs hw hp_8340 => ?_)
  obtain ⟨⟨P_8341, f_8344, r_8342, ro_8343⟩, o_8345⟩ := hp_8340
  refine lv_goto (tgt := 171) hx hb dX6_layOrder_163 (by decide) ?_
  exact r_v C0 hr hlk hw ⟨⟨_, f_8344, r_8342.trans (pi_eq _ _ _)⟩, (fun q k0 => (o_8345 q k0))⟩ (Nat.le_refl _) (Nat.le_refl _) dX6_layOrder_171 hQ
set_option maxHeartbeats 4000000 in
set_option maxRecDepth 100000 in
theorem c_X6_layOrder_105 (l : Launch) (G : Gl) (L : List Nat) (F : Nat → va_E) (b : Nat) (ma : Nat → Nat) (mi : Nat → Int32) (hh : Int64) (pl : Nat → Nat → ZP) (zf : Nat → Int32) (cu : Nat) (r9 : Rws) (f9 g9 : Nat) (v9 : Int32) (mb : b ∈ L) (fb : F b = mO ma mi hh) (hma : ∀ i, i < 7 → ma i ∈ L) (fp : F (ma 4) = pcE G pl) (fz : F (ma 0) = .inl (G.2 0, 89, .inl zf)) (hz0 : zf 0 = nI cu) (hc : cu ≤ 6) (hc2 : 2 ≤ cu) (hf9 : f9 < 6) (hrw : ∀ i k, i < 12 → k < 7 → zf (5 + 7 * i + k) = nI (r9 i k).val) (hR : okR r9) : CV l yX6_layOrder cX6_layOrder 4 none rm_X6_layOrder G L F [.ref b, .int (nI (105)), .int (nI (f9)), .int (v9)] (fun F1 => (∃ P9, F1 (ma 4) = pcE G P9 ∧ P9 2 = ordR 105 f9 g9 cu r9) ∧ ∀ q, q ≠ ma 4 → F1 q = F q) := by
  refine CG_of (by decide) (Nat.le_of_ble_eq_true rfl) rfl ?_
  intro p e s m args below meth c Q C0 hr hlk hnm hQ hw ls hl
  have hx := C0.x
  have hb := C0.b
  refine lv_iload_n hx hb dX6_layOrder_0 rfl (lv_at hl 1 rfl) ?_
  refine lv_tableIn (off := 165) (tgt := 166) hx hb dX6_layOrder_1 (by decide) (by decide) rfl (by decide) ?_
  refine lv_aload_n hx hb dX6_layOrder_166 rfl (lv_at hl 0 rfl) ?_
  refine lv_iload_n hx hb dX6_layOrder_167 rfl (lv_at hl 2 rfl) ?_
  refine q_callv hw (q_runV (As := [.int (nI (f9))]) (c_X6_layInverse l G L F b ma mi hh pl zf cu r9 f9 mb fb hma fp fz hz0 (by omega) (by omega) (by omega) hrw) C0 hw vw_X6_159 mb fb rfl rfl rfl hl.1 rfl (Nat.le_of_ble_eq_true rfl) dX6_layOrder_168 ⟨by decide, by decide⟩ ⟨by decide, by decide⟩) rfl rfl (fun F_8346 H locs hw hp_8347 => ?_)
  obtain ⟨⟨P_8348, f_8351, r_8349, ro_8350⟩, o_8352⟩ := hp_8347
  exact r_v C0 hr hlk hw ⟨⟨_, f_8351, r_8349.trans (inv_eq _ (by omega))⟩, (fun q k0 => (o_8352 q k0))⟩ (Nat.le_refl _) (Nat.le_refl _) dX6_layOrder_171 hQ
abbrev rm_X6_carries : Room := { frames := 7, cells := 0, slots := 0, locals := 162 }
set_option maxHeartbeats 4000000 in
set_option maxRecDepth 100000 in
theorem c_X6_carries_no_98 (l : Launch) (G : Gl) (L : List Nat) (F : Nat → va_E) (b : Nat) (ma : Nat → Nat) (mi : Nat → Int32) (hh : Int64) (pf zf : Nat → Int32) (pl : Nat → Nat → ZP) (i9 f9 g9 t9 : Nat) (v9 : Int32) (st : Sta) (mb : b ∈ L) (fb : F b = mO ma mi hh) (hma : ∀ i, i < 7 → ma i ∈ L) (fq : F (ma 6) = .inl (G.2 0, 52, .inl pf)) (fz : F (ma 0) = .inl (G.2 0, 89, .inl zf)) (fp : F (ma 4) = pcE G pl) (hz : zA zf st) (hS : okS st) (hi9 : i9 ≤ 12) (hf9 : f9 < 6) (hg9 : g9 < 6) (ht9 : t9 < 6) (hp0 : pf (4 * i9) = nI 98) (hp1 : pf (4 * i9 + 1) = nI f9) (hp2 : pf (4 * i9 + 2) = nI g9) (hp3 : pf (4 * i9 + 3) = nI t9) (hm : st.2.1 < 2 * st.1) : CI l yX6_carries cX6_carries 7 (some .boolean) rm_X6_carries G L F [.ref b, .int (nI (i9))] (fun r F1 => r = nI 0 ∧ ∀ q, F1 q = F q) := by
  obtain ⟨hz0, hz1, hz2, hz3, hz4⟩ := ne_z zf hz
  have hc : st.1 ≤ 6 := hS.2.1
  have hc2 : 2 ≤ st.1 := hS.1
  have hpu : st.2.1 ≤ 100000 := hS.2.2.1
  have hrw : ∀ i k, i < 12 → k < 7 → zf (5 + 7 * i + k) = nI (st.2.2.2.2.2 i k).val := hz.row
  have hR : okR st.2.2.2.2.2 := hS.2.2.2
  have hm9 : ¬ st.1 * 2 ≤ st.2.1 := by omega
  refine CG_of (by decide) (Nat.le_of_ble_eq_true rfl) rfl ?_
  intro p e s m args below meth c Q C0 hr hlk hnm hQ hw ls hl
  have hx := C0.x
  have hb := C0.b
  refine lv_iconst (v := nI 4) hx hb dX6_carries_0 (by decide) ?_
  refine lv_iload_n hx hb dX6_carries_1 rfl (lv_at hl 1 rfl) ?_
  refine n_imul hx hb dX6_carries_2 ?_
  refine lv_istore_n (lv' := [(2, .int (nI (4 * i9))), (0, .ref b), (1, .int (nI (i9)))]) hx hb dX6_carries_3 rfl hl (by decide) rfl (fun ls hl => ?_)
  refine lv_aload_n hx hb dX6_carries_4 rfl (lv_at hl 1 rfl) ?_
  refine q_get C0 hw mb fb fw_X6_28 rfl dX6_carries_5 ?_
  refine lv_iload_n hx hb dX6_carries_8 rfl (lv_at hl 0 rfl) ?_
  refine q_iald C0 hw ((hma 6 (by decide))) fq (4 * i9) (by omega) (by decide) (v := nI 98) hp0 dX6_carries_9 ?_
  refine lv_istore_n (lv' := [(3, .int (nI (98))), (2, .int (nI (4 * i9))), (0, .ref b), (1, .int (nI (i9)))]) hx hb dX6_carries_10 rfl hl (by decide) rfl (fun ls hl => ?_)
  refine lv_aload_n hx hb dX6_carries_11 rfl (lv_at hl 2 rfl) ?_
  refine lv_iload_n hx hb dX6_carries_12 rfl (lv_at hl 0 rfl) ?_
  refine q_calli hw (q_runS (As := [.int (nI (98))]) (c_X6_workOf_98 l G L F ) C0 hw sw_X6_187 rfl hl.1 rfl (Nat.le_of_ble_eq_true rfl) dX6_carries_13 ⟨by decide, by decide⟩ ⟨by decide, by decide⟩) rfl rfl (fun r_8355 F_8353 H locs hw hp_8354 => ?_)
  obtain ⟨he_8356, o_8357⟩ := hp_8354
  subst he_8356
  have f_8358 : F_8353 b = mO ma mi hh := (o_8357 b ).trans fb
  have f_8359 : F_8353 (ma 0) = .inl (G.2 0, 89, .inl zf) := (o_8357 (ma 0) ).trans fz
  refine q_calli hw (q_runV (As := [.int (nI (2))]) (c_X6_canPay l G L F_8353 b ma mi hh zf 2 st.1 st.2.1 mb f_8358 hma f_8359 hz0 hz1 hc (by omega) hpu (by omega)) C0 hw vw_X6_106 mb f_8358 rfl rfl rfl hl.1 rfl (Nat.le_of_ble_eq_true rfl) dX6_carries_16 ⟨by decide, by decide⟩ ⟨by decide, by decide⟩) rfl rfl (fun r_8362 F_8360 H locs hw hp_8361 => ?_)
  obtain ⟨he_8363, o_8364⟩ := hp_8361
  rw [if_neg hm9] at he_8363
  subst he_8363
  refine lv_istore (lv' := [(4, .int (nI (0))), (3, .int (nI (98))), (2, .int (nI (4 * i9))), (0, .ref b), (1, .int (nI (i9)))]) hx hb dX6_carries_19 hl (by decide) rfl (fun ls hl => ?_)
  refine lv_iload hx hb dX6_carries_21 (lv_at hl 0 rfl) ?_
  refine n_if_eq (tgt := 132) hx hb dX6_carries_23 (by decide) (by decide) (fun c_23 => ?_) (fun c_23 => ?_)
  · skip
    refine lv_iload hx hb dX6_carries_132 (lv_at hl 0 rfl) ?_
    exact r_i C0 hr hlk hw (v := nI 0) rfl ⟨rfl, (fun q  => ((o_8364 q ).trans (o_8357 q )))⟩ (Nat.le_refl _) (Nat.le_refl _) dX6_carries_134 hQ
  · skip
    exact absurd c_23 (by omega)
set_option maxHeartbeats 4000000 in
set_option maxRecDepth 100000 in
theorem c_X6_carries_98 (l : Launch) (G : Gl) (L : List Nat) (F : Nat → va_E) (b : Nat) (ma : Nat → Nat) (mi : Nat → Int32) (hh : Int64) (pf zf : Nat → Int32) (pl : Nat → Nat → ZP) (i9 f9 g9 t9 : Nat) (v9 : Int32) (st : Sta) (mb : b ∈ L) (fb : F b = mO ma mi hh) (hma : ∀ i, i < 7 → ma i ∈ L) (fq : F (ma 6) = .inl (G.2 0, 52, .inl pf)) (fz : F (ma 0) = .inl (G.2 0, 89, .inl zf)) (fp : F (ma 4) = pcE G pl) (hz : zA zf st) (hS : okS st) (hi9 : i9 ≤ 12) (hf9 : f9 < 6) (hg9 : g9 < 6) (ht9 : t9 < 6) (hp0 : pf (4 * i9) = nI 98) (hp1 : pf (4 * i9 + 1) = nI f9) (hp2 : pf (4 * i9 + 2) = nI g9) (hp3 : pf (4 * i9 + 3) = nI t9) (hm : 2 * st.1 ≤ st.2.1) : CI l yX6_carries cX6_carries 7 (some .boolean) rm_X6_carries G L F [.ref b, .int (nI (i9))] (fun r F1 => r = nI 1 ∧ (∃ zf1 pl1, F1 (ma 0) = .inl (G.2 0, 89, .inl zf1) ∧ zA zf1 (ordS 98 f9 g9 t9 st) ∧ F1 (ma 4) = pcE G pl1) ∧ ∀ q, q ≠ ma 0 → q ≠ ma 4 → F1 q = F q) := by
  obtain ⟨hz0, hz1, hz2, hz3, hz4⟩ := ne_z zf hz
  have hc : st.1 ≤ 6 := hS.2.1
  have hc2 : 2 ≤ st.1 := hS.1
  have hpu : st.2.1 ≤ 100000 := hS.2.2.1
  have hrw : ∀ i k, i < 12 → k < 7 → zf (5 + 7 * i + k) = nI (st.2.2.2.2.2 i k).val := hz.row
  have hR : okR st.2.2.2.2.2 := hS.2.2.2
  have hm9 :  st.1 * 2 ≤ st.2.1 := by omega
  refine CG_of (by decide) (Nat.le_of_ble_eq_true rfl) rfl ?_
  intro p e s m args below meth c Q C0 hr hlk hnm hQ hw ls hl
  have hx := C0.x
  have hb := C0.b
  refine lv_iconst (v := nI 4) hx hb dX6_carries_0 (by decide) ?_
  refine lv_iload_n hx hb dX6_carries_1 rfl (lv_at hl 1 rfl) ?_
  refine n_imul hx hb dX6_carries_2 ?_
  refine lv_istore_n (lv' := [(2, .int (nI (4 * i9))), (0, .ref b), (1, .int (nI (i9)))]) hx hb dX6_carries_3 rfl hl (by decide) rfl (fun ls hl => ?_)
  refine lv_aload_n hx hb dX6_carries_4 rfl (lv_at hl 1 rfl) ?_
  refine q_get C0 hw mb fb fw_X6_28 rfl dX6_carries_5 ?_
  refine lv_iload_n hx hb dX6_carries_8 rfl (lv_at hl 0 rfl) ?_
  refine q_iald C0 hw ((hma 6 (by decide))) fq (4 * i9) (by omega) (by decide) (v := nI 98) hp0 dX6_carries_9 ?_
  refine lv_istore_n (lv' := [(3, .int (nI (98))), (2, .int (nI (4 * i9))), (0, .ref b), (1, .int (nI (i9)))]) hx hb dX6_carries_10 rfl hl (by decide) rfl (fun ls hl => ?_)
  refine lv_aload_n hx hb dX6_carries_11 rfl (lv_at hl 2 rfl) ?_
  refine lv_iload_n hx hb dX6_carries_12 rfl (lv_at hl 0 rfl) ?_
  refine q_calli hw (q_runS (As := [.int (nI (98))]) (c_X6_workOf_98 l G L F ) C0 hw sw_X6_187 rfl hl.1 rfl (Nat.le_of_ble_eq_true rfl) dX6_carries_13 ⟨by decide, by decide⟩ ⟨by decide, by decide⟩) rfl rfl (fun r_8367 F_8365 H locs hw hp_8366 => ?_)
  obtain ⟨he_8368, o_8369⟩ := hp_8366
  subst he_8368
  have f_8370 : F_8365 b = mO ma mi hh := (o_8369 b ).trans fb
  have f_8371 : F_8365 (ma 0) = .inl (G.2 0, 89, .inl zf) := (o_8369 (ma 0) ).trans fz
  refine q_calli hw (q_runV (As := [.int (nI (2))]) (c_X6_canPay l G L F_8365 b ma mi hh zf 2 st.1 st.2.1 mb f_8370 hma f_8371 hz0 hz1 hc (by omega) hpu (by omega)) C0 hw vw_X6_106 mb f_8370 rfl rfl rfl hl.1 rfl (Nat.le_of_ble_eq_true rfl) dX6_carries_16 ⟨by decide, by decide⟩ ⟨by decide, by decide⟩) rfl rfl (fun r_8374 F_8372 H locs hw hp_8373 => ?_)
  obtain ⟨he_8375, o_8376⟩ := hp_8373
  rw [if_pos hm9] at he_8375
  subst he_8375
  refine lv_istore (lv' := [(4, .int (nI (1))), (3, .int (nI (98))), (2, .int (nI (4 * i9))), (0, .ref b), (1, .int (nI (i9)))]) hx hb dX6_carries_19 hl (by decide) rfl (fun ls hl => ?_)
  refine lv_iload hx hb dX6_carries_21 (lv_at hl 0 rfl) ?_
  refine n_if_eq (tgt := 132) hx hb dX6_carries_23 (by decide) (by decide) (fun c_23 => ?_) (fun c_23 => ?_)
  · skip
    exact absurd c_23 (by omega)
  · skip
    refine lv_aload_n hx hb dX6_carries_26 rfl (lv_at hl 3 rfl) ?_
    refine lv_iload_n hx hb dX6_carries_27 rfl (lv_at hl 1 rfl) ?_
    refine lv_aload_n hx hb dX6_carries_28 rfl (lv_at hl 3 rfl) ?_
    have f_8377 : F_8372 b = mO ma mi hh := (o_8376 b ).trans f_8370
    refine q_get C0 hw mb f_8377 fw_X6_28 rfl dX6_carries_29 ?_
    refine lv_iload_n hx hb dX6_carries_32 rfl (lv_at hl 2 rfl) ?_
    refine lv_iconst (v := nI 1) hx hb dX6_carries_33 (by decide) ?_
    refine n_iadd hx hb dX6_carries_34 ?_
    have f_8378 : F_8365 (ma 6) = .inl (G.2 0, 52, .inl pf) := (o_8369 (ma 6) ).trans fq
    have f_8379 : F_8372 (ma 6) = .inl (G.2 0, 52, .inl pf) := (o_8376 (ma 6) ).trans f_8378
    refine q_iald C0 hw ((hma 6 (by decide))) f_8379 (4 * i9 + 1) (by omega) (by decide) (v := nI (f9)) hp1 dX6_carries_35 ?_
    refine lv_aload_n hx hb dX6_carries_36 rfl (lv_at hl 3 rfl) ?_
    refine q_get C0 hw mb f_8377 fw_X6_28 rfl dX6_carries_37 ?_
    refine lv_iload_n hx hb dX6_carries_40 rfl (lv_at hl 2 rfl) ?_
    refine lv_iconst (v := nI 2) hx hb dX6_carries_41 (by decide) ?_
    refine n_iadd hx hb dX6_carries_42 ?_
    refine q_iald C0 hw ((hma 6 (by decide))) f_8379 (4 * i9 + 2) (by omega) (by decide) (v := nI (g9)) hp2 dX6_carries_43 ?_
    have f_8380 : F_8365 (ma 4) = pcE G pl := (o_8369 (ma 4) ).trans fp
    have f_8381 : F_8372 (ma 4) = pcE G pl := (o_8376 (ma 4) ).trans f_8380
    have f_8382 : F_8372 (ma 0) = .inl (G.2 0, 89, .inl zf) := (o_8376 (ma 0) ).trans f_8371
    refine q_callv hw (q_runV (As := [.int (nI (98)), .int (nI (f9)), .int (nI (g9))]) (c_X6_layOrder_98 l G L F_8372 b ma mi hh pl zf st.1 st.2.2.2.2.2 f9 g9 (nI 0) mb f_8377 hma f_8381 f_8382 hz0 (by omega) (by omega) hf9 hg9 hrw hR) C0 hw vw_X6_190 mb f_8377 rfl rfl rfl hl.1 rfl (Nat.le_of_ble_eq_true rfl) dX6_carries_44 ⟨by decide, by decide⟩ ⟨by decide, by decide⟩) rfl rfl (fun F_8383 H locs hw hp_8384 => ?_)
    obtain ⟨⟨P_8385, f_8387, r_8386⟩, o_8388⟩ := hp_8384
    refine lv_iload_n hx hb dX6_carries_47 rfl (lv_at hl 1 rfl) ?_
    refine lv_bipush (v := nI 101) hx hb dX6_carries_48 (by decide) ?_
    refine n_icmp_eq (tgt := 65) hx hb dX6_carries_50 (by decide) (by decide) (by decide) (fun c_50 => ?_) (fun c_50 => ?_)
    · skip
      exact absurd c_50 (by omega)
    · skip
      refine lv_iload_n hx hb dX6_carries_53 rfl (lv_at hl 1 rfl) ?_
      refine lv_bipush (v := nI 99) hx hb dX6_carries_54 (by decide) ?_
      refine n_icmp_eq (tgt := 65) hx hb dX6_carries_56 (by decide) (by decide) (by decide) (fun c_56 => ?_) (fun c_56 => ?_)
      · skip
        exact absurd c_56 (by omega)
      · skip
        refine lv_iload_n hx hb dX6_carries_59 rfl (lv_at hl 1 rfl) ?_
        refine lv_bipush (v := nI 105) hx hb dX6_carries_60 (by decide) ?_
        refine n_icmp_ne (tgt := 69) hx hb dX6_carries_62 (by decide) (by decide) (by decide) (fun c_62 => ?_) (fun c_62 => ?_)
        · skip
          refine lv_iconst (v := nI 0) hx hb dX6_carries_69 (by decide) ?_
          refine lv_istore (lv' := [(5, .int (nI (0))), (4, .int (nI (1))), (3, .int (nI (98))), (2, .int (nI (4 * i9))), (0, .ref b), (1, .int (nI (i9)))]) hx hb dX6_carries_70 hl (by decide) rfl (fun ls hl => ?_)
          refine lv_aload_n hx hb dX6_carries_72 rfl (lv_at hl 4 rfl) ?_
          have f_8389 : F_8383 b = mO ma mi hh := (o_8388 b (ne_oa f_8377 f_8381)).trans f_8377
          refine q_get C0 hw mb f_8389 fw_X6_7 rfl dX6_carries_73 ?_
          refine lv_iconst (v := nI 4) hx hb dX6_carries_76 (by decide) ?_
          refine lv_dup2_11 hx hb dX6_carries_77 rfl rfl ?_
          have f_8390 : F_8383 (ma 0) = .inl (G.2 0, 89, .inl zf) := (o_8388 (ma 0) (ne_aa (by decide) f_8382 f_8381)).trans f_8382
          refine q_iald C0 hw ((hma 0 (by decide))) f_8390 (4) (by omega) (by decide) (v := nI (st.2.2.2.2.1)) hz4 dX6_carries_78 ?_
          refine lv_iload_n hx hb dX6_carries_79 rfl (lv_at hl 2 rfl) ?_
          refine lv_bipush (v := nI 98) hx hb dX6_carries_80 (by decide) ?_
          refine n_icmp_ne (tgt := 89) hx hb dX6_carries_82 (by decide) (by decide) (by decide) (fun c_82 => ?_) (fun c_82 => ?_)
          · skip
            exact absurd c_82 (by omega)
          · skip
            refine lv_iconst (v := nI 1) hx hb dX6_carries_85 (by decide) ?_
            refine lv_goto (tgt := 90) hx hb dX6_carries_86 (by decide) ?_
            refine n_iadd hx hb dX6_carries_90 ?_
            refine q_iast C0 hw ((hma 0 (by decide))) f_8390 (4) (by omega) (by decide) dX6_carries_91 (fun F_8391 H locs hw f_8392 o_8393 => ?_)
            refine lv_aload_n hx hb dX6_carries_92 rfl (lv_at hl 4 rfl) ?_
            refine lv_iload_n hx hb dX6_carries_93 rfl (lv_at hl 2 rfl) ?_
            refine q_calli hw (q_runS (As := [.int (nI (98))]) (c_X6_workOf_98 l G L F_8391 ) C0 hw sw_X6_187 rfl hl.1 rfl (Nat.le_of_ble_eq_true rfl) dX6_carries_94 ⟨by decide, by decide⟩ ⟨by decide, by decide⟩) rfl rfl (fun r_8396 F_8394 H locs hw hp_8395 => ?_)
            obtain ⟨he_8397, o_8398⟩ := hp_8395
            subst he_8397
            refine lv_iload hx hb dX6_carries_97 (lv_at hl 0 rfl) ?_
            refine n_if_eq (tgt := 116) hx hb dX6_carries_99 (by decide) (by decide) (fun c_99 => ?_) (fun c_99 => ?_)
            · skip
              refine lv_aload_n hx hb dX6_carries_116 rfl (lv_at hl 4 rfl) ?_
              have f_8399 : F_8391 b = mO ma mi hh := (o_8393 b (ne_oa f_8389 f_8390)).trans f_8389
              have f_8400 : F_8394 b = mO ma mi hh := (o_8398 b ).trans f_8399
              refine q_get C0 hw mb f_8400 fw_X6_28 rfl dX6_carries_117 ?_
              refine lv_iload_n hx hb dX6_carries_120 rfl (lv_at hl 3 rfl) ?_
              refine lv_iconst (v := nI 3) hx hb dX6_carries_121 (by decide) ?_
              refine n_iadd hx hb dX6_carries_122 ?_
              have f_8401 : F_8383 (ma 6) = .inl (G.2 0, 52, .inl pf) := (o_8388 (ma 6) (ne_aa (by decide) f_8379 f_8381)).trans f_8379
              have f_8402 : F_8391 (ma 6) = .inl (G.2 0, 52, .inl pf) := (o_8393 (ma 6) (ne_aa (by decide) f_8401 f_8390)).trans f_8401
              have f_8403 : F_8394 (ma 6) = .inl (G.2 0, 52, .inl pf) := (o_8398 (ma 6) ).trans f_8402
              refine q_iald C0 hw ((hma 6 (by decide))) f_8403 (4 * i9 + 3) (by omega) (by decide) (v := nI (t9)) hp3 dX6_carries_123 ?_
              refine q_calli hw (q_runS (As := [.int (nI (t9))]) (c_X6_fieldAt l G L F_8394 t9 (by omega)) C0 hw sw_X6_109 rfl hl.1 rfl (Nat.le_of_ble_eq_true rfl) dX6_carries_124 ⟨by decide, by decide⟩ ⟨by decide, by decide⟩) rfl rfl (fun r_8406 F_8404 H locs hw hp_8405 => ?_)
              obtain ⟨he_8407, o_8408⟩ := hp_8405
              subst he_8407
              have f_8409 : F_8394 (ma 0) = .inl (G.2 0, 89, .inl (upd zf (4) (nI (st.2.2.2.2.1 + 1)))) := (o_8398 (ma 0) ).trans f_8392
              have f_8410 : F_8404 (ma 0) = .inl (G.2 0, 89, .inl (upd zf (4) (nI (st.2.2.2.2.1 + 1)))) := (o_8408 (ma 0) ).trans f_8409
              have f_8411 : F_8404 b = mO ma mi hh := (o_8408 b ).trans f_8400
              have f_8412 : F_8391 (ma 4) = pcE G P_8385 := (o_8393 (ma 4) (ne_aa (by decide) f_8387 f_8390)).trans f_8387
              have f_8413 : F_8394 (ma 4) = pcE G P_8385 := (o_8398 (ma 4) ).trans f_8412
              have f_8414 : F_8404 (ma 4) = pcE G P_8385 := (o_8408 (ma 4) ).trans f_8413
              refine q_calli hw (q_runV (As := [.int (nI (2)), .int (nI (5 + 7 * t9))]) (c_X6_pays l G L F_8404 b ma mi hh P_8385 (upd zf (4) (nI (st.2.2.2.2.1 + 1))) st.1 2 (5 + 7 * t9) st.2.1 st.2.2.1 st.2.2.2.1 mb f_8411 hma f_8414 f_8410 hz0 (by omega) (by omega) hz1 hz2 hz3 (by omega) (by omega) (by omega)) C0 hw vw_X6_103 mb f_8411 rfl rfl rfl hl.1 rfl (Nat.le_of_ble_eq_true rfl) dX6_carries_127 ⟨by decide, by decide⟩ ⟨by decide, by decide⟩) rfl rfl (fun r_8417 F_8415 H locs hw hp_8416 => ?_)
              obtain ⟨he_8418, f_8419, o_8420⟩ := hp_8416
              subst he_8418
              refine lv_istore (lv' := [(6, .int (lowR (P_8385 2))), (5, .int (nI (0))), (4, .int (nI (1))), (3, .int (nI (98))), (2, .int (nI (4 * i9))), (0, .ref b), (1, .int (nI (i9)))]) hx hb dX6_carries_130 hl (by decide) rfl (fun ls hl => ?_)
              refine lv_iload hx hb dX6_carries_132 (lv_at hl 2 rfl) ?_
              have hz_8421 := f_8419
              rw [r_8386] at hz_8421
              have f_8422 : F_8415 (ma 4) = pcE G P_8385 := (o_8420 (ma 4) (ne_aa (by decide) f_8414 f_8410)).trans f_8414
              exact r_i C0 hr hlk hw (v := nI 1) rfl ⟨rfl, ⟨_, _, hz_8421, (pyM_ok (st := (st.1, st.2.1, st.2.2.1, st.2.2.2.1, st.2.2.2.2.1, st.2.2.2.2.2)) (bk := st.2.2.2.2.1 + 1) (un := 2) (t := t9) (u := ordR 98 f9 g9 st.1 st.2.2.2.2.2) (bk_okn 1 hz) (by omega)), f_8422⟩, (fun q k0 k1 => ((o_8420 q k0).trans ((o_8408 q ).trans ((o_8398 q ).trans ((o_8393 q k0).trans ((o_8388 q k1).trans ((o_8376 q ).trans (o_8369 q ))))))))⟩ (Nat.le_refl _) (Nat.le_refl _) dX6_carries_134 hQ
            · skip
              exact absurd c_99 (by omega)
        · skip
          exact absurd c_62 (by omega)
set_option maxHeartbeats 4000000 in
set_option maxRecDepth 100000 in
theorem c_X6_carries_no_115 (l : Launch) (G : Gl) (L : List Nat) (F : Nat → va_E) (b : Nat) (ma : Nat → Nat) (mi : Nat → Int32) (hh : Int64) (pf zf : Nat → Int32) (pl : Nat → Nat → ZP) (i9 f9 g9 t9 : Nat) (v9 : Int32) (st : Sta) (mb : b ∈ L) (fb : F b = mO ma mi hh) (hma : ∀ i, i < 7 → ma i ∈ L) (fq : F (ma 6) = .inl (G.2 0, 52, .inl pf)) (fz : F (ma 0) = .inl (G.2 0, 89, .inl zf)) (fp : F (ma 4) = pcE G pl) (hz : zA zf st) (hS : okS st) (hi9 : i9 ≤ 12) (hf9 : f9 < 6) (hg9 : g9 < 6) (ht9 : t9 < 6) (hp0 : pf (4 * i9) = nI 115) (hp1 : pf (4 * i9 + 1) = nI f9) (hp2 : pf (4 * i9 + 2) = nI g9) (hp3 : pf (4 * i9 + 3) = nI t9) (hm : st.2.1 < 1 * st.1) : CI l yX6_carries cX6_carries 7 (some .boolean) rm_X6_carries G L F [.ref b, .int (nI (i9))] (fun r F1 => r = nI 0 ∧ ∀ q, F1 q = F q) := by
  obtain ⟨hz0, hz1, hz2, hz3, hz4⟩ := ne_z zf hz
  have hc : st.1 ≤ 6 := hS.2.1
  have hc2 : 2 ≤ st.1 := hS.1
  have hpu : st.2.1 ≤ 100000 := hS.2.2.1
  have hrw : ∀ i k, i < 12 → k < 7 → zf (5 + 7 * i + k) = nI (st.2.2.2.2.2 i k).val := hz.row
  have hR : okR st.2.2.2.2.2 := hS.2.2.2
  have hm9 : ¬ st.1 * 1 ≤ st.2.1 := by omega
  refine CG_of (by decide) (Nat.le_of_ble_eq_true rfl) rfl ?_
  intro p e s m args below meth c Q C0 hr hlk hnm hQ hw ls hl
  have hx := C0.x
  have hb := C0.b
  refine lv_iconst (v := nI 4) hx hb dX6_carries_0 (by decide) ?_
  refine lv_iload_n hx hb dX6_carries_1 rfl (lv_at hl 1 rfl) ?_
  refine n_imul hx hb dX6_carries_2 ?_
  refine lv_istore_n (lv' := [(2, .int (nI (4 * i9))), (0, .ref b), (1, .int (nI (i9)))]) hx hb dX6_carries_3 rfl hl (by decide) rfl (fun ls hl => ?_)
  refine lv_aload_n hx hb dX6_carries_4 rfl (lv_at hl 1 rfl) ?_
  refine q_get C0 hw mb fb fw_X6_28 rfl dX6_carries_5 ?_
  refine lv_iload_n hx hb dX6_carries_8 rfl (lv_at hl 0 rfl) ?_
  refine q_iald C0 hw ((hma 6 (by decide))) fq (4 * i9) (by omega) (by decide) (v := nI 115) hp0 dX6_carries_9 ?_
  refine lv_istore_n (lv' := [(3, .int (nI (115))), (2, .int (nI (4 * i9))), (0, .ref b), (1, .int (nI (i9)))]) hx hb dX6_carries_10 rfl hl (by decide) rfl (fun ls hl => ?_)
  refine lv_aload_n hx hb dX6_carries_11 rfl (lv_at hl 2 rfl) ?_
  refine lv_iload_n hx hb dX6_carries_12 rfl (lv_at hl 0 rfl) ?_
  refine q_calli hw (q_runS (As := [.int (nI (115))]) (c_X6_workOf_115 l G L F ) C0 hw sw_X6_187 rfl hl.1 rfl (Nat.le_of_ble_eq_true rfl) dX6_carries_13 ⟨by decide, by decide⟩ ⟨by decide, by decide⟩) rfl rfl (fun r_8425 F_8423 H locs hw hp_8424 => ?_)
  obtain ⟨he_8426, o_8427⟩ := hp_8424
  subst he_8426
  have f_8428 : F_8423 b = mO ma mi hh := (o_8427 b ).trans fb
  have f_8429 : F_8423 (ma 0) = .inl (G.2 0, 89, .inl zf) := (o_8427 (ma 0) ).trans fz
  refine q_calli hw (q_runV (As := [.int (nI (1))]) (c_X6_canPay l G L F_8423 b ma mi hh zf 1 st.1 st.2.1 mb f_8428 hma f_8429 hz0 hz1 hc (by omega) hpu (by omega)) C0 hw vw_X6_106 mb f_8428 rfl rfl rfl hl.1 rfl (Nat.le_of_ble_eq_true rfl) dX6_carries_16 ⟨by decide, by decide⟩ ⟨by decide, by decide⟩) rfl rfl (fun r_8432 F_8430 H locs hw hp_8431 => ?_)
  obtain ⟨he_8433, o_8434⟩ := hp_8431
  rw [if_neg hm9] at he_8433
  subst he_8433
  refine lv_istore (lv' := [(4, .int (nI (0))), (3, .int (nI (115))), (2, .int (nI (4 * i9))), (0, .ref b), (1, .int (nI (i9)))]) hx hb dX6_carries_19 hl (by decide) rfl (fun ls hl => ?_)
  refine lv_iload hx hb dX6_carries_21 (lv_at hl 0 rfl) ?_
  refine n_if_eq (tgt := 132) hx hb dX6_carries_23 (by decide) (by decide) (fun c_23 => ?_) (fun c_23 => ?_)
  · skip
    refine lv_iload hx hb dX6_carries_132 (lv_at hl 0 rfl) ?_
    exact r_i C0 hr hlk hw (v := nI 0) rfl ⟨rfl, (fun q  => ((o_8434 q ).trans (o_8427 q )))⟩ (Nat.le_refl _) (Nat.le_refl _) dX6_carries_134 hQ
  · skip
    exact absurd c_23 (by omega)
set_option maxHeartbeats 4000000 in
set_option maxRecDepth 100000 in
theorem c_X6_carries_115 (l : Launch) (G : Gl) (L : List Nat) (F : Nat → va_E) (b : Nat) (ma : Nat → Nat) (mi : Nat → Int32) (hh : Int64) (pf zf : Nat → Int32) (pl : Nat → Nat → ZP) (i9 f9 g9 t9 : Nat) (v9 : Int32) (st : Sta) (mb : b ∈ L) (fb : F b = mO ma mi hh) (hma : ∀ i, i < 7 → ma i ∈ L) (fq : F (ma 6) = .inl (G.2 0, 52, .inl pf)) (fz : F (ma 0) = .inl (G.2 0, 89, .inl zf)) (fp : F (ma 4) = pcE G pl) (hz : zA zf st) (hS : okS st) (hi9 : i9 ≤ 12) (hf9 : f9 < 6) (hg9 : g9 < 6) (ht9 : t9 < 6) (hp0 : pf (4 * i9) = nI 115) (hp1 : pf (4 * i9 + 1) = nI f9) (hp2 : pf (4 * i9 + 2) = nI g9) (hp3 : pf (4 * i9 + 3) = nI t9) (hm : 1 * st.1 ≤ st.2.1) : CI l yX6_carries cX6_carries 7 (some .boolean) rm_X6_carries G L F [.ref b, .int (nI (i9))] (fun r F1 => r = nI 1 ∧ (∃ zf1 pl1, F1 (ma 0) = .inl (G.2 0, 89, .inl zf1) ∧ zA zf1 (ordS 115 f9 g9 t9 st) ∧ F1 (ma 4) = pcE G pl1) ∧ ∀ q, q ≠ ma 0 → q ≠ ma 4 → F1 q = F q) := by
  obtain ⟨hz0, hz1, hz2, hz3, hz4⟩ := ne_z zf hz
  have hc : st.1 ≤ 6 := hS.2.1
  have hc2 : 2 ≤ st.1 := hS.1
  have hpu : st.2.1 ≤ 100000 := hS.2.2.1
  have hrw : ∀ i k, i < 12 → k < 7 → zf (5 + 7 * i + k) = nI (st.2.2.2.2.2 i k).val := hz.row
  have hR : okR st.2.2.2.2.2 := hS.2.2.2
  have hm9 :  st.1 * 1 ≤ st.2.1 := by omega
  refine CG_of (by decide) (Nat.le_of_ble_eq_true rfl) rfl ?_
  intro p e s m args below meth c Q C0 hr hlk hnm hQ hw ls hl
  have hx := C0.x
  have hb := C0.b
  refine lv_iconst (v := nI 4) hx hb dX6_carries_0 (by decide) ?_
  refine lv_iload_n hx hb dX6_carries_1 rfl (lv_at hl 1 rfl) ?_
  refine n_imul hx hb dX6_carries_2 ?_
  refine lv_istore_n (lv' := [(2, .int (nI (4 * i9))), (0, .ref b), (1, .int (nI (i9)))]) hx hb dX6_carries_3 rfl hl (by decide) rfl (fun ls hl => ?_)
  refine lv_aload_n hx hb dX6_carries_4 rfl (lv_at hl 1 rfl) ?_
  refine q_get C0 hw mb fb fw_X6_28 rfl dX6_carries_5 ?_
  refine lv_iload_n hx hb dX6_carries_8 rfl (lv_at hl 0 rfl) ?_
  refine q_iald C0 hw ((hma 6 (by decide))) fq (4 * i9) (by omega) (by decide) (v := nI 115) hp0 dX6_carries_9 ?_
  refine lv_istore_n (lv' := [(3, .int (nI (115))), (2, .int (nI (4 * i9))), (0, .ref b), (1, .int (nI (i9)))]) hx hb dX6_carries_10 rfl hl (by decide) rfl (fun ls hl => ?_)
  refine lv_aload_n hx hb dX6_carries_11 rfl (lv_at hl 2 rfl) ?_
  refine lv_iload_n hx hb dX6_carries_12 rfl (lv_at hl 0 rfl) ?_
  refine q_calli hw (q_runS (As := [.int (nI (115))]) (c_X6_workOf_115 l G L F ) C0 hw sw_X6_187 rfl hl.1 rfl (Nat.le_of_ble_eq_true rfl) dX6_carries_13 ⟨by decide, by decide⟩ ⟨by decide, by decide⟩) rfl rfl (fun r_8437 F_8435 H locs hw hp_8436 => ?_)
  obtain ⟨he_8438, o_8439⟩ := hp_8436
  subst he_8438
  have f_8440 : F_8435 b = mO ma mi hh := (o_8439 b ).trans fb
  have f_8441 : F_8435 (ma 0) = .inl (G.2 0, 89, .inl zf) := (o_8439 (ma 0) ).trans fz
  refine q_calli hw (q_runV (As := [.int (nI (1))]) (c_X6_canPay l G L F_8435 b ma mi hh zf 1 st.1 st.2.1 mb f_8440 hma f_8441 hz0 hz1 hc (by omega) hpu (by omega)) C0 hw vw_X6_106 mb f_8440 rfl rfl rfl hl.1 rfl (Nat.le_of_ble_eq_true rfl) dX6_carries_16 ⟨by decide, by decide⟩ ⟨by decide, by decide⟩) rfl rfl (fun r_8444 F_8442 H locs hw hp_8443 => ?_)
  obtain ⟨he_8445, o_8446⟩ := hp_8443
  rw [if_pos hm9] at he_8445
  subst he_8445
  refine lv_istore (lv' := [(4, .int (nI (1))), (3, .int (nI (115))), (2, .int (nI (4 * i9))), (0, .ref b), (1, .int (nI (i9)))]) hx hb dX6_carries_19 hl (by decide) rfl (fun ls hl => ?_)
  refine lv_iload hx hb dX6_carries_21 (lv_at hl 0 rfl) ?_
  refine n_if_eq (tgt := 132) hx hb dX6_carries_23 (by decide) (by decide) (fun c_23 => ?_) (fun c_23 => ?_)
  · skip
    exact absurd c_23 (by omega)
  · skip
    refine lv_aload_n hx hb dX6_carries_26 rfl (lv_at hl 3 rfl) ?_
    refine lv_iload_n hx hb dX6_carries_27 rfl (lv_at hl 1 rfl) ?_
    refine lv_aload_n hx hb dX6_carries_28 rfl (lv_at hl 3 rfl) ?_
    have f_8447 : F_8442 b = mO ma mi hh := (o_8446 b ).trans f_8440
    refine q_get C0 hw mb f_8447 fw_X6_28 rfl dX6_carries_29 ?_
    refine lv_iload_n hx hb dX6_carries_32 rfl (lv_at hl 2 rfl) ?_
    refine lv_iconst (v := nI 1) hx hb dX6_carries_33 (by decide) ?_
    refine n_iadd hx hb dX6_carries_34 ?_
    have f_8448 : F_8435 (ma 6) = .inl (G.2 0, 52, .inl pf) := (o_8439 (ma 6) ).trans fq
    have f_8449 : F_8442 (ma 6) = .inl (G.2 0, 52, .inl pf) := (o_8446 (ma 6) ).trans f_8448
    refine q_iald C0 hw ((hma 6 (by decide))) f_8449 (4 * i9 + 1) (by omega) (by decide) (v := nI (f9)) hp1 dX6_carries_35 ?_
    refine lv_aload_n hx hb dX6_carries_36 rfl (lv_at hl 3 rfl) ?_
    refine q_get C0 hw mb f_8447 fw_X6_28 rfl dX6_carries_37 ?_
    refine lv_iload_n hx hb dX6_carries_40 rfl (lv_at hl 2 rfl) ?_
    refine lv_iconst (v := nI 2) hx hb dX6_carries_41 (by decide) ?_
    refine n_iadd hx hb dX6_carries_42 ?_
    refine q_iald C0 hw ((hma 6 (by decide))) f_8449 (4 * i9 + 2) (by omega) (by decide) (v := nI (g9)) hp2 dX6_carries_43 ?_
    have f_8450 : F_8435 (ma 4) = pcE G pl := (o_8439 (ma 4) ).trans fp
    have f_8451 : F_8442 (ma 4) = pcE G pl := (o_8446 (ma 4) ).trans f_8450
    have f_8452 : F_8442 (ma 0) = .inl (G.2 0, 89, .inl zf) := (o_8446 (ma 0) ).trans f_8441
    refine q_callv hw (q_runV (As := [.int (nI (115)), .int (nI (f9)), .int (nI (g9))]) (c_X6_layOrder_115 l G L F_8442 b ma mi hh pl zf st.1 st.2.2.2.2.2 f9 g9 (nI 0) mb f_8447 hma f_8451 f_8452 hz0 (by omega) (by omega) hf9 hg9 hrw hR) C0 hw vw_X6_190 mb f_8447 rfl rfl rfl hl.1 rfl (Nat.le_of_ble_eq_true rfl) dX6_carries_44 ⟨by decide, by decide⟩ ⟨by decide, by decide⟩) rfl rfl (fun F_8453 H locs hw hp_8454 => ?_)
    obtain ⟨⟨P_8455, f_8457, r_8456⟩, o_8458⟩ := hp_8454
    refine lv_iload_n hx hb dX6_carries_47 rfl (lv_at hl 1 rfl) ?_
    refine lv_bipush (v := nI 101) hx hb dX6_carries_48 (by decide) ?_
    refine n_icmp_eq (tgt := 65) hx hb dX6_carries_50 (by decide) (by decide) (by decide) (fun c_50 => ?_) (fun c_50 => ?_)
    · skip
      exact absurd c_50 (by omega)
    · skip
      refine lv_iload_n hx hb dX6_carries_53 rfl (lv_at hl 1 rfl) ?_
      refine lv_bipush (v := nI 99) hx hb dX6_carries_54 (by decide) ?_
      refine n_icmp_eq (tgt := 65) hx hb dX6_carries_56 (by decide) (by decide) (by decide) (fun c_56 => ?_) (fun c_56 => ?_)
      · skip
        exact absurd c_56 (by omega)
      · skip
        refine lv_iload_n hx hb dX6_carries_59 rfl (lv_at hl 1 rfl) ?_
        refine lv_bipush (v := nI 105) hx hb dX6_carries_60 (by decide) ?_
        refine n_icmp_ne (tgt := 69) hx hb dX6_carries_62 (by decide) (by decide) (by decide) (fun c_62 => ?_) (fun c_62 => ?_)
        · skip
          refine lv_iconst (v := nI 0) hx hb dX6_carries_69 (by decide) ?_
          refine lv_istore (lv' := [(5, .int (nI (0))), (4, .int (nI (1))), (3, .int (nI (115))), (2, .int (nI (4 * i9))), (0, .ref b), (1, .int (nI (i9)))]) hx hb dX6_carries_70 hl (by decide) rfl (fun ls hl => ?_)
          refine lv_aload_n hx hb dX6_carries_72 rfl (lv_at hl 4 rfl) ?_
          have f_8459 : F_8453 b = mO ma mi hh := (o_8458 b (ne_oa f_8447 f_8451)).trans f_8447
          refine q_get C0 hw mb f_8459 fw_X6_7 rfl dX6_carries_73 ?_
          refine lv_iconst (v := nI 4) hx hb dX6_carries_76 (by decide) ?_
          refine lv_dup2_11 hx hb dX6_carries_77 rfl rfl ?_
          have f_8460 : F_8453 (ma 0) = .inl (G.2 0, 89, .inl zf) := (o_8458 (ma 0) (ne_aa (by decide) f_8452 f_8451)).trans f_8452
          refine q_iald C0 hw ((hma 0 (by decide))) f_8460 (4) (by omega) (by decide) (v := nI (st.2.2.2.2.1)) hz4 dX6_carries_78 ?_
          refine lv_iload_n hx hb dX6_carries_79 rfl (lv_at hl 2 rfl) ?_
          refine lv_bipush (v := nI 98) hx hb dX6_carries_80 (by decide) ?_
          refine n_icmp_ne (tgt := 89) hx hb dX6_carries_82 (by decide) (by decide) (by decide) (fun c_82 => ?_) (fun c_82 => ?_)
          · skip
            refine lv_iconst (v := nI 0) hx hb dX6_carries_89 (by decide) ?_
            refine n_iadd hx hb dX6_carries_90 ?_
            refine q_iast C0 hw ((hma 0 (by decide))) f_8460 (4) (by omega) (by decide) dX6_carries_91 (fun F_8461 H locs hw f_8462 o_8463 => ?_)
            refine lv_aload_n hx hb dX6_carries_92 rfl (lv_at hl 4 rfl) ?_
            refine lv_iload_n hx hb dX6_carries_93 rfl (lv_at hl 2 rfl) ?_
            refine q_calli hw (q_runS (As := [.int (nI (115))]) (c_X6_workOf_115 l G L F_8461 ) C0 hw sw_X6_187 rfl hl.1 rfl (Nat.le_of_ble_eq_true rfl) dX6_carries_94 ⟨by decide, by decide⟩ ⟨by decide, by decide⟩) rfl rfl (fun r_8466 F_8464 H locs hw hp_8465 => ?_)
            obtain ⟨he_8467, o_8468⟩ := hp_8465
            subst he_8467
            refine lv_iload hx hb dX6_carries_97 (lv_at hl 0 rfl) ?_
            refine n_if_eq (tgt := 116) hx hb dX6_carries_99 (by decide) (by decide) (fun c_99 => ?_) (fun c_99 => ?_)
            · skip
              refine lv_aload_n hx hb dX6_carries_116 rfl (lv_at hl 4 rfl) ?_
              have f_8469 : F_8461 b = mO ma mi hh := (o_8463 b (ne_oa f_8459 f_8460)).trans f_8459
              have f_8470 : F_8464 b = mO ma mi hh := (o_8468 b ).trans f_8469
              refine q_get C0 hw mb f_8470 fw_X6_28 rfl dX6_carries_117 ?_
              refine lv_iload_n hx hb dX6_carries_120 rfl (lv_at hl 3 rfl) ?_
              refine lv_iconst (v := nI 3) hx hb dX6_carries_121 (by decide) ?_
              refine n_iadd hx hb dX6_carries_122 ?_
              have f_8471 : F_8453 (ma 6) = .inl (G.2 0, 52, .inl pf) := (o_8458 (ma 6) (ne_aa (by decide) f_8449 f_8451)).trans f_8449
              have f_8472 : F_8461 (ma 6) = .inl (G.2 0, 52, .inl pf) := (o_8463 (ma 6) (ne_aa (by decide) f_8471 f_8460)).trans f_8471
              have f_8473 : F_8464 (ma 6) = .inl (G.2 0, 52, .inl pf) := (o_8468 (ma 6) ).trans f_8472
              refine q_iald C0 hw ((hma 6 (by decide))) f_8473 (4 * i9 + 3) (by omega) (by decide) (v := nI (t9)) hp3 dX6_carries_123 ?_
              refine q_calli hw (q_runS (As := [.int (nI (t9))]) (c_X6_fieldAt l G L F_8464 t9 (by omega)) C0 hw sw_X6_109 rfl hl.1 rfl (Nat.le_of_ble_eq_true rfl) dX6_carries_124 ⟨by decide, by decide⟩ ⟨by decide, by decide⟩) rfl rfl (fun r_8476 F_8474 H locs hw hp_8475 => ?_)
              obtain ⟨he_8477, o_8478⟩ := hp_8475
              subst he_8477
              have f_8479 : F_8464 (ma 0) = .inl (G.2 0, 89, .inl (upd zf (4) (nI (st.2.2.2.2.1 + 0)))) := (o_8468 (ma 0) ).trans f_8462
              have f_8480 : F_8474 (ma 0) = .inl (G.2 0, 89, .inl (upd zf (4) (nI (st.2.2.2.2.1 + 0)))) := (o_8478 (ma 0) ).trans f_8479
              have f_8481 : F_8474 b = mO ma mi hh := (o_8478 b ).trans f_8470
              have f_8482 : F_8461 (ma 4) = pcE G P_8455 := (o_8463 (ma 4) (ne_aa (by decide) f_8457 f_8460)).trans f_8457
              have f_8483 : F_8464 (ma 4) = pcE G P_8455 := (o_8468 (ma 4) ).trans f_8482
              have f_8484 : F_8474 (ma 4) = pcE G P_8455 := (o_8478 (ma 4) ).trans f_8483
              refine q_calli hw (q_runV (As := [.int (nI (1)), .int (nI (5 + 7 * t9))]) (c_X6_pays l G L F_8474 b ma mi hh P_8455 (upd zf (4) (nI (st.2.2.2.2.1 + 0))) st.1 1 (5 + 7 * t9) st.2.1 st.2.2.1 st.2.2.2.1 mb f_8481 hma f_8484 f_8480 hz0 (by omega) (by omega) hz1 hz2 hz3 (by omega) (by omega) (by omega)) C0 hw vw_X6_103 mb f_8481 rfl rfl rfl hl.1 rfl (Nat.le_of_ble_eq_true rfl) dX6_carries_127 ⟨by decide, by decide⟩ ⟨by decide, by decide⟩) rfl rfl (fun r_8487 F_8485 H locs hw hp_8486 => ?_)
              obtain ⟨he_8488, f_8489, o_8490⟩ := hp_8486
              subst he_8488
              refine lv_istore (lv' := [(6, .int (lowR (P_8455 2))), (5, .int (nI (0))), (4, .int (nI (1))), (3, .int (nI (115))), (2, .int (nI (4 * i9))), (0, .ref b), (1, .int (nI (i9)))]) hx hb dX6_carries_130 hl (by decide) rfl (fun ls hl => ?_)
              refine lv_iload hx hb dX6_carries_132 (lv_at hl 2 rfl) ?_
              have hz_8491 := f_8489
              rw [r_8456] at hz_8491
              have f_8492 : F_8485 (ma 4) = pcE G P_8455 := (o_8490 (ma 4) (ne_aa (by decide) f_8484 f_8480)).trans f_8484
              exact r_i C0 hr hlk hw (v := nI 1) rfl ⟨rfl, ⟨_, _, hz_8491, (pyM_ok (st := (st.1, st.2.1, st.2.2.1, st.2.2.2.1, st.2.2.2.2.1, st.2.2.2.2.2)) (bk := st.2.2.2.2.1 + 0) (un := 1) (t := t9) (u := ordR 115 f9 g9 st.1 st.2.2.2.2.2) (bk_okn 0 hz) (by omega)), f_8492⟩, (fun q k0 k1 => ((o_8490 q k0).trans ((o_8478 q ).trans ((o_8468 q ).trans ((o_8463 q k0).trans ((o_8458 q k1).trans ((o_8446 q ).trans (o_8439 q ))))))))⟩ (Nat.le_refl _) (Nat.le_refl _) dX6_carries_134 hQ
            · skip
              exact absurd c_99 (by omega)
          · skip
            exact absurd c_82 (by omega)
        · skip
          exact absurd c_62 (by omega)
set_option maxHeartbeats 4000000 in
set_option maxRecDepth 100000 in
theorem c_X6_carries_no_119 (l : Launch) (G : Gl) (L : List Nat) (F : Nat → va_E) (b : Nat) (ma : Nat → Nat) (mi : Nat → Int32) (hh : Int64) (pf zf : Nat → Int32) (pl : Nat → Nat → ZP) (i9 f9 g9 t9 : Nat) (v9 : Int32) (st : Sta) (mb : b ∈ L) (fb : F b = mO ma mi hh) (hma : ∀ i, i < 7 → ma i ∈ L) (fq : F (ma 6) = .inl (G.2 0, 52, .inl pf)) (fz : F (ma 0) = .inl (G.2 0, 89, .inl zf)) (fp : F (ma 4) = pcE G pl) (hz : zA zf st) (hS : okS st) (hi9 : i9 ≤ 12) (hf9 : f9 < 6) (hg9 : g9 < 6) (ht9 : t9 < 6) (hp0 : pf (4 * i9) = nI 119) (hp1 : pf (4 * i9 + 1) = nI f9) (hp2 : pf (4 * i9 + 2) = nI g9) (hp3 : pf (4 * i9 + 3) = nI t9) (hm : st.2.1 < 20 * st.1) : CI l yX6_carries cX6_carries 7 (some .boolean) rm_X6_carries G L F [.ref b, .int (nI (i9))] (fun r F1 => r = nI 0 ∧ ∀ q, F1 q = F q) := by
  obtain ⟨hz0, hz1, hz2, hz3, hz4⟩ := ne_z zf hz
  have hc : st.1 ≤ 6 := hS.2.1
  have hc2 : 2 ≤ st.1 := hS.1
  have hpu : st.2.1 ≤ 100000 := hS.2.2.1
  have hrw : ∀ i k, i < 12 → k < 7 → zf (5 + 7 * i + k) = nI (st.2.2.2.2.2 i k).val := hz.row
  have hR : okR st.2.2.2.2.2 := hS.2.2.2
  have hm9 : ¬ st.1 * 20 ≤ st.2.1 := by omega
  refine CG_of (by decide) (Nat.le_of_ble_eq_true rfl) rfl ?_
  intro p e s m args below meth c Q C0 hr hlk hnm hQ hw ls hl
  have hx := C0.x
  have hb := C0.b
  refine lv_iconst (v := nI 4) hx hb dX6_carries_0 (by decide) ?_
  refine lv_iload_n hx hb dX6_carries_1 rfl (lv_at hl 1 rfl) ?_
  refine n_imul hx hb dX6_carries_2 ?_
  refine lv_istore_n (lv' := [(2, .int (nI (4 * i9))), (0, .ref b), (1, .int (nI (i9)))]) hx hb dX6_carries_3 rfl hl (by decide) rfl (fun ls hl => ?_)
  refine lv_aload_n hx hb dX6_carries_4 rfl (lv_at hl 1 rfl) ?_
  refine q_get C0 hw mb fb fw_X6_28 rfl dX6_carries_5 ?_
  refine lv_iload_n hx hb dX6_carries_8 rfl (lv_at hl 0 rfl) ?_
  refine q_iald C0 hw ((hma 6 (by decide))) fq (4 * i9) (by omega) (by decide) (v := nI 119) hp0 dX6_carries_9 ?_
  refine lv_istore_n (lv' := [(3, .int (nI (119))), (2, .int (nI (4 * i9))), (0, .ref b), (1, .int (nI (i9)))]) hx hb dX6_carries_10 rfl hl (by decide) rfl (fun ls hl => ?_)
  refine lv_aload_n hx hb dX6_carries_11 rfl (lv_at hl 2 rfl) ?_
  refine lv_iload_n hx hb dX6_carries_12 rfl (lv_at hl 0 rfl) ?_
  refine q_calli hw (q_runS (As := [.int (nI (119))]) (c_X6_workOf_119 l G L F ) C0 hw sw_X6_187 rfl hl.1 rfl (Nat.le_of_ble_eq_true rfl) dX6_carries_13 ⟨by decide, by decide⟩ ⟨by decide, by decide⟩) rfl rfl (fun r_8495 F_8493 H locs hw hp_8494 => ?_)
  obtain ⟨he_8496, o_8497⟩ := hp_8494
  subst he_8496
  have f_8498 : F_8493 b = mO ma mi hh := (o_8497 b ).trans fb
  have f_8499 : F_8493 (ma 0) = .inl (G.2 0, 89, .inl zf) := (o_8497 (ma 0) ).trans fz
  refine q_calli hw (q_runV (As := [.int (nI (20))]) (c_X6_canPay l G L F_8493 b ma mi hh zf 20 st.1 st.2.1 mb f_8498 hma f_8499 hz0 hz1 hc (by omega) hpu (by omega)) C0 hw vw_X6_106 mb f_8498 rfl rfl rfl hl.1 rfl (Nat.le_of_ble_eq_true rfl) dX6_carries_16 ⟨by decide, by decide⟩ ⟨by decide, by decide⟩) rfl rfl (fun r_8502 F_8500 H locs hw hp_8501 => ?_)
  obtain ⟨he_8503, o_8504⟩ := hp_8501
  rw [if_neg hm9] at he_8503
  subst he_8503
  refine lv_istore (lv' := [(4, .int (nI (0))), (3, .int (nI (119))), (2, .int (nI (4 * i9))), (0, .ref b), (1, .int (nI (i9)))]) hx hb dX6_carries_19 hl (by decide) rfl (fun ls hl => ?_)
  refine lv_iload hx hb dX6_carries_21 (lv_at hl 0 rfl) ?_
  refine n_if_eq (tgt := 132) hx hb dX6_carries_23 (by decide) (by decide) (fun c_23 => ?_) (fun c_23 => ?_)
  · skip
    refine lv_iload hx hb dX6_carries_132 (lv_at hl 0 rfl) ?_
    exact r_i C0 hr hlk hw (v := nI 0) rfl ⟨rfl, (fun q  => ((o_8504 q ).trans (o_8497 q )))⟩ (Nat.le_refl _) (Nat.le_refl _) dX6_carries_134 hQ
  · skip
    exact absurd c_23 (by omega)
set_option maxHeartbeats 4000000 in
set_option maxRecDepth 100000 in
theorem c_X6_carries_119 (l : Launch) (G : Gl) (L : List Nat) (F : Nat → va_E) (b : Nat) (ma : Nat → Nat) (mi : Nat → Int32) (hh : Int64) (pf zf : Nat → Int32) (pl : Nat → Nat → ZP) (i9 f9 g9 t9 : Nat) (v9 : Int32) (st : Sta) (mb : b ∈ L) (fb : F b = mO ma mi hh) (hma : ∀ i, i < 7 → ma i ∈ L) (fq : F (ma 6) = .inl (G.2 0, 52, .inl pf)) (fz : F (ma 0) = .inl (G.2 0, 89, .inl zf)) (fp : F (ma 4) = pcE G pl) (hz : zA zf st) (hS : okS st) (hi9 : i9 ≤ 12) (hf9 : f9 < 6) (hg9 : g9 < 6) (ht9 : t9 < 6) (hp0 : pf (4 * i9) = nI 119) (hp1 : pf (4 * i9 + 1) = nI f9) (hp2 : pf (4 * i9 + 2) = nI g9) (hp3 : pf (4 * i9 + 3) = nI t9) (hm : 20 * st.1 ≤ st.2.1) : CI l yX6_carries cX6_carries 7 (some .boolean) rm_X6_carries G L F [.ref b, .int (nI (i9))] (fun r F1 => r = nI 1 ∧ (∃ zf1 pl1, F1 (ma 0) = .inl (G.2 0, 89, .inl zf1) ∧ zA zf1 (ordS 119 f9 g9 t9 st) ∧ F1 (ma 4) = pcE G pl1) ∧ ∀ q, q ≠ ma 0 → q ≠ ma 4 → F1 q = F q) := by
  obtain ⟨hz0, hz1, hz2, hz3, hz4⟩ := ne_z zf hz
  have hc : st.1 ≤ 6 := hS.2.1
  have hc2 : 2 ≤ st.1 := hS.1
  have hpu : st.2.1 ≤ 100000 := hS.2.2.1
  have hrw : ∀ i k, i < 12 → k < 7 → zf (5 + 7 * i + k) = nI (st.2.2.2.2.2 i k).val := hz.row
  have hR : okR st.2.2.2.2.2 := hS.2.2.2
  have hm9 :  st.1 * 20 ≤ st.2.1 := by omega
  refine CG_of (by decide) (Nat.le_of_ble_eq_true rfl) rfl ?_
  intro p e s m args below meth c Q C0 hr hlk hnm hQ hw ls hl
  have hx := C0.x
  have hb := C0.b
  refine lv_iconst (v := nI 4) hx hb dX6_carries_0 (by decide) ?_
  refine lv_iload_n hx hb dX6_carries_1 rfl (lv_at hl 1 rfl) ?_
  refine n_imul hx hb dX6_carries_2 ?_
  refine lv_istore_n (lv' := [(2, .int (nI (4 * i9))), (0, .ref b), (1, .int (nI (i9)))]) hx hb dX6_carries_3 rfl hl (by decide) rfl (fun ls hl => ?_)
  refine lv_aload_n hx hb dX6_carries_4 rfl (lv_at hl 1 rfl) ?_
  refine q_get C0 hw mb fb fw_X6_28 rfl dX6_carries_5 ?_
  refine lv_iload_n hx hb dX6_carries_8 rfl (lv_at hl 0 rfl) ?_
  refine q_iald C0 hw ((hma 6 (by decide))) fq (4 * i9) (by omega) (by decide) (v := nI 119) hp0 dX6_carries_9 ?_
  refine lv_istore_n (lv' := [(3, .int (nI (119))), (2, .int (nI (4 * i9))), (0, .ref b), (1, .int (nI (i9)))]) hx hb dX6_carries_10 rfl hl (by decide) rfl (fun ls hl => ?_)
  refine lv_aload_n hx hb dX6_carries_11 rfl (lv_at hl 2 rfl) ?_
  refine lv_iload_n hx hb dX6_carries_12 rfl (lv_at hl 0 rfl) ?_
  refine q_calli hw (q_runS (As := [.int (nI (119))]) (c_X6_workOf_119 l G L F ) C0 hw sw_X6_187 rfl hl.1 rfl (Nat.le_of_ble_eq_true rfl) dX6_carries_13 ⟨by decide, by decide⟩ ⟨by decide, by decide⟩) rfl rfl (fun r_8507 F_8505 H locs hw hp_8506 => ?_)
  obtain ⟨he_8508, o_8509⟩ := hp_8506
  subst he_8508
  have f_8510 : F_8505 b = mO ma mi hh := (o_8509 b ).trans fb
  have f_8511 : F_8505 (ma 0) = .inl (G.2 0, 89, .inl zf) := (o_8509 (ma 0) ).trans fz
  refine q_calli hw (q_runV (As := [.int (nI (20))]) (c_X6_canPay l G L F_8505 b ma mi hh zf 20 st.1 st.2.1 mb f_8510 hma f_8511 hz0 hz1 hc (by omega) hpu (by omega)) C0 hw vw_X6_106 mb f_8510 rfl rfl rfl hl.1 rfl (Nat.le_of_ble_eq_true rfl) dX6_carries_16 ⟨by decide, by decide⟩ ⟨by decide, by decide⟩) rfl rfl (fun r_8514 F_8512 H locs hw hp_8513 => ?_)
  obtain ⟨he_8515, o_8516⟩ := hp_8513
  rw [if_pos hm9] at he_8515
  subst he_8515
  refine lv_istore (lv' := [(4, .int (nI (1))), (3, .int (nI (119))), (2, .int (nI (4 * i9))), (0, .ref b), (1, .int (nI (i9)))]) hx hb dX6_carries_19 hl (by decide) rfl (fun ls hl => ?_)
  refine lv_iload hx hb dX6_carries_21 (lv_at hl 0 rfl) ?_
  refine n_if_eq (tgt := 132) hx hb dX6_carries_23 (by decide) (by decide) (fun c_23 => ?_) (fun c_23 => ?_)
  · skip
    exact absurd c_23 (by omega)
  · skip
    refine lv_aload_n hx hb dX6_carries_26 rfl (lv_at hl 3 rfl) ?_
    refine lv_iload_n hx hb dX6_carries_27 rfl (lv_at hl 1 rfl) ?_
    refine lv_aload_n hx hb dX6_carries_28 rfl (lv_at hl 3 rfl) ?_
    have f_8517 : F_8512 b = mO ma mi hh := (o_8516 b ).trans f_8510
    refine q_get C0 hw mb f_8517 fw_X6_28 rfl dX6_carries_29 ?_
    refine lv_iload_n hx hb dX6_carries_32 rfl (lv_at hl 2 rfl) ?_
    refine lv_iconst (v := nI 1) hx hb dX6_carries_33 (by decide) ?_
    refine n_iadd hx hb dX6_carries_34 ?_
    have f_8518 : F_8505 (ma 6) = .inl (G.2 0, 52, .inl pf) := (o_8509 (ma 6) ).trans fq
    have f_8519 : F_8512 (ma 6) = .inl (G.2 0, 52, .inl pf) := (o_8516 (ma 6) ).trans f_8518
    refine q_iald C0 hw ((hma 6 (by decide))) f_8519 (4 * i9 + 1) (by omega) (by decide) (v := nI (f9)) hp1 dX6_carries_35 ?_
    refine lv_aload_n hx hb dX6_carries_36 rfl (lv_at hl 3 rfl) ?_
    refine q_get C0 hw mb f_8517 fw_X6_28 rfl dX6_carries_37 ?_
    refine lv_iload_n hx hb dX6_carries_40 rfl (lv_at hl 2 rfl) ?_
    refine lv_iconst (v := nI 2) hx hb dX6_carries_41 (by decide) ?_
    refine n_iadd hx hb dX6_carries_42 ?_
    refine q_iald C0 hw ((hma 6 (by decide))) f_8519 (4 * i9 + 2) (by omega) (by decide) (v := nI (g9)) hp2 dX6_carries_43 ?_
    have f_8520 : F_8505 (ma 4) = pcE G pl := (o_8509 (ma 4) ).trans fp
    have f_8521 : F_8512 (ma 4) = pcE G pl := (o_8516 (ma 4) ).trans f_8520
    have f_8522 : F_8512 (ma 0) = .inl (G.2 0, 89, .inl zf) := (o_8516 (ma 0) ).trans f_8511
    refine q_callv hw (q_runV (As := [.int (nI (119)), .int (nI (f9)), .int (nI (g9))]) (c_X6_layOrder_119 l G L F_8512 b ma mi hh pl zf st.1 st.2.2.2.2.2 f9 g9 (nI 0) mb f_8517 hma f_8521 f_8522 hz0 (by omega) (by omega) hf9 hg9 hrw hR) C0 hw vw_X6_190 mb f_8517 rfl rfl rfl hl.1 rfl (Nat.le_of_ble_eq_true rfl) dX6_carries_44 ⟨by decide, by decide⟩ ⟨by decide, by decide⟩) rfl rfl (fun F_8523 H locs hw hp_8524 => ?_)
    obtain ⟨⟨P_8525, f_8527, r_8526⟩, o_8528⟩ := hp_8524
    refine lv_iload_n hx hb dX6_carries_47 rfl (lv_at hl 1 rfl) ?_
    refine lv_bipush (v := nI 101) hx hb dX6_carries_48 (by decide) ?_
    refine n_icmp_eq (tgt := 65) hx hb dX6_carries_50 (by decide) (by decide) (by decide) (fun c_50 => ?_) (fun c_50 => ?_)
    · skip
      exact absurd c_50 (by omega)
    · skip
      refine lv_iload_n hx hb dX6_carries_53 rfl (lv_at hl 1 rfl) ?_
      refine lv_bipush (v := nI 99) hx hb dX6_carries_54 (by decide) ?_
      refine n_icmp_eq (tgt := 65) hx hb dX6_carries_56 (by decide) (by decide) (by decide) (fun c_56 => ?_) (fun c_56 => ?_)
      · skip
        exact absurd c_56 (by omega)
      · skip
        refine lv_iload_n hx hb dX6_carries_59 rfl (lv_at hl 1 rfl) ?_
        refine lv_bipush (v := nI 105) hx hb dX6_carries_60 (by decide) ?_
        refine n_icmp_ne (tgt := 69) hx hb dX6_carries_62 (by decide) (by decide) (by decide) (fun c_62 => ?_) (fun c_62 => ?_)
        · skip
          refine lv_iconst (v := nI 0) hx hb dX6_carries_69 (by decide) ?_
          refine lv_istore (lv' := [(5, .int (nI (0))), (4, .int (nI (1))), (3, .int (nI (119))), (2, .int (nI (4 * i9))), (0, .ref b), (1, .int (nI (i9)))]) hx hb dX6_carries_70 hl (by decide) rfl (fun ls hl => ?_)
          refine lv_aload_n hx hb dX6_carries_72 rfl (lv_at hl 4 rfl) ?_
          have f_8529 : F_8523 b = mO ma mi hh := (o_8528 b (ne_oa f_8517 f_8521)).trans f_8517
          refine q_get C0 hw mb f_8529 fw_X6_7 rfl dX6_carries_73 ?_
          refine lv_iconst (v := nI 4) hx hb dX6_carries_76 (by decide) ?_
          refine lv_dup2_11 hx hb dX6_carries_77 rfl rfl ?_
          have f_8530 : F_8523 (ma 0) = .inl (G.2 0, 89, .inl zf) := (o_8528 (ma 0) (ne_aa (by decide) f_8522 f_8521)).trans f_8522
          refine q_iald C0 hw ((hma 0 (by decide))) f_8530 (4) (by omega) (by decide) (v := nI (st.2.2.2.2.1)) hz4 dX6_carries_78 ?_
          refine lv_iload_n hx hb dX6_carries_79 rfl (lv_at hl 2 rfl) ?_
          refine lv_bipush (v := nI 98) hx hb dX6_carries_80 (by decide) ?_
          refine n_icmp_ne (tgt := 89) hx hb dX6_carries_82 (by decide) (by decide) (by decide) (fun c_82 => ?_) (fun c_82 => ?_)
          · skip
            refine lv_iconst (v := nI 0) hx hb dX6_carries_89 (by decide) ?_
            refine n_iadd hx hb dX6_carries_90 ?_
            refine q_iast C0 hw ((hma 0 (by decide))) f_8530 (4) (by omega) (by decide) dX6_carries_91 (fun F_8531 H locs hw f_8532 o_8533 => ?_)
            refine lv_aload_n hx hb dX6_carries_92 rfl (lv_at hl 4 rfl) ?_
            refine lv_iload_n hx hb dX6_carries_93 rfl (lv_at hl 2 rfl) ?_
            refine q_calli hw (q_runS (As := [.int (nI (119))]) (c_X6_workOf_119 l G L F_8531 ) C0 hw sw_X6_187 rfl hl.1 rfl (Nat.le_of_ble_eq_true rfl) dX6_carries_94 ⟨by decide, by decide⟩ ⟨by decide, by decide⟩) rfl rfl (fun r_8536 F_8534 H locs hw hp_8535 => ?_)
            obtain ⟨he_8537, o_8538⟩ := hp_8535
            subst he_8537
            refine lv_iload hx hb dX6_carries_97 (lv_at hl 0 rfl) ?_
            refine n_if_eq (tgt := 116) hx hb dX6_carries_99 (by decide) (by decide) (fun c_99 => ?_) (fun c_99 => ?_)
            · skip
              refine lv_aload_n hx hb dX6_carries_116 rfl (lv_at hl 4 rfl) ?_
              have f_8539 : F_8531 b = mO ma mi hh := (o_8533 b (ne_oa f_8529 f_8530)).trans f_8529
              have f_8540 : F_8534 b = mO ma mi hh := (o_8538 b ).trans f_8539
              refine q_get C0 hw mb f_8540 fw_X6_28 rfl dX6_carries_117 ?_
              refine lv_iload_n hx hb dX6_carries_120 rfl (lv_at hl 3 rfl) ?_
              refine lv_iconst (v := nI 3) hx hb dX6_carries_121 (by decide) ?_
              refine n_iadd hx hb dX6_carries_122 ?_
              have f_8541 : F_8523 (ma 6) = .inl (G.2 0, 52, .inl pf) := (o_8528 (ma 6) (ne_aa (by decide) f_8519 f_8521)).trans f_8519
              have f_8542 : F_8531 (ma 6) = .inl (G.2 0, 52, .inl pf) := (o_8533 (ma 6) (ne_aa (by decide) f_8541 f_8530)).trans f_8541
              have f_8543 : F_8534 (ma 6) = .inl (G.2 0, 52, .inl pf) := (o_8538 (ma 6) ).trans f_8542
              refine q_iald C0 hw ((hma 6 (by decide))) f_8543 (4 * i9 + 3) (by omega) (by decide) (v := nI (t9)) hp3 dX6_carries_123 ?_
              refine q_calli hw (q_runS (As := [.int (nI (t9))]) (c_X6_fieldAt l G L F_8534 t9 (by omega)) C0 hw sw_X6_109 rfl hl.1 rfl (Nat.le_of_ble_eq_true rfl) dX6_carries_124 ⟨by decide, by decide⟩ ⟨by decide, by decide⟩) rfl rfl (fun r_8546 F_8544 H locs hw hp_8545 => ?_)
              obtain ⟨he_8547, o_8548⟩ := hp_8545
              subst he_8547
              have f_8549 : F_8534 (ma 0) = .inl (G.2 0, 89, .inl (upd zf (4) (nI (st.2.2.2.2.1 + 0)))) := (o_8538 (ma 0) ).trans f_8532
              have f_8550 : F_8544 (ma 0) = .inl (G.2 0, 89, .inl (upd zf (4) (nI (st.2.2.2.2.1 + 0)))) := (o_8548 (ma 0) ).trans f_8549
              have f_8551 : F_8544 b = mO ma mi hh := (o_8548 b ).trans f_8540
              have f_8552 : F_8531 (ma 4) = pcE G P_8525 := (o_8533 (ma 4) (ne_aa (by decide) f_8527 f_8530)).trans f_8527
              have f_8553 : F_8534 (ma 4) = pcE G P_8525 := (o_8538 (ma 4) ).trans f_8552
              have f_8554 : F_8544 (ma 4) = pcE G P_8525 := (o_8548 (ma 4) ).trans f_8553
              refine q_calli hw (q_runV (As := [.int (nI (20)), .int (nI (5 + 7 * t9))]) (c_X6_pays l G L F_8544 b ma mi hh P_8525 (upd zf (4) (nI (st.2.2.2.2.1 + 0))) st.1 20 (5 + 7 * t9) st.2.1 st.2.2.1 st.2.2.2.1 mb f_8551 hma f_8554 f_8550 hz0 (by omega) (by omega) hz1 hz2 hz3 (by omega) (by omega) (by omega)) C0 hw vw_X6_103 mb f_8551 rfl rfl rfl hl.1 rfl (Nat.le_of_ble_eq_true rfl) dX6_carries_127 ⟨by decide, by decide⟩ ⟨by decide, by decide⟩) rfl rfl (fun r_8557 F_8555 H locs hw hp_8556 => ?_)
              obtain ⟨he_8558, f_8559, o_8560⟩ := hp_8556
              subst he_8558
              refine lv_istore (lv' := [(6, .int (lowR (P_8525 2))), (5, .int (nI (0))), (4, .int (nI (1))), (3, .int (nI (119))), (2, .int (nI (4 * i9))), (0, .ref b), (1, .int (nI (i9)))]) hx hb dX6_carries_130 hl (by decide) rfl (fun ls hl => ?_)
              refine lv_iload hx hb dX6_carries_132 (lv_at hl 2 rfl) ?_
              have hz_8561 := f_8559
              rw [r_8526] at hz_8561
              have f_8562 : F_8555 (ma 4) = pcE G P_8525 := (o_8560 (ma 4) (ne_aa (by decide) f_8554 f_8550)).trans f_8554
              exact r_i C0 hr hlk hw (v := nI 1) rfl ⟨rfl, ⟨_, _, hz_8561, (pyM_ok (st := (st.1, st.2.1, st.2.2.1, st.2.2.2.1, st.2.2.2.2.1, st.2.2.2.2.2)) (bk := st.2.2.2.2.1 + 0) (un := 20) (t := t9) (u := ordR 119 f9 g9 st.1 st.2.2.2.2.2) (bk_okn 0 hz) (by omega)), f_8562⟩, (fun q k0 k1 => ((o_8560 q k0).trans ((o_8548 q ).trans ((o_8538 q ).trans ((o_8533 q k0).trans ((o_8528 q k1).trans ((o_8516 q ).trans (o_8509 q ))))))))⟩ (Nat.le_refl _) (Nat.le_refl _) dX6_carries_134 hQ
            · skip
              exact absurd c_99 (by omega)
          · skip
            exact absurd c_82 (by omega)
        · skip
          exact absurd c_62 (by omega)
set_option maxHeartbeats 4000000 in
set_option maxRecDepth 100000 in
theorem c_X6_carries_no_112 (l : Launch) (G : Gl) (L : List Nat) (F : Nat → va_E) (b : Nat) (ma : Nat → Nat) (mi : Nat → Int32) (hh : Int64) (pf zf : Nat → Int32) (pl : Nat → Nat → ZP) (i9 f9 g9 t9 : Nat) (v9 : Int32) (st : Sta) (mb : b ∈ L) (fb : F b = mO ma mi hh) (hma : ∀ i, i < 7 → ma i ∈ L) (fq : F (ma 6) = .inl (G.2 0, 52, .inl pf)) (fz : F (ma 0) = .inl (G.2 0, 89, .inl zf)) (fp : F (ma 4) = pcE G pl) (hz : zA zf st) (hS : okS st) (hi9 : i9 ≤ 12) (hf9 : f9 < 6) (hg9 : g9 < 6) (ht9 : t9 < 6) (hp0 : pf (4 * i9) = nI 112) (hp1 : pf (4 * i9 + 1) = nI f9) (hp2 : pf (4 * i9 + 2) = nI g9) (hp3 : pf (4 * i9 + 3) = nI t9) (hm : st.2.1 < 6 * st.1) : CI l yX6_carries cX6_carries 7 (some .boolean) rm_X6_carries G L F [.ref b, .int (nI (i9))] (fun r F1 => r = nI 0 ∧ ∀ q, F1 q = F q) := by
  obtain ⟨hz0, hz1, hz2, hz3, hz4⟩ := ne_z zf hz
  have hc : st.1 ≤ 6 := hS.2.1
  have hc2 : 2 ≤ st.1 := hS.1
  have hpu : st.2.1 ≤ 100000 := hS.2.2.1
  have hrw : ∀ i k, i < 12 → k < 7 → zf (5 + 7 * i + k) = nI (st.2.2.2.2.2 i k).val := hz.row
  have hR : okR st.2.2.2.2.2 := hS.2.2.2
  have hm9 : ¬ st.1 * 6 ≤ st.2.1 := by omega
  refine CG_of (by decide) (Nat.le_of_ble_eq_true rfl) rfl ?_
  intro p e s m args below meth c Q C0 hr hlk hnm hQ hw ls hl
  have hx := C0.x
  have hb := C0.b
  refine lv_iconst (v := nI 4) hx hb dX6_carries_0 (by decide) ?_
  refine lv_iload_n hx hb dX6_carries_1 rfl (lv_at hl 1 rfl) ?_
  refine n_imul hx hb dX6_carries_2 ?_
  refine lv_istore_n (lv' := [(2, .int (nI (4 * i9))), (0, .ref b), (1, .int (nI (i9)))]) hx hb dX6_carries_3 rfl hl (by decide) rfl (fun ls hl => ?_)
  refine lv_aload_n hx hb dX6_carries_4 rfl (lv_at hl 1 rfl) ?_
  refine q_get C0 hw mb fb fw_X6_28 rfl dX6_carries_5 ?_
  refine lv_iload_n hx hb dX6_carries_8 rfl (lv_at hl 0 rfl) ?_
  refine q_iald C0 hw ((hma 6 (by decide))) fq (4 * i9) (by omega) (by decide) (v := nI 112) hp0 dX6_carries_9 ?_
  refine lv_istore_n (lv' := [(3, .int (nI (112))), (2, .int (nI (4 * i9))), (0, .ref b), (1, .int (nI (i9)))]) hx hb dX6_carries_10 rfl hl (by decide) rfl (fun ls hl => ?_)
  refine lv_aload_n hx hb dX6_carries_11 rfl (lv_at hl 2 rfl) ?_
  refine lv_iload_n hx hb dX6_carries_12 rfl (lv_at hl 0 rfl) ?_
  refine q_calli hw (q_runS (As := [.int (nI (112))]) (c_X6_workOf_112 l G L F ) C0 hw sw_X6_187 rfl hl.1 rfl (Nat.le_of_ble_eq_true rfl) dX6_carries_13 ⟨by decide, by decide⟩ ⟨by decide, by decide⟩) rfl rfl (fun r_8565 F_8563 H locs hw hp_8564 => ?_)
  obtain ⟨he_8566, o_8567⟩ := hp_8564
  subst he_8566
  have f_8568 : F_8563 b = mO ma mi hh := (o_8567 b ).trans fb
  have f_8569 : F_8563 (ma 0) = .inl (G.2 0, 89, .inl zf) := (o_8567 (ma 0) ).trans fz
  refine q_calli hw (q_runV (As := [.int (nI (6))]) (c_X6_canPay l G L F_8563 b ma mi hh zf 6 st.1 st.2.1 mb f_8568 hma f_8569 hz0 hz1 hc (by omega) hpu (by omega)) C0 hw vw_X6_106 mb f_8568 rfl rfl rfl hl.1 rfl (Nat.le_of_ble_eq_true rfl) dX6_carries_16 ⟨by decide, by decide⟩ ⟨by decide, by decide⟩) rfl rfl (fun r_8572 F_8570 H locs hw hp_8571 => ?_)
  obtain ⟨he_8573, o_8574⟩ := hp_8571
  rw [if_neg hm9] at he_8573
  subst he_8573
  refine lv_istore (lv' := [(4, .int (nI (0))), (3, .int (nI (112))), (2, .int (nI (4 * i9))), (0, .ref b), (1, .int (nI (i9)))]) hx hb dX6_carries_19 hl (by decide) rfl (fun ls hl => ?_)
  refine lv_iload hx hb dX6_carries_21 (lv_at hl 0 rfl) ?_
  refine n_if_eq (tgt := 132) hx hb dX6_carries_23 (by decide) (by decide) (fun c_23 => ?_) (fun c_23 => ?_)
  · skip
    refine lv_iload hx hb dX6_carries_132 (lv_at hl 0 rfl) ?_
    exact r_i C0 hr hlk hw (v := nI 0) rfl ⟨rfl, (fun q  => ((o_8574 q ).trans (o_8567 q )))⟩ (Nat.le_refl _) (Nat.le_refl _) dX6_carries_134 hQ
  · skip
    exact absurd c_23 (by omega)
set_option maxHeartbeats 4000000 in
set_option maxRecDepth 100000 in
theorem c_X6_carries_112 (l : Launch) (G : Gl) (L : List Nat) (F : Nat → va_E) (b : Nat) (ma : Nat → Nat) (mi : Nat → Int32) (hh : Int64) (pf zf : Nat → Int32) (pl : Nat → Nat → ZP) (i9 f9 g9 t9 : Nat) (v9 : Int32) (st : Sta) (mb : b ∈ L) (fb : F b = mO ma mi hh) (hma : ∀ i, i < 7 → ma i ∈ L) (fq : F (ma 6) = .inl (G.2 0, 52, .inl pf)) (fz : F (ma 0) = .inl (G.2 0, 89, .inl zf)) (fp : F (ma 4) = pcE G pl) (hz : zA zf st) (hS : okS st) (hi9 : i9 ≤ 12) (hf9 : f9 < 6) (hg9 : g9 < 6) (ht9 : t9 < 6) (hp0 : pf (4 * i9) = nI 112) (hp1 : pf (4 * i9 + 1) = nI f9) (hp2 : pf (4 * i9 + 2) = nI g9) (hp3 : pf (4 * i9 + 3) = nI t9) (hm : 6 * st.1 ≤ st.2.1) : CI l yX6_carries cX6_carries 7 (some .boolean) rm_X6_carries G L F [.ref b, .int (nI (i9))] (fun r F1 => r = nI 1 ∧ (∃ zf1 pl1, F1 (ma 0) = .inl (G.2 0, 89, .inl zf1) ∧ zA zf1 (ordS 112 f9 g9 t9 st) ∧ F1 (ma 4) = pcE G pl1) ∧ ∀ q, q ≠ ma 0 → q ≠ ma 4 → F1 q = F q) := by
  obtain ⟨hz0, hz1, hz2, hz3, hz4⟩ := ne_z zf hz
  have hc : st.1 ≤ 6 := hS.2.1
  have hc2 : 2 ≤ st.1 := hS.1
  have hpu : st.2.1 ≤ 100000 := hS.2.2.1
  have hrw : ∀ i k, i < 12 → k < 7 → zf (5 + 7 * i + k) = nI (st.2.2.2.2.2 i k).val := hz.row
  have hR : okR st.2.2.2.2.2 := hS.2.2.2
  have hm9 :  st.1 * 6 ≤ st.2.1 := by omega
  refine CG_of (by decide) (Nat.le_of_ble_eq_true rfl) rfl ?_
  intro p e s m args below meth c Q C0 hr hlk hnm hQ hw ls hl
  have hx := C0.x
  have hb := C0.b
  refine lv_iconst (v := nI 4) hx hb dX6_carries_0 (by decide) ?_
  refine lv_iload_n hx hb dX6_carries_1 rfl (lv_at hl 1 rfl) ?_
  refine n_imul hx hb dX6_carries_2 ?_
  refine lv_istore_n (lv' := [(2, .int (nI (4 * i9))), (0, .ref b), (1, .int (nI (i9)))]) hx hb dX6_carries_3 rfl hl (by decide) rfl (fun ls hl => ?_)
  refine lv_aload_n hx hb dX6_carries_4 rfl (lv_at hl 1 rfl) ?_
  refine q_get C0 hw mb fb fw_X6_28 rfl dX6_carries_5 ?_
  refine lv_iload_n hx hb dX6_carries_8 rfl (lv_at hl 0 rfl) ?_
  refine q_iald C0 hw ((hma 6 (by decide))) fq (4 * i9) (by omega) (by decide) (v := nI 112) hp0 dX6_carries_9 ?_
  refine lv_istore_n (lv' := [(3, .int (nI (112))), (2, .int (nI (4 * i9))), (0, .ref b), (1, .int (nI (i9)))]) hx hb dX6_carries_10 rfl hl (by decide) rfl (fun ls hl => ?_)
  refine lv_aload_n hx hb dX6_carries_11 rfl (lv_at hl 2 rfl) ?_
  refine lv_iload_n hx hb dX6_carries_12 rfl (lv_at hl 0 rfl) ?_
  refine q_calli hw (q_runS (As := [.int (nI (112))]) (c_X6_workOf_112 l G L F ) C0 hw sw_X6_187 rfl hl.1 rfl (Nat.le_of_ble_eq_true rfl) dX6_carries_13 ⟨by decide, by decide⟩ ⟨by decide, by decide⟩) rfl rfl (fun r_8577 F_8575 H locs hw hp_8576 => ?_)
  obtain ⟨he_8578, o_8579⟩ := hp_8576
  subst he_8578
  have f_8580 : F_8575 b = mO ma mi hh := (o_8579 b ).trans fb
  have f_8581 : F_8575 (ma 0) = .inl (G.2 0, 89, .inl zf) := (o_8579 (ma 0) ).trans fz
  refine q_calli hw (q_runV (As := [.int (nI (6))]) (c_X6_canPay l G L F_8575 b ma mi hh zf 6 st.1 st.2.1 mb f_8580 hma f_8581 hz0 hz1 hc (by omega) hpu (by omega)) C0 hw vw_X6_106 mb f_8580 rfl rfl rfl hl.1 rfl (Nat.le_of_ble_eq_true rfl) dX6_carries_16 ⟨by decide, by decide⟩ ⟨by decide, by decide⟩) rfl rfl (fun r_8584 F_8582 H locs hw hp_8583 => ?_)
  obtain ⟨he_8585, o_8586⟩ := hp_8583
  rw [if_pos hm9] at he_8585
  subst he_8585
  refine lv_istore (lv' := [(4, .int (nI (1))), (3, .int (nI (112))), (2, .int (nI (4 * i9))), (0, .ref b), (1, .int (nI (i9)))]) hx hb dX6_carries_19 hl (by decide) rfl (fun ls hl => ?_)
  refine lv_iload hx hb dX6_carries_21 (lv_at hl 0 rfl) ?_
  refine n_if_eq (tgt := 132) hx hb dX6_carries_23 (by decide) (by decide) (fun c_23 => ?_) (fun c_23 => ?_)
  · skip
    exact absurd c_23 (by omega)
  · skip
    refine lv_aload_n hx hb dX6_carries_26 rfl (lv_at hl 3 rfl) ?_
    refine lv_iload_n hx hb dX6_carries_27 rfl (lv_at hl 1 rfl) ?_
    refine lv_aload_n hx hb dX6_carries_28 rfl (lv_at hl 3 rfl) ?_
    have f_8587 : F_8582 b = mO ma mi hh := (o_8586 b ).trans f_8580
    refine q_get C0 hw mb f_8587 fw_X6_28 rfl dX6_carries_29 ?_
    refine lv_iload_n hx hb dX6_carries_32 rfl (lv_at hl 2 rfl) ?_
    refine lv_iconst (v := nI 1) hx hb dX6_carries_33 (by decide) ?_
    refine n_iadd hx hb dX6_carries_34 ?_
    have f_8588 : F_8575 (ma 6) = .inl (G.2 0, 52, .inl pf) := (o_8579 (ma 6) ).trans fq
    have f_8589 : F_8582 (ma 6) = .inl (G.2 0, 52, .inl pf) := (o_8586 (ma 6) ).trans f_8588
    refine q_iald C0 hw ((hma 6 (by decide))) f_8589 (4 * i9 + 1) (by omega) (by decide) (v := nI (f9)) hp1 dX6_carries_35 ?_
    refine lv_aload_n hx hb dX6_carries_36 rfl (lv_at hl 3 rfl) ?_
    refine q_get C0 hw mb f_8587 fw_X6_28 rfl dX6_carries_37 ?_
    refine lv_iload_n hx hb dX6_carries_40 rfl (lv_at hl 2 rfl) ?_
    refine lv_iconst (v := nI 2) hx hb dX6_carries_41 (by decide) ?_
    refine n_iadd hx hb dX6_carries_42 ?_
    refine q_iald C0 hw ((hma 6 (by decide))) f_8589 (4 * i9 + 2) (by omega) (by decide) (v := nI (g9)) hp2 dX6_carries_43 ?_
    have f_8590 : F_8575 (ma 4) = pcE G pl := (o_8579 (ma 4) ).trans fp
    have f_8591 : F_8582 (ma 4) = pcE G pl := (o_8586 (ma 4) ).trans f_8590
    have f_8592 : F_8582 (ma 0) = .inl (G.2 0, 89, .inl zf) := (o_8586 (ma 0) ).trans f_8581
    refine q_callv hw (q_runV (As := [.int (nI (112)), .int (nI (f9)), .int (nI (g9))]) (c_X6_layOrder_112 l G L F_8582 b ma mi hh pl zf st.1 st.2.2.2.2.2 f9 g9 (nI 0) mb f_8587 hma f_8591 f_8592 hz0 (by omega) (by omega) hf9 hg9 hrw hR) C0 hw vw_X6_190 mb f_8587 rfl rfl rfl hl.1 rfl (Nat.le_of_ble_eq_true rfl) dX6_carries_44 ⟨by decide, by decide⟩ ⟨by decide, by decide⟩) rfl rfl (fun F_8593 H locs hw hp_8594 => ?_)
    obtain ⟨⟨P_8595, f_8597, r_8596⟩, o_8598⟩ := hp_8594
    refine lv_iload_n hx hb dX6_carries_47 rfl (lv_at hl 1 rfl) ?_
    refine lv_bipush (v := nI 101) hx hb dX6_carries_48 (by decide) ?_
    refine n_icmp_eq (tgt := 65) hx hb dX6_carries_50 (by decide) (by decide) (by decide) (fun c_50 => ?_) (fun c_50 => ?_)
    · skip
      exact absurd c_50 (by omega)
    · skip
      refine lv_iload_n hx hb dX6_carries_53 rfl (lv_at hl 1 rfl) ?_
      refine lv_bipush (v := nI 99) hx hb dX6_carries_54 (by decide) ?_
      refine n_icmp_eq (tgt := 65) hx hb dX6_carries_56 (by decide) (by decide) (by decide) (fun c_56 => ?_) (fun c_56 => ?_)
      · skip
        exact absurd c_56 (by omega)
      · skip
        refine lv_iload_n hx hb dX6_carries_59 rfl (lv_at hl 1 rfl) ?_
        refine lv_bipush (v := nI 105) hx hb dX6_carries_60 (by decide) ?_
        refine n_icmp_ne (tgt := 69) hx hb dX6_carries_62 (by decide) (by decide) (by decide) (fun c_62 => ?_) (fun c_62 => ?_)
        · skip
          refine lv_iconst (v := nI 0) hx hb dX6_carries_69 (by decide) ?_
          refine lv_istore (lv' := [(5, .int (nI (0))), (4, .int (nI (1))), (3, .int (nI (112))), (2, .int (nI (4 * i9))), (0, .ref b), (1, .int (nI (i9)))]) hx hb dX6_carries_70 hl (by decide) rfl (fun ls hl => ?_)
          refine lv_aload_n hx hb dX6_carries_72 rfl (lv_at hl 4 rfl) ?_
          have f_8599 : F_8593 b = mO ma mi hh := (o_8598 b (ne_oa f_8587 f_8591)).trans f_8587
          refine q_get C0 hw mb f_8599 fw_X6_7 rfl dX6_carries_73 ?_
          refine lv_iconst (v := nI 4) hx hb dX6_carries_76 (by decide) ?_
          refine lv_dup2_11 hx hb dX6_carries_77 rfl rfl ?_
          have f_8600 : F_8593 (ma 0) = .inl (G.2 0, 89, .inl zf) := (o_8598 (ma 0) (ne_aa (by decide) f_8592 f_8591)).trans f_8592
          refine q_iald C0 hw ((hma 0 (by decide))) f_8600 (4) (by omega) (by decide) (v := nI (st.2.2.2.2.1)) hz4 dX6_carries_78 ?_
          refine lv_iload_n hx hb dX6_carries_79 rfl (lv_at hl 2 rfl) ?_
          refine lv_bipush (v := nI 98) hx hb dX6_carries_80 (by decide) ?_
          refine n_icmp_ne (tgt := 89) hx hb dX6_carries_82 (by decide) (by decide) (by decide) (fun c_82 => ?_) (fun c_82 => ?_)
          · skip
            refine lv_iconst (v := nI 0) hx hb dX6_carries_89 (by decide) ?_
            refine n_iadd hx hb dX6_carries_90 ?_
            refine q_iast C0 hw ((hma 0 (by decide))) f_8600 (4) (by omega) (by decide) dX6_carries_91 (fun F_8601 H locs hw f_8602 o_8603 => ?_)
            refine lv_aload_n hx hb dX6_carries_92 rfl (lv_at hl 4 rfl) ?_
            refine lv_iload_n hx hb dX6_carries_93 rfl (lv_at hl 2 rfl) ?_
            refine q_calli hw (q_runS (As := [.int (nI (112))]) (c_X6_workOf_112 l G L F_8601 ) C0 hw sw_X6_187 rfl hl.1 rfl (Nat.le_of_ble_eq_true rfl) dX6_carries_94 ⟨by decide, by decide⟩ ⟨by decide, by decide⟩) rfl rfl (fun r_8606 F_8604 H locs hw hp_8605 => ?_)
            obtain ⟨he_8607, o_8608⟩ := hp_8605
            subst he_8607
            refine lv_iload hx hb dX6_carries_97 (lv_at hl 0 rfl) ?_
            refine n_if_eq (tgt := 116) hx hb dX6_carries_99 (by decide) (by decide) (fun c_99 => ?_) (fun c_99 => ?_)
            · skip
              refine lv_aload_n hx hb dX6_carries_116 rfl (lv_at hl 4 rfl) ?_
              have f_8609 : F_8601 b = mO ma mi hh := (o_8603 b (ne_oa f_8599 f_8600)).trans f_8599
              have f_8610 : F_8604 b = mO ma mi hh := (o_8608 b ).trans f_8609
              refine q_get C0 hw mb f_8610 fw_X6_28 rfl dX6_carries_117 ?_
              refine lv_iload_n hx hb dX6_carries_120 rfl (lv_at hl 3 rfl) ?_
              refine lv_iconst (v := nI 3) hx hb dX6_carries_121 (by decide) ?_
              refine n_iadd hx hb dX6_carries_122 ?_
              have f_8611 : F_8593 (ma 6) = .inl (G.2 0, 52, .inl pf) := (o_8598 (ma 6) (ne_aa (by decide) f_8589 f_8591)).trans f_8589
              have f_8612 : F_8601 (ma 6) = .inl (G.2 0, 52, .inl pf) := (o_8603 (ma 6) (ne_aa (by decide) f_8611 f_8600)).trans f_8611
              have f_8613 : F_8604 (ma 6) = .inl (G.2 0, 52, .inl pf) := (o_8608 (ma 6) ).trans f_8612
              refine q_iald C0 hw ((hma 6 (by decide))) f_8613 (4 * i9 + 3) (by omega) (by decide) (v := nI (t9)) hp3 dX6_carries_123 ?_
              refine q_calli hw (q_runS (As := [.int (nI (t9))]) (c_X6_fieldAt l G L F_8604 t9 (by omega)) C0 hw sw_X6_109 rfl hl.1 rfl (Nat.le_of_ble_eq_true rfl) dX6_carries_124 ⟨by decide, by decide⟩ ⟨by decide, by decide⟩) rfl rfl (fun r_8616 F_8614 H locs hw hp_8615 => ?_)
              obtain ⟨he_8617, o_8618⟩ := hp_8615
              subst he_8617
              have f_8619 : F_8604 (ma 0) = .inl (G.2 0, 89, .inl (upd zf (4) (nI (st.2.2.2.2.1 + 0)))) := (o_8608 (ma 0) ).trans f_8602
              have f_8620 : F_8614 (ma 0) = .inl (G.2 0, 89, .inl (upd zf (4) (nI (st.2.2.2.2.1 + 0)))) := (o_8618 (ma 0) ).trans f_8619
              have f_8621 : F_8614 b = mO ma mi hh := (o_8618 b ).trans f_8610
              have f_8622 : F_8601 (ma 4) = pcE G P_8595 := (o_8603 (ma 4) (ne_aa (by decide) f_8597 f_8600)).trans f_8597
              have f_8623 : F_8604 (ma 4) = pcE G P_8595 := (o_8608 (ma 4) ).trans f_8622
              have f_8624 : F_8614 (ma 4) = pcE G P_8595 := (o_8618 (ma 4) ).trans f_8623
              refine q_calli hw (q_runV (As := [.int (nI (6)), .int (nI (5 + 7 * t9))]) (c_X6_pays l G L F_8614 b ma mi hh P_8595 (upd zf (4) (nI (st.2.2.2.2.1 + 0))) st.1 6 (5 + 7 * t9) st.2.1 st.2.2.1 st.2.2.2.1 mb f_8621 hma f_8624 f_8620 hz0 (by omega) (by omega) hz1 hz2 hz3 (by omega) (by omega) (by omega)) C0 hw vw_X6_103 mb f_8621 rfl rfl rfl hl.1 rfl (Nat.le_of_ble_eq_true rfl) dX6_carries_127 ⟨by decide, by decide⟩ ⟨by decide, by decide⟩) rfl rfl (fun r_8627 F_8625 H locs hw hp_8626 => ?_)
              obtain ⟨he_8628, f_8629, o_8630⟩ := hp_8626
              subst he_8628
              refine lv_istore (lv' := [(6, .int (lowR (P_8595 2))), (5, .int (nI (0))), (4, .int (nI (1))), (3, .int (nI (112))), (2, .int (nI (4 * i9))), (0, .ref b), (1, .int (nI (i9)))]) hx hb dX6_carries_130 hl (by decide) rfl (fun ls hl => ?_)
              refine lv_iload hx hb dX6_carries_132 (lv_at hl 2 rfl) ?_
              have hz_8631 := f_8629
              rw [r_8596] at hz_8631
              have f_8632 : F_8625 (ma 4) = pcE G P_8595 := (o_8630 (ma 4) (ne_aa (by decide) f_8624 f_8620)).trans f_8624
              exact r_i C0 hr hlk hw (v := nI 1) rfl ⟨rfl, ⟨_, _, hz_8631, (pyM_ok (st := (st.1, st.2.1, st.2.2.1, st.2.2.2.1, st.2.2.2.2.1, st.2.2.2.2.2)) (bk := st.2.2.2.2.1 + 0) (un := 6) (t := t9) (u := ordR 112 f9 g9 st.1 st.2.2.2.2.2) (bk_okn 0 hz) (by omega)), f_8632⟩, (fun q k0 k1 => ((o_8630 q k0).trans ((o_8618 q ).trans ((o_8608 q ).trans ((o_8603 q k0).trans ((o_8598 q k1).trans ((o_8586 q ).trans (o_8579 q ))))))))⟩ (Nat.le_refl _) (Nat.le_refl _) dX6_carries_134 hQ
            · skip
              exact absurd c_99 (by omega)
          · skip
            exact absurd c_82 (by omega)
        · skip
          exact absurd c_62 (by omega)
set_option maxHeartbeats 4000000 in
set_option maxRecDepth 100000 in
theorem c_X6_carries_no_108 (l : Launch) (G : Gl) (L : List Nat) (F : Nat → va_E) (b : Nat) (ma : Nat → Nat) (mi : Nat → Int32) (hh : Int64) (pf zf : Nat → Int32) (pl : Nat → Nat → ZP) (i9 f9 g9 t9 : Nat) (v9 : Int32) (st : Sta) (mb : b ∈ L) (fb : F b = mO ma mi hh) (hma : ∀ i, i < 7 → ma i ∈ L) (fq : F (ma 6) = .inl (G.2 0, 52, .inl pf)) (fz : F (ma 0) = .inl (G.2 0, 89, .inl zf)) (fp : F (ma 4) = pcE G pl) (hz : zA zf st) (hS : okS st) (hi9 : i9 ≤ 12) (hf9 : f9 < 6) (hg9 : g9 < 6) (ht9 : t9 < 6) (hp0 : pf (4 * i9) = nI 108) (hp1 : pf (4 * i9 + 1) = nI f9) (hp3 : pf (4 * i9 + 3) = nI t9) (hm : st.2.1 < 6 * st.1) : CI l yX6_carries cX6_carries 7 (some .boolean) rm_X6_carries G L F [.ref b, .int (nI (i9))] (fun r F1 => r = nI 0 ∧ ∀ q, F1 q = F q) := by
  obtain ⟨hz0, hz1, hz2, hz3, hz4⟩ := ne_z zf hz
  have hc : st.1 ≤ 6 := hS.2.1
  have hc2 : 2 ≤ st.1 := hS.1
  have hpu : st.2.1 ≤ 100000 := hS.2.2.1
  have hrw : ∀ i k, i < 12 → k < 7 → zf (5 + 7 * i + k) = nI (st.2.2.2.2.2 i k).val := hz.row
  have hR : okR st.2.2.2.2.2 := hS.2.2.2
  have hm9 : ¬ st.1 * 6 ≤ st.2.1 := by omega
  refine CG_of (by decide) (Nat.le_of_ble_eq_true rfl) rfl ?_
  intro p e s m args below meth c Q C0 hr hlk hnm hQ hw ls hl
  have hx := C0.x
  have hb := C0.b
  refine lv_iconst (v := nI 4) hx hb dX6_carries_0 (by decide) ?_
  refine lv_iload_n hx hb dX6_carries_1 rfl (lv_at hl 1 rfl) ?_
  refine n_imul hx hb dX6_carries_2 ?_
  refine lv_istore_n (lv' := [(2, .int (nI (4 * i9))), (0, .ref b), (1, .int (nI (i9)))]) hx hb dX6_carries_3 rfl hl (by decide) rfl (fun ls hl => ?_)
  refine lv_aload_n hx hb dX6_carries_4 rfl (lv_at hl 1 rfl) ?_
  refine q_get C0 hw mb fb fw_X6_28 rfl dX6_carries_5 ?_
  refine lv_iload_n hx hb dX6_carries_8 rfl (lv_at hl 0 rfl) ?_
  refine q_iald C0 hw ((hma 6 (by decide))) fq (4 * i9) (by omega) (by decide) (v := nI 108) hp0 dX6_carries_9 ?_
  refine lv_istore_n (lv' := [(3, .int (nI (108))), (2, .int (nI (4 * i9))), (0, .ref b), (1, .int (nI (i9)))]) hx hb dX6_carries_10 rfl hl (by decide) rfl (fun ls hl => ?_)
  refine lv_aload_n hx hb dX6_carries_11 rfl (lv_at hl 2 rfl) ?_
  refine lv_iload_n hx hb dX6_carries_12 rfl (lv_at hl 0 rfl) ?_
  refine q_calli hw (q_runS (As := [.int (nI (108))]) (c_X6_workOf_108 l G L F ) C0 hw sw_X6_187 rfl hl.1 rfl (Nat.le_of_ble_eq_true rfl) dX6_carries_13 ⟨by decide, by decide⟩ ⟨by decide, by decide⟩) rfl rfl (fun r_8635 F_8633 H locs hw hp_8634 => ?_)
  obtain ⟨he_8636, o_8637⟩ := hp_8634
  subst he_8636
  have f_8638 : F_8633 b = mO ma mi hh := (o_8637 b ).trans fb
  have f_8639 : F_8633 (ma 0) = .inl (G.2 0, 89, .inl zf) := (o_8637 (ma 0) ).trans fz
  refine q_calli hw (q_runV (As := [.int (nI (6))]) (c_X6_canPay l G L F_8633 b ma mi hh zf 6 st.1 st.2.1 mb f_8638 hma f_8639 hz0 hz1 hc (by omega) hpu (by omega)) C0 hw vw_X6_106 mb f_8638 rfl rfl rfl hl.1 rfl (Nat.le_of_ble_eq_true rfl) dX6_carries_16 ⟨by decide, by decide⟩ ⟨by decide, by decide⟩) rfl rfl (fun r_8642 F_8640 H locs hw hp_8641 => ?_)
  obtain ⟨he_8643, o_8644⟩ := hp_8641
  rw [if_neg hm9] at he_8643
  subst he_8643
  refine lv_istore (lv' := [(4, .int (nI (0))), (3, .int (nI (108))), (2, .int (nI (4 * i9))), (0, .ref b), (1, .int (nI (i9)))]) hx hb dX6_carries_19 hl (by decide) rfl (fun ls hl => ?_)
  refine lv_iload hx hb dX6_carries_21 (lv_at hl 0 rfl) ?_
  refine n_if_eq (tgt := 132) hx hb dX6_carries_23 (by decide) (by decide) (fun c_23 => ?_) (fun c_23 => ?_)
  · skip
    refine lv_iload hx hb dX6_carries_132 (lv_at hl 0 rfl) ?_
    exact r_i C0 hr hlk hw (v := nI 0) rfl ⟨rfl, (fun q  => ((o_8644 q ).trans (o_8637 q )))⟩ (Nat.le_refl _) (Nat.le_refl _) dX6_carries_134 hQ
  · skip
    exact absurd c_23 (by omega)
set_option maxHeartbeats 4000000 in
set_option maxRecDepth 100000 in
theorem c_X6_carries_108 (l : Launch) (G : Gl) (L : List Nat) (F : Nat → va_E) (b : Nat) (ma : Nat → Nat) (mi : Nat → Int32) (hh : Int64) (pf zf : Nat → Int32) (pl : Nat → Nat → ZP) (i9 f9 g9 t9 : Nat) (v9 : Int32) (st : Sta) (mb : b ∈ L) (fb : F b = mO ma mi hh) (hma : ∀ i, i < 7 → ma i ∈ L) (fq : F (ma 6) = .inl (G.2 0, 52, .inl pf)) (fz : F (ma 0) = .inl (G.2 0, 89, .inl zf)) (fp : F (ma 4) = pcE G pl) (hz : zA zf st) (hS : okS st) (hi9 : i9 ≤ 12) (hf9 : f9 < 6) (hg9 : g9 < 6) (ht9 : t9 < 6) (hp0 : pf (4 * i9) = nI 108) (hp1 : pf (4 * i9 + 1) = nI f9) (hp3 : pf (4 * i9 + 3) = nI t9) (hm : 6 * st.1 ≤ st.2.1) : CI l yX6_carries cX6_carries 7 (some .boolean) rm_X6_carries G L F [.ref b, .int (nI (i9))] (fun r F1 => r = nI 1 ∧ (∃ zf1 pl1, F1 (ma 0) = .inl (G.2 0, 89, .inl zf1) ∧ zA zf1 (ordS 108 f9 g9 t9 st) ∧ F1 (ma 4) = pcE G pl1) ∧ ∀ q, q ≠ ma 0 → q ≠ ma 4 → F1 q = F q) := by
  obtain ⟨hz0, hz1, hz2, hz3, hz4⟩ := ne_z zf hz
  have hc : st.1 ≤ 6 := hS.2.1
  have hc2 : 2 ≤ st.1 := hS.1
  have hpu : st.2.1 ≤ 100000 := hS.2.2.1
  have hrw : ∀ i k, i < 12 → k < 7 → zf (5 + 7 * i + k) = nI (st.2.2.2.2.2 i k).val := hz.row
  have hR : okR st.2.2.2.2.2 := hS.2.2.2
  have hm9 :  st.1 * 6 ≤ st.2.1 := by omega
  refine CG_of (by decide) (Nat.le_of_ble_eq_true rfl) rfl ?_
  intro p e s m args below meth c Q C0 hr hlk hnm hQ hw ls hl
  have hx := C0.x
  have hb := C0.b
  refine lv_iconst (v := nI 4) hx hb dX6_carries_0 (by decide) ?_
  refine lv_iload_n hx hb dX6_carries_1 rfl (lv_at hl 1 rfl) ?_
  refine n_imul hx hb dX6_carries_2 ?_
  refine lv_istore_n (lv' := [(2, .int (nI (4 * i9))), (0, .ref b), (1, .int (nI (i9)))]) hx hb dX6_carries_3 rfl hl (by decide) rfl (fun ls hl => ?_)
  refine lv_aload_n hx hb dX6_carries_4 rfl (lv_at hl 1 rfl) ?_
  refine q_get C0 hw mb fb fw_X6_28 rfl dX6_carries_5 ?_
  refine lv_iload_n hx hb dX6_carries_8 rfl (lv_at hl 0 rfl) ?_
  refine q_iald C0 hw ((hma 6 (by decide))) fq (4 * i9) (by omega) (by decide) (v := nI 108) hp0 dX6_carries_9 ?_
  refine lv_istore_n (lv' := [(3, .int (nI (108))), (2, .int (nI (4 * i9))), (0, .ref b), (1, .int (nI (i9)))]) hx hb dX6_carries_10 rfl hl (by decide) rfl (fun ls hl => ?_)
  refine lv_aload_n hx hb dX6_carries_11 rfl (lv_at hl 2 rfl) ?_
  refine lv_iload_n hx hb dX6_carries_12 rfl (lv_at hl 0 rfl) ?_
  refine q_calli hw (q_runS (As := [.int (nI (108))]) (c_X6_workOf_108 l G L F ) C0 hw sw_X6_187 rfl hl.1 rfl (Nat.le_of_ble_eq_true rfl) dX6_carries_13 ⟨by decide, by decide⟩ ⟨by decide, by decide⟩) rfl rfl (fun r_8647 F_8645 H locs hw hp_8646 => ?_)
  obtain ⟨he_8648, o_8649⟩ := hp_8646
  subst he_8648
  have f_8650 : F_8645 b = mO ma mi hh := (o_8649 b ).trans fb
  have f_8651 : F_8645 (ma 0) = .inl (G.2 0, 89, .inl zf) := (o_8649 (ma 0) ).trans fz
  refine q_calli hw (q_runV (As := [.int (nI (6))]) (c_X6_canPay l G L F_8645 b ma mi hh zf 6 st.1 st.2.1 mb f_8650 hma f_8651 hz0 hz1 hc (by omega) hpu (by omega)) C0 hw vw_X6_106 mb f_8650 rfl rfl rfl hl.1 rfl (Nat.le_of_ble_eq_true rfl) dX6_carries_16 ⟨by decide, by decide⟩ ⟨by decide, by decide⟩) rfl rfl (fun r_8654 F_8652 H locs hw hp_8653 => ?_)
  obtain ⟨he_8655, o_8656⟩ := hp_8653
  rw [if_pos hm9] at he_8655
  subst he_8655
  refine lv_istore (lv' := [(4, .int (nI (1))), (3, .int (nI (108))), (2, .int (nI (4 * i9))), (0, .ref b), (1, .int (nI (i9)))]) hx hb dX6_carries_19 hl (by decide) rfl (fun ls hl => ?_)
  refine lv_iload hx hb dX6_carries_21 (lv_at hl 0 rfl) ?_
  refine n_if_eq (tgt := 132) hx hb dX6_carries_23 (by decide) (by decide) (fun c_23 => ?_) (fun c_23 => ?_)
  · skip
    exact absurd c_23 (by omega)
  · skip
    refine lv_aload_n hx hb dX6_carries_26 rfl (lv_at hl 3 rfl) ?_
    refine lv_iload_n hx hb dX6_carries_27 rfl (lv_at hl 1 rfl) ?_
    refine lv_aload_n hx hb dX6_carries_28 rfl (lv_at hl 3 rfl) ?_
    have f_8657 : F_8652 b = mO ma mi hh := (o_8656 b ).trans f_8650
    refine q_get C0 hw mb f_8657 fw_X6_28 rfl dX6_carries_29 ?_
    refine lv_iload_n hx hb dX6_carries_32 rfl (lv_at hl 2 rfl) ?_
    refine lv_iconst (v := nI 1) hx hb dX6_carries_33 (by decide) ?_
    refine n_iadd hx hb dX6_carries_34 ?_
    have f_8658 : F_8645 (ma 6) = .inl (G.2 0, 52, .inl pf) := (o_8649 (ma 6) ).trans fq
    have f_8659 : F_8652 (ma 6) = .inl (G.2 0, 52, .inl pf) := (o_8656 (ma 6) ).trans f_8658
    refine q_iald C0 hw ((hma 6 (by decide))) f_8659 (4 * i9 + 1) (by omega) (by decide) (v := nI (f9)) hp1 dX6_carries_35 ?_
    refine lv_aload_n hx hb dX6_carries_36 rfl (lv_at hl 3 rfl) ?_
    refine q_get C0 hw mb f_8657 fw_X6_28 rfl dX6_carries_37 ?_
    refine lv_iload_n hx hb dX6_carries_40 rfl (lv_at hl 2 rfl) ?_
    refine lv_iconst (v := nI 2) hx hb dX6_carries_41 (by decide) ?_
    refine n_iadd hx hb dX6_carries_42 ?_
    refine q_iald C0 hw ((hma 6 (by decide))) f_8659 (4 * i9 + 2) (by omega) (by decide) (v := (pf (4 * i9 + 2))) rfl dX6_carries_43 ?_
    have f_8660 : F_8645 (ma 4) = pcE G pl := (o_8649 (ma 4) ).trans fp
    have f_8661 : F_8652 (ma 4) = pcE G pl := (o_8656 (ma 4) ).trans f_8660
    have f_8662 : F_8652 (ma 0) = .inl (G.2 0, 89, .inl zf) := (o_8656 (ma 0) ).trans f_8651
    refine q_callv hw (q_runV (As := [.int (nI (108)), .int (nI (f9)), .int (pf (4 * i9 + 2))]) (c_X6_layOrder_108 l G L F_8652 b ma mi hh pl zf st.1 st.2.2.2.2.2 f9 g9 ((pf (4 * i9 + 2))) mb f_8657 hma f_8661 f_8662 hz0 (by omega) (by omega) hf9 hrw hR) C0 hw vw_X6_190 mb f_8657 rfl rfl rfl hl.1 rfl (Nat.le_of_ble_eq_true rfl) dX6_carries_44 ⟨by decide, by decide⟩ ⟨by decide, by decide⟩) rfl rfl (fun F_8663 H locs hw hp_8664 => ?_)
    obtain ⟨⟨P_8665, f_8667, r_8666⟩, o_8668⟩ := hp_8664
    refine lv_iload_n hx hb dX6_carries_47 rfl (lv_at hl 1 rfl) ?_
    refine lv_bipush (v := nI 101) hx hb dX6_carries_48 (by decide) ?_
    refine n_icmp_eq (tgt := 65) hx hb dX6_carries_50 (by decide) (by decide) (by decide) (fun c_50 => ?_) (fun c_50 => ?_)
    · skip
      exact absurd c_50 (by omega)
    · skip
      refine lv_iload_n hx hb dX6_carries_53 rfl (lv_at hl 1 rfl) ?_
      refine lv_bipush (v := nI 99) hx hb dX6_carries_54 (by decide) ?_
      refine n_icmp_eq (tgt := 65) hx hb dX6_carries_56 (by decide) (by decide) (by decide) (fun c_56 => ?_) (fun c_56 => ?_)
      · skip
        exact absurd c_56 (by omega)
      · skip
        refine lv_iload_n hx hb dX6_carries_59 rfl (lv_at hl 1 rfl) ?_
        refine lv_bipush (v := nI 105) hx hb dX6_carries_60 (by decide) ?_
        refine n_icmp_ne (tgt := 69) hx hb dX6_carries_62 (by decide) (by decide) (by decide) (fun c_62 => ?_) (fun c_62 => ?_)
        · skip
          refine lv_iconst (v := nI 0) hx hb dX6_carries_69 (by decide) ?_
          refine lv_istore (lv' := [(5, .int (nI (0))), (4, .int (nI (1))), (3, .int (nI (108))), (2, .int (nI (4 * i9))), (0, .ref b), (1, .int (nI (i9)))]) hx hb dX6_carries_70 hl (by decide) rfl (fun ls hl => ?_)
          refine lv_aload_n hx hb dX6_carries_72 rfl (lv_at hl 4 rfl) ?_
          have f_8669 : F_8663 b = mO ma mi hh := (o_8668 b (ne_oa f_8657 f_8661)).trans f_8657
          refine q_get C0 hw mb f_8669 fw_X6_7 rfl dX6_carries_73 ?_
          refine lv_iconst (v := nI 4) hx hb dX6_carries_76 (by decide) ?_
          refine lv_dup2_11 hx hb dX6_carries_77 rfl rfl ?_
          have f_8670 : F_8663 (ma 0) = .inl (G.2 0, 89, .inl zf) := (o_8668 (ma 0) (ne_aa (by decide) f_8662 f_8661)).trans f_8662
          refine q_iald C0 hw ((hma 0 (by decide))) f_8670 (4) (by omega) (by decide) (v := nI (st.2.2.2.2.1)) hz4 dX6_carries_78 ?_
          refine lv_iload_n hx hb dX6_carries_79 rfl (lv_at hl 2 rfl) ?_
          refine lv_bipush (v := nI 98) hx hb dX6_carries_80 (by decide) ?_
          refine n_icmp_ne (tgt := 89) hx hb dX6_carries_82 (by decide) (by decide) (by decide) (fun c_82 => ?_) (fun c_82 => ?_)
          · skip
            refine lv_iconst (v := nI 0) hx hb dX6_carries_89 (by decide) ?_
            refine n_iadd hx hb dX6_carries_90 ?_
            refine q_iast C0 hw ((hma 0 (by decide))) f_8670 (4) (by omega) (by decide) dX6_carries_91 (fun F_8671 H locs hw f_8672 o_8673 => ?_)
            refine lv_aload_n hx hb dX6_carries_92 rfl (lv_at hl 4 rfl) ?_
            refine lv_iload_n hx hb dX6_carries_93 rfl (lv_at hl 2 rfl) ?_
            refine q_calli hw (q_runS (As := [.int (nI (108))]) (c_X6_workOf_108 l G L F_8671 ) C0 hw sw_X6_187 rfl hl.1 rfl (Nat.le_of_ble_eq_true rfl) dX6_carries_94 ⟨by decide, by decide⟩ ⟨by decide, by decide⟩) rfl rfl (fun r_8676 F_8674 H locs hw hp_8675 => ?_)
            obtain ⟨he_8677, o_8678⟩ := hp_8675
            subst he_8677
            refine lv_iload hx hb dX6_carries_97 (lv_at hl 0 rfl) ?_
            refine n_if_eq (tgt := 116) hx hb dX6_carries_99 (by decide) (by decide) (fun c_99 => ?_) (fun c_99 => ?_)
            · skip
              refine lv_aload_n hx hb dX6_carries_116 rfl (lv_at hl 4 rfl) ?_
              have f_8679 : F_8671 b = mO ma mi hh := (o_8673 b (ne_oa f_8669 f_8670)).trans f_8669
              have f_8680 : F_8674 b = mO ma mi hh := (o_8678 b ).trans f_8679
              refine q_get C0 hw mb f_8680 fw_X6_28 rfl dX6_carries_117 ?_
              refine lv_iload_n hx hb dX6_carries_120 rfl (lv_at hl 3 rfl) ?_
              refine lv_iconst (v := nI 3) hx hb dX6_carries_121 (by decide) ?_
              refine n_iadd hx hb dX6_carries_122 ?_
              have f_8681 : F_8663 (ma 6) = .inl (G.2 0, 52, .inl pf) := (o_8668 (ma 6) (ne_aa (by decide) f_8659 f_8661)).trans f_8659
              have f_8682 : F_8671 (ma 6) = .inl (G.2 0, 52, .inl pf) := (o_8673 (ma 6) (ne_aa (by decide) f_8681 f_8670)).trans f_8681
              have f_8683 : F_8674 (ma 6) = .inl (G.2 0, 52, .inl pf) := (o_8678 (ma 6) ).trans f_8682
              refine q_iald C0 hw ((hma 6 (by decide))) f_8683 (4 * i9 + 3) (by omega) (by decide) (v := nI (t9)) hp3 dX6_carries_123 ?_
              refine q_calli hw (q_runS (As := [.int (nI (t9))]) (c_X6_fieldAt l G L F_8674 t9 (by omega)) C0 hw sw_X6_109 rfl hl.1 rfl (Nat.le_of_ble_eq_true rfl) dX6_carries_124 ⟨by decide, by decide⟩ ⟨by decide, by decide⟩) rfl rfl (fun r_8686 F_8684 H locs hw hp_8685 => ?_)
              obtain ⟨he_8687, o_8688⟩ := hp_8685
              subst he_8687
              have f_8689 : F_8674 (ma 0) = .inl (G.2 0, 89, .inl (upd zf (4) (nI (st.2.2.2.2.1 + 0)))) := (o_8678 (ma 0) ).trans f_8672
              have f_8690 : F_8684 (ma 0) = .inl (G.2 0, 89, .inl (upd zf (4) (nI (st.2.2.2.2.1 + 0)))) := (o_8688 (ma 0) ).trans f_8689
              have f_8691 : F_8684 b = mO ma mi hh := (o_8688 b ).trans f_8680
              have f_8692 : F_8671 (ma 4) = pcE G P_8665 := (o_8673 (ma 4) (ne_aa (by decide) f_8667 f_8670)).trans f_8667
              have f_8693 : F_8674 (ma 4) = pcE G P_8665 := (o_8678 (ma 4) ).trans f_8692
              have f_8694 : F_8684 (ma 4) = pcE G P_8665 := (o_8688 (ma 4) ).trans f_8693
              refine q_calli hw (q_runV (As := [.int (nI (6)), .int (nI (5 + 7 * t9))]) (c_X6_pays l G L F_8684 b ma mi hh P_8665 (upd zf (4) (nI (st.2.2.2.2.1 + 0))) st.1 6 (5 + 7 * t9) st.2.1 st.2.2.1 st.2.2.2.1 mb f_8691 hma f_8694 f_8690 hz0 (by omega) (by omega) hz1 hz2 hz3 (by omega) (by omega) (by omega)) C0 hw vw_X6_103 mb f_8691 rfl rfl rfl hl.1 rfl (Nat.le_of_ble_eq_true rfl) dX6_carries_127 ⟨by decide, by decide⟩ ⟨by decide, by decide⟩) rfl rfl (fun r_8697 F_8695 H locs hw hp_8696 => ?_)
              obtain ⟨he_8698, f_8699, o_8700⟩ := hp_8696
              subst he_8698
              refine lv_istore (lv' := [(6, .int (lowR (P_8665 2))), (5, .int (nI (0))), (4, .int (nI (1))), (3, .int (nI (108))), (2, .int (nI (4 * i9))), (0, .ref b), (1, .int (nI (i9)))]) hx hb dX6_carries_130 hl (by decide) rfl (fun ls hl => ?_)
              refine lv_iload hx hb dX6_carries_132 (lv_at hl 2 rfl) ?_
              have hz_8701 := f_8699
              rw [r_8666] at hz_8701
              have f_8702 : F_8695 (ma 4) = pcE G P_8665 := (o_8700 (ma 4) (ne_aa (by decide) f_8694 f_8690)).trans f_8694
              exact r_i C0 hr hlk hw (v := nI 1) rfl ⟨rfl, ⟨_, _, hz_8701, (pyM_ok (st := (st.1, st.2.1, st.2.2.1, st.2.2.2.1, st.2.2.2.2.1, st.2.2.2.2.2)) (bk := st.2.2.2.2.1 + 0) (un := 6) (t := t9) (u := ordR 108 f9 g9 st.1 st.2.2.2.2.2) (bk_okn 0 hz) (by omega)), f_8702⟩, (fun q k0 k1 => ((o_8700 q k0).trans ((o_8688 q ).trans ((o_8678 q ).trans ((o_8673 q k0).trans ((o_8668 q k1).trans ((o_8656 q ).trans (o_8649 q ))))))))⟩ (Nat.le_refl _) (Nat.le_refl _) dX6_carries_134 hQ
            · skip
              exact absurd c_99 (by omega)
          · skip
            exact absurd c_82 (by omega)
        · skip
          exact absurd c_62 (by omega)
set_option maxHeartbeats 4000000 in
set_option maxRecDepth 100000 in
theorem c_X6_carries_no_101 (l : Launch) (G : Gl) (L : List Nat) (F : Nat → va_E) (b : Nat) (ma : Nat → Nat) (mi : Nat → Int32) (hh : Int64) (pf zf : Nat → Int32) (pl : Nat → Nat → ZP) (i9 f9 g9 t9 : Nat) (v9 : Int32) (st : Sta) (mb : b ∈ L) (fb : F b = mO ma mi hh) (hma : ∀ i, i < 7 → ma i ∈ L) (fq : F (ma 6) = .inl (G.2 0, 52, .inl pf)) (fz : F (ma 0) = .inl (G.2 0, 89, .inl zf)) (fp : F (ma 4) = pcE G pl) (hz : zA zf st) (hS : okS st) (hi9 : i9 ≤ 12) (hf9 : f9 < 6) (hg9 : g9 < 6) (ht9 : t9 < 6) (hp0 : pf (4 * i9) = nI 101) (hp1 : pf (4 * i9 + 1) = nI f9) (hp3 : pf (4 * i9 + 3) = nI t9) (hm : st.2.1 < 5 * st.1) : CI l yX6_carries cX6_carries 7 (some .boolean) rm_X6_carries G L F [.ref b, .int (nI (i9))] (fun r F1 => r = nI 0 ∧ ∀ q, F1 q = F q) := by
  obtain ⟨hz0, hz1, hz2, hz3, hz4⟩ := ne_z zf hz
  have hc : st.1 ≤ 6 := hS.2.1
  have hc2 : 2 ≤ st.1 := hS.1
  have hpu : st.2.1 ≤ 100000 := hS.2.2.1
  have hrw : ∀ i k, i < 12 → k < 7 → zf (5 + 7 * i + k) = nI (st.2.2.2.2.2 i k).val := hz.row
  have hR : okR st.2.2.2.2.2 := hS.2.2.2
  have hm9 : ¬ st.1 * 5 ≤ st.2.1 := by omega
  refine CG_of (by decide) (Nat.le_of_ble_eq_true rfl) rfl ?_
  intro p e s m args below meth c Q C0 hr hlk hnm hQ hw ls hl
  have hx := C0.x
  have hb := C0.b
  refine lv_iconst (v := nI 4) hx hb dX6_carries_0 (by decide) ?_
  refine lv_iload_n hx hb dX6_carries_1 rfl (lv_at hl 1 rfl) ?_
  refine n_imul hx hb dX6_carries_2 ?_
  refine lv_istore_n (lv' := [(2, .int (nI (4 * i9))), (0, .ref b), (1, .int (nI (i9)))]) hx hb dX6_carries_3 rfl hl (by decide) rfl (fun ls hl => ?_)
  refine lv_aload_n hx hb dX6_carries_4 rfl (lv_at hl 1 rfl) ?_
  refine q_get C0 hw mb fb fw_X6_28 rfl dX6_carries_5 ?_
  refine lv_iload_n hx hb dX6_carries_8 rfl (lv_at hl 0 rfl) ?_
  refine q_iald C0 hw ((hma 6 (by decide))) fq (4 * i9) (by omega) (by decide) (v := nI 101) hp0 dX6_carries_9 ?_
  refine lv_istore_n (lv' := [(3, .int (nI (101))), (2, .int (nI (4 * i9))), (0, .ref b), (1, .int (nI (i9)))]) hx hb dX6_carries_10 rfl hl (by decide) rfl (fun ls hl => ?_)
  refine lv_aload_n hx hb dX6_carries_11 rfl (lv_at hl 2 rfl) ?_
  refine lv_iload_n hx hb dX6_carries_12 rfl (lv_at hl 0 rfl) ?_
  refine q_calli hw (q_runS (As := [.int (nI (101))]) (c_X6_workOf_101 l G L F ) C0 hw sw_X6_187 rfl hl.1 rfl (Nat.le_of_ble_eq_true rfl) dX6_carries_13 ⟨by decide, by decide⟩ ⟨by decide, by decide⟩) rfl rfl (fun r_8705 F_8703 H locs hw hp_8704 => ?_)
  obtain ⟨he_8706, o_8707⟩ := hp_8704
  subst he_8706
  have f_8708 : F_8703 b = mO ma mi hh := (o_8707 b ).trans fb
  have f_8709 : F_8703 (ma 0) = .inl (G.2 0, 89, .inl zf) := (o_8707 (ma 0) ).trans fz
  refine q_calli hw (q_runV (As := [.int (nI (5))]) (c_X6_canPay l G L F_8703 b ma mi hh zf 5 st.1 st.2.1 mb f_8708 hma f_8709 hz0 hz1 hc (by omega) hpu (by omega)) C0 hw vw_X6_106 mb f_8708 rfl rfl rfl hl.1 rfl (Nat.le_of_ble_eq_true rfl) dX6_carries_16 ⟨by decide, by decide⟩ ⟨by decide, by decide⟩) rfl rfl (fun r_8712 F_8710 H locs hw hp_8711 => ?_)
  obtain ⟨he_8713, o_8714⟩ := hp_8711
  rw [if_neg hm9] at he_8713
  subst he_8713
  refine lv_istore (lv' := [(4, .int (nI (0))), (3, .int (nI (101))), (2, .int (nI (4 * i9))), (0, .ref b), (1, .int (nI (i9)))]) hx hb dX6_carries_19 hl (by decide) rfl (fun ls hl => ?_)
  refine lv_iload hx hb dX6_carries_21 (lv_at hl 0 rfl) ?_
  refine n_if_eq (tgt := 132) hx hb dX6_carries_23 (by decide) (by decide) (fun c_23 => ?_) (fun c_23 => ?_)
  · skip
    refine lv_iload hx hb dX6_carries_132 (lv_at hl 0 rfl) ?_
    exact r_i C0 hr hlk hw (v := nI 0) rfl ⟨rfl, (fun q  => ((o_8714 q ).trans (o_8707 q )))⟩ (Nat.le_refl _) (Nat.le_refl _) dX6_carries_134 hQ
  · skip
    exact absurd c_23 (by omega)
set_option maxHeartbeats 4000000 in
set_option maxRecDepth 100000 in
theorem c_X6_carries_101 (l : Launch) (G : Gl) (L : List Nat) (F : Nat → va_E) (b : Nat) (ma : Nat → Nat) (mi : Nat → Int32) (hh : Int64) (pf zf : Nat → Int32) (pl : Nat → Nat → ZP) (i9 f9 g9 t9 : Nat) (v9 : Int32) (st : Sta) (mb : b ∈ L) (fb : F b = mO ma mi hh) (hma : ∀ i, i < 7 → ma i ∈ L) (fq : F (ma 6) = .inl (G.2 0, 52, .inl pf)) (fz : F (ma 0) = .inl (G.2 0, 89, .inl zf)) (fp : F (ma 4) = pcE G pl) (hz : zA zf st) (hS : okS st) (hi9 : i9 ≤ 12) (hf9 : f9 < 6) (hg9 : g9 < 6) (ht9 : t9 < 6) (hp0 : pf (4 * i9) = nI 101) (hp1 : pf (4 * i9 + 1) = nI f9) (hp3 : pf (4 * i9 + 3) = nI t9) (hm : 5 * st.1 ≤ st.2.1) : CI l yX6_carries cX6_carries 7 (some .boolean) rm_X6_carries G L F [.ref b, .int (nI (i9))] (fun r F1 => r = nI 1 ∧ (∃ zf1 pl1, F1 (ma 0) = .inl (G.2 0, 89, .inl zf1) ∧ zA zf1 (ordS 101 f9 g9 t9 st) ∧ F1 (ma 4) = pcE G pl1) ∧ ∀ q, q ≠ ma 0 → q ≠ ma 4 → F1 q = F q) := by
  obtain ⟨hz0, hz1, hz2, hz3, hz4⟩ := ne_z zf hz
  have hc : st.1 ≤ 6 := hS.2.1
  have hc2 : 2 ≤ st.1 := hS.1
  have hpu : st.2.1 ≤ 100000 := hS.2.2.1
  have hrw : ∀ i k, i < 12 → k < 7 → zf (5 + 7 * i + k) = nI (st.2.2.2.2.2 i k).val := hz.row
  have hR : okR st.2.2.2.2.2 := hS.2.2.2
  have hm9 :  st.1 * 5 ≤ st.2.1 := by omega
  refine CG_of (by decide) (Nat.le_of_ble_eq_true rfl) rfl ?_
  intro p e s m args below meth c Q C0 hr hlk hnm hQ hw ls hl
  have hx := C0.x
  have hb := C0.b
  refine lv_iconst (v := nI 4) hx hb dX6_carries_0 (by decide) ?_
  refine lv_iload_n hx hb dX6_carries_1 rfl (lv_at hl 1 rfl) ?_
  refine n_imul hx hb dX6_carries_2 ?_
  refine lv_istore_n (lv' := [(2, .int (nI (4 * i9))), (0, .ref b), (1, .int (nI (i9)))]) hx hb dX6_carries_3 rfl hl (by decide) rfl (fun ls hl => ?_)
  refine lv_aload_n hx hb dX6_carries_4 rfl (lv_at hl 1 rfl) ?_
  refine q_get C0 hw mb fb fw_X6_28 rfl dX6_carries_5 ?_
  refine lv_iload_n hx hb dX6_carries_8 rfl (lv_at hl 0 rfl) ?_
  refine q_iald C0 hw ((hma 6 (by decide))) fq (4 * i9) (by omega) (by decide) (v := nI 101) hp0 dX6_carries_9 ?_
  refine lv_istore_n (lv' := [(3, .int (nI (101))), (2, .int (nI (4 * i9))), (0, .ref b), (1, .int (nI (i9)))]) hx hb dX6_carries_10 rfl hl (by decide) rfl (fun ls hl => ?_)
  refine lv_aload_n hx hb dX6_carries_11 rfl (lv_at hl 2 rfl) ?_
  refine lv_iload_n hx hb dX6_carries_12 rfl (lv_at hl 0 rfl) ?_
  refine q_calli hw (q_runS (As := [.int (nI (101))]) (c_X6_workOf_101 l G L F ) C0 hw sw_X6_187 rfl hl.1 rfl (Nat.le_of_ble_eq_true rfl) dX6_carries_13 ⟨by decide, by decide⟩ ⟨by decide, by decide⟩) rfl rfl (fun r_8717 F_8715 H locs hw hp_8716 => ?_)
  obtain ⟨he_8718, o_8719⟩ := hp_8716
  subst he_8718
  have f_8720 : F_8715 b = mO ma mi hh := (o_8719 b ).trans fb
  have f_8721 : F_8715 (ma 0) = .inl (G.2 0, 89, .inl zf) := (o_8719 (ma 0) ).trans fz
  refine q_calli hw (q_runV (As := [.int (nI (5))]) (c_X6_canPay l G L F_8715 b ma mi hh zf 5 st.1 st.2.1 mb f_8720 hma f_8721 hz0 hz1 hc (by omega) hpu (by omega)) C0 hw vw_X6_106 mb f_8720 rfl rfl rfl hl.1 rfl (Nat.le_of_ble_eq_true rfl) dX6_carries_16 ⟨by decide, by decide⟩ ⟨by decide, by decide⟩) rfl rfl (fun r_8724 F_8722 H locs hw hp_8723 => ?_)
  obtain ⟨he_8725, o_8726⟩ := hp_8723
  rw [if_pos hm9] at he_8725
  subst he_8725
  refine lv_istore (lv' := [(4, .int (nI (1))), (3, .int (nI (101))), (2, .int (nI (4 * i9))), (0, .ref b), (1, .int (nI (i9)))]) hx hb dX6_carries_19 hl (by decide) rfl (fun ls hl => ?_)
  refine lv_iload hx hb dX6_carries_21 (lv_at hl 0 rfl) ?_
  refine n_if_eq (tgt := 132) hx hb dX6_carries_23 (by decide) (by decide) (fun c_23 => ?_) (fun c_23 => ?_)
  · skip
    exact absurd c_23 (by omega)
  · skip
    refine lv_aload_n hx hb dX6_carries_26 rfl (lv_at hl 3 rfl) ?_
    refine lv_iload_n hx hb dX6_carries_27 rfl (lv_at hl 1 rfl) ?_
    refine lv_aload_n hx hb dX6_carries_28 rfl (lv_at hl 3 rfl) ?_
    have f_8727 : F_8722 b = mO ma mi hh := (o_8726 b ).trans f_8720
    refine q_get C0 hw mb f_8727 fw_X6_28 rfl dX6_carries_29 ?_
    refine lv_iload_n hx hb dX6_carries_32 rfl (lv_at hl 2 rfl) ?_
    refine lv_iconst (v := nI 1) hx hb dX6_carries_33 (by decide) ?_
    refine n_iadd hx hb dX6_carries_34 ?_
    have f_8728 : F_8715 (ma 6) = .inl (G.2 0, 52, .inl pf) := (o_8719 (ma 6) ).trans fq
    have f_8729 : F_8722 (ma 6) = .inl (G.2 0, 52, .inl pf) := (o_8726 (ma 6) ).trans f_8728
    refine q_iald C0 hw ((hma 6 (by decide))) f_8729 (4 * i9 + 1) (by omega) (by decide) (v := nI (f9)) hp1 dX6_carries_35 ?_
    refine lv_aload_n hx hb dX6_carries_36 rfl (lv_at hl 3 rfl) ?_
    refine q_get C0 hw mb f_8727 fw_X6_28 rfl dX6_carries_37 ?_
    refine lv_iload_n hx hb dX6_carries_40 rfl (lv_at hl 2 rfl) ?_
    refine lv_iconst (v := nI 2) hx hb dX6_carries_41 (by decide) ?_
    refine n_iadd hx hb dX6_carries_42 ?_
    refine q_iald C0 hw ((hma 6 (by decide))) f_8729 (4 * i9 + 2) (by omega) (by decide) (v := (pf (4 * i9 + 2))) rfl dX6_carries_43 ?_
    have f_8730 : F_8715 (ma 4) = pcE G pl := (o_8719 (ma 4) ).trans fp
    have f_8731 : F_8722 (ma 4) = pcE G pl := (o_8726 (ma 4) ).trans f_8730
    have f_8732 : F_8722 (ma 0) = .inl (G.2 0, 89, .inl zf) := (o_8726 (ma 0) ).trans f_8721
    refine q_callv hw (q_runV (As := [.int (nI (101)), .int (nI (f9)), .int (pf (4 * i9 + 2))]) (c_X6_layOrder_101 l G L F_8722 b ma mi hh pl zf st.1 st.2.2.2.2.2 f9 g9 ((pf (4 * i9 + 2))) mb f_8727 hma f_8731 f_8732 hz0 (by omega) (by omega) hf9 hrw hR) C0 hw vw_X6_190 mb f_8727 rfl rfl rfl hl.1 rfl (Nat.le_of_ble_eq_true rfl) dX6_carries_44 ⟨by decide, by decide⟩ ⟨by decide, by decide⟩) rfl rfl (fun F_8733 H locs hw hp_8734 => ?_)
    obtain ⟨⟨P_8735, f_8737, r_8736⟩, o_8738⟩ := hp_8734
    refine lv_iload_n hx hb dX6_carries_47 rfl (lv_at hl 1 rfl) ?_
    refine lv_bipush (v := nI 101) hx hb dX6_carries_48 (by decide) ?_
    refine n_icmp_eq (tgt := 65) hx hb dX6_carries_50 (by decide) (by decide) (by decide) (fun c_50 => ?_) (fun c_50 => ?_)
    · skip
      refine lv_iconst (v := nI 1) hx hb dX6_carries_65 (by decide) ?_
      refine lv_goto (tgt := 70) hx hb dX6_carries_66 (by decide) ?_
      refine lv_istore (lv' := [(5, .int (nI (1))), (4, .int (nI (1))), (3, .int (nI (101))), (2, .int (nI (4 * i9))), (0, .ref b), (1, .int (nI (i9)))]) hx hb dX6_carries_70 hl (by decide) rfl (fun ls hl => ?_)
      refine lv_aload_n hx hb dX6_carries_72 rfl (lv_at hl 4 rfl) ?_
      have f_8739 : F_8733 b = mO ma mi hh := (o_8738 b (ne_oa f_8727 f_8731)).trans f_8727
      refine q_get C0 hw mb f_8739 fw_X6_7 rfl dX6_carries_73 ?_
      refine lv_iconst (v := nI 4) hx hb dX6_carries_76 (by decide) ?_
      refine lv_dup2_11 hx hb dX6_carries_77 rfl rfl ?_
      have f_8740 : F_8733 (ma 0) = .inl (G.2 0, 89, .inl zf) := (o_8738 (ma 0) (ne_aa (by decide) f_8732 f_8731)).trans f_8732
      refine q_iald C0 hw ((hma 0 (by decide))) f_8740 (4) (by omega) (by decide) (v := nI (st.2.2.2.2.1)) hz4 dX6_carries_78 ?_
      refine lv_iload_n hx hb dX6_carries_79 rfl (lv_at hl 2 rfl) ?_
      refine lv_bipush (v := nI 98) hx hb dX6_carries_80 (by decide) ?_
      refine n_icmp_ne (tgt := 89) hx hb dX6_carries_82 (by decide) (by decide) (by decide) (fun c_82 => ?_) (fun c_82 => ?_)
      · skip
        refine lv_iconst (v := nI 0) hx hb dX6_carries_89 (by decide) ?_
        refine n_iadd hx hb dX6_carries_90 ?_
        refine q_iast C0 hw ((hma 0 (by decide))) f_8740 (4) (by omega) (by decide) dX6_carries_91 (fun F_8741 H locs hw f_8742 o_8743 => ?_)
        refine lv_aload_n hx hb dX6_carries_92 rfl (lv_at hl 4 rfl) ?_
        refine lv_iload_n hx hb dX6_carries_93 rfl (lv_at hl 2 rfl) ?_
        refine q_calli hw (q_runS (As := [.int (nI (101))]) (c_X6_workOf_101 l G L F_8741 ) C0 hw sw_X6_187 rfl hl.1 rfl (Nat.le_of_ble_eq_true rfl) dX6_carries_94 ⟨by decide, by decide⟩ ⟨by decide, by decide⟩) rfl rfl (fun r_8746 F_8744 H locs hw hp_8745 => ?_)
        obtain ⟨he_8747, o_8748⟩ := hp_8745
        subst he_8747
        refine lv_iload hx hb dX6_carries_97 (lv_at hl 0 rfl) ?_
        refine n_if_eq (tgt := 116) hx hb dX6_carries_99 (by decide) (by decide) (fun c_99 => ?_) (fun c_99 => ?_)
        · skip
          exact absurd c_99 (by omega)
        · skip
          refine lv_aload_n hx hb dX6_carries_102 rfl (lv_at hl 4 rfl) ?_
          have f_8749 : F_8741 b = mO ma mi hh := (o_8743 b (ne_oa f_8739 f_8740)).trans f_8739
          have f_8750 : F_8744 b = mO ma mi hh := (o_8748 b ).trans f_8749
          refine q_get C0 hw mb f_8750 fw_X6_28 rfl dX6_carries_103 ?_
          refine lv_iload_n hx hb dX6_carries_106 rfl (lv_at hl 3 rfl) ?_
          refine lv_iconst (v := nI 3) hx hb dX6_carries_107 (by decide) ?_
          refine n_iadd hx hb dX6_carries_108 ?_
          have f_8751 : F_8733 (ma 6) = .inl (G.2 0, 52, .inl pf) := (o_8738 (ma 6) (ne_aa (by decide) f_8729 f_8731)).trans f_8729
          have f_8752 : F_8741 (ma 6) = .inl (G.2 0, 52, .inl pf) := (o_8743 (ma 6) (ne_aa (by decide) f_8751 f_8740)).trans f_8751
          have f_8753 : F_8744 (ma 6) = .inl (G.2 0, 52, .inl pf) := (o_8748 (ma 6) ).trans f_8752
          refine q_iald C0 hw ((hma 6 (by decide))) f_8753 (4 * i9 + 3) (by omega) (by decide) (v := nI (t9)) hp3 dX6_carries_109 ?_
          refine q_calli hw (q_runS (As := [.int (nI (t9))]) (c_X6_flowAt2 l G L F_8744 t9 (by omega)) C0 hw sw_X6_138 rfl hl.1 rfl (Nat.le_of_ble_eq_true rfl) dX6_carries_110 ⟨by decide, by decide⟩ ⟨by decide, by decide⟩) rfl rfl (fun r_8756 F_8754 H locs hw hp_8755 => ?_)
          obtain ⟨he_8757, o_8758⟩ := hp_8755
          subst he_8757
          refine lv_goto (tgt := 127) hx hb dX6_carries_113 (by decide) ?_
          have f_8759 : F_8744 (ma 0) = .inl (G.2 0, 89, .inl (upd zf (4) (nI (st.2.2.2.2.1 + 0)))) := (o_8748 (ma 0) ).trans f_8742
          have f_8760 : F_8754 (ma 0) = .inl (G.2 0, 89, .inl (upd zf (4) (nI (st.2.2.2.2.1 + 0)))) := (o_8758 (ma 0) ).trans f_8759
          have f_8761 : F_8754 b = mO ma mi hh := (o_8758 b ).trans f_8750
          have f_8762 : F_8741 (ma 4) = pcE G P_8735 := (o_8743 (ma 4) (ne_aa (by decide) f_8737 f_8740)).trans f_8737
          have f_8763 : F_8744 (ma 4) = pcE G P_8735 := (o_8748 (ma 4) ).trans f_8762
          have f_8764 : F_8754 (ma 4) = pcE G P_8735 := (o_8758 (ma 4) ).trans f_8763
          refine q_calli hw (q_runV (As := [.int (nI (5)), .int (nI (5 + 7 * (6 + t9)))]) (c_X6_pays l G L F_8754 b ma mi hh P_8735 (upd zf (4) (nI (st.2.2.2.2.1 + 0))) st.1 5 (5 + 7 * (6 + t9)) st.2.1 st.2.2.1 st.2.2.2.1 mb f_8761 hma f_8764 f_8760 hz0 (by omega) (by omega) hz1 hz2 hz3 (by omega) (by omega) (by omega)) C0 hw vw_X6_103 mb f_8761 rfl rfl rfl hl.1 rfl (Nat.le_of_ble_eq_true rfl) dX6_carries_127 ⟨by decide, by decide⟩ ⟨by decide, by decide⟩) rfl rfl (fun r_8767 F_8765 H locs hw hp_8766 => ?_)
          obtain ⟨he_8768, f_8769, o_8770⟩ := hp_8766
          subst he_8768
          refine lv_istore (lv' := [(6, .int (lowR (P_8735 2))), (5, .int (nI (1))), (4, .int (nI (1))), (3, .int (nI (101))), (2, .int (nI (4 * i9))), (0, .ref b), (1, .int (nI (i9)))]) hx hb dX6_carries_130 hl (by decide) rfl (fun ls hl => ?_)
          refine lv_iload hx hb dX6_carries_132 (lv_at hl 2 rfl) ?_
          have hz_8771 := f_8769
          rw [r_8736] at hz_8771
          have f_8772 : F_8765 (ma 4) = pcE G P_8735 := (o_8770 (ma 4) (ne_aa (by decide) f_8764 f_8760)).trans f_8764
          exact r_i C0 hr hlk hw (v := nI 1) rfl ⟨rfl, ⟨_, _, hz_8771, (pyM_ok (st := (st.1, st.2.1, st.2.2.1, st.2.2.2.1, st.2.2.2.2.1, st.2.2.2.2.2)) (bk := st.2.2.2.2.1 + 0) (un := 5) (t := (6 + t9)) (u := ordR 101 f9 g9 st.1 st.2.2.2.2.2) (bk_okn 0 hz) (by omega)), f_8772⟩, (fun q k0 k1 => ((o_8770 q k0).trans ((o_8758 q ).trans ((o_8748 q ).trans ((o_8743 q k0).trans ((o_8738 q k1).trans ((o_8726 q ).trans (o_8719 q ))))))))⟩ (Nat.le_refl _) (Nat.le_refl _) dX6_carries_134 hQ
      · skip
        exact absurd c_82 (by omega)
    · skip
      exact absurd c_50 (by omega)
set_option maxHeartbeats 4000000 in
set_option maxRecDepth 100000 in
theorem c_X6_carries_no_99 (l : Launch) (G : Gl) (L : List Nat) (F : Nat → va_E) (b : Nat) (ma : Nat → Nat) (mi : Nat → Int32) (hh : Int64) (pf zf : Nat → Int32) (pl : Nat → Nat → ZP) (i9 f9 g9 t9 : Nat) (v9 : Int32) (st : Sta) (mb : b ∈ L) (fb : F b = mO ma mi hh) (hma : ∀ i, i < 7 → ma i ∈ L) (fq : F (ma 6) = .inl (G.2 0, 52, .inl pf)) (fz : F (ma 0) = .inl (G.2 0, 89, .inl zf)) (fp : F (ma 4) = pcE G pl) (hz : zA zf st) (hS : okS st) (hi9 : i9 ≤ 12) (hf9 : f9 < 6) (hg9 : g9 < 6) (ht9 : t9 < 6) (hp0 : pf (4 * i9) = nI 99) (hp1 : pf (4 * i9 + 1) = nI f9) (hp2 : pf (4 * i9 + 2) = nI g9) (hp3 : pf (4 * i9 + 3) = nI t9) (hm : st.2.1 < 4 * st.1) : CI l yX6_carries cX6_carries 7 (some .boolean) rm_X6_carries G L F [.ref b, .int (nI (i9))] (fun r F1 => r = nI 0 ∧ ∀ q, F1 q = F q) := by
  obtain ⟨hz0, hz1, hz2, hz3, hz4⟩ := ne_z zf hz
  have hc : st.1 ≤ 6 := hS.2.1
  have hc2 : 2 ≤ st.1 := hS.1
  have hpu : st.2.1 ≤ 100000 := hS.2.2.1
  have hrw : ∀ i k, i < 12 → k < 7 → zf (5 + 7 * i + k) = nI (st.2.2.2.2.2 i k).val := hz.row
  have hR : okR st.2.2.2.2.2 := hS.2.2.2
  have hm9 : ¬ st.1 * 4 ≤ st.2.1 := by omega
  refine CG_of (by decide) (Nat.le_of_ble_eq_true rfl) rfl ?_
  intro p e s m args below meth c Q C0 hr hlk hnm hQ hw ls hl
  have hx := C0.x
  have hb := C0.b
  refine lv_iconst (v := nI 4) hx hb dX6_carries_0 (by decide) ?_
  refine lv_iload_n hx hb dX6_carries_1 rfl (lv_at hl 1 rfl) ?_
  refine n_imul hx hb dX6_carries_2 ?_
  refine lv_istore_n (lv' := [(2, .int (nI (4 * i9))), (0, .ref b), (1, .int (nI (i9)))]) hx hb dX6_carries_3 rfl hl (by decide) rfl (fun ls hl => ?_)
  refine lv_aload_n hx hb dX6_carries_4 rfl (lv_at hl 1 rfl) ?_
  refine q_get C0 hw mb fb fw_X6_28 rfl dX6_carries_5 ?_
  refine lv_iload_n hx hb dX6_carries_8 rfl (lv_at hl 0 rfl) ?_
  refine q_iald C0 hw ((hma 6 (by decide))) fq (4 * i9) (by omega) (by decide) (v := nI 99) hp0 dX6_carries_9 ?_
  refine lv_istore_n (lv' := [(3, .int (nI (99))), (2, .int (nI (4 * i9))), (0, .ref b), (1, .int (nI (i9)))]) hx hb dX6_carries_10 rfl hl (by decide) rfl (fun ls hl => ?_)
  refine lv_aload_n hx hb dX6_carries_11 rfl (lv_at hl 2 rfl) ?_
  refine lv_iload_n hx hb dX6_carries_12 rfl (lv_at hl 0 rfl) ?_
  refine q_calli hw (q_runS (As := [.int (nI (99))]) (c_X6_workOf_99 l G L F ) C0 hw sw_X6_187 rfl hl.1 rfl (Nat.le_of_ble_eq_true rfl) dX6_carries_13 ⟨by decide, by decide⟩ ⟨by decide, by decide⟩) rfl rfl (fun r_8775 F_8773 H locs hw hp_8774 => ?_)
  obtain ⟨he_8776, o_8777⟩ := hp_8774
  subst he_8776
  have f_8778 : F_8773 b = mO ma mi hh := (o_8777 b ).trans fb
  have f_8779 : F_8773 (ma 0) = .inl (G.2 0, 89, .inl zf) := (o_8777 (ma 0) ).trans fz
  refine q_calli hw (q_runV (As := [.int (nI (4))]) (c_X6_canPay l G L F_8773 b ma mi hh zf 4 st.1 st.2.1 mb f_8778 hma f_8779 hz0 hz1 hc (by omega) hpu (by omega)) C0 hw vw_X6_106 mb f_8778 rfl rfl rfl hl.1 rfl (Nat.le_of_ble_eq_true rfl) dX6_carries_16 ⟨by decide, by decide⟩ ⟨by decide, by decide⟩) rfl rfl (fun r_8782 F_8780 H locs hw hp_8781 => ?_)
  obtain ⟨he_8783, o_8784⟩ := hp_8781
  rw [if_neg hm9] at he_8783
  subst he_8783
  refine lv_istore (lv' := [(4, .int (nI (0))), (3, .int (nI (99))), (2, .int (nI (4 * i9))), (0, .ref b), (1, .int (nI (i9)))]) hx hb dX6_carries_19 hl (by decide) rfl (fun ls hl => ?_)
  refine lv_iload hx hb dX6_carries_21 (lv_at hl 0 rfl) ?_
  refine n_if_eq (tgt := 132) hx hb dX6_carries_23 (by decide) (by decide) (fun c_23 => ?_) (fun c_23 => ?_)
  · skip
    refine lv_iload hx hb dX6_carries_132 (lv_at hl 0 rfl) ?_
    exact r_i C0 hr hlk hw (v := nI 0) rfl ⟨rfl, (fun q  => ((o_8784 q ).trans (o_8777 q )))⟩ (Nat.le_refl _) (Nat.le_refl _) dX6_carries_134 hQ
  · skip
    exact absurd c_23 (by omega)
set_option maxHeartbeats 4000000 in
set_option maxRecDepth 100000 in
theorem c_X6_carries_99 (l : Launch) (G : Gl) (L : List Nat) (F : Nat → va_E) (b : Nat) (ma : Nat → Nat) (mi : Nat → Int32) (hh : Int64) (pf zf : Nat → Int32) (pl : Nat → Nat → ZP) (i9 f9 g9 t9 : Nat) (v9 : Int32) (st : Sta) (mb : b ∈ L) (fb : F b = mO ma mi hh) (hma : ∀ i, i < 7 → ma i ∈ L) (fq : F (ma 6) = .inl (G.2 0, 52, .inl pf)) (fz : F (ma 0) = .inl (G.2 0, 89, .inl zf)) (fp : F (ma 4) = pcE G pl) (hz : zA zf st) (hS : okS st) (hi9 : i9 ≤ 12) (hf9 : f9 < 6) (hg9 : g9 < 6) (ht9 : t9 < 6) (hp0 : pf (4 * i9) = nI 99) (hp1 : pf (4 * i9 + 1) = nI f9) (hp2 : pf (4 * i9 + 2) = nI g9) (hp3 : pf (4 * i9 + 3) = nI t9) (hm : 4 * st.1 ≤ st.2.1) : CI l yX6_carries cX6_carries 7 (some .boolean) rm_X6_carries G L F [.ref b, .int (nI (i9))] (fun r F1 => r = nI 1 ∧ (∃ zf1 pl1, F1 (ma 0) = .inl (G.2 0, 89, .inl zf1) ∧ zA zf1 (ordS 99 f9 g9 t9 st) ∧ F1 (ma 4) = pcE G pl1) ∧ ∀ q, q ≠ ma 0 → q ≠ ma 4 → F1 q = F q) := by
  obtain ⟨hz0, hz1, hz2, hz3, hz4⟩ := ne_z zf hz
  have hc : st.1 ≤ 6 := hS.2.1
  have hc2 : 2 ≤ st.1 := hS.1
  have hpu : st.2.1 ≤ 100000 := hS.2.2.1
  have hrw : ∀ i k, i < 12 → k < 7 → zf (5 + 7 * i + k) = nI (st.2.2.2.2.2 i k).val := hz.row
  have hR : okR st.2.2.2.2.2 := hS.2.2.2
  have hm9 :  st.1 * 4 ≤ st.2.1 := by omega
  refine CG_of (by decide) (Nat.le_of_ble_eq_true rfl) rfl ?_
  intro p e s m args below meth c Q C0 hr hlk hnm hQ hw ls hl
  have hx := C0.x
  have hb := C0.b
  refine lv_iconst (v := nI 4) hx hb dX6_carries_0 (by decide) ?_
  refine lv_iload_n hx hb dX6_carries_1 rfl (lv_at hl 1 rfl) ?_
  refine n_imul hx hb dX6_carries_2 ?_
  refine lv_istore_n (lv' := [(2, .int (nI (4 * i9))), (0, .ref b), (1, .int (nI (i9)))]) hx hb dX6_carries_3 rfl hl (by decide) rfl (fun ls hl => ?_)
  refine lv_aload_n hx hb dX6_carries_4 rfl (lv_at hl 1 rfl) ?_
  refine q_get C0 hw mb fb fw_X6_28 rfl dX6_carries_5 ?_
  refine lv_iload_n hx hb dX6_carries_8 rfl (lv_at hl 0 rfl) ?_
  refine q_iald C0 hw ((hma 6 (by decide))) fq (4 * i9) (by omega) (by decide) (v := nI 99) hp0 dX6_carries_9 ?_
  refine lv_istore_n (lv' := [(3, .int (nI (99))), (2, .int (nI (4 * i9))), (0, .ref b), (1, .int (nI (i9)))]) hx hb dX6_carries_10 rfl hl (by decide) rfl (fun ls hl => ?_)
  refine lv_aload_n hx hb dX6_carries_11 rfl (lv_at hl 2 rfl) ?_
  refine lv_iload_n hx hb dX6_carries_12 rfl (lv_at hl 0 rfl) ?_
  refine q_calli hw (q_runS (As := [.int (nI (99))]) (c_X6_workOf_99 l G L F ) C0 hw sw_X6_187 rfl hl.1 rfl (Nat.le_of_ble_eq_true rfl) dX6_carries_13 ⟨by decide, by decide⟩ ⟨by decide, by decide⟩) rfl rfl (fun r_8787 F_8785 H locs hw hp_8786 => ?_)
  obtain ⟨he_8788, o_8789⟩ := hp_8786
  subst he_8788
  have f_8790 : F_8785 b = mO ma mi hh := (o_8789 b ).trans fb
  have f_8791 : F_8785 (ma 0) = .inl (G.2 0, 89, .inl zf) := (o_8789 (ma 0) ).trans fz
  refine q_calli hw (q_runV (As := [.int (nI (4))]) (c_X6_canPay l G L F_8785 b ma mi hh zf 4 st.1 st.2.1 mb f_8790 hma f_8791 hz0 hz1 hc (by omega) hpu (by omega)) C0 hw vw_X6_106 mb f_8790 rfl rfl rfl hl.1 rfl (Nat.le_of_ble_eq_true rfl) dX6_carries_16 ⟨by decide, by decide⟩ ⟨by decide, by decide⟩) rfl rfl (fun r_8794 F_8792 H locs hw hp_8793 => ?_)
  obtain ⟨he_8795, o_8796⟩ := hp_8793
  rw [if_pos hm9] at he_8795
  subst he_8795
  refine lv_istore (lv' := [(4, .int (nI (1))), (3, .int (nI (99))), (2, .int (nI (4 * i9))), (0, .ref b), (1, .int (nI (i9)))]) hx hb dX6_carries_19 hl (by decide) rfl (fun ls hl => ?_)
  refine lv_iload hx hb dX6_carries_21 (lv_at hl 0 rfl) ?_
  refine n_if_eq (tgt := 132) hx hb dX6_carries_23 (by decide) (by decide) (fun c_23 => ?_) (fun c_23 => ?_)
  · skip
    exact absurd c_23 (by omega)
  · skip
    refine lv_aload_n hx hb dX6_carries_26 rfl (lv_at hl 3 rfl) ?_
    refine lv_iload_n hx hb dX6_carries_27 rfl (lv_at hl 1 rfl) ?_
    refine lv_aload_n hx hb dX6_carries_28 rfl (lv_at hl 3 rfl) ?_
    have f_8797 : F_8792 b = mO ma mi hh := (o_8796 b ).trans f_8790
    refine q_get C0 hw mb f_8797 fw_X6_28 rfl dX6_carries_29 ?_
    refine lv_iload_n hx hb dX6_carries_32 rfl (lv_at hl 2 rfl) ?_
    refine lv_iconst (v := nI 1) hx hb dX6_carries_33 (by decide) ?_
    refine n_iadd hx hb dX6_carries_34 ?_
    have f_8798 : F_8785 (ma 6) = .inl (G.2 0, 52, .inl pf) := (o_8789 (ma 6) ).trans fq
    have f_8799 : F_8792 (ma 6) = .inl (G.2 0, 52, .inl pf) := (o_8796 (ma 6) ).trans f_8798
    refine q_iald C0 hw ((hma 6 (by decide))) f_8799 (4 * i9 + 1) (by omega) (by decide) (v := nI (f9)) hp1 dX6_carries_35 ?_
    refine lv_aload_n hx hb dX6_carries_36 rfl (lv_at hl 3 rfl) ?_
    refine q_get C0 hw mb f_8797 fw_X6_28 rfl dX6_carries_37 ?_
    refine lv_iload_n hx hb dX6_carries_40 rfl (lv_at hl 2 rfl) ?_
    refine lv_iconst (v := nI 2) hx hb dX6_carries_41 (by decide) ?_
    refine n_iadd hx hb dX6_carries_42 ?_
    refine q_iald C0 hw ((hma 6 (by decide))) f_8799 (4 * i9 + 2) (by omega) (by decide) (v := nI (g9)) hp2 dX6_carries_43 ?_
    have f_8800 : F_8785 (ma 4) = pcE G pl := (o_8789 (ma 4) ).trans fp
    have f_8801 : F_8792 (ma 4) = pcE G pl := (o_8796 (ma 4) ).trans f_8800
    have f_8802 : F_8792 (ma 0) = .inl (G.2 0, 89, .inl zf) := (o_8796 (ma 0) ).trans f_8791
    refine q_callv hw (q_runV (As := [.int (nI (99)), .int (nI (f9)), .int (nI (g9))]) (c_X6_layOrder_99 l G L F_8792 b ma mi hh pl zf st.1 st.2.2.2.2.2 f9 g9 (nI 0) mb f_8797 hma f_8801 f_8802 hz0 (by omega) (by omega) hf9 hg9 hrw hR) C0 hw vw_X6_190 mb f_8797 rfl rfl rfl hl.1 rfl (Nat.le_of_ble_eq_true rfl) dX6_carries_44 ⟨by decide, by decide⟩ ⟨by decide, by decide⟩) rfl rfl (fun F_8803 H locs hw hp_8804 => ?_)
    obtain ⟨⟨P_8805, f_8807, r_8806⟩, o_8808⟩ := hp_8804
    refine lv_iload_n hx hb dX6_carries_47 rfl (lv_at hl 1 rfl) ?_
    refine lv_bipush (v := nI 101) hx hb dX6_carries_48 (by decide) ?_
    refine n_icmp_eq (tgt := 65) hx hb dX6_carries_50 (by decide) (by decide) (by decide) (fun c_50 => ?_) (fun c_50 => ?_)
    · skip
      exact absurd c_50 (by omega)
    · skip
      refine lv_iload_n hx hb dX6_carries_53 rfl (lv_at hl 1 rfl) ?_
      refine lv_bipush (v := nI 99) hx hb dX6_carries_54 (by decide) ?_
      refine n_icmp_eq (tgt := 65) hx hb dX6_carries_56 (by decide) (by decide) (by decide) (fun c_56 => ?_) (fun c_56 => ?_)
      · skip
        refine lv_iconst (v := nI 1) hx hb dX6_carries_65 (by decide) ?_
        refine lv_goto (tgt := 70) hx hb dX6_carries_66 (by decide) ?_
        refine lv_istore (lv' := [(5, .int (nI (1))), (4, .int (nI (1))), (3, .int (nI (99))), (2, .int (nI (4 * i9))), (0, .ref b), (1, .int (nI (i9)))]) hx hb dX6_carries_70 hl (by decide) rfl (fun ls hl => ?_)
        refine lv_aload_n hx hb dX6_carries_72 rfl (lv_at hl 4 rfl) ?_
        have f_8809 : F_8803 b = mO ma mi hh := (o_8808 b (ne_oa f_8797 f_8801)).trans f_8797
        refine q_get C0 hw mb f_8809 fw_X6_7 rfl dX6_carries_73 ?_
        refine lv_iconst (v := nI 4) hx hb dX6_carries_76 (by decide) ?_
        refine lv_dup2_11 hx hb dX6_carries_77 rfl rfl ?_
        have f_8810 : F_8803 (ma 0) = .inl (G.2 0, 89, .inl zf) := (o_8808 (ma 0) (ne_aa (by decide) f_8802 f_8801)).trans f_8802
        refine q_iald C0 hw ((hma 0 (by decide))) f_8810 (4) (by omega) (by decide) (v := nI (st.2.2.2.2.1)) hz4 dX6_carries_78 ?_
        refine lv_iload_n hx hb dX6_carries_79 rfl (lv_at hl 2 rfl) ?_
        refine lv_bipush (v := nI 98) hx hb dX6_carries_80 (by decide) ?_
        refine n_icmp_ne (tgt := 89) hx hb dX6_carries_82 (by decide) (by decide) (by decide) (fun c_82 => ?_) (fun c_82 => ?_)
        · skip
          refine lv_iconst (v := nI 0) hx hb dX6_carries_89 (by decide) ?_
          refine n_iadd hx hb dX6_carries_90 ?_
          refine q_iast C0 hw ((hma 0 (by decide))) f_8810 (4) (by omega) (by decide) dX6_carries_91 (fun F_8811 H locs hw f_8812 o_8813 => ?_)
          refine lv_aload_n hx hb dX6_carries_92 rfl (lv_at hl 4 rfl) ?_
          refine lv_iload_n hx hb dX6_carries_93 rfl (lv_at hl 2 rfl) ?_
          refine q_calli hw (q_runS (As := [.int (nI (99))]) (c_X6_workOf_99 l G L F_8811 ) C0 hw sw_X6_187 rfl hl.1 rfl (Nat.le_of_ble_eq_true rfl) dX6_carries_94 ⟨by decide, by decide⟩ ⟨by decide, by decide⟩) rfl rfl (fun r_8816 F_8814 H locs hw hp_8815 => ?_)
          obtain ⟨he_8817, o_8818⟩ := hp_8815
          subst he_8817
          refine lv_iload hx hb dX6_carries_97 (lv_at hl 0 rfl) ?_
          refine n_if_eq (tgt := 116) hx hb dX6_carries_99 (by decide) (by decide) (fun c_99 => ?_) (fun c_99 => ?_)
          · skip
            exact absurd c_99 (by omega)
          · skip
            refine lv_aload_n hx hb dX6_carries_102 rfl (lv_at hl 4 rfl) ?_
            have f_8819 : F_8811 b = mO ma mi hh := (o_8813 b (ne_oa f_8809 f_8810)).trans f_8809
            have f_8820 : F_8814 b = mO ma mi hh := (o_8818 b ).trans f_8819
            refine q_get C0 hw mb f_8820 fw_X6_28 rfl dX6_carries_103 ?_
            refine lv_iload_n hx hb dX6_carries_106 rfl (lv_at hl 3 rfl) ?_
            refine lv_iconst (v := nI 3) hx hb dX6_carries_107 (by decide) ?_
            refine n_iadd hx hb dX6_carries_108 ?_
            have f_8821 : F_8803 (ma 6) = .inl (G.2 0, 52, .inl pf) := (o_8808 (ma 6) (ne_aa (by decide) f_8799 f_8801)).trans f_8799
            have f_8822 : F_8811 (ma 6) = .inl (G.2 0, 52, .inl pf) := (o_8813 (ma 6) (ne_aa (by decide) f_8821 f_8810)).trans f_8821
            have f_8823 : F_8814 (ma 6) = .inl (G.2 0, 52, .inl pf) := (o_8818 (ma 6) ).trans f_8822
            refine q_iald C0 hw ((hma 6 (by decide))) f_8823 (4 * i9 + 3) (by omega) (by decide) (v := nI (t9)) hp3 dX6_carries_109 ?_
            refine q_calli hw (q_runS (As := [.int (nI (t9))]) (c_X6_flowAt2 l G L F_8814 t9 (by omega)) C0 hw sw_X6_138 rfl hl.1 rfl (Nat.le_of_ble_eq_true rfl) dX6_carries_110 ⟨by decide, by decide⟩ ⟨by decide, by decide⟩) rfl rfl (fun r_8826 F_8824 H locs hw hp_8825 => ?_)
            obtain ⟨he_8827, o_8828⟩ := hp_8825
            subst he_8827
            refine lv_goto (tgt := 127) hx hb dX6_carries_113 (by decide) ?_
            have f_8829 : F_8814 (ma 0) = .inl (G.2 0, 89, .inl (upd zf (4) (nI (st.2.2.2.2.1 + 0)))) := (o_8818 (ma 0) ).trans f_8812
            have f_8830 : F_8824 (ma 0) = .inl (G.2 0, 89, .inl (upd zf (4) (nI (st.2.2.2.2.1 + 0)))) := (o_8828 (ma 0) ).trans f_8829
            have f_8831 : F_8824 b = mO ma mi hh := (o_8828 b ).trans f_8820
            have f_8832 : F_8811 (ma 4) = pcE G P_8805 := (o_8813 (ma 4) (ne_aa (by decide) f_8807 f_8810)).trans f_8807
            have f_8833 : F_8814 (ma 4) = pcE G P_8805 := (o_8818 (ma 4) ).trans f_8832
            have f_8834 : F_8824 (ma 4) = pcE G P_8805 := (o_8828 (ma 4) ).trans f_8833
            refine q_calli hw (q_runV (As := [.int (nI (4)), .int (nI (5 + 7 * (6 + t9)))]) (c_X6_pays l G L F_8824 b ma mi hh P_8805 (upd zf (4) (nI (st.2.2.2.2.1 + 0))) st.1 4 (5 + 7 * (6 + t9)) st.2.1 st.2.2.1 st.2.2.2.1 mb f_8831 hma f_8834 f_8830 hz0 (by omega) (by omega) hz1 hz2 hz3 (by omega) (by omega) (by omega)) C0 hw vw_X6_103 mb f_8831 rfl rfl rfl hl.1 rfl (Nat.le_of_ble_eq_true rfl) dX6_carries_127 ⟨by decide, by decide⟩ ⟨by decide, by decide⟩) rfl rfl (fun r_8837 F_8835 H locs hw hp_8836 => ?_)
            obtain ⟨he_8838, f_8839, o_8840⟩ := hp_8836
            subst he_8838
            refine lv_istore (lv' := [(6, .int (lowR (P_8805 2))), (5, .int (nI (1))), (4, .int (nI (1))), (3, .int (nI (99))), (2, .int (nI (4 * i9))), (0, .ref b), (1, .int (nI (i9)))]) hx hb dX6_carries_130 hl (by decide) rfl (fun ls hl => ?_)
            refine lv_iload hx hb dX6_carries_132 (lv_at hl 2 rfl) ?_
            have hz_8841 := f_8839
            rw [r_8806] at hz_8841
            have f_8842 : F_8835 (ma 4) = pcE G P_8805 := (o_8840 (ma 4) (ne_aa (by decide) f_8834 f_8830)).trans f_8834
            exact r_i C0 hr hlk hw (v := nI 1) rfl ⟨rfl, ⟨_, _, hz_8841, (pyM_ok (st := (st.1, st.2.1, st.2.2.1, st.2.2.2.1, st.2.2.2.2.1, st.2.2.2.2.2)) (bk := st.2.2.2.2.1 + 0) (un := 4) (t := (6 + t9)) (u := ordR 99 f9 g9 st.1 st.2.2.2.2.2) (bk_okn 0 hz) (by omega)), f_8842⟩, (fun q k0 k1 => ((o_8840 q k0).trans ((o_8828 q ).trans ((o_8818 q ).trans ((o_8813 q k0).trans ((o_8808 q k1).trans ((o_8796 q ).trans (o_8789 q ))))))))⟩ (Nat.le_refl _) (Nat.le_refl _) dX6_carries_134 hQ
        · skip
          exact absurd c_82 (by omega)
      · skip
        exact absurd c_56 (by omega)
set_option maxHeartbeats 4000000 in
set_option maxRecDepth 100000 in
theorem c_X6_carries_no_105 (l : Launch) (G : Gl) (L : List Nat) (F : Nat → va_E) (b : Nat) (ma : Nat → Nat) (mi : Nat → Int32) (hh : Int64) (pf zf : Nat → Int32) (pl : Nat → Nat → ZP) (i9 f9 g9 t9 : Nat) (v9 : Int32) (st : Sta) (mb : b ∈ L) (fb : F b = mO ma mi hh) (hma : ∀ i, i < 7 → ma i ∈ L) (fq : F (ma 6) = .inl (G.2 0, 52, .inl pf)) (fz : F (ma 0) = .inl (G.2 0, 89, .inl zf)) (fp : F (ma 4) = pcE G pl) (hz : zA zf st) (hS : okS st) (hi9 : i9 ≤ 12) (hf9 : f9 < 6) (hg9 : g9 < 6) (ht9 : t9 < 6) (hp0 : pf (4 * i9) = nI 105) (hp1 : pf (4 * i9 + 1) = nI f9) (hp3 : pf (4 * i9 + 3) = nI t9) (hm : st.2.1 < 4 * st.1) : CI l yX6_carries cX6_carries 7 (some .boolean) rm_X6_carries G L F [.ref b, .int (nI (i9))] (fun r F1 => r = nI 0 ∧ ∀ q, F1 q = F q) := by
  obtain ⟨hz0, hz1, hz2, hz3, hz4⟩ := ne_z zf hz
  have hc : st.1 ≤ 6 := hS.2.1
  have hc2 : 2 ≤ st.1 := hS.1
  have hpu : st.2.1 ≤ 100000 := hS.2.2.1
  have hrw : ∀ i k, i < 12 → k < 7 → zf (5 + 7 * i + k) = nI (st.2.2.2.2.2 i k).val := hz.row
  have hR : okR st.2.2.2.2.2 := hS.2.2.2
  have hm9 : ¬ st.1 * 4 ≤ st.2.1 := by omega
  refine CG_of (by decide) (Nat.le_of_ble_eq_true rfl) rfl ?_
  intro p e s m args below meth c Q C0 hr hlk hnm hQ hw ls hl
  have hx := C0.x
  have hb := C0.b
  refine lv_iconst (v := nI 4) hx hb dX6_carries_0 (by decide) ?_
  refine lv_iload_n hx hb dX6_carries_1 rfl (lv_at hl 1 rfl) ?_
  refine n_imul hx hb dX6_carries_2 ?_
  refine lv_istore_n (lv' := [(2, .int (nI (4 * i9))), (0, .ref b), (1, .int (nI (i9)))]) hx hb dX6_carries_3 rfl hl (by decide) rfl (fun ls hl => ?_)
  refine lv_aload_n hx hb dX6_carries_4 rfl (lv_at hl 1 rfl) ?_
  refine q_get C0 hw mb fb fw_X6_28 rfl dX6_carries_5 ?_
  refine lv_iload_n hx hb dX6_carries_8 rfl (lv_at hl 0 rfl) ?_
  refine q_iald C0 hw ((hma 6 (by decide))) fq (4 * i9) (by omega) (by decide) (v := nI 105) hp0 dX6_carries_9 ?_
  refine lv_istore_n (lv' := [(3, .int (nI (105))), (2, .int (nI (4 * i9))), (0, .ref b), (1, .int (nI (i9)))]) hx hb dX6_carries_10 rfl hl (by decide) rfl (fun ls hl => ?_)
  refine lv_aload_n hx hb dX6_carries_11 rfl (lv_at hl 2 rfl) ?_
  refine lv_iload_n hx hb dX6_carries_12 rfl (lv_at hl 0 rfl) ?_
  refine q_calli hw (q_runS (As := [.int (nI (105))]) (c_X6_workOf_105 l G L F ) C0 hw sw_X6_187 rfl hl.1 rfl (Nat.le_of_ble_eq_true rfl) dX6_carries_13 ⟨by decide, by decide⟩ ⟨by decide, by decide⟩) rfl rfl (fun r_8845 F_8843 H locs hw hp_8844 => ?_)
  obtain ⟨he_8846, o_8847⟩ := hp_8844
  subst he_8846
  have f_8848 : F_8843 b = mO ma mi hh := (o_8847 b ).trans fb
  have f_8849 : F_8843 (ma 0) = .inl (G.2 0, 89, .inl zf) := (o_8847 (ma 0) ).trans fz
  refine q_calli hw (q_runV (As := [.int (nI (4))]) (c_X6_canPay l G L F_8843 b ma mi hh zf 4 st.1 st.2.1 mb f_8848 hma f_8849 hz0 hz1 hc (by omega) hpu (by omega)) C0 hw vw_X6_106 mb f_8848 rfl rfl rfl hl.1 rfl (Nat.le_of_ble_eq_true rfl) dX6_carries_16 ⟨by decide, by decide⟩ ⟨by decide, by decide⟩) rfl rfl (fun r_8852 F_8850 H locs hw hp_8851 => ?_)
  obtain ⟨he_8853, o_8854⟩ := hp_8851
  rw [if_neg hm9] at he_8853
  subst he_8853
  refine lv_istore (lv' := [(4, .int (nI (0))), (3, .int (nI (105))), (2, .int (nI (4 * i9))), (0, .ref b), (1, .int (nI (i9)))]) hx hb dX6_carries_19 hl (by decide) rfl (fun ls hl => ?_)
  refine lv_iload hx hb dX6_carries_21 (lv_at hl 0 rfl) ?_
  refine n_if_eq (tgt := 132) hx hb dX6_carries_23 (by decide) (by decide) (fun c_23 => ?_) (fun c_23 => ?_)
  · skip
    refine lv_iload hx hb dX6_carries_132 (lv_at hl 0 rfl) ?_
    exact r_i C0 hr hlk hw (v := nI 0) rfl ⟨rfl, (fun q  => ((o_8854 q ).trans (o_8847 q )))⟩ (Nat.le_refl _) (Nat.le_refl _) dX6_carries_134 hQ
  · skip
    exact absurd c_23 (by omega)
set_option maxHeartbeats 4000000 in
set_option maxRecDepth 100000 in
theorem c_X6_carries_105 (l : Launch) (G : Gl) (L : List Nat) (F : Nat → va_E) (b : Nat) (ma : Nat → Nat) (mi : Nat → Int32) (hh : Int64) (pf zf : Nat → Int32) (pl : Nat → Nat → ZP) (i9 f9 g9 t9 : Nat) (v9 : Int32) (st : Sta) (mb : b ∈ L) (fb : F b = mO ma mi hh) (hma : ∀ i, i < 7 → ma i ∈ L) (fq : F (ma 6) = .inl (G.2 0, 52, .inl pf)) (fz : F (ma 0) = .inl (G.2 0, 89, .inl zf)) (fp : F (ma 4) = pcE G pl) (hz : zA zf st) (hS : okS st) (hi9 : i9 ≤ 12) (hf9 : f9 < 6) (hg9 : g9 < 6) (ht9 : t9 < 6) (hp0 : pf (4 * i9) = nI 105) (hp1 : pf (4 * i9 + 1) = nI f9) (hp3 : pf (4 * i9 + 3) = nI t9) (hm : 4 * st.1 ≤ st.2.1) : CI l yX6_carries cX6_carries 7 (some .boolean) rm_X6_carries G L F [.ref b, .int (nI (i9))] (fun r F1 => r = nI 1 ∧ (∃ zf1 pl1, F1 (ma 0) = .inl (G.2 0, 89, .inl zf1) ∧ zA zf1 (ordS 105 f9 g9 t9 st) ∧ F1 (ma 4) = pcE G pl1) ∧ ∀ q, q ≠ ma 0 → q ≠ ma 4 → F1 q = F q) := by
  obtain ⟨hz0, hz1, hz2, hz3, hz4⟩ := ne_z zf hz
  have hc : st.1 ≤ 6 := hS.2.1
  have hc2 : 2 ≤ st.1 := hS.1
  have hpu : st.2.1 ≤ 100000 := hS.2.2.1
  have hrw : ∀ i k, i < 12 → k < 7 → zf (5 + 7 * i + k) = nI (st.2.2.2.2.2 i k).val := hz.row
  have hR : okR st.2.2.2.2.2 := hS.2.2.2
  have hm9 :  st.1 * 4 ≤ st.2.1 := by omega
  refine CG_of (by decide) (Nat.le_of_ble_eq_true rfl) rfl ?_
  intro p e s m args below meth c Q C0 hr hlk hnm hQ hw ls hl
  have hx := C0.x
  have hb := C0.b
  refine lv_iconst (v := nI 4) hx hb dX6_carries_0 (by decide) ?_
  refine lv_iload_n hx hb dX6_carries_1 rfl (lv_at hl 1 rfl) ?_
  refine n_imul hx hb dX6_carries_2 ?_
  refine lv_istore_n (lv' := [(2, .int (nI (4 * i9))), (0, .ref b), (1, .int (nI (i9)))]) hx hb dX6_carries_3 rfl hl (by decide) rfl (fun ls hl => ?_)
  refine lv_aload_n hx hb dX6_carries_4 rfl (lv_at hl 1 rfl) ?_
  refine q_get C0 hw mb fb fw_X6_28 rfl dX6_carries_5 ?_
  refine lv_iload_n hx hb dX6_carries_8 rfl (lv_at hl 0 rfl) ?_
  refine q_iald C0 hw ((hma 6 (by decide))) fq (4 * i9) (by omega) (by decide) (v := nI 105) hp0 dX6_carries_9 ?_
  refine lv_istore_n (lv' := [(3, .int (nI (105))), (2, .int (nI (4 * i9))), (0, .ref b), (1, .int (nI (i9)))]) hx hb dX6_carries_10 rfl hl (by decide) rfl (fun ls hl => ?_)
  refine lv_aload_n hx hb dX6_carries_11 rfl (lv_at hl 2 rfl) ?_
  refine lv_iload_n hx hb dX6_carries_12 rfl (lv_at hl 0 rfl) ?_
  refine q_calli hw (q_runS (As := [.int (nI (105))]) (c_X6_workOf_105 l G L F ) C0 hw sw_X6_187 rfl hl.1 rfl (Nat.le_of_ble_eq_true rfl) dX6_carries_13 ⟨by decide, by decide⟩ ⟨by decide, by decide⟩) rfl rfl (fun r_8857 F_8855 H locs hw hp_8856 => ?_)
  obtain ⟨he_8858, o_8859⟩ := hp_8856
  subst he_8858
  have f_8860 : F_8855 b = mO ma mi hh := (o_8859 b ).trans fb
  have f_8861 : F_8855 (ma 0) = .inl (G.2 0, 89, .inl zf) := (o_8859 (ma 0) ).trans fz
  refine q_calli hw (q_runV (As := [.int (nI (4))]) (c_X6_canPay l G L F_8855 b ma mi hh zf 4 st.1 st.2.1 mb f_8860 hma f_8861 hz0 hz1 hc (by omega) hpu (by omega)) C0 hw vw_X6_106 mb f_8860 rfl rfl rfl hl.1 rfl (Nat.le_of_ble_eq_true rfl) dX6_carries_16 ⟨by decide, by decide⟩ ⟨by decide, by decide⟩) rfl rfl (fun r_8864 F_8862 H locs hw hp_8863 => ?_)
  obtain ⟨he_8865, o_8866⟩ := hp_8863
  rw [if_pos hm9] at he_8865
  subst he_8865
  refine lv_istore (lv' := [(4, .int (nI (1))), (3, .int (nI (105))), (2, .int (nI (4 * i9))), (0, .ref b), (1, .int (nI (i9)))]) hx hb dX6_carries_19 hl (by decide) rfl (fun ls hl => ?_)
  refine lv_iload hx hb dX6_carries_21 (lv_at hl 0 rfl) ?_
  refine n_if_eq (tgt := 132) hx hb dX6_carries_23 (by decide) (by decide) (fun c_23 => ?_) (fun c_23 => ?_)
  · skip
    exact absurd c_23 (by omega)
  · skip
    refine lv_aload_n hx hb dX6_carries_26 rfl (lv_at hl 3 rfl) ?_
    refine lv_iload_n hx hb dX6_carries_27 rfl (lv_at hl 1 rfl) ?_
    refine lv_aload_n hx hb dX6_carries_28 rfl (lv_at hl 3 rfl) ?_
    have f_8867 : F_8862 b = mO ma mi hh := (o_8866 b ).trans f_8860
    refine q_get C0 hw mb f_8867 fw_X6_28 rfl dX6_carries_29 ?_
    refine lv_iload_n hx hb dX6_carries_32 rfl (lv_at hl 2 rfl) ?_
    refine lv_iconst (v := nI 1) hx hb dX6_carries_33 (by decide) ?_
    refine n_iadd hx hb dX6_carries_34 ?_
    have f_8868 : F_8855 (ma 6) = .inl (G.2 0, 52, .inl pf) := (o_8859 (ma 6) ).trans fq
    have f_8869 : F_8862 (ma 6) = .inl (G.2 0, 52, .inl pf) := (o_8866 (ma 6) ).trans f_8868
    refine q_iald C0 hw ((hma 6 (by decide))) f_8869 (4 * i9 + 1) (by omega) (by decide) (v := nI (f9)) hp1 dX6_carries_35 ?_
    refine lv_aload_n hx hb dX6_carries_36 rfl (lv_at hl 3 rfl) ?_
    refine q_get C0 hw mb f_8867 fw_X6_28 rfl dX6_carries_37 ?_
    refine lv_iload_n hx hb dX6_carries_40 rfl (lv_at hl 2 rfl) ?_
    refine lv_iconst (v := nI 2) hx hb dX6_carries_41 (by decide) ?_
    refine n_iadd hx hb dX6_carries_42 ?_
    refine q_iald C0 hw ((hma 6 (by decide))) f_8869 (4 * i9 + 2) (by omega) (by decide) (v := (pf (4 * i9 + 2))) rfl dX6_carries_43 ?_
    have f_8870 : F_8855 (ma 4) = pcE G pl := (o_8859 (ma 4) ).trans fp
    have f_8871 : F_8862 (ma 4) = pcE G pl := (o_8866 (ma 4) ).trans f_8870
    have f_8872 : F_8862 (ma 0) = .inl (G.2 0, 89, .inl zf) := (o_8866 (ma 0) ).trans f_8861
    refine q_callv hw (q_runV (As := [.int (nI (105)), .int (nI (f9)), .int (pf (4 * i9 + 2))]) (c_X6_layOrder_105 l G L F_8862 b ma mi hh pl zf st.1 st.2.2.2.2.2 f9 g9 ((pf (4 * i9 + 2))) mb f_8867 hma f_8871 f_8872 hz0 (by omega) (by omega) hf9 hrw hR) C0 hw vw_X6_190 mb f_8867 rfl rfl rfl hl.1 rfl (Nat.le_of_ble_eq_true rfl) dX6_carries_44 ⟨by decide, by decide⟩ ⟨by decide, by decide⟩) rfl rfl (fun F_8873 H locs hw hp_8874 => ?_)
    obtain ⟨⟨P_8875, f_8877, r_8876⟩, o_8878⟩ := hp_8874
    refine lv_iload_n hx hb dX6_carries_47 rfl (lv_at hl 1 rfl) ?_
    refine lv_bipush (v := nI 101) hx hb dX6_carries_48 (by decide) ?_
    refine n_icmp_eq (tgt := 65) hx hb dX6_carries_50 (by decide) (by decide) (by decide) (fun c_50 => ?_) (fun c_50 => ?_)
    · skip
      exact absurd c_50 (by omega)
    · skip
      refine lv_iload_n hx hb dX6_carries_53 rfl (lv_at hl 1 rfl) ?_
      refine lv_bipush (v := nI 99) hx hb dX6_carries_54 (by decide) ?_
      refine n_icmp_eq (tgt := 65) hx hb dX6_carries_56 (by decide) (by decide) (by decide) (fun c_56 => ?_) (fun c_56 => ?_)
      · skip
        exact absurd c_56 (by omega)
      · skip
        refine lv_iload_n hx hb dX6_carries_59 rfl (lv_at hl 1 rfl) ?_
        refine lv_bipush (v := nI 105) hx hb dX6_carries_60 (by decide) ?_
        refine n_icmp_ne (tgt := 69) hx hb dX6_carries_62 (by decide) (by decide) (by decide) (fun c_62 => ?_) (fun c_62 => ?_)
        · skip
          exact absurd c_62 (by omega)
        · skip
          refine lv_iconst (v := nI 1) hx hb dX6_carries_65 (by decide) ?_
          refine lv_goto (tgt := 70) hx hb dX6_carries_66 (by decide) ?_
          refine lv_istore (lv' := [(5, .int (nI (1))), (4, .int (nI (1))), (3, .int (nI (105))), (2, .int (nI (4 * i9))), (0, .ref b), (1, .int (nI (i9)))]) hx hb dX6_carries_70 hl (by decide) rfl (fun ls hl => ?_)
          refine lv_aload_n hx hb dX6_carries_72 rfl (lv_at hl 4 rfl) ?_
          have f_8879 : F_8873 b = mO ma mi hh := (o_8878 b (ne_oa f_8867 f_8871)).trans f_8867
          refine q_get C0 hw mb f_8879 fw_X6_7 rfl dX6_carries_73 ?_
          refine lv_iconst (v := nI 4) hx hb dX6_carries_76 (by decide) ?_
          refine lv_dup2_11 hx hb dX6_carries_77 rfl rfl ?_
          have f_8880 : F_8873 (ma 0) = .inl (G.2 0, 89, .inl zf) := (o_8878 (ma 0) (ne_aa (by decide) f_8872 f_8871)).trans f_8872
          refine q_iald C0 hw ((hma 0 (by decide))) f_8880 (4) (by omega) (by decide) (v := nI (st.2.2.2.2.1)) hz4 dX6_carries_78 ?_
          refine lv_iload_n hx hb dX6_carries_79 rfl (lv_at hl 2 rfl) ?_
          refine lv_bipush (v := nI 98) hx hb dX6_carries_80 (by decide) ?_
          refine n_icmp_ne (tgt := 89) hx hb dX6_carries_82 (by decide) (by decide) (by decide) (fun c_82 => ?_) (fun c_82 => ?_)
          · skip
            refine lv_iconst (v := nI 0) hx hb dX6_carries_89 (by decide) ?_
            refine n_iadd hx hb dX6_carries_90 ?_
            refine q_iast C0 hw ((hma 0 (by decide))) f_8880 (4) (by omega) (by decide) dX6_carries_91 (fun F_8881 H locs hw f_8882 o_8883 => ?_)
            refine lv_aload_n hx hb dX6_carries_92 rfl (lv_at hl 4 rfl) ?_
            refine lv_iload_n hx hb dX6_carries_93 rfl (lv_at hl 2 rfl) ?_
            refine q_calli hw (q_runS (As := [.int (nI (105))]) (c_X6_workOf_105 l G L F_8881 ) C0 hw sw_X6_187 rfl hl.1 rfl (Nat.le_of_ble_eq_true rfl) dX6_carries_94 ⟨by decide, by decide⟩ ⟨by decide, by decide⟩) rfl rfl (fun r_8886 F_8884 H locs hw hp_8885 => ?_)
            obtain ⟨he_8887, o_8888⟩ := hp_8885
            subst he_8887
            refine lv_iload hx hb dX6_carries_97 (lv_at hl 0 rfl) ?_
            refine n_if_eq (tgt := 116) hx hb dX6_carries_99 (by decide) (by decide) (fun c_99 => ?_) (fun c_99 => ?_)
            · skip
              exact absurd c_99 (by omega)
            · skip
              refine lv_aload_n hx hb dX6_carries_102 rfl (lv_at hl 4 rfl) ?_
              have f_8889 : F_8881 b = mO ma mi hh := (o_8883 b (ne_oa f_8879 f_8880)).trans f_8879
              have f_8890 : F_8884 b = mO ma mi hh := (o_8888 b ).trans f_8889
              refine q_get C0 hw mb f_8890 fw_X6_28 rfl dX6_carries_103 ?_
              refine lv_iload_n hx hb dX6_carries_106 rfl (lv_at hl 3 rfl) ?_
              refine lv_iconst (v := nI 3) hx hb dX6_carries_107 (by decide) ?_
              refine n_iadd hx hb dX6_carries_108 ?_
              have f_8891 : F_8873 (ma 6) = .inl (G.2 0, 52, .inl pf) := (o_8878 (ma 6) (ne_aa (by decide) f_8869 f_8871)).trans f_8869
              have f_8892 : F_8881 (ma 6) = .inl (G.2 0, 52, .inl pf) := (o_8883 (ma 6) (ne_aa (by decide) f_8891 f_8880)).trans f_8891
              have f_8893 : F_8884 (ma 6) = .inl (G.2 0, 52, .inl pf) := (o_8888 (ma 6) ).trans f_8892
              refine q_iald C0 hw ((hma 6 (by decide))) f_8893 (4 * i9 + 3) (by omega) (by decide) (v := nI (t9)) hp3 dX6_carries_109 ?_
              refine q_calli hw (q_runS (As := [.int (nI (t9))]) (c_X6_flowAt2 l G L F_8884 t9 (by omega)) C0 hw sw_X6_138 rfl hl.1 rfl (Nat.le_of_ble_eq_true rfl) dX6_carries_110 ⟨by decide, by decide⟩ ⟨by decide, by decide⟩) rfl rfl (fun r_8896 F_8894 H locs hw hp_8895 => ?_)
              obtain ⟨he_8897, o_8898⟩ := hp_8895
              subst he_8897
              refine lv_goto (tgt := 127) hx hb dX6_carries_113 (by decide) ?_
              have f_8899 : F_8884 (ma 0) = .inl (G.2 0, 89, .inl (upd zf (4) (nI (st.2.2.2.2.1 + 0)))) := (o_8888 (ma 0) ).trans f_8882
              have f_8900 : F_8894 (ma 0) = .inl (G.2 0, 89, .inl (upd zf (4) (nI (st.2.2.2.2.1 + 0)))) := (o_8898 (ma 0) ).trans f_8899
              have f_8901 : F_8894 b = mO ma mi hh := (o_8898 b ).trans f_8890
              have f_8902 : F_8881 (ma 4) = pcE G P_8875 := (o_8883 (ma 4) (ne_aa (by decide) f_8877 f_8880)).trans f_8877
              have f_8903 : F_8884 (ma 4) = pcE G P_8875 := (o_8888 (ma 4) ).trans f_8902
              have f_8904 : F_8894 (ma 4) = pcE G P_8875 := (o_8898 (ma 4) ).trans f_8903
              refine q_calli hw (q_runV (As := [.int (nI (4)), .int (nI (5 + 7 * (6 + t9)))]) (c_X6_pays l G L F_8894 b ma mi hh P_8875 (upd zf (4) (nI (st.2.2.2.2.1 + 0))) st.1 4 (5 + 7 * (6 + t9)) st.2.1 st.2.2.1 st.2.2.2.1 mb f_8901 hma f_8904 f_8900 hz0 (by omega) (by omega) hz1 hz2 hz3 (by omega) (by omega) (by omega)) C0 hw vw_X6_103 mb f_8901 rfl rfl rfl hl.1 rfl (Nat.le_of_ble_eq_true rfl) dX6_carries_127 ⟨by decide, by decide⟩ ⟨by decide, by decide⟩) rfl rfl (fun r_8907 F_8905 H locs hw hp_8906 => ?_)
              obtain ⟨he_8908, f_8909, o_8910⟩ := hp_8906
              subst he_8908
              refine lv_istore (lv' := [(6, .int (lowR (P_8875 2))), (5, .int (nI (1))), (4, .int (nI (1))), (3, .int (nI (105))), (2, .int (nI (4 * i9))), (0, .ref b), (1, .int (nI (i9)))]) hx hb dX6_carries_130 hl (by decide) rfl (fun ls hl => ?_)
              refine lv_iload hx hb dX6_carries_132 (lv_at hl 2 rfl) ?_
              have hz_8911 := f_8909
              rw [r_8876] at hz_8911
              have f_8912 : F_8905 (ma 4) = pcE G P_8875 := (o_8910 (ma 4) (ne_aa (by decide) f_8904 f_8900)).trans f_8904
              exact r_i C0 hr hlk hw (v := nI 1) rfl ⟨rfl, ⟨_, _, hz_8911, (pyM_ok (st := (st.1, st.2.1, st.2.2.1, st.2.2.2.1, st.2.2.2.2.1, st.2.2.2.2.2)) (bk := st.2.2.2.2.1 + 0) (un := 4) (t := (6 + t9)) (u := ordR 105 f9 g9 st.1 st.2.2.2.2.2) (bk_okn 0 hz) (by omega)), f_8912⟩, (fun q k0 k1 => ((o_8910 q k0).trans ((o_8898 q ).trans ((o_8888 q ).trans ((o_8883 q k0).trans ((o_8878 q k1).trans ((o_8866 q ).trans (o_8859 q ))))))))⟩ (Nat.le_refl _) (Nat.le_refl _) dX6_carries_134 hQ
          · skip
            exact absurd c_82 (by omega)
theorem dg_lt {t : Txt} {s : Nat} (h : 0 < dgA t s) : s < t.1 := by
  rcases Nat.lt_or_ge s t.1 with h1 | h1
  · exact h1
  · unfold dgA at h
    rw [show cdA t s = 0 from if_neg (by omega)] at h
    exact absurd h (by decide)
theorem dg_is {t : Txt} {s lt d : Nat} (h : cdA t s = lt) (hd : digI (nI lt) = d) : dgA t s = d := by
  unfold dgA
  rw [h]
  exact hd
theorem run_s {t : Txt} {n s c : Nat} {st : Sta} (h1 : ¬ t.1 ≤ s) (h2 : ¬ st.2.1 < ordU (cdA t s) * st.1) : runS t (n + 1) s c st = runS t n (s + dgA t s + 4) (c + 1) (ordS (cdA t s) (slA t (s + 1)) (slA t (s + dgA t s)) (slA t (s + dgA t s + 2)) st) := by
  rw [runS, if_neg h1, if_neg h2]
theorem run_p {t : Txt} {n s c : Nat} {st : Sta} (h2 : st.2.1 < ordU (cdA t s) * st.1) : runS t n s c st = (c, st) := by
  cases n with
  | zero => rfl
  | succ n =>
    rw [runS]
    split
    · rfl
    · first | rfl | rw [if_pos h2]
theorem c_X6_carries (l : Launch) (G : Gl) (L : List Nat) (F : Nat → va_E) (b : Nat) (ma : Nat → Nat) (mi : Nat → Int32) (hh : Int64) (pf zf : Nat → Int32) (pl : Nat → Nat → ZP) (t : Txt) (i : Nat) (st : Sta) (mb : b ∈ L) (fb : F b = mO ma mi hh) (hma : ∀ i, i < 7 → ma i ∈ L) (fq : F (ma 6) = .inl (G.2 0, 52, .inl pf)) (fz : F (ma 0) = .inl (G.2 0, 89, .inl zf)) (fp : F (ma 4) = pcE G pl) (hz : zA zf st) (hS : okS st) (hi9 : i ≤ 12) (hok : okT t) (hp : pA t pf i) : CI l yX6_carries cX6_carries 7 (some .boolean) rm_X6_carries G L F [.ref b, .int (nI i)] (fun rr F1 => (rr = nI 0 ∧ st.2.1 < ordU (cdA t (stt t i)) * st.1 ∧ ∀ q, F1 q = F q) ∨ (rr = nI 1 ∧ ¬ st.2.1 < ordU (cdA t (stt t i)) * st.1 ∧ (∃ zf1 pl1, F1 (ma 0) = .inl (G.2 0, 89, .inl zf1) ∧ zA zf1 (ordS (cdA t (stt t i)) (slA t (stt t i + 1)) (slA t (stt t i + dgA t (stt t i))) (slA t (stt t i + dgA t (stt t i) + 2)) st) ∧ F1 (ma 4) = pcE G pl1) ∧ ∀ q, q ≠ ma 0 → q ≠ ma 4 → F1 q = F q)) := by
  obtain ⟨h0, p0, p1, p2, p3⟩ := hp
  rcases dig_ord (cdA_le hok _) h0 with e | e | e | e | e | e | e | e
  · have hd : dgA t (stt t i) = 2 := dg_is e rfl
    rw [e] at p0
    rw [hd] at p3
    rw [e, hd]
    by_cases hm : st.2.1 < 2 * st.1
    · exact CI_imp (fun rr F1 h => Or.inl ⟨h.1, hm, h.2⟩) (c_X6_carries_no_98 l G L F b ma mi hh pf zf pl i (slA t (stt t i + 1)) (slA t (stt t i + 2)) (slA t (stt t i + 2 + 2)) (nI 0) st mb fb hma fq fz fp hz hS hi9 (slA_lt t _) (slA_lt t _) (slA_lt t _) p0 p1 (p2 hd) p3 hm)
    · exact CI_imp (fun rr F1 h => Or.inr ⟨h.1, hm, h.2⟩) (c_X6_carries_98 l G L F b ma mi hh pf zf pl i (slA t (stt t i + 1)) (slA t (stt t i + 2)) (slA t (stt t i + 2 + 2)) (nI 0) st mb fb hma fq fz fp hz hS hi9 (slA_lt t _) (slA_lt t _) (slA_lt t _) p0 p1 (p2 hd) p3 (Nat.le_of_not_lt hm))
  · have hd : dgA t (stt t i) = 2 := dg_is e rfl
    rw [e] at p0
    rw [hd] at p3
    rw [e, hd]
    by_cases hm : st.2.1 < 1 * st.1
    · exact CI_imp (fun rr F1 h => Or.inl ⟨h.1, hm, h.2⟩) (c_X6_carries_no_115 l G L F b ma mi hh pf zf pl i (slA t (stt t i + 1)) (slA t (stt t i + 2)) (slA t (stt t i + 2 + 2)) (nI 0) st mb fb hma fq fz fp hz hS hi9 (slA_lt t _) (slA_lt t _) (slA_lt t _) p0 p1 (p2 hd) p3 hm)
    · exact CI_imp (fun rr F1 h => Or.inr ⟨h.1, hm, h.2⟩) (c_X6_carries_115 l G L F b ma mi hh pf zf pl i (slA t (stt t i + 1)) (slA t (stt t i + 2)) (slA t (stt t i + 2 + 2)) (nI 0) st mb fb hma fq fz fp hz hS hi9 (slA_lt t _) (slA_lt t _) (slA_lt t _) p0 p1 (p2 hd) p3 (Nat.le_of_not_lt hm))
  · have hd : dgA t (stt t i) = 2 := dg_is e rfl
    rw [e] at p0
    rw [hd] at p3
    rw [e, hd]
    by_cases hm : st.2.1 < 20 * st.1
    · exact CI_imp (fun rr F1 h => Or.inl ⟨h.1, hm, h.2⟩) (c_X6_carries_no_119 l G L F b ma mi hh pf zf pl i (slA t (stt t i + 1)) (slA t (stt t i + 2)) (slA t (stt t i + 2 + 2)) (nI 0) st mb fb hma fq fz fp hz hS hi9 (slA_lt t _) (slA_lt t _) (slA_lt t _) p0 p1 (p2 hd) p3 hm)
    · exact CI_imp (fun rr F1 h => Or.inr ⟨h.1, hm, h.2⟩) (c_X6_carries_119 l G L F b ma mi hh pf zf pl i (slA t (stt t i + 1)) (slA t (stt t i + 2)) (slA t (stt t i + 2 + 2)) (nI 0) st mb fb hma fq fz fp hz hS hi9 (slA_lt t _) (slA_lt t _) (slA_lt t _) p0 p1 (p2 hd) p3 (Nat.le_of_not_lt hm))
  · have hd : dgA t (stt t i) = 2 := dg_is e rfl
    rw [e] at p0
    rw [hd] at p3
    rw [e, hd]
    by_cases hm : st.2.1 < 6 * st.1
    · exact CI_imp (fun rr F1 h => Or.inl ⟨h.1, hm, h.2⟩) (c_X6_carries_no_112 l G L F b ma mi hh pf zf pl i (slA t (stt t i + 1)) (slA t (stt t i + 2)) (slA t (stt t i + 2 + 2)) (nI 0) st mb fb hma fq fz fp hz hS hi9 (slA_lt t _) (slA_lt t _) (slA_lt t _) p0 p1 (p2 hd) p3 hm)
    · exact CI_imp (fun rr F1 h => Or.inr ⟨h.1, hm, h.2⟩) (c_X6_carries_112 l G L F b ma mi hh pf zf pl i (slA t (stt t i + 1)) (slA t (stt t i + 2)) (slA t (stt t i + 2 + 2)) (nI 0) st mb fb hma fq fz fp hz hS hi9 (slA_lt t _) (slA_lt t _) (slA_lt t _) p0 p1 (p2 hd) p3 (Nat.le_of_not_lt hm))
  · have hd : dgA t (stt t i) = 1 := dg_is e rfl
    rw [e] at p0
    rw [hd] at p3
    rw [e, hd]
    by_cases hm : st.2.1 < 6 * st.1
    · exact CI_imp (fun rr F1 h => Or.inl ⟨h.1, hm, h.2⟩) (c_X6_carries_no_108 l G L F b ma mi hh pf zf pl i (slA t (stt t i + 1)) (slA t (stt t i + 1)) (slA t (stt t i + 1 + 2)) (nI 0) st mb fb hma fq fz fp hz hS hi9 (slA_lt t _) (slA_lt t _) (slA_lt t _) p0 p1 p3 hm)
    · exact CI_imp (fun rr F1 h => Or.inr ⟨h.1, hm, h.2⟩) (c_X6_carries_108 l G L F b ma mi hh pf zf pl i (slA t (stt t i + 1)) (slA t (stt t i + 1)) (slA t (stt t i + 1 + 2)) (nI 0) st mb fb hma fq fz fp hz hS hi9 (slA_lt t _) (slA_lt t _) (slA_lt t _) p0 p1 p3 (Nat.le_of_not_lt hm))
  · have hd : dgA t (stt t i) = 1 := dg_is e rfl
    rw [e] at p0
    rw [hd] at p3
    rw [e, hd]
    by_cases hm : st.2.1 < 5 * st.1
    · exact CI_imp (fun rr F1 h => Or.inl ⟨h.1, hm, h.2⟩) (c_X6_carries_no_101 l G L F b ma mi hh pf zf pl i (slA t (stt t i + 1)) (slA t (stt t i + 1)) (slA t (stt t i + 1 + 2)) (nI 0) st mb fb hma fq fz fp hz hS hi9 (slA_lt t _) (slA_lt t _) (slA_lt t _) p0 p1 p3 hm)
    · exact CI_imp (fun rr F1 h => Or.inr ⟨h.1, hm, h.2⟩) (c_X6_carries_101 l G L F b ma mi hh pf zf pl i (slA t (stt t i + 1)) (slA t (stt t i + 1)) (slA t (stt t i + 1 + 2)) (nI 0) st mb fb hma fq fz fp hz hS hi9 (slA_lt t _) (slA_lt t _) (slA_lt t _) p0 p1 p3 (Nat.le_of_not_lt hm))
  · have hd : dgA t (stt t i) = 2 := dg_is e rfl
    rw [e] at p0
    rw [hd] at p3
    rw [e, hd]
    by_cases hm : st.2.1 < 4 * st.1
    · exact CI_imp (fun rr F1 h => Or.inl ⟨h.1, hm, h.2⟩) (c_X6_carries_no_99 l G L F b ma mi hh pf zf pl i (slA t (stt t i + 1)) (slA t (stt t i + 2)) (slA t (stt t i + 2 + 2)) (nI 0) st mb fb hma fq fz fp hz hS hi9 (slA_lt t _) (slA_lt t _) (slA_lt t _) p0 p1 (p2 hd) p3 hm)
    · exact CI_imp (fun rr F1 h => Or.inr ⟨h.1, hm, h.2⟩) (c_X6_carries_99 l G L F b ma mi hh pf zf pl i (slA t (stt t i + 1)) (slA t (stt t i + 2)) (slA t (stt t i + 2 + 2)) (nI 0) st mb fb hma fq fz fp hz hS hi9 (slA_lt t _) (slA_lt t _) (slA_lt t _) p0 p1 (p2 hd) p3 (Nat.le_of_not_lt hm))
  · have hd : dgA t (stt t i) = 1 := dg_is e rfl
    rw [e] at p0
    rw [hd] at p3
    rw [e, hd]
    by_cases hm : st.2.1 < 4 * st.1
    · exact CI_imp (fun rr F1 h => Or.inl ⟨h.1, hm, h.2⟩) (c_X6_carries_no_105 l G L F b ma mi hh pf zf pl i (slA t (stt t i + 1)) (slA t (stt t i + 1)) (slA t (stt t i + 1 + 2)) (nI 0) st mb fb hma fq fz fp hz hS hi9 (slA_lt t _) (slA_lt t _) (slA_lt t _) p0 p1 p3 hm)
    · exact CI_imp (fun rr F1 h => Or.inr ⟨h.1, hm, h.2⟩) (c_X6_carries_105 l G L F b ma mi hh pf zf pl i (slA t (stt t i + 1)) (slA t (stt t i + 1)) (slA t (stt t i + 1 + 2)) (nI 0) st mb fb hma fq fz fp hz hS hi9 (slA_lt t _) (slA_lt t _) (slA_lt t _) p0 p1 p3 (Nat.le_of_not_lt hm))

