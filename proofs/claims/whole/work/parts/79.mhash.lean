abbrev rm_X6_counted : Room := { frames := 3, cells := 0, slots := 0, locals := 68 }
set_option maxHeartbeats 4000000 in
set_option maxRecDepth 100000 in
theorem c_X6_counted_0 (l : Launch) (G : Gl) (L : List Nat) (F : Nat → va_E) (b : Nat) (ma : Nat → Nat) (mi : Nat → Int32) (hh : Int64) (zf kf : Nat → Int32) (pl : Nat → Nat → ZP) (A : AB) (mb : b ∈ L) (fb : F b = mO ma mi hh) (hma : ∀ i, i < 7 → ma i ∈ L) (hm0 : mi 0 = nI A.2.1.1) (fz : F (ma 0) = .inl (G.2 0, 89, .inl zf)) (hz : zA zf A.1) (fk : F (ma 3) = .inl (G.2 0, 2, .inl kf)) (hkf : kA_ kf A.2.2.1) (fp : F (ma 4) = pcE G pl) (hA : okA A) : CI l yX6_counted cX6_counted 2 (some .int) rm_X6_counted G L F [.ref b, .int (nI (0))] (fun r F1 => r = nI (cntA A 0) ∧ (∃ P9, F1 (ma 4) = pcE G P9) ∧ ∀ q, q ≠ ma 4 → F1 q = F q) := by
  obtain ⟨hz0, hz1, hz2, hz3, hz4⟩ := ne_z zf hz
  have hc : A.1.1 ≤ 6 := hA.1.2.1
  have hc2 : 2 ≤ A.1.1 := hA.1.1
  have hpu : A.1.2.1 ≤ 100000 := hA.1.2.2.1
  have hrw : ∀ i k, i < 12 → k < 7 → zf (5 + 7 * i + k) = nI (A.1.2.2.2.2.2 i k).val := hz.row
  have hR : okR A.1.2.2.2.2.2 := hA.1.2.2.2
  refine CG_of (by decide) (Nat.le_of_ble_eq_true rfl) rfl ?_
  intro p e s m args below meth c Q C0 hr hlk hnm hQ hw ls hl
  have hx := C0.x
  have hb := C0.b
  refine lv_iload_n hx hb dX6_counted_0 rfl (lv_at hl 1 rfl) ?_
  refine lv_tableIn (off := 47) (tgt := 48) hx hb dX6_counted_1 (by decide) (by decide) rfl (by decide) ?_
  refine lv_aload_n hx hb dX6_counted_48 rfl (lv_at hl 0 rfl) ?_
  refine q_get C0 hw mb fb fw_X6_7 rfl dX6_counted_49 ?_
  refine lv_iload_n hx hb dX6_counted_52 rfl (lv_at hl 1 rfl) ?_
  refine q_iald C0 hw ((hma 0 (by decide))) fz (0) (by omega) (by decide) (v := nI (A.1.1)) hz0 dX6_counted_53 ?_
  exact r_i C0 hr hlk hw (v := nI (A.1.1)) rfl ⟨rfl, ⟨_, fp⟩, (fun q k0 => rfl)⟩ (Nat.le_refl _) (Nat.le_refl _) dX6_counted_54 hQ
set_option maxHeartbeats 4000000 in
set_option maxRecDepth 100000 in
theorem c_X6_counted_1 (l : Launch) (G : Gl) (L : List Nat) (F : Nat → va_E) (b : Nat) (ma : Nat → Nat) (mi : Nat → Int32) (hh : Int64) (zf kf : Nat → Int32) (pl : Nat → Nat → ZP) (A : AB) (mb : b ∈ L) (fb : F b = mO ma mi hh) (hma : ∀ i, i < 7 → ma i ∈ L) (hm0 : mi 0 = nI A.2.1.1) (fz : F (ma 0) = .inl (G.2 0, 89, .inl zf)) (hz : zA zf A.1) (fk : F (ma 3) = .inl (G.2 0, 2, .inl kf)) (hkf : kA_ kf A.2.2.1) (fp : F (ma 4) = pcE G pl) (hA : okA A) : CI l yX6_counted cX6_counted 2 (some .int) rm_X6_counted G L F [.ref b, .int (nI (1))] (fun r F1 => r = nI (cntA A 1) ∧ (∃ P9, F1 (ma 4) = pcE G P9) ∧ ∀ q, q ≠ ma 4 → F1 q = F q) := by
  obtain ⟨hz0, hz1, hz2, hz3, hz4⟩ := ne_z zf hz
  have hc : A.1.1 ≤ 6 := hA.1.2.1
  have hc2 : 2 ≤ A.1.1 := hA.1.1
  have hpu : A.1.2.1 ≤ 100000 := hA.1.2.2.1
  have hrw : ∀ i k, i < 12 → k < 7 → zf (5 + 7 * i + k) = nI (A.1.2.2.2.2.2 i k).val := hz.row
  have hR : okR A.1.2.2.2.2.2 := hA.1.2.2.2
  refine CG_of (by decide) (Nat.le_of_ble_eq_true rfl) rfl ?_
  intro p e s m args below meth c Q C0 hr hlk hnm hQ hw ls hl
  have hx := C0.x
  have hb := C0.b
  refine lv_iload_n hx hb dX6_counted_0 rfl (lv_at hl 1 rfl) ?_
  refine lv_tableIn (off := 47) (tgt := 48) hx hb dX6_counted_1 (by decide) (by decide) rfl (by decide) ?_
  refine lv_aload_n hx hb dX6_counted_48 rfl (lv_at hl 0 rfl) ?_
  refine q_get C0 hw mb fb fw_X6_7 rfl dX6_counted_49 ?_
  refine lv_iload_n hx hb dX6_counted_52 rfl (lv_at hl 1 rfl) ?_
  refine q_iald C0 hw ((hma 0 (by decide))) fz (1) (by omega) (by decide) (v := nI (A.1.2.1)) hz1 dX6_counted_53 ?_
  exact r_i C0 hr hlk hw (v := nI (A.1.2.1)) rfl ⟨rfl, ⟨_, fp⟩, (fun q k0 => rfl)⟩ (Nat.le_refl _) (Nat.le_refl _) dX6_counted_54 hQ
set_option maxHeartbeats 4000000 in
set_option maxRecDepth 100000 in
theorem c_X6_counted_2 (l : Launch) (G : Gl) (L : List Nat) (F : Nat → va_E) (b : Nat) (ma : Nat → Nat) (mi : Nat → Int32) (hh : Int64) (zf kf : Nat → Int32) (pl : Nat → Nat → ZP) (A : AB) (mb : b ∈ L) (fb : F b = mO ma mi hh) (hma : ∀ i, i < 7 → ma i ∈ L) (hm0 : mi 0 = nI A.2.1.1) (fz : F (ma 0) = .inl (G.2 0, 89, .inl zf)) (hz : zA zf A.1) (fk : F (ma 3) = .inl (G.2 0, 2, .inl kf)) (hkf : kA_ kf A.2.2.1) (fp : F (ma 4) = pcE G pl) (hA : okA A) : CI l yX6_counted cX6_counted 2 (some .int) rm_X6_counted G L F [.ref b, .int (nI (2))] (fun r F1 => r = nI (cntA A 2) ∧ (∃ P9, F1 (ma 4) = pcE G P9) ∧ ∀ q, q ≠ ma 4 → F1 q = F q) := by
  obtain ⟨hz0, hz1, hz2, hz3, hz4⟩ := ne_z zf hz
  have hc : A.1.1 ≤ 6 := hA.1.2.1
  have hc2 : 2 ≤ A.1.1 := hA.1.1
  have hpu : A.1.2.1 ≤ 100000 := hA.1.2.2.1
  have hrw : ∀ i k, i < 12 → k < 7 → zf (5 + 7 * i + k) = nI (A.1.2.2.2.2.2 i k).val := hz.row
  have hR : okR A.1.2.2.2.2.2 := hA.1.2.2.2
  refine CG_of (by decide) (Nat.le_of_ble_eq_true rfl) rfl ?_
  intro p e s m args below meth c Q C0 hr hlk hnm hQ hw ls hl
  have hx := C0.x
  have hb := C0.b
  refine lv_iload_n hx hb dX6_counted_0 rfl (lv_at hl 1 rfl) ?_
  refine lv_tableIn (off := 54) (tgt := 55) hx hb dX6_counted_1 (by decide) (by decide) rfl (by decide) ?_
  refine lv_aload_n hx hb dX6_counted_55 rfl (lv_at hl 0 rfl) ?_
  refine q_calli hw (q_runV (As := []) (c_X6_fieldsNotZero l G L F b ma mi hh pl zf A.1.1 A.1.2.2.2.2.2 mb fb hma fp fz hz0 (by omega) (by omega) hrw) C0 hw vw_X6_199 mb fb rfl rfl rfl hl.1 rfl (Nat.le_of_ble_eq_true rfl) dX6_counted_56 ⟨by decide, by decide⟩ ⟨by decide, by decide⟩) rfl rfl (fun r_10675 F_10673 H locs hw hp_10674 => ?_)
  obtain ⟨f_10677, ⟨P_10676, f_10678, f_10680⟩, f_10679⟩ := hp_10674
  subst f_10677
  exact r_i C0 hr hlk hw (v := nI (cntR (fun i => A.1.2.2.2.2.2 i) 6)) rfl ⟨rfl, ⟨_, f_10678⟩, (fun q k0 => (f_10679 q k0))⟩ (Nat.le_refl _) (Nat.le_refl _) dX6_counted_59 hQ
set_option maxHeartbeats 4000000 in
set_option maxRecDepth 100000 in
theorem c_X6_counted_3 (l : Launch) (G : Gl) (L : List Nat) (F : Nat → va_E) (b : Nat) (ma : Nat → Nat) (mi : Nat → Int32) (hh : Int64) (zf kf : Nat → Int32) (pl : Nat → Nat → ZP) (A : AB) (mb : b ∈ L) (fb : F b = mO ma mi hh) (hma : ∀ i, i < 7 → ma i ∈ L) (hm0 : mi 0 = nI A.2.1.1) (fz : F (ma 0) = .inl (G.2 0, 89, .inl zf)) (hz : zA zf A.1) (fk : F (ma 3) = .inl (G.2 0, 2, .inl kf)) (hkf : kA_ kf A.2.2.1) (fp : F (ma 4) = pcE G pl) (hA : okA A) : CI l yX6_counted cX6_counted 2 (some .int) rm_X6_counted G L F [.ref b, .int (nI (3))] (fun r F1 => r = nI (cntA A 3) ∧ (∃ P9, F1 (ma 4) = pcE G P9) ∧ ∀ q, q ≠ ma 4 → F1 q = F q) := by
  obtain ⟨hz0, hz1, hz2, hz3, hz4⟩ := ne_z zf hz
  have hc : A.1.1 ≤ 6 := hA.1.2.1
  have hc2 : 2 ≤ A.1.1 := hA.1.1
  have hpu : A.1.2.1 ≤ 100000 := hA.1.2.2.1
  have hrw : ∀ i k, i < 12 → k < 7 → zf (5 + 7 * i + k) = nI (A.1.2.2.2.2.2 i k).val := hz.row
  have hR : okR A.1.2.2.2.2.2 := hA.1.2.2.2
  refine CG_of (by decide) (Nat.le_of_ble_eq_true rfl) rfl ?_
  intro p e s m args below meth c Q C0 hr hlk hnm hQ hw ls hl
  have hx := C0.x
  have hb := C0.b
  refine lv_iload_n hx hb dX6_counted_0 rfl (lv_at hl 1 rfl) ?_
  refine lv_tableIn (off := 59) (tgt := 60) hx hb dX6_counted_1 (by decide) (by decide) rfl (by decide) ?_
  refine lv_aload_n hx hb dX6_counted_60 rfl (lv_at hl 0 rfl) ?_
  refine q_calli hw (q_runV (As := []) (c_X6_flowsNotX l G L F b ma mi hh pl zf A.1.1 A.1.2.2.2.2.2 mb fb hma fp fz hz0 (by omega) (by omega) hrw) C0 hw vw_X6_224 mb fb rfl rfl rfl hl.1 rfl (Nat.le_of_ble_eq_true rfl) dX6_counted_61 ⟨by decide, by decide⟩ ⟨by decide, by decide⟩) rfl rfl (fun r_10683 F_10681 H locs hw hp_10682 => ?_)
  obtain ⟨f_10685, ⟨P_10684, f_10686, f_10688⟩, f_10687⟩ := hp_10682
  subst f_10685
  exact r_i C0 hr hlk hw (v := nI (cntR (fun i => A.1.2.2.2.2.2 (6 + i)) 6)) rfl ⟨rfl, ⟨_, f_10686⟩, (fun q k0 => (f_10687 q k0))⟩ (Nat.le_refl _) (Nat.le_refl _) dX6_counted_64 hQ
set_option maxHeartbeats 4000000 in
set_option maxRecDepth 100000 in
theorem c_X6_counted_4 (l : Launch) (G : Gl) (L : List Nat) (F : Nat → va_E) (b : Nat) (ma : Nat → Nat) (mi : Nat → Int32) (hh : Int64) (zf kf : Nat → Int32) (pl : Nat → Nat → ZP) (A : AB) (mb : b ∈ L) (fb : F b = mO ma mi hh) (hma : ∀ i, i < 7 → ma i ∈ L) (hm0 : mi 0 = nI A.2.1.1) (fz : F (ma 0) = .inl (G.2 0, 89, .inl zf)) (hz : zA zf A.1) (fk : F (ma 3) = .inl (G.2 0, 2, .inl kf)) (hkf : kA_ kf A.2.2.1) (fp : F (ma 4) = pcE G pl) (hA : okA A) : CI l yX6_counted cX6_counted 2 (some .int) rm_X6_counted G L F [.ref b, .int (nI (4))] (fun r F1 => r = nI (cntA A 4) ∧ (∃ P9, F1 (ma 4) = pcE G P9) ∧ ∀ q, q ≠ ma 4 → F1 q = F q) := by
  obtain ⟨hz0, hz1, hz2, hz3, hz4⟩ := ne_z zf hz
  have hc : A.1.1 ≤ 6 := hA.1.2.1
  have hc2 : 2 ≤ A.1.1 := hA.1.1
  have hpu : A.1.2.1 ≤ 100000 := hA.1.2.2.1
  have hrw : ∀ i k, i < 12 → k < 7 → zf (5 + 7 * i + k) = nI (A.1.2.2.2.2.2 i k).val := hz.row
  have hR : okR A.1.2.2.2.2.2 := hA.1.2.2.2
  refine CG_of (by decide) (Nat.le_of_ble_eq_true rfl) rfl ?_
  intro p e s m args below meth c Q C0 hr hlk hnm hQ hw ls hl
  have hx := C0.x
  have hb := C0.b
  refine lv_iload_n hx hb dX6_counted_0 rfl (lv_at hl 1 rfl) ?_
  refine lv_tableIn (off := 64) (tgt := 65) hx hb dX6_counted_1 (by decide) (by decide) rfl (by decide) ?_
  refine lv_aload_n hx hb dX6_counted_65 rfl (lv_at hl 0 rfl) ?_
  refine q_get C0 hw mb fb fw_X6_7 rfl dX6_counted_66 ?_
  refine lv_iload_n hx hb dX6_counted_69 rfl (lv_at hl 1 rfl) ?_
  refine lv_iconst (v := nI 2) hx hb dX6_counted_70 (by decide) ?_
  refine n_isub hx hb (by omega) dX6_counted_71 ?_
  refine q_iald C0 hw ((hma 0 (by decide))) fz (4 - 2) (by omega) (by decide) (v := (zf (4 - 2))) rfl dX6_counted_72 ?_
  exact r_i C0 hr hlk hw (v := (zf (4 - 2))) rfl ⟨hz2, ⟨_, fp⟩, (fun q k0 => rfl)⟩ (Nat.le_refl _) (Nat.le_refl _) dX6_counted_73 hQ
set_option maxHeartbeats 4000000 in
set_option maxRecDepth 100000 in
theorem c_X6_counted_5 (l : Launch) (G : Gl) (L : List Nat) (F : Nat → va_E) (b : Nat) (ma : Nat → Nat) (mi : Nat → Int32) (hh : Int64) (zf kf : Nat → Int32) (pl : Nat → Nat → ZP) (A : AB) (mb : b ∈ L) (fb : F b = mO ma mi hh) (hma : ∀ i, i < 7 → ma i ∈ L) (hm0 : mi 0 = nI A.2.1.1) (fz : F (ma 0) = .inl (G.2 0, 89, .inl zf)) (hz : zA zf A.1) (fk : F (ma 3) = .inl (G.2 0, 2, .inl kf)) (hkf : kA_ kf A.2.2.1) (fp : F (ma 4) = pcE G pl) (hA : okA A) : CI l yX6_counted cX6_counted 2 (some .int) rm_X6_counted G L F [.ref b, .int (nI (5))] (fun r F1 => r = nI (cntA A 5) ∧ (∃ P9, F1 (ma 4) = pcE G P9) ∧ ∀ q, q ≠ ma 4 → F1 q = F q) := by
  obtain ⟨hz0, hz1, hz2, hz3, hz4⟩ := ne_z zf hz
  have hc : A.1.1 ≤ 6 := hA.1.2.1
  have hc2 : 2 ≤ A.1.1 := hA.1.1
  have hpu : A.1.2.1 ≤ 100000 := hA.1.2.2.1
  have hrw : ∀ i k, i < 12 → k < 7 → zf (5 + 7 * i + k) = nI (A.1.2.2.2.2.2 i k).val := hz.row
  have hR : okR A.1.2.2.2.2.2 := hA.1.2.2.2
  refine CG_of (by decide) (Nat.le_of_ble_eq_true rfl) rfl ?_
  intro p e s m args below meth c Q C0 hr hlk hnm hQ hw ls hl
  have hx := C0.x
  have hb := C0.b
  refine lv_iload_n hx hb dX6_counted_0 rfl (lv_at hl 1 rfl) ?_
  refine lv_tableIn (off := 64) (tgt := 65) hx hb dX6_counted_1 (by decide) (by decide) rfl (by decide) ?_
  refine lv_aload_n hx hb dX6_counted_65 rfl (lv_at hl 0 rfl) ?_
  refine q_get C0 hw mb fb fw_X6_7 rfl dX6_counted_66 ?_
  refine lv_iload_n hx hb dX6_counted_69 rfl (lv_at hl 1 rfl) ?_
  refine lv_iconst (v := nI 2) hx hb dX6_counted_70 (by decide) ?_
  refine n_isub hx hb (by omega) dX6_counted_71 ?_
  refine q_iald C0 hw ((hma 0 (by decide))) fz (5 - 2) (by omega) (by decide) (v := (zf (5 - 2))) rfl dX6_counted_72 ?_
  exact r_i C0 hr hlk hw (v := (zf (5 - 2))) rfl ⟨hz3, ⟨_, fp⟩, (fun q k0 => rfl)⟩ (Nat.le_refl _) (Nat.le_refl _) dX6_counted_73 hQ
set_option maxHeartbeats 4000000 in
set_option maxRecDepth 100000 in
theorem c_X6_counted_6 (l : Launch) (G : Gl) (L : List Nat) (F : Nat → va_E) (b : Nat) (ma : Nat → Nat) (mi : Nat → Int32) (hh : Int64) (zf kf : Nat → Int32) (pl : Nat → Nat → ZP) (A : AB) (mb : b ∈ L) (fb : F b = mO ma mi hh) (hma : ∀ i, i < 7 → ma i ∈ L) (hm0 : mi 0 = nI A.2.1.1) (fz : F (ma 0) = .inl (G.2 0, 89, .inl zf)) (hz : zA zf A.1) (fk : F (ma 3) = .inl (G.2 0, 2, .inl kf)) (hkf : kA_ kf A.2.2.1) (fp : F (ma 4) = pcE G pl) (hA : okA A) : CI l yX6_counted cX6_counted 2 (some .int) rm_X6_counted G L F [.ref b, .int (nI (6))] (fun r F1 => r = nI (cntA A 6) ∧ (∃ P9, F1 (ma 4) = pcE G P9) ∧ ∀ q, q ≠ ma 4 → F1 q = F q) := by
  obtain ⟨hz0, hz1, hz2, hz3, hz4⟩ := ne_z zf hz
  have hc : A.1.1 ≤ 6 := hA.1.2.1
  have hc2 : 2 ≤ A.1.1 := hA.1.1
  have hpu : A.1.2.1 ≤ 100000 := hA.1.2.2.1
  have hrw : ∀ i k, i < 12 → k < 7 → zf (5 + 7 * i + k) = nI (A.1.2.2.2.2.2 i k).val := hz.row
  have hR : okR A.1.2.2.2.2.2 := hA.1.2.2.2
  refine CG_of (by decide) (Nat.le_of_ble_eq_true rfl) rfl ?_
  intro p e s m args below meth c Q C0 hr hlk hnm hQ hw ls hl
  have hx := C0.x
  have hb := C0.b
  refine lv_iload_n hx hb dX6_counted_0 rfl (lv_at hl 1 rfl) ?_
  refine lv_tableIn (off := 64) (tgt := 65) hx hb dX6_counted_1 (by decide) (by decide) rfl (by decide) ?_
  refine lv_aload_n hx hb dX6_counted_65 rfl (lv_at hl 0 rfl) ?_
  refine q_get C0 hw mb fb fw_X6_7 rfl dX6_counted_66 ?_
  refine lv_iload_n hx hb dX6_counted_69 rfl (lv_at hl 1 rfl) ?_
  refine lv_iconst (v := nI 2) hx hb dX6_counted_70 (by decide) ?_
  refine n_isub hx hb (by omega) dX6_counted_71 ?_
  refine q_iald C0 hw ((hma 0 (by decide))) fz (6 - 2) (by omega) (by decide) (v := (zf (6 - 2))) rfl dX6_counted_72 ?_
  exact r_i C0 hr hlk hw (v := (zf (6 - 2))) rfl ⟨hz4, ⟨_, fp⟩, (fun q k0 => rfl)⟩ (Nat.le_refl _) (Nat.le_refl _) dX6_counted_73 hQ
set_option maxHeartbeats 4000000 in
set_option maxRecDepth 100000 in
theorem c_X6_counted_7 (l : Launch) (G : Gl) (L : List Nat) (F : Nat → va_E) (b : Nat) (ma : Nat → Nat) (mi : Nat → Int32) (hh : Int64) (zf kf : Nat → Int32) (pl : Nat → Nat → ZP) (A : AB) (mb : b ∈ L) (fb : F b = mO ma mi hh) (hma : ∀ i, i < 7 → ma i ∈ L) (hm0 : mi 0 = nI A.2.1.1) (fz : F (ma 0) = .inl (G.2 0, 89, .inl zf)) (hz : zA zf A.1) (fk : F (ma 3) = .inl (G.2 0, 2, .inl kf)) (hkf : kA_ kf A.2.2.1) (fp : F (ma 4) = pcE G pl) (hA : okA A) : CI l yX6_counted cX6_counted 2 (some .int) rm_X6_counted G L F [.ref b, .int (nI (7))] (fun r F1 => r = nI (cntA A 7) ∧ (∃ P9, F1 (ma 4) = pcE G P9) ∧ ∀ q, q ≠ ma 4 → F1 q = F q) := by
  obtain ⟨hz0, hz1, hz2, hz3, hz4⟩ := ne_z zf hz
  have hc : A.1.1 ≤ 6 := hA.1.2.1
  have hc2 : 2 ≤ A.1.1 := hA.1.1
  have hpu : A.1.2.1 ≤ 100000 := hA.1.2.2.1
  have hrw : ∀ i k, i < 12 → k < 7 → zf (5 + 7 * i + k) = nI (A.1.2.2.2.2.2 i k).val := hz.row
  have hR : okR A.1.2.2.2.2.2 := hA.1.2.2.2
  refine CG_of (by decide) (Nat.le_of_ble_eq_true rfl) rfl ?_
  intro p e s m args below meth c Q C0 hr hlk hnm hQ hw ls hl
  have hx := C0.x
  have hb := C0.b
  refine lv_iload_n hx hb dX6_counted_0 rfl (lv_at hl 1 rfl) ?_
  refine lv_tableIn (off := 73) (tgt := 74) hx hb dX6_counted_1 (by decide) (by decide) rfl (by decide) ?_
  refine lv_aload_n hx hb dX6_counted_74 rfl (lv_at hl 0 rfl) ?_
  refine q_get C0 hw mb fb fw_X6_19 rfl dX6_counted_75 ?_
  refine lv_iconst (v := nI 0) hx hb dX6_counted_78 (by decide) ?_
  refine q_iald C0 hw ((hma 3 (by decide))) fk (0) (by omega) (by decide) (v := (kf (0))) rfl dX6_counted_79 ?_
  refine lv_aload_n hx hb dX6_counted_80 rfl (lv_at hl 0 rfl) ?_
  refine q_get C0 hw mb fb fw_X6_19 rfl dX6_counted_81 ?_
  refine lv_iconst (v := nI 1) hx hb dX6_counted_84 (by decide) ?_
  refine q_iald C0 hw ((hma 3 (by decide))) fk (1) (by omega) (by decide) (v := (kf (1))) rfl dX6_counted_85 ?_
  refine lv_iadd hx hb dX6_counted_86 ?_
  exact r_i C0 hr hlk hw (v := ((kf (0)) + (kf (1)))) rfl ⟨(by rw [hkf 0 (by decide), hkf 1 (by decide)]; show _ = nI ((if (A.2.2.1 0).1 then 1 else 0) + (if (A.2.2.1 1).1 then 1 else 0)); split <;> split <;> rfl), ⟨_, fp⟩, (fun q k0 => rfl)⟩ (Nat.le_refl _) (Nat.le_refl _) dX6_counted_87 hQ
set_option maxHeartbeats 4000000 in
set_option maxRecDepth 100000 in
theorem c_X6_counted_8 (l : Launch) (G : Gl) (L : List Nat) (F : Nat → va_E) (b : Nat) (ma : Nat → Nat) (mi : Nat → Int32) (hh : Int64) (zf kf : Nat → Int32) (pl : Nat → Nat → ZP) (A : AB) (mb : b ∈ L) (fb : F b = mO ma mi hh) (hma : ∀ i, i < 7 → ma i ∈ L) (hm0 : mi 0 = nI A.2.1.1) (fz : F (ma 0) = .inl (G.2 0, 89, .inl zf)) (hz : zA zf A.1) (fk : F (ma 3) = .inl (G.2 0, 2, .inl kf)) (hkf : kA_ kf A.2.2.1) (fp : F (ma 4) = pcE G pl) (hA : okA A) : CI l yX6_counted cX6_counted 2 (some .int) rm_X6_counted G L F [.ref b, .int (nI (8))] (fun r F1 => r = nI (cntA A 8) ∧ (∃ P9, F1 (ma 4) = pcE G P9) ∧ ∀ q, q ≠ ma 4 → F1 q = F q) := by
  obtain ⟨hz0, hz1, hz2, hz3, hz4⟩ := ne_z zf hz
  have hc : A.1.1 ≤ 6 := hA.1.2.1
  have hc2 : 2 ≤ A.1.1 := hA.1.1
  have hpu : A.1.2.1 ≤ 100000 := hA.1.2.2.1
  have hrw : ∀ i k, i < 12 → k < 7 → zf (5 + 7 * i + k) = nI (A.1.2.2.2.2.2 i k).val := hz.row
  have hR : okR A.1.2.2.2.2.2 := hA.1.2.2.2
  refine CG_of (by decide) (Nat.le_of_ble_eq_true rfl) rfl ?_
  intro p e s m args below meth c Q C0 hr hlk hnm hQ hw ls hl
  have hx := C0.x
  have hb := C0.b
  refine lv_iload_n hx hb dX6_counted_0 rfl (lv_at hl 1 rfl) ?_
  refine lv_tableOut (tgt := 88) hx hb dX6_counted_1 (by decide) (by decide) ?_
  refine lv_aload_n hx hb dX6_counted_88 rfl (lv_at hl 0 rfl) ?_
  refine q_get C0 hw mb fb fw_X6_35 rfl dX6_counted_89 ?_
  exact r_i C0 hr hlk hw (v := (mi 0)) rfl ⟨hm0, ⟨_, fp⟩, (fun q k0 => rfl)⟩ (Nat.le_refl _) (Nat.le_refl _) dX6_counted_92 hQ
abbrev rm_X6_count : Room := { frames := 4, cells := 0, slots := 0, locals := 89 }
set_option maxHeartbeats 4000000 in
set_option maxRecDepth 100000 in
theorem k_X6_count_0 (l : Launch) (G : Gl) (L : List Nat) (F : Nat → va_E) (b : Nat) (ma : Nat → Nat) (A : AB) (th : Nat) (mb : b ∈ L) (hma : ∀ i, i < 7 → ma i ∈ L) (hM : MW G F b ma A th) (hA : okA A) (h9 : inR (nI 0) 0 8) : CI l yX6_count cX6_count 2 (some .int) rm_X6_count G L F [.ref b, .int (nI (0))] (fun r F1 => r = nI (cntA A 0) ∧ MW G F1 b ma A 0 ∧ mFr F F1 b ma) := by
  obtain ⟨mi, hh, zf, hf, sf, kf, tf, pf, pl, fb, ⟨hm0, hm1, hm2⟩, ⟨fz, hz⟩, ⟨fh, hhf⟩, ⟨fs, hsf⟩, ⟨fk, hkf⟩, fp, ⟨ft, htf⟩, fq⟩ := hM
  obtain ⟨hz0, hz1, hz2, hz3, hz4⟩ := ne_z zf hz
  have hc : A.1.1 ≤ 6 := hA.1.2.1
  have hc2 : 2 ≤ A.1.1 := hA.1.1
  have hpu : A.1.2.1 ≤ 100000 := hA.1.2.2.1
  have hrw : ∀ i k, i < 12 → k < 7 → zf (5 + 7 * i + k) = nI (A.1.2.2.2.2.2 i k).val := hz.row
  refine CG_of (by decide) (Nat.le_of_ble_eq_true rfl) rfl ?_
  intro p e s m args below meth c Q C0 hr hlk hnm hQ hw ls hl
  have hx := C0.x
  have hb := C0.b
  refine lv_aload_n hx hb dX6_count_0 rfl (lv_at hl 0 rfl) ?_
  refine lv_iload_n hx hb dX6_count_1 rfl (lv_at hl 1 rfl) ?_
  refine lv_iconst (v := nI 0) hx hb dX6_count_2 (by decide) ?_
  refine lv_bipush (v := nI 8) hx hb dX6_count_3 (by decide) ?_
  refine q_calli hw (q_runS (As := [.int (nI (0)), .int (nI (0)), .int (nI (8))]) (c_X6_within l G L F (nI 0) 0 8) C0 hw sw_X6_38 rfl hl.1 rfl (Nat.le_of_ble_eq_true rfl) dX6_count_5 ⟨by decide, by decide⟩ ⟨by decide, by decide⟩) rfl rfl (fun r_10691 F_10689 H locs hw hp_10690 => ?_)
  obtain ⟨he_10692, o_10693⟩ := hp_10690
  rw [if_pos h9] at he_10692
  subst he_10692
  refine n_if_eq (tgt := 15) hx hb dX6_count_8 (by decide) (by decide) (fun c_8 => ?_) (fun c_8 => ?_)
  · skip
    exact absurd c_8 (by omega)
  · skip
    refine lv_iconst (v := nI 0) hx hb dX6_count_11 (by decide) ?_
    refine lv_goto (tgt := 16) hx hb dX6_count_12 (by decide) ?_
    have f_10694 : F_10689 b = mO ma mi hh := (o_10693 b ).trans fb
    refine q_put C0 hw mb f_10694 fw_X6_31 pw_X6_8 rfl rfl rfl (Nat.le_of_ble_eq_true rfl) dX6_count_16 (fun F_10695 H locs hw f_10696 o_10697 => ?_)
    have f_10696 : F_10695 b = .inr (6, [.ref (ma 0), .int (mi 0), .ref (ma 1), .ref (ma 2), .ref (ma 3), .ref (ma 4), .int (mi 1), .ref (ma 5), .int (nI (0)), .ref (ma 6), .int (mi 3), .int (mi 4), .long (hh)]) := f_10696
    refine lv_aload_n hx hb dX6_count_19 rfl (lv_at hl 0 rfl) ?_
    refine q_get C0 hw mb f_10696 fw_X6_31 rfl dX6_count_20 ?_
    refine n_if_le (tgt := 30) hx hb dX6_count_23 (by decide) (by decide) (fun c_23 => ?_) (fun c_23 => ?_)
    · skip
      have hb_10698 : F_10695 b = mO ma (va_up mi 2 (nI 0)) hh := f_10696
      refine lv_aload_n hx hb dX6_count_30 rfl (lv_at hl 0 rfl) ?_
      refine lv_iload_n hx hb dX6_count_31 rfl (lv_at hl 1 rfl) ?_
      have f_10699 : F_10689 (ma 0) = .inl (G.2 0, 89, .inl zf) := (o_10693 (ma 0) ).trans fz
      have f_10700 : F_10695 (ma 0) = .inl (G.2 0, 89, .inl zf) := (o_10697 (ma 0) (ne_ao f_10699 f_10694)).trans f_10699
      have f_10701 : F_10689 (ma 3) = .inl (G.2 0, 2, .inl kf) := (o_10693 (ma 3) ).trans fk
      have f_10702 : F_10695 (ma 3) = .inl (G.2 0, 2, .inl kf) := (o_10697 (ma 3) (ne_ao f_10701 f_10694)).trans f_10701
      have f_10703 : F_10689 (ma 4) = pcE G pl := (o_10693 (ma 4) ).trans fp
      have f_10704 : F_10695 (ma 4) = pcE G pl := (o_10697 (ma 4) (ne_ao f_10703 f_10694)).trans f_10703
      refine q_calli hw (q_runV (As := [.int (nI (0))]) (c_X6_counted_0 l G L F_10695 b ma ((va_up mi 2 (nI 0))) hh zf kf pl A  mb hb_10698 hma hm0 f_10700 hz f_10702 hkf f_10704 hA ) C0 hw vw_X6_227 mb hb_10698 rfl rfl rfl hl.1 rfl (Nat.le_of_ble_eq_true rfl) dX6_count_32 ⟨by decide, by decide⟩ ⟨by decide, by decide⟩) rfl rfl (fun r_10707 F_10705 H locs hw hp_10706 => ?_)
      obtain ⟨f_10709, ⟨P_10708, f_10710⟩, f_10711⟩ := hp_10706
      subst f_10709
      have f_10712 : F_10705 b = mO ma ((va_up mi 2 (nI 0))) hh := (f_10711 b (ne_oa hb_10698 f_10704)).trans hb_10698
      have f_10713 : F_10705 (ma 0) = .inl (G.2 0, 89, .inl zf) := (f_10711 (ma 0) (ne_aa (by decide) f_10700 f_10704)).trans f_10700
      have f_10714 : F_10689 (ma 1) = .inl (G.2 0, 534, .inl hf) := (o_10693 (ma 1) ).trans fh
      have f_10715 : F_10695 (ma 1) = .inl (G.2 0, 534, .inl hf) := (o_10697 (ma 1) (ne_ao f_10714 f_10694)).trans f_10714
      have f_10716 : F_10705 (ma 1) = .inl (G.2 0, 534, .inl hf) := (f_10711 (ma 1) (ne_aa (by decide) f_10715 f_10704)).trans f_10715
      have f_10717 : F_10689 (ma 2) = .inl (G.2 0, 178, .inl sf) := (o_10693 (ma 2) ).trans fs
      have f_10718 : F_10695 (ma 2) = .inl (G.2 0, 178, .inl sf) := (o_10697 (ma 2) (ne_ao f_10717 f_10694)).trans f_10717
      have f_10719 : F_10705 (ma 2) = .inl (G.2 0, 178, .inl sf) := (f_10711 (ma 2) (ne_aa (by decide) f_10718 f_10704)).trans f_10718
      have f_10720 : F_10705 (ma 3) = .inl (G.2 0, 2, .inl kf) := (f_10711 (ma 3) (ne_aa (by decide) f_10702 f_10704)).trans f_10702
      have f_10721 : F_10689 (ma 5) = .inl (G.2 0, 60, .inl tf) := (o_10693 (ma 5) ).trans ft
      have f_10722 : F_10695 (ma 5) = .inl (G.2 0, 60, .inl tf) := (o_10697 (ma 5) (ne_ao f_10721 f_10694)).trans f_10721
      have f_10723 : F_10705 (ma 5) = .inl (G.2 0, 60, .inl tf) := (f_10711 (ma 5) (ne_aa (by decide) f_10722 f_10704)).trans f_10722
      have f_10724 : F_10689 (ma 6) = .inl (G.2 0, 52, .inl pf) := (o_10693 (ma 6) ).trans fq
      have f_10725 : F_10695 (ma 6) = .inl (G.2 0, 52, .inl pf) := (o_10697 (ma 6) (ne_ao f_10724 f_10694)).trans f_10724
      have f_10726 : F_10705 (ma 6) = .inl (G.2 0, 52, .inl pf) := (f_10711 (ma 6) (ne_aa (by decide) f_10725 f_10704)).trans f_10725
      exact r_i C0 hr hlk hw (v := (nI (cntA A 0))) rfl ⟨rfl, ⟨_, _, _, _, _, _, _, _, _, f_10712, ⟨hm0, hm1, rfl⟩, ⟨f_10713, hz⟩, ⟨f_10716, hhf⟩, ⟨f_10719, hsf⟩, ⟨f_10720, hkf⟩, f_10710, ⟨f_10723, htf⟩, f_10726⟩, (fun q k0 k1 => ((f_10711 q (k1 4 (by decide))).trans ((o_10697 q k0).trans (o_10693 q ))))⟩ (Nat.le_refl _) (Nat.le_refl _) dX6_count_35 hQ
    · skip
      exact absurd c_23 (by omega)
set_option maxHeartbeats 4000000 in
set_option maxRecDepth 100000 in
theorem k_X6_count_1 (l : Launch) (G : Gl) (L : List Nat) (F : Nat → va_E) (b : Nat) (ma : Nat → Nat) (A : AB) (th : Nat) (mb : b ∈ L) (hma : ∀ i, i < 7 → ma i ∈ L) (hM : MW G F b ma A th) (hA : okA A) (h9 : inR (nI 1) 0 8) : CI l yX6_count cX6_count 2 (some .int) rm_X6_count G L F [.ref b, .int (nI (1))] (fun r F1 => r = nI (cntA A 1) ∧ MW G F1 b ma A 0 ∧ mFr F F1 b ma) := by
  obtain ⟨mi, hh, zf, hf, sf, kf, tf, pf, pl, fb, ⟨hm0, hm1, hm2⟩, ⟨fz, hz⟩, ⟨fh, hhf⟩, ⟨fs, hsf⟩, ⟨fk, hkf⟩, fp, ⟨ft, htf⟩, fq⟩ := hM
  obtain ⟨hz0, hz1, hz2, hz3, hz4⟩ := ne_z zf hz
  have hc : A.1.1 ≤ 6 := hA.1.2.1
  have hc2 : 2 ≤ A.1.1 := hA.1.1
  have hpu : A.1.2.1 ≤ 100000 := hA.1.2.2.1
  have hrw : ∀ i k, i < 12 → k < 7 → zf (5 + 7 * i + k) = nI (A.1.2.2.2.2.2 i k).val := hz.row
  refine CG_of (by decide) (Nat.le_of_ble_eq_true rfl) rfl ?_
  intro p e s m args below meth c Q C0 hr hlk hnm hQ hw ls hl
  have hx := C0.x
  have hb := C0.b
  refine lv_aload_n hx hb dX6_count_0 rfl (lv_at hl 0 rfl) ?_
  refine lv_iload_n hx hb dX6_count_1 rfl (lv_at hl 1 rfl) ?_
  refine lv_iconst (v := nI 0) hx hb dX6_count_2 (by decide) ?_
  refine lv_bipush (v := nI 8) hx hb dX6_count_3 (by decide) ?_
  refine q_calli hw (q_runS (As := [.int (nI (1)), .int (nI (0)), .int (nI (8))]) (c_X6_within l G L F (nI 1) 0 8) C0 hw sw_X6_38 rfl hl.1 rfl (Nat.le_of_ble_eq_true rfl) dX6_count_5 ⟨by decide, by decide⟩ ⟨by decide, by decide⟩) rfl rfl (fun r_10729 F_10727 H locs hw hp_10728 => ?_)
  obtain ⟨he_10730, o_10731⟩ := hp_10728
  rw [if_pos h9] at he_10730
  subst he_10730
  refine n_if_eq (tgt := 15) hx hb dX6_count_8 (by decide) (by decide) (fun c_8 => ?_) (fun c_8 => ?_)
  · skip
    exact absurd c_8 (by omega)
  · skip
    refine lv_iconst (v := nI 0) hx hb dX6_count_11 (by decide) ?_
    refine lv_goto (tgt := 16) hx hb dX6_count_12 (by decide) ?_
    have f_10732 : F_10727 b = mO ma mi hh := (o_10731 b ).trans fb
    refine q_put C0 hw mb f_10732 fw_X6_31 pw_X6_8 rfl rfl rfl (Nat.le_of_ble_eq_true rfl) dX6_count_16 (fun F_10733 H locs hw f_10734 o_10735 => ?_)
    have f_10734 : F_10733 b = .inr (6, [.ref (ma 0), .int (mi 0), .ref (ma 1), .ref (ma 2), .ref (ma 3), .ref (ma 4), .int (mi 1), .ref (ma 5), .int (nI (0)), .ref (ma 6), .int (mi 3), .int (mi 4), .long (hh)]) := f_10734
    refine lv_aload_n hx hb dX6_count_19 rfl (lv_at hl 0 rfl) ?_
    refine q_get C0 hw mb f_10734 fw_X6_31 rfl dX6_count_20 ?_
    refine n_if_le (tgt := 30) hx hb dX6_count_23 (by decide) (by decide) (fun c_23 => ?_) (fun c_23 => ?_)
    · skip
      have hb_10736 : F_10733 b = mO ma (va_up mi 2 (nI 0)) hh := f_10734
      refine lv_aload_n hx hb dX6_count_30 rfl (lv_at hl 0 rfl) ?_
      refine lv_iload_n hx hb dX6_count_31 rfl (lv_at hl 1 rfl) ?_
      have f_10737 : F_10727 (ma 0) = .inl (G.2 0, 89, .inl zf) := (o_10731 (ma 0) ).trans fz
      have f_10738 : F_10733 (ma 0) = .inl (G.2 0, 89, .inl zf) := (o_10735 (ma 0) (ne_ao f_10737 f_10732)).trans f_10737
      have f_10739 : F_10727 (ma 3) = .inl (G.2 0, 2, .inl kf) := (o_10731 (ma 3) ).trans fk
      have f_10740 : F_10733 (ma 3) = .inl (G.2 0, 2, .inl kf) := (o_10735 (ma 3) (ne_ao f_10739 f_10732)).trans f_10739
      have f_10741 : F_10727 (ma 4) = pcE G pl := (o_10731 (ma 4) ).trans fp
      have f_10742 : F_10733 (ma 4) = pcE G pl := (o_10735 (ma 4) (ne_ao f_10741 f_10732)).trans f_10741
      refine q_calli hw (q_runV (As := [.int (nI (1))]) (c_X6_counted_1 l G L F_10733 b ma ((va_up mi 2 (nI 0))) hh zf kf pl A  mb hb_10736 hma hm0 f_10738 hz f_10740 hkf f_10742 hA ) C0 hw vw_X6_227 mb hb_10736 rfl rfl rfl hl.1 rfl (Nat.le_of_ble_eq_true rfl) dX6_count_32 ⟨by decide, by decide⟩ ⟨by decide, by decide⟩) rfl rfl (fun r_10745 F_10743 H locs hw hp_10744 => ?_)
      obtain ⟨f_10747, ⟨P_10746, f_10748⟩, f_10749⟩ := hp_10744
      subst f_10747
      have f_10750 : F_10743 b = mO ma ((va_up mi 2 (nI 0))) hh := (f_10749 b (ne_oa hb_10736 f_10742)).trans hb_10736
      have f_10751 : F_10743 (ma 0) = .inl (G.2 0, 89, .inl zf) := (f_10749 (ma 0) (ne_aa (by decide) f_10738 f_10742)).trans f_10738
      have f_10752 : F_10727 (ma 1) = .inl (G.2 0, 534, .inl hf) := (o_10731 (ma 1) ).trans fh
      have f_10753 : F_10733 (ma 1) = .inl (G.2 0, 534, .inl hf) := (o_10735 (ma 1) (ne_ao f_10752 f_10732)).trans f_10752
      have f_10754 : F_10743 (ma 1) = .inl (G.2 0, 534, .inl hf) := (f_10749 (ma 1) (ne_aa (by decide) f_10753 f_10742)).trans f_10753
      have f_10755 : F_10727 (ma 2) = .inl (G.2 0, 178, .inl sf) := (o_10731 (ma 2) ).trans fs
      have f_10756 : F_10733 (ma 2) = .inl (G.2 0, 178, .inl sf) := (o_10735 (ma 2) (ne_ao f_10755 f_10732)).trans f_10755
      have f_10757 : F_10743 (ma 2) = .inl (G.2 0, 178, .inl sf) := (f_10749 (ma 2) (ne_aa (by decide) f_10756 f_10742)).trans f_10756
      have f_10758 : F_10743 (ma 3) = .inl (G.2 0, 2, .inl kf) := (f_10749 (ma 3) (ne_aa (by decide) f_10740 f_10742)).trans f_10740
      have f_10759 : F_10727 (ma 5) = .inl (G.2 0, 60, .inl tf) := (o_10731 (ma 5) ).trans ft
      have f_10760 : F_10733 (ma 5) = .inl (G.2 0, 60, .inl tf) := (o_10735 (ma 5) (ne_ao f_10759 f_10732)).trans f_10759
      have f_10761 : F_10743 (ma 5) = .inl (G.2 0, 60, .inl tf) := (f_10749 (ma 5) (ne_aa (by decide) f_10760 f_10742)).trans f_10760
      have f_10762 : F_10727 (ma 6) = .inl (G.2 0, 52, .inl pf) := (o_10731 (ma 6) ).trans fq
      have f_10763 : F_10733 (ma 6) = .inl (G.2 0, 52, .inl pf) := (o_10735 (ma 6) (ne_ao f_10762 f_10732)).trans f_10762
      have f_10764 : F_10743 (ma 6) = .inl (G.2 0, 52, .inl pf) := (f_10749 (ma 6) (ne_aa (by decide) f_10763 f_10742)).trans f_10763
      exact r_i C0 hr hlk hw (v := (nI (cntA A 1))) rfl ⟨rfl, ⟨_, _, _, _, _, _, _, _, _, f_10750, ⟨hm0, hm1, rfl⟩, ⟨f_10751, hz⟩, ⟨f_10754, hhf⟩, ⟨f_10757, hsf⟩, ⟨f_10758, hkf⟩, f_10748, ⟨f_10761, htf⟩, f_10764⟩, (fun q k0 k1 => ((f_10749 q (k1 4 (by decide))).trans ((o_10735 q k0).trans (o_10731 q ))))⟩ (Nat.le_refl _) (Nat.le_refl _) dX6_count_35 hQ
    · skip
      exact absurd c_23 (by omega)
set_option maxHeartbeats 4000000 in
set_option maxRecDepth 100000 in
theorem k_X6_count_2 (l : Launch) (G : Gl) (L : List Nat) (F : Nat → va_E) (b : Nat) (ma : Nat → Nat) (A : AB) (th : Nat) (mb : b ∈ L) (hma : ∀ i, i < 7 → ma i ∈ L) (hM : MW G F b ma A th) (hA : okA A) (h9 : inR (nI 2) 0 8) : CI l yX6_count cX6_count 2 (some .int) rm_X6_count G L F [.ref b, .int (nI (2))] (fun r F1 => r = nI (cntA A 2) ∧ MW G F1 b ma A 0 ∧ mFr F F1 b ma) := by
  obtain ⟨mi, hh, zf, hf, sf, kf, tf, pf, pl, fb, ⟨hm0, hm1, hm2⟩, ⟨fz, hz⟩, ⟨fh, hhf⟩, ⟨fs, hsf⟩, ⟨fk, hkf⟩, fp, ⟨ft, htf⟩, fq⟩ := hM
  obtain ⟨hz0, hz1, hz2, hz3, hz4⟩ := ne_z zf hz
  have hc : A.1.1 ≤ 6 := hA.1.2.1
  have hc2 : 2 ≤ A.1.1 := hA.1.1
  have hpu : A.1.2.1 ≤ 100000 := hA.1.2.2.1
  have hrw : ∀ i k, i < 12 → k < 7 → zf (5 + 7 * i + k) = nI (A.1.2.2.2.2.2 i k).val := hz.row
  refine CG_of (by decide) (Nat.le_of_ble_eq_true rfl) rfl ?_
  intro p e s m args below meth c Q C0 hr hlk hnm hQ hw ls hl
  have hx := C0.x
  have hb := C0.b
  refine lv_aload_n hx hb dX6_count_0 rfl (lv_at hl 0 rfl) ?_
  refine lv_iload_n hx hb dX6_count_1 rfl (lv_at hl 1 rfl) ?_
  refine lv_iconst (v := nI 0) hx hb dX6_count_2 (by decide) ?_
  refine lv_bipush (v := nI 8) hx hb dX6_count_3 (by decide) ?_
  refine q_calli hw (q_runS (As := [.int (nI (2)), .int (nI (0)), .int (nI (8))]) (c_X6_within l G L F (nI 2) 0 8) C0 hw sw_X6_38 rfl hl.1 rfl (Nat.le_of_ble_eq_true rfl) dX6_count_5 ⟨by decide, by decide⟩ ⟨by decide, by decide⟩) rfl rfl (fun r_10767 F_10765 H locs hw hp_10766 => ?_)
  obtain ⟨he_10768, o_10769⟩ := hp_10766
  rw [if_pos h9] at he_10768
  subst he_10768
  refine n_if_eq (tgt := 15) hx hb dX6_count_8 (by decide) (by decide) (fun c_8 => ?_) (fun c_8 => ?_)
  · skip
    exact absurd c_8 (by omega)
  · skip
    refine lv_iconst (v := nI 0) hx hb dX6_count_11 (by decide) ?_
    refine lv_goto (tgt := 16) hx hb dX6_count_12 (by decide) ?_
    have f_10770 : F_10765 b = mO ma mi hh := (o_10769 b ).trans fb
    refine q_put C0 hw mb f_10770 fw_X6_31 pw_X6_8 rfl rfl rfl (Nat.le_of_ble_eq_true rfl) dX6_count_16 (fun F_10771 H locs hw f_10772 o_10773 => ?_)
    have f_10772 : F_10771 b = .inr (6, [.ref (ma 0), .int (mi 0), .ref (ma 1), .ref (ma 2), .ref (ma 3), .ref (ma 4), .int (mi 1), .ref (ma 5), .int (nI (0)), .ref (ma 6), .int (mi 3), .int (mi 4), .long (hh)]) := f_10772
    refine lv_aload_n hx hb dX6_count_19 rfl (lv_at hl 0 rfl) ?_
    refine q_get C0 hw mb f_10772 fw_X6_31 rfl dX6_count_20 ?_
    refine n_if_le (tgt := 30) hx hb dX6_count_23 (by decide) (by decide) (fun c_23 => ?_) (fun c_23 => ?_)
    · skip
      have hb_10774 : F_10771 b = mO ma (va_up mi 2 (nI 0)) hh := f_10772
      refine lv_aload_n hx hb dX6_count_30 rfl (lv_at hl 0 rfl) ?_
      refine lv_iload_n hx hb dX6_count_31 rfl (lv_at hl 1 rfl) ?_
      have f_10775 : F_10765 (ma 0) = .inl (G.2 0, 89, .inl zf) := (o_10769 (ma 0) ).trans fz
      have f_10776 : F_10771 (ma 0) = .inl (G.2 0, 89, .inl zf) := (o_10773 (ma 0) (ne_ao f_10775 f_10770)).trans f_10775
      have f_10777 : F_10765 (ma 3) = .inl (G.2 0, 2, .inl kf) := (o_10769 (ma 3) ).trans fk
      have f_10778 : F_10771 (ma 3) = .inl (G.2 0, 2, .inl kf) := (o_10773 (ma 3) (ne_ao f_10777 f_10770)).trans f_10777
      have f_10779 : F_10765 (ma 4) = pcE G pl := (o_10769 (ma 4) ).trans fp
      have f_10780 : F_10771 (ma 4) = pcE G pl := (o_10773 (ma 4) (ne_ao f_10779 f_10770)).trans f_10779
      refine q_calli hw (q_runV (As := [.int (nI (2))]) (c_X6_counted_2 l G L F_10771 b ma ((va_up mi 2 (nI 0))) hh zf kf pl A  mb hb_10774 hma hm0 f_10776 hz f_10778 hkf f_10780 hA ) C0 hw vw_X6_227 mb hb_10774 rfl rfl rfl hl.1 rfl (Nat.le_of_ble_eq_true rfl) dX6_count_32 ⟨by decide, by decide⟩ ⟨by decide, by decide⟩) rfl rfl (fun r_10783 F_10781 H locs hw hp_10782 => ?_)
      obtain ⟨f_10785, ⟨P_10784, f_10786⟩, f_10787⟩ := hp_10782
      subst f_10785
      have f_10788 : F_10781 b = mO ma ((va_up mi 2 (nI 0))) hh := (f_10787 b (ne_oa hb_10774 f_10780)).trans hb_10774
      have f_10789 : F_10781 (ma 0) = .inl (G.2 0, 89, .inl zf) := (f_10787 (ma 0) (ne_aa (by decide) f_10776 f_10780)).trans f_10776
      have f_10790 : F_10765 (ma 1) = .inl (G.2 0, 534, .inl hf) := (o_10769 (ma 1) ).trans fh
      have f_10791 : F_10771 (ma 1) = .inl (G.2 0, 534, .inl hf) := (o_10773 (ma 1) (ne_ao f_10790 f_10770)).trans f_10790
      have f_10792 : F_10781 (ma 1) = .inl (G.2 0, 534, .inl hf) := (f_10787 (ma 1) (ne_aa (by decide) f_10791 f_10780)).trans f_10791
      have f_10793 : F_10765 (ma 2) = .inl (G.2 0, 178, .inl sf) := (o_10769 (ma 2) ).trans fs
      have f_10794 : F_10771 (ma 2) = .inl (G.2 0, 178, .inl sf) := (o_10773 (ma 2) (ne_ao f_10793 f_10770)).trans f_10793
      have f_10795 : F_10781 (ma 2) = .inl (G.2 0, 178, .inl sf) := (f_10787 (ma 2) (ne_aa (by decide) f_10794 f_10780)).trans f_10794
      have f_10796 : F_10781 (ma 3) = .inl (G.2 0, 2, .inl kf) := (f_10787 (ma 3) (ne_aa (by decide) f_10778 f_10780)).trans f_10778
      have f_10797 : F_10765 (ma 5) = .inl (G.2 0, 60, .inl tf) := (o_10769 (ma 5) ).trans ft
      have f_10798 : F_10771 (ma 5) = .inl (G.2 0, 60, .inl tf) := (o_10773 (ma 5) (ne_ao f_10797 f_10770)).trans f_10797
      have f_10799 : F_10781 (ma 5) = .inl (G.2 0, 60, .inl tf) := (f_10787 (ma 5) (ne_aa (by decide) f_10798 f_10780)).trans f_10798
      have f_10800 : F_10765 (ma 6) = .inl (G.2 0, 52, .inl pf) := (o_10769 (ma 6) ).trans fq
      have f_10801 : F_10771 (ma 6) = .inl (G.2 0, 52, .inl pf) := (o_10773 (ma 6) (ne_ao f_10800 f_10770)).trans f_10800
      have f_10802 : F_10781 (ma 6) = .inl (G.2 0, 52, .inl pf) := (f_10787 (ma 6) (ne_aa (by decide) f_10801 f_10780)).trans f_10801
      exact r_i C0 hr hlk hw (v := (nI (cntA A 2))) rfl ⟨rfl, ⟨_, _, _, _, _, _, _, _, _, f_10788, ⟨hm0, hm1, rfl⟩, ⟨f_10789, hz⟩, ⟨f_10792, hhf⟩, ⟨f_10795, hsf⟩, ⟨f_10796, hkf⟩, f_10786, ⟨f_10799, htf⟩, f_10802⟩, (fun q k0 k1 => ((f_10787 q (k1 4 (by decide))).trans ((o_10773 q k0).trans (o_10769 q ))))⟩ (Nat.le_refl _) (Nat.le_refl _) dX6_count_35 hQ
    · skip
      exact absurd c_23 (by omega)
set_option maxHeartbeats 4000000 in
set_option maxRecDepth 100000 in
theorem k_X6_count_3 (l : Launch) (G : Gl) (L : List Nat) (F : Nat → va_E) (b : Nat) (ma : Nat → Nat) (A : AB) (th : Nat) (mb : b ∈ L) (hma : ∀ i, i < 7 → ma i ∈ L) (hM : MW G F b ma A th) (hA : okA A) (h9 : inR (nI 3) 0 8) : CI l yX6_count cX6_count 2 (some .int) rm_X6_count G L F [.ref b, .int (nI (3))] (fun r F1 => r = nI (cntA A 3) ∧ MW G F1 b ma A 0 ∧ mFr F F1 b ma) := by
  obtain ⟨mi, hh, zf, hf, sf, kf, tf, pf, pl, fb, ⟨hm0, hm1, hm2⟩, ⟨fz, hz⟩, ⟨fh, hhf⟩, ⟨fs, hsf⟩, ⟨fk, hkf⟩, fp, ⟨ft, htf⟩, fq⟩ := hM
  obtain ⟨hz0, hz1, hz2, hz3, hz4⟩ := ne_z zf hz
  have hc : A.1.1 ≤ 6 := hA.1.2.1
  have hc2 : 2 ≤ A.1.1 := hA.1.1
  have hpu : A.1.2.1 ≤ 100000 := hA.1.2.2.1
  have hrw : ∀ i k, i < 12 → k < 7 → zf (5 + 7 * i + k) = nI (A.1.2.2.2.2.2 i k).val := hz.row
  refine CG_of (by decide) (Nat.le_of_ble_eq_true rfl) rfl ?_
  intro p e s m args below meth c Q C0 hr hlk hnm hQ hw ls hl
  have hx := C0.x
  have hb := C0.b
  refine lv_aload_n hx hb dX6_count_0 rfl (lv_at hl 0 rfl) ?_
  refine lv_iload_n hx hb dX6_count_1 rfl (lv_at hl 1 rfl) ?_
  refine lv_iconst (v := nI 0) hx hb dX6_count_2 (by decide) ?_
  refine lv_bipush (v := nI 8) hx hb dX6_count_3 (by decide) ?_
  refine q_calli hw (q_runS (As := [.int (nI (3)), .int (nI (0)), .int (nI (8))]) (c_X6_within l G L F (nI 3) 0 8) C0 hw sw_X6_38 rfl hl.1 rfl (Nat.le_of_ble_eq_true rfl) dX6_count_5 ⟨by decide, by decide⟩ ⟨by decide, by decide⟩) rfl rfl (fun r_10805 F_10803 H locs hw hp_10804 => ?_)
  obtain ⟨he_10806, o_10807⟩ := hp_10804
  rw [if_pos h9] at he_10806
  subst he_10806
  refine n_if_eq (tgt := 15) hx hb dX6_count_8 (by decide) (by decide) (fun c_8 => ?_) (fun c_8 => ?_)
  · skip
    exact absurd c_8 (by omega)
  · skip
    refine lv_iconst (v := nI 0) hx hb dX6_count_11 (by decide) ?_
    refine lv_goto (tgt := 16) hx hb dX6_count_12 (by decide) ?_
    have f_10808 : F_10803 b = mO ma mi hh := (o_10807 b ).trans fb
    refine q_put C0 hw mb f_10808 fw_X6_31 pw_X6_8 rfl rfl rfl (Nat.le_of_ble_eq_true rfl) dX6_count_16 (fun F_10809 H locs hw f_10810 o_10811 => ?_)
    have f_10810 : F_10809 b = .inr (6, [.ref (ma 0), .int (mi 0), .ref (ma 1), .ref (ma 2), .ref (ma 3), .ref (ma 4), .int (mi 1), .ref (ma 5), .int (nI (0)), .ref (ma 6), .int (mi 3), .int (mi 4), .long (hh)]) := f_10810
    refine lv_aload_n hx hb dX6_count_19 rfl (lv_at hl 0 rfl) ?_
    refine q_get C0 hw mb f_10810 fw_X6_31 rfl dX6_count_20 ?_
    refine n_if_le (tgt := 30) hx hb dX6_count_23 (by decide) (by decide) (fun c_23 => ?_) (fun c_23 => ?_)
    · skip
      have hb_10812 : F_10809 b = mO ma (va_up mi 2 (nI 0)) hh := f_10810
      refine lv_aload_n hx hb dX6_count_30 rfl (lv_at hl 0 rfl) ?_
      refine lv_iload_n hx hb dX6_count_31 rfl (lv_at hl 1 rfl) ?_
      have f_10813 : F_10803 (ma 0) = .inl (G.2 0, 89, .inl zf) := (o_10807 (ma 0) ).trans fz
      have f_10814 : F_10809 (ma 0) = .inl (G.2 0, 89, .inl zf) := (o_10811 (ma 0) (ne_ao f_10813 f_10808)).trans f_10813
      have f_10815 : F_10803 (ma 3) = .inl (G.2 0, 2, .inl kf) := (o_10807 (ma 3) ).trans fk
      have f_10816 : F_10809 (ma 3) = .inl (G.2 0, 2, .inl kf) := (o_10811 (ma 3) (ne_ao f_10815 f_10808)).trans f_10815
      have f_10817 : F_10803 (ma 4) = pcE G pl := (o_10807 (ma 4) ).trans fp
      have f_10818 : F_10809 (ma 4) = pcE G pl := (o_10811 (ma 4) (ne_ao f_10817 f_10808)).trans f_10817
      refine q_calli hw (q_runV (As := [.int (nI (3))]) (c_X6_counted_3 l G L F_10809 b ma ((va_up mi 2 (nI 0))) hh zf kf pl A  mb hb_10812 hma hm0 f_10814 hz f_10816 hkf f_10818 hA ) C0 hw vw_X6_227 mb hb_10812 rfl rfl rfl hl.1 rfl (Nat.le_of_ble_eq_true rfl) dX6_count_32 ⟨by decide, by decide⟩ ⟨by decide, by decide⟩) rfl rfl (fun r_10821 F_10819 H locs hw hp_10820 => ?_)
      obtain ⟨f_10823, ⟨P_10822, f_10824⟩, f_10825⟩ := hp_10820
      subst f_10823
      have f_10826 : F_10819 b = mO ma ((va_up mi 2 (nI 0))) hh := (f_10825 b (ne_oa hb_10812 f_10818)).trans hb_10812
      have f_10827 : F_10819 (ma 0) = .inl (G.2 0, 89, .inl zf) := (f_10825 (ma 0) (ne_aa (by decide) f_10814 f_10818)).trans f_10814
      have f_10828 : F_10803 (ma 1) = .inl (G.2 0, 534, .inl hf) := (o_10807 (ma 1) ).trans fh
      have f_10829 : F_10809 (ma 1) = .inl (G.2 0, 534, .inl hf) := (o_10811 (ma 1) (ne_ao f_10828 f_10808)).trans f_10828
      have f_10830 : F_10819 (ma 1) = .inl (G.2 0, 534, .inl hf) := (f_10825 (ma 1) (ne_aa (by decide) f_10829 f_10818)).trans f_10829
      have f_10831 : F_10803 (ma 2) = .inl (G.2 0, 178, .inl sf) := (o_10807 (ma 2) ).trans fs
      have f_10832 : F_10809 (ma 2) = .inl (G.2 0, 178, .inl sf) := (o_10811 (ma 2) (ne_ao f_10831 f_10808)).trans f_10831
      have f_10833 : F_10819 (ma 2) = .inl (G.2 0, 178, .inl sf) := (f_10825 (ma 2) (ne_aa (by decide) f_10832 f_10818)).trans f_10832
      have f_10834 : F_10819 (ma 3) = .inl (G.2 0, 2, .inl kf) := (f_10825 (ma 3) (ne_aa (by decide) f_10816 f_10818)).trans f_10816
      have f_10835 : F_10803 (ma 5) = .inl (G.2 0, 60, .inl tf) := (o_10807 (ma 5) ).trans ft
      have f_10836 : F_10809 (ma 5) = .inl (G.2 0, 60, .inl tf) := (o_10811 (ma 5) (ne_ao f_10835 f_10808)).trans f_10835
      have f_10837 : F_10819 (ma 5) = .inl (G.2 0, 60, .inl tf) := (f_10825 (ma 5) (ne_aa (by decide) f_10836 f_10818)).trans f_10836
      have f_10838 : F_10803 (ma 6) = .inl (G.2 0, 52, .inl pf) := (o_10807 (ma 6) ).trans fq
      have f_10839 : F_10809 (ma 6) = .inl (G.2 0, 52, .inl pf) := (o_10811 (ma 6) (ne_ao f_10838 f_10808)).trans f_10838
      have f_10840 : F_10819 (ma 6) = .inl (G.2 0, 52, .inl pf) := (f_10825 (ma 6) (ne_aa (by decide) f_10839 f_10818)).trans f_10839
      exact r_i C0 hr hlk hw (v := (nI (cntA A 3))) rfl ⟨rfl, ⟨_, _, _, _, _, _, _, _, _, f_10826, ⟨hm0, hm1, rfl⟩, ⟨f_10827, hz⟩, ⟨f_10830, hhf⟩, ⟨f_10833, hsf⟩, ⟨f_10834, hkf⟩, f_10824, ⟨f_10837, htf⟩, f_10840⟩, (fun q k0 k1 => ((f_10825 q (k1 4 (by decide))).trans ((o_10811 q k0).trans (o_10807 q ))))⟩ (Nat.le_refl _) (Nat.le_refl _) dX6_count_35 hQ
    · skip
      exact absurd c_23 (by omega)
set_option maxHeartbeats 4000000 in
set_option maxRecDepth 100000 in
theorem k_X6_count_4 (l : Launch) (G : Gl) (L : List Nat) (F : Nat → va_E) (b : Nat) (ma : Nat → Nat) (A : AB) (th : Nat) (mb : b ∈ L) (hma : ∀ i, i < 7 → ma i ∈ L) (hM : MW G F b ma A th) (hA : okA A) (h9 : inR (nI 4) 0 8) : CI l yX6_count cX6_count 2 (some .int) rm_X6_count G L F [.ref b, .int (nI (4))] (fun r F1 => r = nI (cntA A 4) ∧ MW G F1 b ma A 0 ∧ mFr F F1 b ma) := by
  obtain ⟨mi, hh, zf, hf, sf, kf, tf, pf, pl, fb, ⟨hm0, hm1, hm2⟩, ⟨fz, hz⟩, ⟨fh, hhf⟩, ⟨fs, hsf⟩, ⟨fk, hkf⟩, fp, ⟨ft, htf⟩, fq⟩ := hM
  obtain ⟨hz0, hz1, hz2, hz3, hz4⟩ := ne_z zf hz
  have hc : A.1.1 ≤ 6 := hA.1.2.1
  have hc2 : 2 ≤ A.1.1 := hA.1.1
  have hpu : A.1.2.1 ≤ 100000 := hA.1.2.2.1
  have hrw : ∀ i k, i < 12 → k < 7 → zf (5 + 7 * i + k) = nI (A.1.2.2.2.2.2 i k).val := hz.row
  refine CG_of (by decide) (Nat.le_of_ble_eq_true rfl) rfl ?_
  intro p e s m args below meth c Q C0 hr hlk hnm hQ hw ls hl
  have hx := C0.x
  have hb := C0.b
  refine lv_aload_n hx hb dX6_count_0 rfl (lv_at hl 0 rfl) ?_
  refine lv_iload_n hx hb dX6_count_1 rfl (lv_at hl 1 rfl) ?_
  refine lv_iconst (v := nI 0) hx hb dX6_count_2 (by decide) ?_
  refine lv_bipush (v := nI 8) hx hb dX6_count_3 (by decide) ?_
  refine q_calli hw (q_runS (As := [.int (nI (4)), .int (nI (0)), .int (nI (8))]) (c_X6_within l G L F (nI 4) 0 8) C0 hw sw_X6_38 rfl hl.1 rfl (Nat.le_of_ble_eq_true rfl) dX6_count_5 ⟨by decide, by decide⟩ ⟨by decide, by decide⟩) rfl rfl (fun r_10843 F_10841 H locs hw hp_10842 => ?_)
  obtain ⟨he_10844, o_10845⟩ := hp_10842
  rw [if_pos h9] at he_10844
  subst he_10844
  refine n_if_eq (tgt := 15) hx hb dX6_count_8 (by decide) (by decide) (fun c_8 => ?_) (fun c_8 => ?_)
  · skip
    exact absurd c_8 (by omega)
  · skip
    refine lv_iconst (v := nI 0) hx hb dX6_count_11 (by decide) ?_
    refine lv_goto (tgt := 16) hx hb dX6_count_12 (by decide) ?_
    have f_10846 : F_10841 b = mO ma mi hh := (o_10845 b ).trans fb
    refine q_put C0 hw mb f_10846 fw_X6_31 pw_X6_8 rfl rfl rfl (Nat.le_of_ble_eq_true rfl) dX6_count_16 (fun F_10847 H locs hw f_10848 o_10849 => ?_)
    have f_10848 : F_10847 b = .inr (6, [.ref (ma 0), .int (mi 0), .ref (ma 1), .ref (ma 2), .ref (ma 3), .ref (ma 4), .int (mi 1), .ref (ma 5), .int (nI (0)), .ref (ma 6), .int (mi 3), .int (mi 4), .long (hh)]) := f_10848
    refine lv_aload_n hx hb dX6_count_19 rfl (lv_at hl 0 rfl) ?_
    refine q_get C0 hw mb f_10848 fw_X6_31 rfl dX6_count_20 ?_
    refine n_if_le (tgt := 30) hx hb dX6_count_23 (by decide) (by decide) (fun c_23 => ?_) (fun c_23 => ?_)
    · skip
      have hb_10850 : F_10847 b = mO ma (va_up mi 2 (nI 0)) hh := f_10848
      refine lv_aload_n hx hb dX6_count_30 rfl (lv_at hl 0 rfl) ?_
      refine lv_iload_n hx hb dX6_count_31 rfl (lv_at hl 1 rfl) ?_
      have f_10851 : F_10841 (ma 0) = .inl (G.2 0, 89, .inl zf) := (o_10845 (ma 0) ).trans fz
      have f_10852 : F_10847 (ma 0) = .inl (G.2 0, 89, .inl zf) := (o_10849 (ma 0) (ne_ao f_10851 f_10846)).trans f_10851
      have f_10853 : F_10841 (ma 3) = .inl (G.2 0, 2, .inl kf) := (o_10845 (ma 3) ).trans fk
      have f_10854 : F_10847 (ma 3) = .inl (G.2 0, 2, .inl kf) := (o_10849 (ma 3) (ne_ao f_10853 f_10846)).trans f_10853
      have f_10855 : F_10841 (ma 4) = pcE G pl := (o_10845 (ma 4) ).trans fp
      have f_10856 : F_10847 (ma 4) = pcE G pl := (o_10849 (ma 4) (ne_ao f_10855 f_10846)).trans f_10855
      refine q_calli hw (q_runV (As := [.int (nI (4))]) (c_X6_counted_4 l G L F_10847 b ma ((va_up mi 2 (nI 0))) hh zf kf pl A  mb hb_10850 hma hm0 f_10852 hz f_10854 hkf f_10856 hA ) C0 hw vw_X6_227 mb hb_10850 rfl rfl rfl hl.1 rfl (Nat.le_of_ble_eq_true rfl) dX6_count_32 ⟨by decide, by decide⟩ ⟨by decide, by decide⟩) rfl rfl (fun r_10859 F_10857 H locs hw hp_10858 => ?_)
      obtain ⟨f_10861, ⟨P_10860, f_10862⟩, f_10863⟩ := hp_10858
      subst f_10861
      have f_10864 : F_10857 b = mO ma ((va_up mi 2 (nI 0))) hh := (f_10863 b (ne_oa hb_10850 f_10856)).trans hb_10850
      have f_10865 : F_10857 (ma 0) = .inl (G.2 0, 89, .inl zf) := (f_10863 (ma 0) (ne_aa (by decide) f_10852 f_10856)).trans f_10852
      have f_10866 : F_10841 (ma 1) = .inl (G.2 0, 534, .inl hf) := (o_10845 (ma 1) ).trans fh
      have f_10867 : F_10847 (ma 1) = .inl (G.2 0, 534, .inl hf) := (o_10849 (ma 1) (ne_ao f_10866 f_10846)).trans f_10866
      have f_10868 : F_10857 (ma 1) = .inl (G.2 0, 534, .inl hf) := (f_10863 (ma 1) (ne_aa (by decide) f_10867 f_10856)).trans f_10867
      have f_10869 : F_10841 (ma 2) = .inl (G.2 0, 178, .inl sf) := (o_10845 (ma 2) ).trans fs
      have f_10870 : F_10847 (ma 2) = .inl (G.2 0, 178, .inl sf) := (o_10849 (ma 2) (ne_ao f_10869 f_10846)).trans f_10869
      have f_10871 : F_10857 (ma 2) = .inl (G.2 0, 178, .inl sf) := (f_10863 (ma 2) (ne_aa (by decide) f_10870 f_10856)).trans f_10870
      have f_10872 : F_10857 (ma 3) = .inl (G.2 0, 2, .inl kf) := (f_10863 (ma 3) (ne_aa (by decide) f_10854 f_10856)).trans f_10854
      have f_10873 : F_10841 (ma 5) = .inl (G.2 0, 60, .inl tf) := (o_10845 (ma 5) ).trans ft
      have f_10874 : F_10847 (ma 5) = .inl (G.2 0, 60, .inl tf) := (o_10849 (ma 5) (ne_ao f_10873 f_10846)).trans f_10873
      have f_10875 : F_10857 (ma 5) = .inl (G.2 0, 60, .inl tf) := (f_10863 (ma 5) (ne_aa (by decide) f_10874 f_10856)).trans f_10874
      have f_10876 : F_10841 (ma 6) = .inl (G.2 0, 52, .inl pf) := (o_10845 (ma 6) ).trans fq
      have f_10877 : F_10847 (ma 6) = .inl (G.2 0, 52, .inl pf) := (o_10849 (ma 6) (ne_ao f_10876 f_10846)).trans f_10876
      have f_10878 : F_10857 (ma 6) = .inl (G.2 0, 52, .inl pf) := (f_10863 (ma 6) (ne_aa (by decide) f_10877 f_10856)).trans f_10877
      exact r_i C0 hr hlk hw (v := (nI (cntA A 4))) rfl ⟨rfl, ⟨_, _, _, _, _, _, _, _, _, f_10864, ⟨hm0, hm1, rfl⟩, ⟨f_10865, hz⟩, ⟨f_10868, hhf⟩, ⟨f_10871, hsf⟩, ⟨f_10872, hkf⟩, f_10862, ⟨f_10875, htf⟩, f_10878⟩, (fun q k0 k1 => ((f_10863 q (k1 4 (by decide))).trans ((o_10849 q k0).trans (o_10845 q ))))⟩ (Nat.le_refl _) (Nat.le_refl _) dX6_count_35 hQ
    · skip
      exact absurd c_23 (by omega)
set_option maxHeartbeats 4000000 in
set_option maxRecDepth 100000 in
theorem k_X6_count_5 (l : Launch) (G : Gl) (L : List Nat) (F : Nat → va_E) (b : Nat) (ma : Nat → Nat) (A : AB) (th : Nat) (mb : b ∈ L) (hma : ∀ i, i < 7 → ma i ∈ L) (hM : MW G F b ma A th) (hA : okA A) (h9 : inR (nI 5) 0 8) : CI l yX6_count cX6_count 2 (some .int) rm_X6_count G L F [.ref b, .int (nI (5))] (fun r F1 => r = nI (cntA A 5) ∧ MW G F1 b ma A 0 ∧ mFr F F1 b ma) := by
  obtain ⟨mi, hh, zf, hf, sf, kf, tf, pf, pl, fb, ⟨hm0, hm1, hm2⟩, ⟨fz, hz⟩, ⟨fh, hhf⟩, ⟨fs, hsf⟩, ⟨fk, hkf⟩, fp, ⟨ft, htf⟩, fq⟩ := hM
  obtain ⟨hz0, hz1, hz2, hz3, hz4⟩ := ne_z zf hz
  have hc : A.1.1 ≤ 6 := hA.1.2.1
  have hc2 : 2 ≤ A.1.1 := hA.1.1
  have hpu : A.1.2.1 ≤ 100000 := hA.1.2.2.1
  have hrw : ∀ i k, i < 12 → k < 7 → zf (5 + 7 * i + k) = nI (A.1.2.2.2.2.2 i k).val := hz.row
  refine CG_of (by decide) (Nat.le_of_ble_eq_true rfl) rfl ?_
  intro p e s m args below meth c Q C0 hr hlk hnm hQ hw ls hl
  have hx := C0.x
  have hb := C0.b
  refine lv_aload_n hx hb dX6_count_0 rfl (lv_at hl 0 rfl) ?_
  refine lv_iload_n hx hb dX6_count_1 rfl (lv_at hl 1 rfl) ?_
  refine lv_iconst (v := nI 0) hx hb dX6_count_2 (by decide) ?_
  refine lv_bipush (v := nI 8) hx hb dX6_count_3 (by decide) ?_
  refine q_calli hw (q_runS (As := [.int (nI (5)), .int (nI (0)), .int (nI (8))]) (c_X6_within l G L F (nI 5) 0 8) C0 hw sw_X6_38 rfl hl.1 rfl (Nat.le_of_ble_eq_true rfl) dX6_count_5 ⟨by decide, by decide⟩ ⟨by decide, by decide⟩) rfl rfl (fun r_10881 F_10879 H locs hw hp_10880 => ?_)
  obtain ⟨he_10882, o_10883⟩ := hp_10880
  rw [if_pos h9] at he_10882
  subst he_10882
  refine n_if_eq (tgt := 15) hx hb dX6_count_8 (by decide) (by decide) (fun c_8 => ?_) (fun c_8 => ?_)
  · skip
    exact absurd c_8 (by omega)
  · skip
    refine lv_iconst (v := nI 0) hx hb dX6_count_11 (by decide) ?_
    refine lv_goto (tgt := 16) hx hb dX6_count_12 (by decide) ?_
    have f_10884 : F_10879 b = mO ma mi hh := (o_10883 b ).trans fb
    refine q_put C0 hw mb f_10884 fw_X6_31 pw_X6_8 rfl rfl rfl (Nat.le_of_ble_eq_true rfl) dX6_count_16 (fun F_10885 H locs hw f_10886 o_10887 => ?_)
    have f_10886 : F_10885 b = .inr (6, [.ref (ma 0), .int (mi 0), .ref (ma 1), .ref (ma 2), .ref (ma 3), .ref (ma 4), .int (mi 1), .ref (ma 5), .int (nI (0)), .ref (ma 6), .int (mi 3), .int (mi 4), .long (hh)]) := f_10886
    refine lv_aload_n hx hb dX6_count_19 rfl (lv_at hl 0 rfl) ?_
    refine q_get C0 hw mb f_10886 fw_X6_31 rfl dX6_count_20 ?_
    refine n_if_le (tgt := 30) hx hb dX6_count_23 (by decide) (by decide) (fun c_23 => ?_) (fun c_23 => ?_)
    · skip
      have hb_10888 : F_10885 b = mO ma (va_up mi 2 (nI 0)) hh := f_10886
      refine lv_aload_n hx hb dX6_count_30 rfl (lv_at hl 0 rfl) ?_
      refine lv_iload_n hx hb dX6_count_31 rfl (lv_at hl 1 rfl) ?_
      have f_10889 : F_10879 (ma 0) = .inl (G.2 0, 89, .inl zf) := (o_10883 (ma 0) ).trans fz
      have f_10890 : F_10885 (ma 0) = .inl (G.2 0, 89, .inl zf) := (o_10887 (ma 0) (ne_ao f_10889 f_10884)).trans f_10889
      have f_10891 : F_10879 (ma 3) = .inl (G.2 0, 2, .inl kf) := (o_10883 (ma 3) ).trans fk
      have f_10892 : F_10885 (ma 3) = .inl (G.2 0, 2, .inl kf) := (o_10887 (ma 3) (ne_ao f_10891 f_10884)).trans f_10891
      have f_10893 : F_10879 (ma 4) = pcE G pl := (o_10883 (ma 4) ).trans fp
      have f_10894 : F_10885 (ma 4) = pcE G pl := (o_10887 (ma 4) (ne_ao f_10893 f_10884)).trans f_10893
      refine q_calli hw (q_runV (As := [.int (nI (5))]) (c_X6_counted_5 l G L F_10885 b ma ((va_up mi 2 (nI 0))) hh zf kf pl A  mb hb_10888 hma hm0 f_10890 hz f_10892 hkf f_10894 hA ) C0 hw vw_X6_227 mb hb_10888 rfl rfl rfl hl.1 rfl (Nat.le_of_ble_eq_true rfl) dX6_count_32 ⟨by decide, by decide⟩ ⟨by decide, by decide⟩) rfl rfl (fun r_10897 F_10895 H locs hw hp_10896 => ?_)
      obtain ⟨f_10899, ⟨P_10898, f_10900⟩, f_10901⟩ := hp_10896
      subst f_10899
      have f_10902 : F_10895 b = mO ma ((va_up mi 2 (nI 0))) hh := (f_10901 b (ne_oa hb_10888 f_10894)).trans hb_10888
      have f_10903 : F_10895 (ma 0) = .inl (G.2 0, 89, .inl zf) := (f_10901 (ma 0) (ne_aa (by decide) f_10890 f_10894)).trans f_10890
      have f_10904 : F_10879 (ma 1) = .inl (G.2 0, 534, .inl hf) := (o_10883 (ma 1) ).trans fh
      have f_10905 : F_10885 (ma 1) = .inl (G.2 0, 534, .inl hf) := (o_10887 (ma 1) (ne_ao f_10904 f_10884)).trans f_10904
      have f_10906 : F_10895 (ma 1) = .inl (G.2 0, 534, .inl hf) := (f_10901 (ma 1) (ne_aa (by decide) f_10905 f_10894)).trans f_10905
      have f_10907 : F_10879 (ma 2) = .inl (G.2 0, 178, .inl sf) := (o_10883 (ma 2) ).trans fs
      have f_10908 : F_10885 (ma 2) = .inl (G.2 0, 178, .inl sf) := (o_10887 (ma 2) (ne_ao f_10907 f_10884)).trans f_10907
      have f_10909 : F_10895 (ma 2) = .inl (G.2 0, 178, .inl sf) := (f_10901 (ma 2) (ne_aa (by decide) f_10908 f_10894)).trans f_10908
      have f_10910 : F_10895 (ma 3) = .inl (G.2 0, 2, .inl kf) := (f_10901 (ma 3) (ne_aa (by decide) f_10892 f_10894)).trans f_10892
      have f_10911 : F_10879 (ma 5) = .inl (G.2 0, 60, .inl tf) := (o_10883 (ma 5) ).trans ft
      have f_10912 : F_10885 (ma 5) = .inl (G.2 0, 60, .inl tf) := (o_10887 (ma 5) (ne_ao f_10911 f_10884)).trans f_10911
      have f_10913 : F_10895 (ma 5) = .inl (G.2 0, 60, .inl tf) := (f_10901 (ma 5) (ne_aa (by decide) f_10912 f_10894)).trans f_10912
      have f_10914 : F_10879 (ma 6) = .inl (G.2 0, 52, .inl pf) := (o_10883 (ma 6) ).trans fq
      have f_10915 : F_10885 (ma 6) = .inl (G.2 0, 52, .inl pf) := (o_10887 (ma 6) (ne_ao f_10914 f_10884)).trans f_10914
      have f_10916 : F_10895 (ma 6) = .inl (G.2 0, 52, .inl pf) := (f_10901 (ma 6) (ne_aa (by decide) f_10915 f_10894)).trans f_10915
      exact r_i C0 hr hlk hw (v := (nI (cntA A 5))) rfl ⟨rfl, ⟨_, _, _, _, _, _, _, _, _, f_10902, ⟨hm0, hm1, rfl⟩, ⟨f_10903, hz⟩, ⟨f_10906, hhf⟩, ⟨f_10909, hsf⟩, ⟨f_10910, hkf⟩, f_10900, ⟨f_10913, htf⟩, f_10916⟩, (fun q k0 k1 => ((f_10901 q (k1 4 (by decide))).trans ((o_10887 q k0).trans (o_10883 q ))))⟩ (Nat.le_refl _) (Nat.le_refl _) dX6_count_35 hQ
    · skip
      exact absurd c_23 (by omega)
set_option maxHeartbeats 4000000 in
set_option maxRecDepth 100000 in
theorem k_X6_count_6 (l : Launch) (G : Gl) (L : List Nat) (F : Nat → va_E) (b : Nat) (ma : Nat → Nat) (A : AB) (th : Nat) (mb : b ∈ L) (hma : ∀ i, i < 7 → ma i ∈ L) (hM : MW G F b ma A th) (hA : okA A) (h9 : inR (nI 6) 0 8) : CI l yX6_count cX6_count 2 (some .int) rm_X6_count G L F [.ref b, .int (nI (6))] (fun r F1 => r = nI (cntA A 6) ∧ MW G F1 b ma A 0 ∧ mFr F F1 b ma) := by
  obtain ⟨mi, hh, zf, hf, sf, kf, tf, pf, pl, fb, ⟨hm0, hm1, hm2⟩, ⟨fz, hz⟩, ⟨fh, hhf⟩, ⟨fs, hsf⟩, ⟨fk, hkf⟩, fp, ⟨ft, htf⟩, fq⟩ := hM
  obtain ⟨hz0, hz1, hz2, hz3, hz4⟩ := ne_z zf hz
  have hc : A.1.1 ≤ 6 := hA.1.2.1
  have hc2 : 2 ≤ A.1.1 := hA.1.1
  have hpu : A.1.2.1 ≤ 100000 := hA.1.2.2.1
  have hrw : ∀ i k, i < 12 → k < 7 → zf (5 + 7 * i + k) = nI (A.1.2.2.2.2.2 i k).val := hz.row
  refine CG_of (by decide) (Nat.le_of_ble_eq_true rfl) rfl ?_
  intro p e s m args below meth c Q C0 hr hlk hnm hQ hw ls hl
  have hx := C0.x
  have hb := C0.b
  refine lv_aload_n hx hb dX6_count_0 rfl (lv_at hl 0 rfl) ?_
  refine lv_iload_n hx hb dX6_count_1 rfl (lv_at hl 1 rfl) ?_
  refine lv_iconst (v := nI 0) hx hb dX6_count_2 (by decide) ?_
  refine lv_bipush (v := nI 8) hx hb dX6_count_3 (by decide) ?_
  refine q_calli hw (q_runS (As := [.int (nI (6)), .int (nI (0)), .int (nI (8))]) (c_X6_within l G L F (nI 6) 0 8) C0 hw sw_X6_38 rfl hl.1 rfl (Nat.le_of_ble_eq_true rfl) dX6_count_5 ⟨by decide, by decide⟩ ⟨by decide, by decide⟩) rfl rfl (fun r_10919 F_10917 H locs hw hp_10918 => ?_)
  obtain ⟨he_10920, o_10921⟩ := hp_10918
  rw [if_pos h9] at he_10920
  subst he_10920
  refine n_if_eq (tgt := 15) hx hb dX6_count_8 (by decide) (by decide) (fun c_8 => ?_) (fun c_8 => ?_)
  · skip
    exact absurd c_8 (by omega)
  · skip
    refine lv_iconst (v := nI 0) hx hb dX6_count_11 (by decide) ?_
    refine lv_goto (tgt := 16) hx hb dX6_count_12 (by decide) ?_
    have f_10922 : F_10917 b = mO ma mi hh := (o_10921 b ).trans fb
    refine q_put C0 hw mb f_10922 fw_X6_31 pw_X6_8 rfl rfl rfl (Nat.le_of_ble_eq_true rfl) dX6_count_16 (fun F_10923 H locs hw f_10924 o_10925 => ?_)
    have f_10924 : F_10923 b = .inr (6, [.ref (ma 0), .int (mi 0), .ref (ma 1), .ref (ma 2), .ref (ma 3), .ref (ma 4), .int (mi 1), .ref (ma 5), .int (nI (0)), .ref (ma 6), .int (mi 3), .int (mi 4), .long (hh)]) := f_10924
    refine lv_aload_n hx hb dX6_count_19 rfl (lv_at hl 0 rfl) ?_
    refine q_get C0 hw mb f_10924 fw_X6_31 rfl dX6_count_20 ?_
    refine n_if_le (tgt := 30) hx hb dX6_count_23 (by decide) (by decide) (fun c_23 => ?_) (fun c_23 => ?_)
    · skip
      have hb_10926 : F_10923 b = mO ma (va_up mi 2 (nI 0)) hh := f_10924
      refine lv_aload_n hx hb dX6_count_30 rfl (lv_at hl 0 rfl) ?_
      refine lv_iload_n hx hb dX6_count_31 rfl (lv_at hl 1 rfl) ?_
      have f_10927 : F_10917 (ma 0) = .inl (G.2 0, 89, .inl zf) := (o_10921 (ma 0) ).trans fz
      have f_10928 : F_10923 (ma 0) = .inl (G.2 0, 89, .inl zf) := (o_10925 (ma 0) (ne_ao f_10927 f_10922)).trans f_10927
      have f_10929 : F_10917 (ma 3) = .inl (G.2 0, 2, .inl kf) := (o_10921 (ma 3) ).trans fk
      have f_10930 : F_10923 (ma 3) = .inl (G.2 0, 2, .inl kf) := (o_10925 (ma 3) (ne_ao f_10929 f_10922)).trans f_10929
      have f_10931 : F_10917 (ma 4) = pcE G pl := (o_10921 (ma 4) ).trans fp
      have f_10932 : F_10923 (ma 4) = pcE G pl := (o_10925 (ma 4) (ne_ao f_10931 f_10922)).trans f_10931
      refine q_calli hw (q_runV (As := [.int (nI (6))]) (c_X6_counted_6 l G L F_10923 b ma ((va_up mi 2 (nI 0))) hh zf kf pl A  mb hb_10926 hma hm0 f_10928 hz f_10930 hkf f_10932 hA ) C0 hw vw_X6_227 mb hb_10926 rfl rfl rfl hl.1 rfl (Nat.le_of_ble_eq_true rfl) dX6_count_32 ⟨by decide, by decide⟩ ⟨by decide, by decide⟩) rfl rfl (fun r_10935 F_10933 H locs hw hp_10934 => ?_)
      obtain ⟨f_10937, ⟨P_10936, f_10938⟩, f_10939⟩ := hp_10934
      subst f_10937
      have f_10940 : F_10933 b = mO ma ((va_up mi 2 (nI 0))) hh := (f_10939 b (ne_oa hb_10926 f_10932)).trans hb_10926
      have f_10941 : F_10933 (ma 0) = .inl (G.2 0, 89, .inl zf) := (f_10939 (ma 0) (ne_aa (by decide) f_10928 f_10932)).trans f_10928
      have f_10942 : F_10917 (ma 1) = .inl (G.2 0, 534, .inl hf) := (o_10921 (ma 1) ).trans fh
      have f_10943 : F_10923 (ma 1) = .inl (G.2 0, 534, .inl hf) := (o_10925 (ma 1) (ne_ao f_10942 f_10922)).trans f_10942
      have f_10944 : F_10933 (ma 1) = .inl (G.2 0, 534, .inl hf) := (f_10939 (ma 1) (ne_aa (by decide) f_10943 f_10932)).trans f_10943
      have f_10945 : F_10917 (ma 2) = .inl (G.2 0, 178, .inl sf) := (o_10921 (ma 2) ).trans fs
      have f_10946 : F_10923 (ma 2) = .inl (G.2 0, 178, .inl sf) := (o_10925 (ma 2) (ne_ao f_10945 f_10922)).trans f_10945
      have f_10947 : F_10933 (ma 2) = .inl (G.2 0, 178, .inl sf) := (f_10939 (ma 2) (ne_aa (by decide) f_10946 f_10932)).trans f_10946
      have f_10948 : F_10933 (ma 3) = .inl (G.2 0, 2, .inl kf) := (f_10939 (ma 3) (ne_aa (by decide) f_10930 f_10932)).trans f_10930
      have f_10949 : F_10917 (ma 5) = .inl (G.2 0, 60, .inl tf) := (o_10921 (ma 5) ).trans ft
      have f_10950 : F_10923 (ma 5) = .inl (G.2 0, 60, .inl tf) := (o_10925 (ma 5) (ne_ao f_10949 f_10922)).trans f_10949
      have f_10951 : F_10933 (ma 5) = .inl (G.2 0, 60, .inl tf) := (f_10939 (ma 5) (ne_aa (by decide) f_10950 f_10932)).trans f_10950
      have f_10952 : F_10917 (ma 6) = .inl (G.2 0, 52, .inl pf) := (o_10921 (ma 6) ).trans fq
      have f_10953 : F_10923 (ma 6) = .inl (G.2 0, 52, .inl pf) := (o_10925 (ma 6) (ne_ao f_10952 f_10922)).trans f_10952
      have f_10954 : F_10933 (ma 6) = .inl (G.2 0, 52, .inl pf) := (f_10939 (ma 6) (ne_aa (by decide) f_10953 f_10932)).trans f_10953
      exact r_i C0 hr hlk hw (v := (nI (cntA A 6))) rfl ⟨rfl, ⟨_, _, _, _, _, _, _, _, _, f_10940, ⟨hm0, hm1, rfl⟩, ⟨f_10941, hz⟩, ⟨f_10944, hhf⟩, ⟨f_10947, hsf⟩, ⟨f_10948, hkf⟩, f_10938, ⟨f_10951, htf⟩, f_10954⟩, (fun q k0 k1 => ((f_10939 q (k1 4 (by decide))).trans ((o_10925 q k0).trans (o_10921 q ))))⟩ (Nat.le_refl _) (Nat.le_refl _) dX6_count_35 hQ
    · skip
      exact absurd c_23 (by omega)
set_option maxHeartbeats 4000000 in
set_option maxRecDepth 100000 in
theorem k_X6_count_7 (l : Launch) (G : Gl) (L : List Nat) (F : Nat → va_E) (b : Nat) (ma : Nat → Nat) (A : AB) (th : Nat) (mb : b ∈ L) (hma : ∀ i, i < 7 → ma i ∈ L) (hM : MW G F b ma A th) (hA : okA A) (h9 : inR (nI 7) 0 8) : CI l yX6_count cX6_count 2 (some .int) rm_X6_count G L F [.ref b, .int (nI (7))] (fun r F1 => r = nI (cntA A 7) ∧ MW G F1 b ma A 0 ∧ mFr F F1 b ma) := by
  obtain ⟨mi, hh, zf, hf, sf, kf, tf, pf, pl, fb, ⟨hm0, hm1, hm2⟩, ⟨fz, hz⟩, ⟨fh, hhf⟩, ⟨fs, hsf⟩, ⟨fk, hkf⟩, fp, ⟨ft, htf⟩, fq⟩ := hM
  obtain ⟨hz0, hz1, hz2, hz3, hz4⟩ := ne_z zf hz
  have hc : A.1.1 ≤ 6 := hA.1.2.1
  have hc2 : 2 ≤ A.1.1 := hA.1.1
  have hpu : A.1.2.1 ≤ 100000 := hA.1.2.2.1
  have hrw : ∀ i k, i < 12 → k < 7 → zf (5 + 7 * i + k) = nI (A.1.2.2.2.2.2 i k).val := hz.row
  refine CG_of (by decide) (Nat.le_of_ble_eq_true rfl) rfl ?_
  intro p e s m args below meth c Q C0 hr hlk hnm hQ hw ls hl
  have hx := C0.x
  have hb := C0.b
  refine lv_aload_n hx hb dX6_count_0 rfl (lv_at hl 0 rfl) ?_
  refine lv_iload_n hx hb dX6_count_1 rfl (lv_at hl 1 rfl) ?_
  refine lv_iconst (v := nI 0) hx hb dX6_count_2 (by decide) ?_
  refine lv_bipush (v := nI 8) hx hb dX6_count_3 (by decide) ?_
  refine q_calli hw (q_runS (As := [.int (nI (7)), .int (nI (0)), .int (nI (8))]) (c_X6_within l G L F (nI 7) 0 8) C0 hw sw_X6_38 rfl hl.1 rfl (Nat.le_of_ble_eq_true rfl) dX6_count_5 ⟨by decide, by decide⟩ ⟨by decide, by decide⟩) rfl rfl (fun r_10957 F_10955 H locs hw hp_10956 => ?_)
  obtain ⟨he_10958, o_10959⟩ := hp_10956
  rw [if_pos h9] at he_10958
  subst he_10958
  refine n_if_eq (tgt := 15) hx hb dX6_count_8 (by decide) (by decide) (fun c_8 => ?_) (fun c_8 => ?_)
  · skip
    exact absurd c_8 (by omega)
  · skip
    refine lv_iconst (v := nI 0) hx hb dX6_count_11 (by decide) ?_
    refine lv_goto (tgt := 16) hx hb dX6_count_12 (by decide) ?_
    have f_10960 : F_10955 b = mO ma mi hh := (o_10959 b ).trans fb
    refine q_put C0 hw mb f_10960 fw_X6_31 pw_X6_8 rfl rfl rfl (Nat.le_of_ble_eq_true rfl) dX6_count_16 (fun F_10961 H locs hw f_10962 o_10963 => ?_)
    have f_10962 : F_10961 b = .inr (6, [.ref (ma 0), .int (mi 0), .ref (ma 1), .ref (ma 2), .ref (ma 3), .ref (ma 4), .int (mi 1), .ref (ma 5), .int (nI (0)), .ref (ma 6), .int (mi 3), .int (mi 4), .long (hh)]) := f_10962
    refine lv_aload_n hx hb dX6_count_19 rfl (lv_at hl 0 rfl) ?_
    refine q_get C0 hw mb f_10962 fw_X6_31 rfl dX6_count_20 ?_
    refine n_if_le (tgt := 30) hx hb dX6_count_23 (by decide) (by decide) (fun c_23 => ?_) (fun c_23 => ?_)
    · skip
      have hb_10964 : F_10961 b = mO ma (va_up mi 2 (nI 0)) hh := f_10962
      refine lv_aload_n hx hb dX6_count_30 rfl (lv_at hl 0 rfl) ?_
      refine lv_iload_n hx hb dX6_count_31 rfl (lv_at hl 1 rfl) ?_
      have f_10965 : F_10955 (ma 0) = .inl (G.2 0, 89, .inl zf) := (o_10959 (ma 0) ).trans fz
      have f_10966 : F_10961 (ma 0) = .inl (G.2 0, 89, .inl zf) := (o_10963 (ma 0) (ne_ao f_10965 f_10960)).trans f_10965
      have f_10967 : F_10955 (ma 3) = .inl (G.2 0, 2, .inl kf) := (o_10959 (ma 3) ).trans fk
      have f_10968 : F_10961 (ma 3) = .inl (G.2 0, 2, .inl kf) := (o_10963 (ma 3) (ne_ao f_10967 f_10960)).trans f_10967
      have f_10969 : F_10955 (ma 4) = pcE G pl := (o_10959 (ma 4) ).trans fp
      have f_10970 : F_10961 (ma 4) = pcE G pl := (o_10963 (ma 4) (ne_ao f_10969 f_10960)).trans f_10969
      refine q_calli hw (q_runV (As := [.int (nI (7))]) (c_X6_counted_7 l G L F_10961 b ma ((va_up mi 2 (nI 0))) hh zf kf pl A  mb hb_10964 hma hm0 f_10966 hz f_10968 hkf f_10970 hA ) C0 hw vw_X6_227 mb hb_10964 rfl rfl rfl hl.1 rfl (Nat.le_of_ble_eq_true rfl) dX6_count_32 ⟨by decide, by decide⟩ ⟨by decide, by decide⟩) rfl rfl (fun r_10973 F_10971 H locs hw hp_10972 => ?_)
      obtain ⟨f_10975, ⟨P_10974, f_10976⟩, f_10977⟩ := hp_10972
      subst f_10975
      have f_10978 : F_10971 b = mO ma ((va_up mi 2 (nI 0))) hh := (f_10977 b (ne_oa hb_10964 f_10970)).trans hb_10964
      have f_10979 : F_10971 (ma 0) = .inl (G.2 0, 89, .inl zf) := (f_10977 (ma 0) (ne_aa (by decide) f_10966 f_10970)).trans f_10966
      have f_10980 : F_10955 (ma 1) = .inl (G.2 0, 534, .inl hf) := (o_10959 (ma 1) ).trans fh
      have f_10981 : F_10961 (ma 1) = .inl (G.2 0, 534, .inl hf) := (o_10963 (ma 1) (ne_ao f_10980 f_10960)).trans f_10980
      have f_10982 : F_10971 (ma 1) = .inl (G.2 0, 534, .inl hf) := (f_10977 (ma 1) (ne_aa (by decide) f_10981 f_10970)).trans f_10981
      have f_10983 : F_10955 (ma 2) = .inl (G.2 0, 178, .inl sf) := (o_10959 (ma 2) ).trans fs
      have f_10984 : F_10961 (ma 2) = .inl (G.2 0, 178, .inl sf) := (o_10963 (ma 2) (ne_ao f_10983 f_10960)).trans f_10983
      have f_10985 : F_10971 (ma 2) = .inl (G.2 0, 178, .inl sf) := (f_10977 (ma 2) (ne_aa (by decide) f_10984 f_10970)).trans f_10984
      have f_10986 : F_10971 (ma 3) = .inl (G.2 0, 2, .inl kf) := (f_10977 (ma 3) (ne_aa (by decide) f_10968 f_10970)).trans f_10968
      have f_10987 : F_10955 (ma 5) = .inl (G.2 0, 60, .inl tf) := (o_10959 (ma 5) ).trans ft
      have f_10988 : F_10961 (ma 5) = .inl (G.2 0, 60, .inl tf) := (o_10963 (ma 5) (ne_ao f_10987 f_10960)).trans f_10987
      have f_10989 : F_10971 (ma 5) = .inl (G.2 0, 60, .inl tf) := (f_10977 (ma 5) (ne_aa (by decide) f_10988 f_10970)).trans f_10988
      have f_10990 : F_10955 (ma 6) = .inl (G.2 0, 52, .inl pf) := (o_10959 (ma 6) ).trans fq
      have f_10991 : F_10961 (ma 6) = .inl (G.2 0, 52, .inl pf) := (o_10963 (ma 6) (ne_ao f_10990 f_10960)).trans f_10990
      have f_10992 : F_10971 (ma 6) = .inl (G.2 0, 52, .inl pf) := (f_10977 (ma 6) (ne_aa (by decide) f_10991 f_10970)).trans f_10991
      exact r_i C0 hr hlk hw (v := (nI (cntA A 7))) rfl ⟨rfl, ⟨_, _, _, _, _, _, _, _, _, f_10978, ⟨hm0, hm1, rfl⟩, ⟨f_10979, hz⟩, ⟨f_10982, hhf⟩, ⟨f_10985, hsf⟩, ⟨f_10986, hkf⟩, f_10976, ⟨f_10989, htf⟩, f_10992⟩, (fun q k0 k1 => ((f_10977 q (k1 4 (by decide))).trans ((o_10963 q k0).trans (o_10959 q ))))⟩ (Nat.le_refl _) (Nat.le_refl _) dX6_count_35 hQ
    · skip
      exact absurd c_23 (by omega)
set_option maxHeartbeats 4000000 in
set_option maxRecDepth 100000 in
theorem k_X6_count_8 (l : Launch) (G : Gl) (L : List Nat) (F : Nat → va_E) (b : Nat) (ma : Nat → Nat) (A : AB) (th : Nat) (mb : b ∈ L) (hma : ∀ i, i < 7 → ma i ∈ L) (hM : MW G F b ma A th) (hA : okA A) (h9 : inR (nI 8) 0 8) : CI l yX6_count cX6_count 2 (some .int) rm_X6_count G L F [.ref b, .int (nI (8))] (fun r F1 => r = nI (cntA A 8) ∧ MW G F1 b ma A 0 ∧ mFr F F1 b ma) := by
  obtain ⟨mi, hh, zf, hf, sf, kf, tf, pf, pl, fb, ⟨hm0, hm1, hm2⟩, ⟨fz, hz⟩, ⟨fh, hhf⟩, ⟨fs, hsf⟩, ⟨fk, hkf⟩, fp, ⟨ft, htf⟩, fq⟩ := hM
  obtain ⟨hz0, hz1, hz2, hz3, hz4⟩ := ne_z zf hz
  have hc : A.1.1 ≤ 6 := hA.1.2.1
  have hc2 : 2 ≤ A.1.1 := hA.1.1
  have hpu : A.1.2.1 ≤ 100000 := hA.1.2.2.1
  have hrw : ∀ i k, i < 12 → k < 7 → zf (5 + 7 * i + k) = nI (A.1.2.2.2.2.2 i k).val := hz.row
  refine CG_of (by decide) (Nat.le_of_ble_eq_true rfl) rfl ?_
  intro p e s m args below meth c Q C0 hr hlk hnm hQ hw ls hl
  have hx := C0.x
  have hb := C0.b
  refine lv_aload_n hx hb dX6_count_0 rfl (lv_at hl 0 rfl) ?_
  refine lv_iload_n hx hb dX6_count_1 rfl (lv_at hl 1 rfl) ?_
  refine lv_iconst (v := nI 0) hx hb dX6_count_2 (by decide) ?_
  refine lv_bipush (v := nI 8) hx hb dX6_count_3 (by decide) ?_
  refine q_calli hw (q_runS (As := [.int (nI (8)), .int (nI (0)), .int (nI (8))]) (c_X6_within l G L F (nI 8) 0 8) C0 hw sw_X6_38 rfl hl.1 rfl (Nat.le_of_ble_eq_true rfl) dX6_count_5 ⟨by decide, by decide⟩ ⟨by decide, by decide⟩) rfl rfl (fun r_10995 F_10993 H locs hw hp_10994 => ?_)
  obtain ⟨he_10996, o_10997⟩ := hp_10994
  rw [if_pos h9] at he_10996
  subst he_10996
  refine n_if_eq (tgt := 15) hx hb dX6_count_8 (by decide) (by decide) (fun c_8 => ?_) (fun c_8 => ?_)
  · skip
    exact absurd c_8 (by omega)
  · skip
    refine lv_iconst (v := nI 0) hx hb dX6_count_11 (by decide) ?_
    refine lv_goto (tgt := 16) hx hb dX6_count_12 (by decide) ?_
    have f_10998 : F_10993 b = mO ma mi hh := (o_10997 b ).trans fb
    refine q_put C0 hw mb f_10998 fw_X6_31 pw_X6_8 rfl rfl rfl (Nat.le_of_ble_eq_true rfl) dX6_count_16 (fun F_10999 H locs hw f_11000 o_11001 => ?_)
    have f_11000 : F_10999 b = .inr (6, [.ref (ma 0), .int (mi 0), .ref (ma 1), .ref (ma 2), .ref (ma 3), .ref (ma 4), .int (mi 1), .ref (ma 5), .int (nI (0)), .ref (ma 6), .int (mi 3), .int (mi 4), .long (hh)]) := f_11000
    refine lv_aload_n hx hb dX6_count_19 rfl (lv_at hl 0 rfl) ?_
    refine q_get C0 hw mb f_11000 fw_X6_31 rfl dX6_count_20 ?_
    refine n_if_le (tgt := 30) hx hb dX6_count_23 (by decide) (by decide) (fun c_23 => ?_) (fun c_23 => ?_)
    · skip
      have hb_11002 : F_10999 b = mO ma (va_up mi 2 (nI 0)) hh := f_11000
      refine lv_aload_n hx hb dX6_count_30 rfl (lv_at hl 0 rfl) ?_
      refine lv_iload_n hx hb dX6_count_31 rfl (lv_at hl 1 rfl) ?_
      have f_11003 : F_10993 (ma 0) = .inl (G.2 0, 89, .inl zf) := (o_10997 (ma 0) ).trans fz
      have f_11004 : F_10999 (ma 0) = .inl (G.2 0, 89, .inl zf) := (o_11001 (ma 0) (ne_ao f_11003 f_10998)).trans f_11003
      have f_11005 : F_10993 (ma 3) = .inl (G.2 0, 2, .inl kf) := (o_10997 (ma 3) ).trans fk
      have f_11006 : F_10999 (ma 3) = .inl (G.2 0, 2, .inl kf) := (o_11001 (ma 3) (ne_ao f_11005 f_10998)).trans f_11005
      have f_11007 : F_10993 (ma 4) = pcE G pl := (o_10997 (ma 4) ).trans fp
      have f_11008 : F_10999 (ma 4) = pcE G pl := (o_11001 (ma 4) (ne_ao f_11007 f_10998)).trans f_11007
      refine q_calli hw (q_runV (As := [.int (nI (8))]) (c_X6_counted_8 l G L F_10999 b ma ((va_up mi 2 (nI 0))) hh zf kf pl A  mb hb_11002 hma hm0 f_11004 hz f_11006 hkf f_11008 hA ) C0 hw vw_X6_227 mb hb_11002 rfl rfl rfl hl.1 rfl (Nat.le_of_ble_eq_true rfl) dX6_count_32 ⟨by decide, by decide⟩ ⟨by decide, by decide⟩) rfl rfl (fun r_11011 F_11009 H locs hw hp_11010 => ?_)
      obtain ⟨f_11013, ⟨P_11012, f_11014⟩, f_11015⟩ := hp_11010
      subst f_11013
      have f_11016 : F_11009 b = mO ma ((va_up mi 2 (nI 0))) hh := (f_11015 b (ne_oa hb_11002 f_11008)).trans hb_11002
      have f_11017 : F_11009 (ma 0) = .inl (G.2 0, 89, .inl zf) := (f_11015 (ma 0) (ne_aa (by decide) f_11004 f_11008)).trans f_11004
      have f_11018 : F_10993 (ma 1) = .inl (G.2 0, 534, .inl hf) := (o_10997 (ma 1) ).trans fh
      have f_11019 : F_10999 (ma 1) = .inl (G.2 0, 534, .inl hf) := (o_11001 (ma 1) (ne_ao f_11018 f_10998)).trans f_11018
      have f_11020 : F_11009 (ma 1) = .inl (G.2 0, 534, .inl hf) := (f_11015 (ma 1) (ne_aa (by decide) f_11019 f_11008)).trans f_11019
      have f_11021 : F_10993 (ma 2) = .inl (G.2 0, 178, .inl sf) := (o_10997 (ma 2) ).trans fs
      have f_11022 : F_10999 (ma 2) = .inl (G.2 0, 178, .inl sf) := (o_11001 (ma 2) (ne_ao f_11021 f_10998)).trans f_11021
      have f_11023 : F_11009 (ma 2) = .inl (G.2 0, 178, .inl sf) := (f_11015 (ma 2) (ne_aa (by decide) f_11022 f_11008)).trans f_11022
      have f_11024 : F_11009 (ma 3) = .inl (G.2 0, 2, .inl kf) := (f_11015 (ma 3) (ne_aa (by decide) f_11006 f_11008)).trans f_11006
      have f_11025 : F_10993 (ma 5) = .inl (G.2 0, 60, .inl tf) := (o_10997 (ma 5) ).trans ft
      have f_11026 : F_10999 (ma 5) = .inl (G.2 0, 60, .inl tf) := (o_11001 (ma 5) (ne_ao f_11025 f_10998)).trans f_11025
      have f_11027 : F_11009 (ma 5) = .inl (G.2 0, 60, .inl tf) := (f_11015 (ma 5) (ne_aa (by decide) f_11026 f_11008)).trans f_11026
      have f_11028 : F_10993 (ma 6) = .inl (G.2 0, 52, .inl pf) := (o_10997 (ma 6) ).trans fq
      have f_11029 : F_10999 (ma 6) = .inl (G.2 0, 52, .inl pf) := (o_11001 (ma 6) (ne_ao f_11028 f_10998)).trans f_11028
      have f_11030 : F_11009 (ma 6) = .inl (G.2 0, 52, .inl pf) := (f_11015 (ma 6) (ne_aa (by decide) f_11029 f_11008)).trans f_11029
      exact r_i C0 hr hlk hw (v := (nI (cntA A 8))) rfl ⟨rfl, ⟨_, _, _, _, _, _, _, _, _, f_11016, ⟨hm0, hm1, rfl⟩, ⟨f_11017, hz⟩, ⟨f_11020, hhf⟩, ⟨f_11023, hsf⟩, ⟨f_11024, hkf⟩, f_11014, ⟨f_11027, htf⟩, f_11030⟩, (fun q k0 k1 => ((f_11015 q (k1 4 (by decide))).trans ((o_11001 q k0).trans (o_10997 q ))))⟩ (Nat.le_refl _) (Nat.le_refl _) dX6_count_35 hQ
    · skip
      exact absurd c_23 (by omega)
set_option maxHeartbeats 4000000 in
set_option maxRecDepth 100000 in
theorem k_X6_count_x (l : Launch) (G : Gl) (L : List Nat) (F : Nat → va_E) (b : Nat) (ma : Nat → Nat) (A : AB) (th : Nat) (x9 : Int32) (mb : b ∈ L) (hma : ∀ i, i < 7 → ma i ∈ L) (hM : MW G F b ma A th) (hA : okA A) (h9 : ¬ inR x9 0 8) : CI l yX6_count cX6_count 2 (some .int) rm_X6_count G L F [.ref b, .int (x9)] (fun r F1 => MW G F1 b ma A 1 ∧ mFr F F1 b ma) := by
  obtain ⟨mi, hh, zf, hf, sf, kf, tf, pf, pl, fb, ⟨hm0, hm1, hm2⟩, ⟨fz, hz⟩, ⟨fh, hhf⟩, ⟨fs, hsf⟩, ⟨fk, hkf⟩, fp, ⟨ft, htf⟩, fq⟩ := hM
  obtain ⟨hz0, hz1, hz2, hz3, hz4⟩ := ne_z zf hz
  have hc : A.1.1 ≤ 6 := hA.1.2.1
  have hc2 : 2 ≤ A.1.1 := hA.1.1
  have hpu : A.1.2.1 ≤ 100000 := hA.1.2.2.1
  have hrw : ∀ i k, i < 12 → k < 7 → zf (5 + 7 * i + k) = nI (A.1.2.2.2.2.2 i k).val := hz.row
  refine CG_of (by decide) (Nat.le_of_ble_eq_true rfl) rfl ?_
  intro p e s m args below meth c Q C0 hr hlk hnm hQ hw ls hl
  have hx := C0.x
  have hb := C0.b
  refine lv_aload_n hx hb dX6_count_0 rfl (lv_at hl 0 rfl) ?_
  refine lv_iload_n hx hb dX6_count_1 rfl (lv_at hl 1 rfl) ?_
  refine lv_iconst (v := nI 0) hx hb dX6_count_2 (by decide) ?_
  refine lv_bipush (v := nI 8) hx hb dX6_count_3 (by decide) ?_
  refine q_calli hw (q_runS (As := [.int (x9), .int (nI (0)), .int (nI (8))]) (c_X6_within l G L F x9 0 8) C0 hw sw_X6_38 rfl hl.1 rfl (Nat.le_of_ble_eq_true rfl) dX6_count_5 ⟨by decide, by decide⟩ ⟨by decide, by decide⟩) rfl rfl (fun r_11033 F_11031 H locs hw hp_11032 => ?_)
  obtain ⟨he_11034, o_11035⟩ := hp_11032
  rw [if_neg h9] at he_11034
  subst he_11034
  refine n_if_eq (tgt := 15) hx hb dX6_count_8 (by decide) (by decide) (fun c_8 => ?_) (fun c_8 => ?_)
  · skip
    refine lv_iconst (v := nI 1) hx hb dX6_count_15 (by decide) ?_
    have f_11036 : F_11031 b = mO ma mi hh := (o_11035 b ).trans fb
    refine q_put C0 hw mb f_11036 fw_X6_31 pw_X6_8 rfl rfl rfl (Nat.le_of_ble_eq_true rfl) dX6_count_16 (fun F_11037 H locs hw f_11038 o_11039 => ?_)
    have f_11038 : F_11037 b = .inr (6, [.ref (ma 0), .int (mi 0), .ref (ma 1), .ref (ma 2), .ref (ma 3), .ref (ma 4), .int (mi 1), .ref (ma 5), .int (nI (1)), .ref (ma 6), .int (mi 3), .int (mi 4), .long (hh)]) := f_11038
    refine lv_aload_n hx hb dX6_count_19 rfl (lv_at hl 0 rfl) ?_
    refine q_get C0 hw mb f_11038 fw_X6_31 rfl dX6_count_20 ?_
    refine n_if_le (tgt := 30) hx hb dX6_count_23 (by decide) (by decide) (fun c_23 => ?_) (fun c_23 => ?_)
    · skip
      exact absurd c_23 (by omega)
    · skip
      refine lv_iconst (v := nI 0) hx hb dX6_count_26 (by decide) ?_
      refine lv_goto (tgt := 35) hx hb dX6_count_27 (by decide) ?_
      have hb_11040 : F_11037 b = mO ma (va_up mi 2 (nI 1)) (hh) := f_11038
      have f_11041 : F_11031 (ma 0) = .inl (G.2 0, 89, .inl zf) := (o_11035 (ma 0) ).trans fz
      have f_11042 : F_11037 (ma 0) = .inl (G.2 0, 89, .inl zf) := (o_11039 (ma 0) (ne_ao f_11041 f_11036)).trans f_11041
      have f_11043 : F_11031 (ma 1) = .inl (G.2 0, 534, .inl hf) := (o_11035 (ma 1) ).trans fh
      have f_11044 : F_11037 (ma 1) = .inl (G.2 0, 534, .inl hf) := (o_11039 (ma 1) (ne_ao f_11043 f_11036)).trans f_11043
      have f_11045 : F_11031 (ma 2) = .inl (G.2 0, 178, .inl sf) := (o_11035 (ma 2) ).trans fs
      have f_11046 : F_11037 (ma 2) = .inl (G.2 0, 178, .inl sf) := (o_11039 (ma 2) (ne_ao f_11045 f_11036)).trans f_11045
      have f_11047 : F_11031 (ma 3) = .inl (G.2 0, 2, .inl kf) := (o_11035 (ma 3) ).trans fk
      have f_11048 : F_11037 (ma 3) = .inl (G.2 0, 2, .inl kf) := (o_11039 (ma 3) (ne_ao f_11047 f_11036)).trans f_11047
      have f_11049 : F_11031 (ma 4) = pcE G pl := (o_11035 (ma 4) ).trans fp
      have f_11050 : F_11037 (ma 4) = pcE G pl := (o_11039 (ma 4) (ne_ao f_11049 f_11036)).trans f_11049
      have f_11051 : F_11031 (ma 5) = .inl (G.2 0, 60, .inl tf) := (o_11035 (ma 5) ).trans ft
      have f_11052 : F_11037 (ma 5) = .inl (G.2 0, 60, .inl tf) := (o_11039 (ma 5) (ne_ao f_11051 f_11036)).trans f_11051
      have f_11053 : F_11031 (ma 6) = .inl (G.2 0, 52, .inl pf) := (o_11035 (ma 6) ).trans fq
      have f_11054 : F_11037 (ma 6) = .inl (G.2 0, 52, .inl pf) := (o_11039 (ma 6) (ne_ao f_11053 f_11036)).trans f_11053
      exact r_i C0 hr hlk hw (v := nI 0) rfl ⟨⟨_, _, _, _, _, _, _, _, _, hb_11040, ⟨hm0, hm1, rfl⟩, ⟨f_11042, hz⟩, ⟨f_11044, hhf⟩, ⟨f_11046, hsf⟩, ⟨f_11048, hkf⟩, f_11050, ⟨f_11052, htf⟩, f_11054⟩, (fun q k0 k1 => ((o_11039 q k0).trans (o_11035 q )))⟩ (Nat.le_refl _) (Nat.le_refl _) dX6_count_35 hQ
  · skip
    exact absurd c_8 (by omega)
def cnz (r : Rws) : Nat → Nat
  | 0 => 0
  | k + 1 => cnz r k + (if (r (k / 7) (k % 7)).val = 0 then 0 else 1)
theorem cnz_le (r : Rws) : ∀ k, cnz r k ≤ k
  | 0 => Nat.le_refl 0
  | k + 1 => by
    rw [cnz]
    have := cnz_le r k
    split <;> omega
theorem cnz_a {r : Rws} {k : Nat} (h : (r (k / 7) (k % 7)).val = 0) : cnz r (k + 1) = cnz r k := by rw [cnz, if_pos h, Nat.add_zero]
theorem cnz_b {r : Rws} {k : Nat} (h : ¬ (r (k / 7) (k % 7)).val = 0) : cnz r (k + 1) = cnz r k + 1 := by rw [cnz, if_neg h]
theorem cnz_s (r : Rws) (i j : Nat) (hj : j < 7) : cnz r (7 * i + j + 1) = cnz r (7 * i + j) + (if (r i j).val = 0 then 0 else 1) := by
  rw [cnz, show (7 * i + j) / 7 = i by omega, show (7 * i + j) % 7 = j by omega]
theorem cnz_7 (r : Rws) (i : Nat) (h0 : r i 0 = 0) (h1 : r i 1 = 0) : cnz r (7 * (i + 1)) = cnz r (7 * i) + cfP (r i) 5 := by
  have e0 : (if (r i 0).val = 0 then 0 else 1) = 0 := by rw [h0]; rfl
  have e1 : (if (r i 1).val = 0 then 0 else 1) = 0 := by rw [h1]; rfl
  have s0 := cnz_s r i 0 (by decide)
  have s1 := cnz_s r i 1 (by decide)
  have s2 := cnz_s r i 2 (by decide)
  have s3 := cnz_s r i 3 (by decide)
  have s4 := cnz_s r i 4 (by decide)
  have s5 := cnz_s r i 5 (by decide)
  have s6 := cnz_s r i 6 (by decide)
  have p : cfP (r i) 5 = ((((0 + (if (r i 2).val = 0 then 0 else 1)) + (if (r i 3).val = 0 then 0 else 1)) + (if (r i 4).val = 0 then 0 else 1)) + (if (r i 5).val = 0 then 0 else 1)) + (if (r i 6).val = 0 then 0 else 1) := rfl
  rw [show 7 * (i + 1) = 7 * i + 6 + 1 by omega, s6, show 7 * i + 6 = 7 * i + 5 + 1 by omega, s5, show 7 * i + 5 = 7 * i + 4 + 1 by omega, s4, show 7 * i + 4 = 7 * i + 3 + 1 by omega, s3, show 7 * i + 3 = 7 * i + 2 + 1 by omega, s2, show 7 * i + 2 = 7 * i + 1 + 1 by omega, s1, show 7 * i + 1 = 7 * i + 0 + 1 by omega, s0, e0, e1, p]
  simp only [Nat.add_zero, Nat.zero_add, Nat.add_assoc]
theorem cnz_42 {r : Rws} (hR : okR r) : cnz r 42 = cfR r 6 := by
  have g : ∀ i, i ≤ 6 → cnz r (7 * i) = cfR r i := by
    intro i
    induction i with
    | zero => intro _; rfl
    | succ i ih =>
      intro hi
      rw [cnz_7 r i (hR i (by omega)).1 (hR i (by omega)).2, ih (by omega)]
      rfl
  exact g 6 (Nat.le_refl 6)
theorem dens_nn {n c : Nat} (h2 : 2 ≤ c) (h6 : c ≤ 6) (hn : n ≤ 6 * (c - 1)) : Op.cmpValue (FP.dcmp (dens n c) (dens n c)) .l = nI 0 := by
  have h : ∀ c : Fin 5, ∀ n : Fin 31, Op.cmpValue (FP.dcmp (dens n.val (c.val + 2)) (dens n.val (c.val + 2))) .l = nI 0 := by decide +kernel
  have := h ⟨c - 2, by omega⟩ ⟨n, by omega⟩
  rw [show (⟨c - 2, by omega⟩ : Fin 5).val + 2 = c from by show c - 2 + 2 = c; omega] at this
  exact this
theorem zi3 : zi (nI 3) = zc 3 := by decide
abbrev rm_X6_dense : Room := { frames := 0, cells := 0, slots := 0, locals := 0 }
set_option maxHeartbeats 4000000 in
set_option maxRecDepth 100000 in
theorem c_X6_dense (l : Launch) (G : Gl) (L : List Nat) (F : Nat → va_E) (b : Nat) (ma : Nat → Nat) (mi : Nat → Int32) (hh : Int64) (zf kf : Nat → Int32) (pl : Nat → Nat → ZP) (A : AB) (mb : b ∈ L) (fb : F b = mO ma mi hh) (hma : ∀ i, i < 7 → ma i ∈ L) (hm0 : mi 0 = nI A.2.1.1) (fz : F (ma 0) = .inl (G.2 0, 89, .inl zf)) (hz : zA zf A.1) (fk : F (ma 3) = .inl (G.2 0, 2, .inl kf)) (hkf : kA_ kf A.2.2.1) (fp : F (ma 4) = pcE G pl) (hA : okA A) (hn9 : cfR A.1.2.2.2.2.2 6 ≤ 6 * (A.1.1 - 1)) : CD l yX6_dense cX6_dense 3 (some .double) rm_X6_dense G L F [.ref b] (fun r F1 => r = dens (cfR A.1.2.2.2.2.2 6) A.1.1 ∧ ∀ q, F1 q = F q) := by
  obtain ⟨hz0, hz1, hz2, hz3, hz4⟩ := ne_z zf hz
  have hc : A.1.1 ≤ 6 := hA.1.2.1
  have hc2 : 2 ≤ A.1.1 := hA.1.1
  have hpu : A.1.2.1 ≤ 100000 := hA.1.2.2.1
  have hrw : ∀ i k, i < 12 → k < 7 → zf (5 + 7 * i + k) = nI (A.1.2.2.2.2.2 i k).val := hz.row
  have hR : okR A.1.2.2.2.2.2 := hA.1.2.2.2
  refine CG_of (by decide) (Nat.le_of_ble_eq_true rfl) rfl ?_
  intro p e s m args below meth c Q C0 hr hlk hnm hQ hw ls hl
  have hx := C0.x
  have hb := C0.b
  refine lv_iconst (v := nI 0) hx hb dX6_dense_0 (by decide) ?_
  refine lv_istore_n (lv' := [(1, .int (nI (0))), (0, .ref b)]) hx hb dX6_dense_1 rfl hl (by decide) rfl (fun ls hl => ?_)
  refine lv_iconst (v := nI 0) hx hb dX6_dense_2 (by decide) ?_
  refine lv_istore_n (lv' := [(2, .int (nI (0))), (1, .int (nI (0))), (0, .ref b)]) hx hb dX6_dense_3 rfl hl (by decide) rfl (fun ls hl => ?_)
  have lp4 : ∀ (n : Nat) (i9 : Nat), 0 ≤ i9 → i9 ≤ 42 → 42 + 1 - i9 < n → ∀ (F_11055 : Nat → va_E) (H : Heap) (locs : List Loc), wD G L F_11055 s H locs → (∀ q, F_11055 q = F q) → ∀ ls : Array Slot, lv_has ls 3 [(0, .ref b), (1, .int (nI (cnz A.1.2.2.2.2.2 i9))), (2, .int (nI (i9)))] → W p l e rm_X6_dense s m args below meth c H locs 0 0 Q (F0 m 4 ls []) := by
    intro n
    induction n with
    | zero => intro i9 hlo hhi hm; exact absurd hm (Nat.not_lt_zero _)
    | succ n ih_4 =>
      intro i9 hlo hhi hm F_11055 H locs hw  fr_11056 ls hl
      refine lv_iload_n hx hb dX6_dense_4 rfl (lv_at hl 2 rfl) ?_
      refine lv_bipush (v := nI 42) hx hb dX6_dense_5 (by decide) ?_
      refine n_icmp_ge (tgt := 35) hx hb dX6_dense_7 (by decide) (by omega) (by decide) (fun c_7 => ?_) (fun c_7 => ?_)
      · skip
        obtain rfl : i9 = 42 := by omega
        have hl : lv_has ls 3 [(0, .ref b), (1, .int (nI (cfR A.1.2.2.2.2.2 6))), (2, .int (nI (42)))] := (by rw [← cnz_42 hR]; exact hl)
        refine lv_iload_n hx hb dX6_dense_35 rfl (lv_at hl 1 rfl) ?_
        refine lv_i2d hx hb dX6_dense_36 ?_
        refine lv_bipush (v := nI 6) hx hb dX6_dense_37 (by decide) ?_
        refine lv_aload_n hx hb dX6_dense_39 rfl (lv_at hl 0 rfl) ?_
        have f_11057 : F_11055 b = .inr (6, [.ref (ma 0), .int (mi 0), .ref (ma 1), .ref (ma 2), .ref (ma 3), .ref (ma 4), .int (mi 1), .ref (ma 5), .int (mi 2), .ref (ma 6), .int (mi 3), .int (mi 4), .long (hh)]) := (fr_11056 b ).trans fb
        refine q_get C0 hw mb f_11057 fw_X6_7 rfl dX6_dense_40 ?_
        refine lv_iconst (v := nI 0) hx hb dX6_dense_43 (by decide) ?_
        have f_11058 : F_11055 (ma 0) = .inl (G.2 0, 89, .inl zf) := (fr_11056 (ma 0) ).trans fz
        refine q_iald C0 hw ((hma 0 (by decide))) f_11058 (0) (by omega) (by decide) (v := nI (A.1.1)) hz0 dX6_dense_44 ?_
        refine lv_iconst (v := nI 1) hx hb dX6_dense_45 (by decide) ?_
        refine n_isub hx hb (by omega) dX6_dense_46 ?_
        refine n_imul hx hb dX6_dense_47 ?_
        refine lv_i2d hx hb dX6_dense_48 ?_
        refine lv_ddiv hx hb dX6_dense_49 (dens_ok hc2 hc hn9) ?_
        exact r_d C0 hr hlk hw ⟨rfl, (fun q  => (fr_11056 q ))⟩ (Nat.le_refl _) (Nat.le_refl _) dX6_dense_50 hQ
      · skip
        refine lv_iload_n hx hb dX6_dense_10 rfl (lv_at hl 1 rfl) ?_
        refine lv_aload_n hx hb dX6_dense_11 rfl (lv_at hl 0 rfl) ?_
        have f_11059 : F_11055 b = mO ma mi hh := (fr_11056 b ).trans fb
        refine q_get C0 hw mb f_11059 fw_X6_7 rfl dX6_dense_12 ?_
        refine lv_iconst (v := nI 5) hx hb dX6_dense_15 (by decide) ?_
        refine lv_iload_n hx hb dX6_dense_16 rfl (lv_at hl 2 rfl) ?_
        refine n_iadd hx hb dX6_dense_17 ?_
        have f_11060 : F_11055 (ma 0) = .inl (G.2 0, 89, .inl zf) := (fr_11056 (ma 0) ).trans fz
        refine q_iald C0 hw ((hma 0 (by decide))) f_11060 (5 + i9) (by omega) (by decide) (v := nI ((A.1.2.2.2.2.2 (i9 / 7) (i9 % 7)).val)) (by have h := hrw (i9 / 7) (i9 % 7) (by omega) (by omega); rw [show 5 + 7 * (i9 / 7) + i9 % 7 = 5 + i9 by omega] at h; exact h) dX6_dense_18 ?_
        have := (A.1.2.2.2.2.2 (i9 / 7) (i9 % 7)).isLt
        refine n_if_ne (tgt := 26) hx hb dX6_dense_19 (by decide) (by omega) (fun c_19 => ?_) (fun c_19 => ?_)
        · skip
          have hcl := cnz_le A.1.2.2.2.2.2 i9
          refine lv_iconst (v := nI 1) hx hb dX6_dense_26 (by decide) ?_
          refine n_iadd hx hb dX6_dense_27 ?_
          refine lv_istore_n (lv' := [(1, .int (nI (cnz A.1.2.2.2.2.2 i9 + 1))), (0, .ref b), (2, .int (nI (i9)))]) hx hb dX6_dense_28 rfl hl (by decide) rfl (fun ls hl => ?_)
          refine lv_iinc (v := nI (i9 + 1)) (lv' := [(2, .int (nI (i9 + 1))), (1, .int (nI (cnz A.1.2.2.2.2.2 i9 + 1))), (0, .ref b)]) hx hb dX6_dense_29 hl (k := 2) rfl (nI_add _ _) (by decide) rfl (fun ls hl => ?_)
          refine lv_goto (tgt := 4) hx hb dX6_dense_32 (by decide) ?_
          have hl : lv_has ls 3 [(2, .int (nI (i9 + 1))), (1, .int (nI (cnz A.1.2.2.2.2.2 (i9 + 1)))), (0, .ref b)] := (by rw [cnz_b c_19]; exact hl)
          exact ih_4 (i9 + 1) ((by omega)) ((by omega)) (by omega) F_11055 _ _ hw  (fun q  => (fr_11056 q )) ls (lv_sub hl [2, 1, 0] rfl)
        · skip
          have hcl := cnz_le A.1.2.2.2.2.2 i9
          refine lv_iconst (v := nI 0) hx hb dX6_dense_22 (by decide) ?_
          refine lv_goto (tgt := 27) hx hb dX6_dense_23 (by decide) ?_
          refine n_iadd hx hb dX6_dense_27 ?_
          refine lv_istore_n (lv' := [(1, .int (nI (cnz A.1.2.2.2.2.2 i9 + 0))), (0, .ref b), (2, .int (nI (i9)))]) hx hb dX6_dense_28 rfl hl (by decide) rfl (fun ls hl => ?_)
          refine lv_iinc (v := nI (i9 + 1)) (lv' := [(2, .int (nI (i9 + 1))), (1, .int (nI (cnz A.1.2.2.2.2.2 i9 + 0))), (0, .ref b)]) hx hb dX6_dense_29 hl (k := 2) rfl (nI_add _ _) (by decide) rfl (fun ls hl => ?_)
          refine lv_goto (tgt := 4) hx hb dX6_dense_32 (by decide) ?_
          have hl : lv_has ls 3 [(2, .int (nI (i9 + 1))), (1, .int (nI (cnz A.1.2.2.2.2.2 (i9 + 1)))), (0, .ref b)] := (by rw [cnz_a c_19]; exact hl)
          exact ih_4 (i9 + 1) ((by omega)) ((by omega)) (by omega) F_11055 _ _ hw  (fun q  => (fr_11056 q )) ls (lv_sub hl [2, 1, 0] rfl)
  exact lp4 _ (0) ((by omega)) ((by omega)) (Nat.lt_succ_self _) F _ _ hw  (fun q  => rfl) ls (lv_sub hl [2, 1, 0] rfl)
abbrev rm_X6_density : Room := { frames := 1, cells := 0, slots := 0, locals := 22 }
set_option maxHeartbeats 4000000 in
set_option maxRecDepth 100000 in
theorem k_X6_density (l : Launch) (G : Gl) (L : List Nat) (F : Nat → va_E) (b : Nat) (ma : Nat → Nat) (A : AB) (th : Nat) (mb : b ∈ L) (hma : ∀ i, i < 7 → ma i ∈ L) (hM : MW G F b ma A th) (hA : okA A) (hn9 : cfR A.1.2.2.2.2.2 6 ≤ 6 * (A.1.1 - 1)) : CD l yX6_density cX6_density 1 (some .double) rm_X6_density G L F [.ref b] (fun r F1 => r = dens (cfR A.1.2.2.2.2.2 6) A.1.1 ∧ MW G F1 b ma A 0 ∧ mFr F F1 b ma) := by
  obtain ⟨mi, hh, zf, hf, sf, kf, tf, pf, pl, fb, ⟨hm0, hm1, hm2⟩, ⟨fz, hz⟩, ⟨fh, hhf⟩, ⟨fs, hsf⟩, ⟨fk, hkf⟩, fp, ⟨ft, htf⟩, fq⟩ := hM
  obtain ⟨hz0, hz1, hz2, hz3, hz4⟩ := ne_z zf hz
  have hc : A.1.1 ≤ 6 := hA.1.2.1
  have hc2 : 2 ≤ A.1.1 := hA.1.1
  have hpu : A.1.2.1 ≤ 100000 := hA.1.2.2.1
  have hrw : ∀ i k, i < 12 → k < 7 → zf (5 + 7 * i + k) = nI (A.1.2.2.2.2.2 i k).val := hz.row
  refine CG_of (by decide) (Nat.le_of_ble_eq_true rfl) rfl ?_
  intro p e s m args below meth c Q C0 hr hlk hnm hQ hw ls hl
  have hx := C0.x
  have hb := C0.b
  refine lv_aload_n hx hb dX6_density_0 rfl (lv_at hl 0 rfl) ?_
  refine lv_iconst (v := nI 0) hx hb dX6_density_1 (by decide) ?_
  refine q_put C0 hw mb fb fw_X6_31 pw_X6_8 rfl rfl rfl (Nat.le_of_ble_eq_true rfl) dX6_density_2 (fun F_11061 H locs hw f_11062 o_11063 => ?_)
  have f_11062 : F_11061 b = .inr (6, [.ref (ma 0), .int (mi 0), .ref (ma 1), .ref (ma 2), .ref (ma 3), .ref (ma 4), .int (mi 1), .ref (ma 5), .int (nI (0)), .ref (ma 6), .int (mi 3), .int (mi 4), .long (hh)]) := f_11062
  have hb_11064 : F_11061 b = mO ma (va_up mi 2 (nI 0)) hh := f_11062
  refine lv_aload_n hx hb dX6_density_5 rfl (lv_at hl 0 rfl) ?_
  have f_11065 : F_11061 (ma 0) = .inl (G.2 0, 89, .inl zf) := (o_11063 (ma 0) (ne_ao fz fb)).trans fz
  have f_11066 : F_11061 (ma 3) = .inl (G.2 0, 2, .inl kf) := (o_11063 (ma 3) (ne_ao fk fb)).trans fk
  have f_11067 : F_11061 (ma 4) = pcE G pl := (o_11063 (ma 4) (ne_ao fp fb)).trans fp
  refine q_calld hw (q_runV (As := []) (c_X6_dense l G L F_11061 b ma ((va_up mi 2 (nI 0))) hh zf kf pl A  mb hb_11064 hma hm0 f_11065 hz f_11066 hkf f_11067 hA hn9) C0 hw vw_X6_230 mb hb_11064 rfl rfl rfl hl.1 rfl (Nat.le_of_ble_eq_true rfl) dX6_density_6 ⟨by decide, by decide⟩ ⟨by decide, by decide⟩) rfl rfl (fun r_11070 F_11068 H locs hw hp_11069 => ?_)
  obtain ⟨he_11071, o_11072⟩ := hp_11069
  subst he_11071
  have f_11073 : F_11068 b = mO ma ((va_up mi 2 (nI 0))) hh := (o_11072 b ).trans hb_11064
  have f_11074 : F_11068 (ma 0) = .inl (G.2 0, 89, .inl zf) := (o_11072 (ma 0) ).trans f_11065
  have f_11075 : F_11061 (ma 1) = .inl (G.2 0, 534, .inl hf) := (o_11063 (ma 1) (ne_ao fh fb)).trans fh
  have f_11076 : F_11068 (ma 1) = .inl (G.2 0, 534, .inl hf) := (o_11072 (ma 1) ).trans f_11075
  have f_11077 : F_11061 (ma 2) = .inl (G.2 0, 178, .inl sf) := (o_11063 (ma 2) (ne_ao fs fb)).trans fs
  have f_11078 : F_11068 (ma 2) = .inl (G.2 0, 178, .inl sf) := (o_11072 (ma 2) ).trans f_11077
  have f_11079 : F_11068 (ma 3) = .inl (G.2 0, 2, .inl kf) := (o_11072 (ma 3) ).trans f_11066
  have f_11080 : F_11068 (ma 4) = pcE G pl := (o_11072 (ma 4) ).trans f_11067
  have f_11081 : F_11061 (ma 5) = .inl (G.2 0, 60, .inl tf) := (o_11063 (ma 5) (ne_ao ft fb)).trans ft
  have f_11082 : F_11068 (ma 5) = .inl (G.2 0, 60, .inl tf) := (o_11072 (ma 5) ).trans f_11081
  have f_11083 : F_11061 (ma 6) = .inl (G.2 0, 52, .inl pf) := (o_11063 (ma 6) (ne_ao fq fb)).trans fq
  have f_11084 : F_11068 (ma 6) = .inl (G.2 0, 52, .inl pf) := (o_11072 (ma 6) ).trans f_11083
  exact r_d C0 hr hlk hw ⟨rfl, ⟨_, _, _, _, _, _, _, _, _, f_11073, ⟨hm0, hm1, rfl⟩, ⟨f_11074, hz⟩, ⟨f_11076, hhf⟩, ⟨f_11078, hsf⟩, ⟨f_11079, hkf⟩, f_11080, ⟨f_11082, htf⟩, f_11084⟩, (fun q k0 k1 => ((o_11072 q ).trans (o_11063 q k0)))⟩ (Nat.le_refl _) (Nat.le_refl _) dX6_density_9 hQ
theorem dw_in : Cond.initialized "java/lang/Double" ∈ TB := tb_t 18 (by decide +kernel) rfl
theorem dw_l : Cond.methodLink RJxe99ae 134 ⟨"java/lang/Double", "doubleToRawLongBits", "(D)J"⟩ ∈ TB := tb_t 1180 (by decide +kernel) rfl
theorem dw_st : Cond.static ⟨"java/lang/Double", "doubleToRawLongBits", "(D)J"⟩ ∈ TB := tb_t 1181 (by decide +kernel) rfl
theorem dw_nat : Cond.native ⟨"java/lang/Double", "doubleToRawLongBits", "(D)J"⟩ ∈ TB := tb_t 1182 (by decide +kernel) rfl
abbrev rm_Jxe99ae_isNaN_b9ae7 : Room := { frames := 0, cells := 0, slots := 0, locals := 0 }
set_option maxHeartbeats 4000000 in
set_option maxRecDepth 100000 in
theorem c_Jxe99ae_isNaN_b9ae7 (l : Launch) (G : Gl) (L : List Nat) (F : Nat → va_E) (n cu : Nat) (h2 : 2 ≤ cu) (h6 : cu ≤ 6) (hn : n ≤ 6 * (cu - 1)) : CI l yJxe99ae_isNaN_b9ae7 cJxe99ae_isNaN_b9ae7 2 (some .boolean) rm_Jxe99ae_isNaN_b9ae7 G L F [.double (dens n cu)] (fun r F1 => r = nI 0 ∧ ∀ q, F1 q = F q) := by
  refine CG_ofF (by decide +kernel) (Nat.le_of_ble_eq_true rfl) rfl ?_
  intro p e s m args below meth c Q C0 hr hlk hnm hQ hw ls hl
  have hx := C0.x
  have hb := C0.b
  refine lv_dload_n hx hb dJxe99ae_isNaN_b9ae7_0 rfl (lv_at hl 0 rfl) ?_
  refine lv_dload_n hx hb dJxe99ae_isNaN_b9ae7_1 rfl (lv_at hl 0 rfl) ?_
  refine lv_dcmp hx hb dJxe99ae_isNaN_b9ae7_2 ?_
  refine n_top (y := .int (nI 0)) (congrArg Value.int (dens_nn h2 h6 hn)) ?_
  refine n_if_eq (tgt := 10) hx hb dJxe99ae_isNaN_b9ae7_3 (by decide) (by decide) (fun c_3 => ?_) (fun c_3 => ?_)
  · skip
    refine lv_iconst (v := nI 0) hx hb dJxe99ae_isNaN_b9ae7_10 (by decide) ?_
    exact r_i C0 hr hlk hw (v := nI 0) rfl ⟨rfl, (fun q  => rfl)⟩ (Nat.le_refl _) (Nat.le_refl _) dJxe99ae_isNaN_b9ae7_11 hQ
  · skip
    exact absurd c_3 (by omega)
abbrev rm_Jxe99ae_doubleToLongBits_ccdee : Room := { frames := 1, cells := 0, slots := 0, locals := 40 }
set_option maxHeartbeats 4000000 in
set_option maxRecDepth 100000 in
theorem c_Jxe99ae_doubleToLongBits_ccdee (l : Launch) (G : Gl) (L : List Nat) (F : Nat → va_E) (n cu : Nat) (h2 : 2 ≤ cu) (h6 : cu ≤ 6) (hn : n ≤ 6 * (cu - 1)) : CL l yJxe99ae_doubleToLongBits_ccdee cJxe99ae_doubleToLongBits_ccdee 2 (some .long) rm_Jxe99ae_doubleToLongBits_ccdee G L F [.double (dens n cu)] (fun r F1 => r = (dens n cu).toInt64 ∧ ∀ q, F1 q = F q) := by
  refine CG_ofF (by decide +kernel) (Nat.le_of_ble_eq_true rfl) rfl ?_
  intro p e s m args below meth c Q C0 hr hlk hnm hQ hw ls hl
  have hx := C0.x
  have hb := C0.b
  refine lv_dload_n hx hb dJxe99ae_doubleToLongBits_ccdee_0 rfl (lv_at hl 0 rfl) ?_
  refine q_calli hw (q_runS (As := [.double (dens n cu)]) (c_Jxe99ae_isNaN_b9ae7 l G L F n cu h2 h6 hn) C0 hw sw_Jxe99ae_122 rfl hl.1 rfl (Nat.le_of_ble_eq_true rfl) dJxe99ae_doubleToLongBits_ccdee_1 ⟨by decide, by decide⟩ ⟨by decide, by decide⟩) rfl rfl (fun r_11087 F_11085 H locs hw hp_11086 => ?_)
  obtain ⟨he_11088, o_11089⟩ := hp_11086
  subst he_11088
  refine n_if_ne (tgt := 12) hx hb dJxe99ae_doubleToLongBits_ccdee_4 (by decide) (by decide) (fun c_4 => ?_) (fun c_4 => ?_)
  · skip
    exact absurd c_4 (by omega)
  · skip
    refine lv_dload_n hx hb dJxe99ae_doubleToLongBits_ccdee_7 rfl (lv_at hl 0 rfl) ?_
    refine vn_d2l hx hb (C0.ml.trans hl.1.symm) C0.ow (C0.ts _ dw_l) (C0.ts _ dw_nat) (C0.ts _ dw_st) (C0.ts _ dw_in) (by decide) (by decide) dJxe99ae_doubleToLongBits_ccdee_8 ?_
    exact r_l C0 hr hlk hw ⟨rfl, (fun q  => (o_11089 q ))⟩ (Nat.le_refl _) (Nat.le_refl _) dJxe99ae_doubleToLongBits_ccdee_11 hQ
abbrev rm_X6_mix : Room := { frames := 0, cells := 0, slots := 0, locals := 0 }
set_option maxHeartbeats 4000000 in
set_option maxRecDepth 100000 in
theorem c_X6_mix (l : Launch) (G : Gl) (L : List Nat) (F : Nat → va_E) (b : Nat) (ma : Nat → Nat) (mi : Nat → Int32) (hh v9 : Int64) (mb : b ∈ L) (fb : F b = mO ma mi hh) : CV l yX6_mix cX6_mix 3 none rm_X6_mix G L F [.ref b, .long (v9)] (fun F1 => F1 b = mO ma mi (lN 31 * hh + v9) ∧ ∀ q, q ≠ b → F1 q = F q) := by
  refine CG_of (by decide) (Nat.le_of_ble_eq_true rfl) rfl ?_
  intro p e s m args below meth c Q C0 hr hlk hnm hQ hw ls hl
  have hx := C0.x
  have hb := C0.b
  refine lv_aload_n hx hb dX6_mix_0 rfl (lv_at hl 0 rfl) ?_
  refine lv_ldc2 (v := lN (31)) hx hb C0.ow (C0.ts _ kw_X6_234) dX6_mix_1 ?_
  refine lv_aload_n hx hb dX6_mix_4 rfl (lv_at hl 0 rfl) ?_
  refine q_get C0 hw mb fb fw_X6_236 rfl dX6_mix_5 ?_
  refine lv_lmul hx hb dX6_mix_8 ?_
  refine lv_lload_n hx hb dX6_mix_9 rfl (lv_at hl 1 rfl) ?_
  refine lv_ladd hx hb dX6_mix_10 ?_
  refine q_put C0 hw mb fb fw_X6_236 pw_X6_12 rfl rfl rfl (Nat.le_of_ble_eq_true rfl) dX6_mix_11 (fun F_11090 H locs hw f_11091 o_11092 => ?_)
  have f_11091 : F_11090 b = .inr (6, [.ref (ma 0), .int (mi 0), .ref (ma 1), .ref (ma 2), .ref (ma 3), .ref (ma 4), .int (mi 1), .ref (ma 5), .int (mi 2), .ref (ma 6), .int (mi 3), .int (mi 4), .long ((lN (31) * (hh)) + (v9))]) := f_11091
  exact r_v C0 hr hlk hw ⟨f_11091, (fun q k0 => (o_11092 q k0))⟩ (Nat.le_refl _) (Nat.le_refl _) dX6_mix_14 hQ
abbrev rm_X6_mixSlot : Room := { frames := 7, cells := 0, slots := 0, locals := 161 }
set_option maxHeartbeats 4000000 in
set_option maxRecDepth 100000 in
theorem c_X6_mixSlot (l : Launch) (G : Gl) (L : List Nat) (F : Nat → va_E) (b : Nat) (ma : Nat → Nat) (mi : Nat → Int32) (hh : Int64) (zf kf : Nat → Int32) (pl : Nat → Nat → ZP) (A : AB) (s9 : Nat) (mb : b ∈ L) (fb : F b = mO ma mi hh) (hma : ∀ i, i < 7 → ma i ∈ L) (hm0 : mi 0 = nI A.2.1.1) (fz : F (ma 0) = .inl (G.2 0, 89, .inl zf)) (hz : zA zf A.1) (fk : F (ma 3) = .inl (G.2 0, 2, .inl kf)) (hkf : kA_ kf A.2.2.1) (fp : F (ma 4) = pcE G pl) (hA : okA A) (hs9 : s9 < 6) : CV l yX6_mixSlot cX6_mixSlot 3 none rm_X6_mixSlot G L F [.ref b, .int (nI (s9))] (fun F1 => F1 b = mO ma mi (hLk A s9 (hC (hC hh (A.1.2.2.2.2.2 s9)) (A.1.2.2.2.2.2 (6 + s9)))) ∧ (∃ P9, F1 (ma 4) = pcE G P9) ∧ ∀ q, q ≠ b → q ≠ ma 4 → F1 q = F q) := by
  obtain ⟨hz0, hz1, hz2, hz3, hz4⟩ := ne_z zf hz
  have hc : A.1.1 ≤ 6 := hA.1.2.1
  have hc2 : 2 ≤ A.1.1 := hA.1.1
  have hpu : A.1.2.1 ≤ 100000 := hA.1.2.2.1
  have hrw : ∀ i k, i < 12 → k < 7 → zf (5 + 7 * i + k) = nI (A.1.2.2.2.2.2 i k).val := hz.row
  have hR : okR A.1.2.2.2.2.2 := hA.1.2.2.2
  refine CG_of (by decide) (Nat.le_of_ble_eq_true rfl) rfl ?_
  intro p e s m args below meth c Q C0 hr hlk hnm hQ hw ls hl
  have hx := C0.x
  have hb := C0.b
  refine lv_iconst (v := nI 2) hx hb dX6_mixSlot_0 (by decide) ?_
  refine lv_istore_n (lv' := [(2, .int (nI (2))), (0, .ref b), (1, .int (nI (s9)))]) hx hb dX6_mixSlot_1 rfl hl (by decide) rfl (fun ls hl => ?_)
  refine lv_iload_n hx hb dX6_mixSlot_2 rfl (lv_at hl 0 rfl) ?_
  refine lv_bipush (v := nI 7) hx hb dX6_mixSlot_3 (by decide) ?_
  refine n_icmp_ge (tgt := 30) hx hb dX6_mixSlot_5 (by decide) (by decide) (by decide) (fun c_5 => ?_) (fun c_5 => ?_)
  · skip
    exact absurd c_5 (by omega)
  · skip
    refine lv_aload_n hx hb dX6_mixSlot_8 rfl (lv_at hl 1 rfl) ?_
    refine lv_aload_n hx hb dX6_mixSlot_9 rfl (lv_at hl 1 rfl) ?_
    refine q_get C0 hw mb fb fw_X6_7 rfl dX6_mixSlot_10 ?_
    refine lv_iload_n hx hb dX6_mixSlot_13 rfl (lv_at hl 2 rfl) ?_
    refine q_calli hw (q_runS (As := [.int (nI (s9))]) (c_X6_fieldAt l G L F s9 (by omega)) C0 hw sw_X6_109 rfl hl.1 rfl (Nat.le_of_ble_eq_true rfl) dX6_mixSlot_14 ⟨by decide, by decide⟩ ⟨by decide, by decide⟩) rfl rfl (fun r_11095 F_11093 H locs hw hp_11094 => ?_)
    obtain ⟨he_11096, o_11097⟩ := hp_11094
    subst he_11096
    refine lv_iload_n hx hb dX6_mixSlot_17 rfl (lv_at hl 0 rfl) ?_
    refine n_iadd hx hb dX6_mixSlot_18 ?_
    have f_11098 : F_11093 (ma 0) = .inl (G.2 0, 89, .inl zf) := (o_11097 (ma 0) ).trans fz
    refine q_iald C0 hw ((hma 0 (by decide))) f_11098 (5 + 7 * s9 + 2) (by omega) (by decide) (v := nI ((A.1.2.2.2.2.2 s9 2).val)) (hrw s9 2 (by omega) (by omega)) dX6_mixSlot_19 ?_
    have := (A.1.2.2.2.2.2 s9 2).isLt
    refine n_i2l hx hb (by omega) dX6_mixSlot_20 ?_
    have f_11099 : F_11093 b = mO ma mi hh := (o_11097 b ).trans fb
    refine q_callv hw (q_runV (As := [.long (lN ((A.1.2.2.2.2.2 s9 2).val))]) (c_X6_mix l G L F_11093 b ma mi hh (lN ((A.1.2.2.2.2.2 s9 2).val)) mb f_11099) C0 hw vw_X6_240 mb f_11099 rfl rfl rfl hl.1 rfl (Nat.le_of_ble_eq_true rfl) dX6_mixSlot_21 ⟨by decide, by decide⟩ ⟨by decide, by decide⟩) rfl rfl (fun F_11100 H locs hw hp_11101 => ?_)
    obtain ⟨hs_11102, eh_11103⟩ : ∃ h9 : Int64, h9 = lN 31 * hh + lN ((A.1.2.2.2.2.2 s9 2).val) := ⟨_, rfl⟩
    have f_11104 : F_11100 b = mO ma mi hs_11102 := by rw [eh_11103]; exact hp_11101.1
    refine lv_iinc (v := nI 3) (lv' := [(2, .int (nI (3))), (0, .ref b), (1, .int (nI (s9)))]) hx hb dX6_mixSlot_24 hl (k := 0) rfl (by decide) (by decide) rfl (fun ls hl => ?_)
    refine lv_goto (tgt := 2) hx hb dX6_mixSlot_27 (by decide) ?_
    refine lv_iload_n hx hb dX6_mixSlot_2 rfl (lv_at hl 0 rfl) ?_
    refine lv_bipush (v := nI 7) hx hb dX6_mixSlot_3 (by decide) ?_
    refine n_icmp_ge (tgt := 30) hx hb dX6_mixSlot_5 (by decide) (by decide) (by decide) (fun c_5 => ?_) (fun c_5 => ?_)
    · skip
      exact absurd c_5 (by omega)
    · skip
      refine lv_aload_n hx hb dX6_mixSlot_8 rfl (lv_at hl 1 rfl) ?_
      refine lv_aload_n hx hb dX6_mixSlot_9 rfl (lv_at hl 1 rfl) ?_
      refine q_get C0 hw mb f_11104 fw_X6_7 rfl dX6_mixSlot_10 ?_
      refine lv_iload_n hx hb dX6_mixSlot_13 rfl (lv_at hl 2 rfl) ?_
      refine q_calli hw (q_runS (As := [.int (nI (s9))]) (c_X6_fieldAt l G L F_11100 s9 (by omega)) C0 hw sw_X6_109 rfl hl.1 rfl (Nat.le_of_ble_eq_true rfl) dX6_mixSlot_14 ⟨by decide, by decide⟩ ⟨by decide, by decide⟩) rfl rfl (fun r_11107 F_11105 H locs hw hp_11106 => ?_)
      obtain ⟨he_11108, o_11109⟩ := hp_11106
      subst he_11108
      refine lv_iload_n hx hb dX6_mixSlot_17 rfl (lv_at hl 0 rfl) ?_
      refine n_iadd hx hb dX6_mixSlot_18 ?_
      have f_11110 : F_11100 (ma 0) = .inl (G.2 0, 89, .inl zf) := (hp_11101.2 (ma 0) (ne_ao f_11098 f_11099)).trans f_11098
      have f_11111 : F_11105 (ma 0) = .inl (G.2 0, 89, .inl zf) := (o_11109 (ma 0) ).trans f_11110
      refine q_iald C0 hw ((hma 0 (by decide))) f_11111 (5 + 7 * s9 + 3) (by omega) (by decide) (v := nI ((A.1.2.2.2.2.2 s9 3).val)) (hrw s9 3 (by omega) (by omega)) dX6_mixSlot_19 ?_
      have := (A.1.2.2.2.2.2 s9 3).isLt
      refine n_i2l hx hb (by omega) dX6_mixSlot_20 ?_
      have f_11112 : F_11105 b = mO ma mi hs_11102 := (o_11109 b ).trans f_11104
      refine q_callv hw (q_runV (As := [.long (lN ((A.1.2.2.2.2.2 s9 3).val))]) (c_X6_mix l G L F_11105 b ma mi hs_11102 (lN ((A.1.2.2.2.2.2 s9 3).val)) mb f_11112) C0 hw vw_X6_240 mb f_11112 rfl rfl rfl hl.1 rfl (Nat.le_of_ble_eq_true rfl) dX6_mixSlot_21 ⟨by decide, by decide⟩ ⟨by decide, by decide⟩) rfl rfl (fun F_11113 H locs hw hp_11114 => ?_)
      obtain ⟨hs_11115, eh_11116⟩ : ∃ h9 : Int64, h9 = lN 31 * hs_11102 + lN ((A.1.2.2.2.2.2 s9 3).val) := ⟨_, rfl⟩
      have f_11117 : F_11113 b = mO ma mi hs_11115 := by rw [eh_11116]; exact hp_11114.1
      refine lv_iinc (v := nI 4) (lv' := [(2, .int (nI (4))), (0, .ref b), (1, .int (nI (s9)))]) hx hb dX6_mixSlot_24 hl (k := 0) rfl (by decide) (by decide) rfl (fun ls hl => ?_)
      refine lv_goto (tgt := 2) hx hb dX6_mixSlot_27 (by decide) ?_
      refine lv_iload_n hx hb dX6_mixSlot_2 rfl (lv_at hl 0 rfl) ?_
      refine lv_bipush (v := nI 7) hx hb dX6_mixSlot_3 (by decide) ?_
      refine n_icmp_ge (tgt := 30) hx hb dX6_mixSlot_5 (by decide) (by decide) (by decide) (fun c_5 => ?_) (fun c_5 => ?_)
      · skip
        exact absurd c_5 (by omega)
      · skip
        refine lv_aload_n hx hb dX6_mixSlot_8 rfl (lv_at hl 1 rfl) ?_
        refine lv_aload_n hx hb dX6_mixSlot_9 rfl (lv_at hl 1 rfl) ?_
        refine q_get C0 hw mb f_11117 fw_X6_7 rfl dX6_mixSlot_10 ?_
        refine lv_iload_n hx hb dX6_mixSlot_13 rfl (lv_at hl 2 rfl) ?_
        refine q_calli hw (q_runS (As := [.int (nI (s9))]) (c_X6_fieldAt l G L F_11113 s9 (by omega)) C0 hw sw_X6_109 rfl hl.1 rfl (Nat.le_of_ble_eq_true rfl) dX6_mixSlot_14 ⟨by decide, by decide⟩ ⟨by decide, by decide⟩) rfl rfl (fun r_11120 F_11118 H locs hw hp_11119 => ?_)
        obtain ⟨he_11121, o_11122⟩ := hp_11119
        subst he_11121
        refine lv_iload_n hx hb dX6_mixSlot_17 rfl (lv_at hl 0 rfl) ?_
        refine n_iadd hx hb dX6_mixSlot_18 ?_
        have f_11123 : F_11113 (ma 0) = .inl (G.2 0, 89, .inl zf) := (hp_11114.2 (ma 0) (ne_ao f_11111 f_11112)).trans f_11111
        have f_11124 : F_11118 (ma 0) = .inl (G.2 0, 89, .inl zf) := (o_11122 (ma 0) ).trans f_11123
        refine q_iald C0 hw ((hma 0 (by decide))) f_11124 (5 + 7 * s9 + 4) (by omega) (by decide) (v := nI ((A.1.2.2.2.2.2 s9 4).val)) (hrw s9 4 (by omega) (by omega)) dX6_mixSlot_19 ?_
        have := (A.1.2.2.2.2.2 s9 4).isLt
        refine n_i2l hx hb (by omega) dX6_mixSlot_20 ?_
        have f_11125 : F_11118 b = mO ma mi hs_11115 := (o_11122 b ).trans f_11117
        refine q_callv hw (q_runV (As := [.long (lN ((A.1.2.2.2.2.2 s9 4).val))]) (c_X6_mix l G L F_11118 b ma mi hs_11115 (lN ((A.1.2.2.2.2.2 s9 4).val)) mb f_11125) C0 hw vw_X6_240 mb f_11125 rfl rfl rfl hl.1 rfl (Nat.le_of_ble_eq_true rfl) dX6_mixSlot_21 ⟨by decide, by decide⟩ ⟨by decide, by decide⟩) rfl rfl (fun F_11126 H locs hw hp_11127 => ?_)
        obtain ⟨hs_11128, eh_11129⟩ : ∃ h9 : Int64, h9 = lN 31 * hs_11115 + lN ((A.1.2.2.2.2.2 s9 4).val) := ⟨_, rfl⟩
        have f_11130 : F_11126 b = mO ma mi hs_11128 := by rw [eh_11129]; exact hp_11127.1
        refine lv_iinc (v := nI 5) (lv' := [(2, .int (nI (5))), (0, .ref b), (1, .int (nI (s9)))]) hx hb dX6_mixSlot_24 hl (k := 0) rfl (by decide) (by decide) rfl (fun ls hl => ?_)
        refine lv_goto (tgt := 2) hx hb dX6_mixSlot_27 (by decide) ?_
        refine lv_iload_n hx hb dX6_mixSlot_2 rfl (lv_at hl 0 rfl) ?_
        refine lv_bipush (v := nI 7) hx hb dX6_mixSlot_3 (by decide) ?_
        refine n_icmp_ge (tgt := 30) hx hb dX6_mixSlot_5 (by decide) (by decide) (by decide) (fun c_5 => ?_) (fun c_5 => ?_)
        · skip
          exact absurd c_5 (by omega)
        · skip
          refine lv_aload_n hx hb dX6_mixSlot_8 rfl (lv_at hl 1 rfl) ?_
          refine lv_aload_n hx hb dX6_mixSlot_9 rfl (lv_at hl 1 rfl) ?_
          refine q_get C0 hw mb f_11130 fw_X6_7 rfl dX6_mixSlot_10 ?_
          refine lv_iload_n hx hb dX6_mixSlot_13 rfl (lv_at hl 2 rfl) ?_
          refine q_calli hw (q_runS (As := [.int (nI (s9))]) (c_X6_fieldAt l G L F_11126 s9 (by omega)) C0 hw sw_X6_109 rfl hl.1 rfl (Nat.le_of_ble_eq_true rfl) dX6_mixSlot_14 ⟨by decide, by decide⟩ ⟨by decide, by decide⟩) rfl rfl (fun r_11133 F_11131 H locs hw hp_11132 => ?_)
          obtain ⟨he_11134, o_11135⟩ := hp_11132
          subst he_11134
          refine lv_iload_n hx hb dX6_mixSlot_17 rfl (lv_at hl 0 rfl) ?_
          refine n_iadd hx hb dX6_mixSlot_18 ?_
          have f_11136 : F_11126 (ma 0) = .inl (G.2 0, 89, .inl zf) := (hp_11127.2 (ma 0) (ne_ao f_11124 f_11125)).trans f_11124
          have f_11137 : F_11131 (ma 0) = .inl (G.2 0, 89, .inl zf) := (o_11135 (ma 0) ).trans f_11136
          refine q_iald C0 hw ((hma 0 (by decide))) f_11137 (5 + 7 * s9 + 5) (by omega) (by decide) (v := nI ((A.1.2.2.2.2.2 s9 5).val)) (hrw s9 5 (by omega) (by omega)) dX6_mixSlot_19 ?_
          have := (A.1.2.2.2.2.2 s9 5).isLt
          refine n_i2l hx hb (by omega) dX6_mixSlot_20 ?_
          have f_11138 : F_11131 b = mO ma mi hs_11128 := (o_11135 b ).trans f_11130
          refine q_callv hw (q_runV (As := [.long (lN ((A.1.2.2.2.2.2 s9 5).val))]) (c_X6_mix l G L F_11131 b ma mi hs_11128 (lN ((A.1.2.2.2.2.2 s9 5).val)) mb f_11138) C0 hw vw_X6_240 mb f_11138 rfl rfl rfl hl.1 rfl (Nat.le_of_ble_eq_true rfl) dX6_mixSlot_21 ⟨by decide, by decide⟩ ⟨by decide, by decide⟩) rfl rfl (fun F_11139 H locs hw hp_11140 => ?_)
          obtain ⟨hs_11141, eh_11142⟩ : ∃ h9 : Int64, h9 = lN 31 * hs_11128 + lN ((A.1.2.2.2.2.2 s9 5).val) := ⟨_, rfl⟩
          have f_11143 : F_11139 b = mO ma mi hs_11141 := by rw [eh_11142]; exact hp_11140.1
          refine lv_iinc (v := nI 6) (lv' := [(2, .int (nI (6))), (0, .ref b), (1, .int (nI (s9)))]) hx hb dX6_mixSlot_24 hl (k := 0) rfl (by decide) (by decide) rfl (fun ls hl => ?_)
          refine lv_goto (tgt := 2) hx hb dX6_mixSlot_27 (by decide) ?_
          refine lv_iload_n hx hb dX6_mixSlot_2 rfl (lv_at hl 0 rfl) ?_
          refine lv_bipush (v := nI 7) hx hb dX6_mixSlot_3 (by decide) ?_
          refine n_icmp_ge (tgt := 30) hx hb dX6_mixSlot_5 (by decide) (by decide) (by decide) (fun c_5 => ?_) (fun c_5 => ?_)
          · skip
            exact absurd c_5 (by omega)
          · skip
            refine lv_aload_n hx hb dX6_mixSlot_8 rfl (lv_at hl 1 rfl) ?_
            refine lv_aload_n hx hb dX6_mixSlot_9 rfl (lv_at hl 1 rfl) ?_
            refine q_get C0 hw mb f_11143 fw_X6_7 rfl dX6_mixSlot_10 ?_
            refine lv_iload_n hx hb dX6_mixSlot_13 rfl (lv_at hl 2 rfl) ?_
            refine q_calli hw (q_runS (As := [.int (nI (s9))]) (c_X6_fieldAt l G L F_11139 s9 (by omega)) C0 hw sw_X6_109 rfl hl.1 rfl (Nat.le_of_ble_eq_true rfl) dX6_mixSlot_14 ⟨by decide, by decide⟩ ⟨by decide, by decide⟩) rfl rfl (fun r_11146 F_11144 H locs hw hp_11145 => ?_)
            obtain ⟨he_11147, o_11148⟩ := hp_11145
            subst he_11147
            refine lv_iload_n hx hb dX6_mixSlot_17 rfl (lv_at hl 0 rfl) ?_
            refine n_iadd hx hb dX6_mixSlot_18 ?_
            have f_11149 : F_11139 (ma 0) = .inl (G.2 0, 89, .inl zf) := (hp_11140.2 (ma 0) (ne_ao f_11137 f_11138)).trans f_11137
            have f_11150 : F_11144 (ma 0) = .inl (G.2 0, 89, .inl zf) := (o_11148 (ma 0) ).trans f_11149
            refine q_iald C0 hw ((hma 0 (by decide))) f_11150 (5 + 7 * s9 + 6) (by omega) (by decide) (v := nI ((A.1.2.2.2.2.2 s9 6).val)) (hrw s9 6 (by omega) (by omega)) dX6_mixSlot_19 ?_
            have := (A.1.2.2.2.2.2 s9 6).isLt
            refine n_i2l hx hb (by omega) dX6_mixSlot_20 ?_
            have f_11151 : F_11144 b = mO ma mi hs_11141 := (o_11148 b ).trans f_11143
            refine q_callv hw (q_runV (As := [.long (lN ((A.1.2.2.2.2.2 s9 6).val))]) (c_X6_mix l G L F_11144 b ma mi hs_11141 (lN ((A.1.2.2.2.2.2 s9 6).val)) mb f_11151) C0 hw vw_X6_240 mb f_11151 rfl rfl rfl hl.1 rfl (Nat.le_of_ble_eq_true rfl) dX6_mixSlot_21 ⟨by decide, by decide⟩ ⟨by decide, by decide⟩) rfl rfl (fun F_11152 H locs hw hp_11153 => ?_)
            obtain ⟨hs_11154, eh_11155⟩ : ∃ h9 : Int64, h9 = lN 31 * hs_11141 + lN ((A.1.2.2.2.2.2 s9 6).val) := ⟨_, rfl⟩
            have f_11156 : F_11152 b = mO ma mi hs_11154 := by rw [eh_11155]; exact hp_11153.1
            refine lv_iinc (v := nI 7) (lv' := [(2, .int (nI (7))), (0, .ref b), (1, .int (nI (s9)))]) hx hb dX6_mixSlot_24 hl (k := 0) rfl (by decide) (by decide) rfl (fun ls hl => ?_)
            refine lv_goto (tgt := 2) hx hb dX6_mixSlot_27 (by decide) ?_
            refine lv_iload_n hx hb dX6_mixSlot_2 rfl (lv_at hl 0 rfl) ?_
            refine lv_bipush (v := nI 7) hx hb dX6_mixSlot_3 (by decide) ?_
            refine n_icmp_ge (tgt := 30) hx hb dX6_mixSlot_5 (by decide) (by decide) (by decide) (fun c_5 => ?_) (fun c_5 => ?_)
            · skip
              refine lv_iconst (v := nI 2) hx hb dX6_mixSlot_30 (by decide) ?_
              refine lv_istore_n (lv' := [(2, .int (nI (2))), (0, .ref b), (1, .int (nI (s9)))]) hx hb dX6_mixSlot_31 rfl hl (by decide) rfl (fun ls hl => ?_)
              refine lv_iload_n hx hb dX6_mixSlot_32 rfl (lv_at hl 0 rfl) ?_
              refine lv_bipush (v := nI 7) hx hb dX6_mixSlot_33 (by decide) ?_
              refine n_icmp_ge (tgt := 60) hx hb dX6_mixSlot_35 (by decide) (by decide) (by decide) (fun c_35 => ?_) (fun c_35 => ?_)
              · skip
                exact absurd c_35 (by omega)
              · skip
                refine lv_aload_n hx hb dX6_mixSlot_38 rfl (lv_at hl 1 rfl) ?_
                refine lv_aload_n hx hb dX6_mixSlot_39 rfl (lv_at hl 1 rfl) ?_
                refine q_get C0 hw mb f_11156 fw_X6_7 rfl dX6_mixSlot_40 ?_
                refine lv_iload_n hx hb dX6_mixSlot_43 rfl (lv_at hl 2 rfl) ?_
                refine q_calli hw (q_runS (As := [.int (nI (s9))]) (c_X6_flowAt2 l G L F_11152 s9 (by omega)) C0 hw sw_X6_138 rfl hl.1 rfl (Nat.le_of_ble_eq_true rfl) dX6_mixSlot_44 ⟨by decide, by decide⟩ ⟨by decide, by decide⟩) rfl rfl (fun r_11159 F_11157 H locs hw hp_11158 => ?_)
                obtain ⟨he_11160, o_11161⟩ := hp_11158
                subst he_11160
                refine lv_iload_n hx hb dX6_mixSlot_47 rfl (lv_at hl 0 rfl) ?_
                refine n_iadd hx hb dX6_mixSlot_48 ?_
                have f_11162 : F_11152 (ma 0) = .inl (G.2 0, 89, .inl zf) := (hp_11153.2 (ma 0) (ne_ao f_11150 f_11151)).trans f_11150
                have f_11163 : F_11157 (ma 0) = .inl (G.2 0, 89, .inl zf) := (o_11161 (ma 0) ).trans f_11162
                refine q_iald C0 hw ((hma 0 (by decide))) f_11163 (5 + 7 * (6 + s9) + 2) (by omega) (by decide) (v := nI ((A.1.2.2.2.2.2 (6 + s9) 2).val)) (hrw (6 + s9) 2 (by omega) (by omega)) dX6_mixSlot_49 ?_
                have := (A.1.2.2.2.2.2 (6 + s9) 2).isLt
                refine n_i2l hx hb (by omega) dX6_mixSlot_50 ?_
                have f_11164 : F_11157 b = mO ma mi hs_11154 := (o_11161 b ).trans f_11156
                refine q_callv hw (q_runV (As := [.long (lN ((A.1.2.2.2.2.2 (6 + s9) 2).val))]) (c_X6_mix l G L F_11157 b ma mi hs_11154 (lN ((A.1.2.2.2.2.2 (6 + s9) 2).val)) mb f_11164) C0 hw vw_X6_240 mb f_11164 rfl rfl rfl hl.1 rfl (Nat.le_of_ble_eq_true rfl) dX6_mixSlot_51 ⟨by decide, by decide⟩ ⟨by decide, by decide⟩) rfl rfl (fun F_11165 H locs hw hp_11166 => ?_)
                obtain ⟨hs_11167, eh_11168⟩ : ∃ h9 : Int64, h9 = lN 31 * hs_11154 + lN ((A.1.2.2.2.2.2 (6 + s9) 2).val) := ⟨_, rfl⟩
                have f_11169 : F_11165 b = mO ma mi hs_11167 := by rw [eh_11168]; exact hp_11166.1
                refine lv_iinc (v := nI 3) (lv' := [(2, .int (nI (3))), (0, .ref b), (1, .int (nI (s9)))]) hx hb dX6_mixSlot_54 hl (k := 0) rfl (by decide) (by decide) rfl (fun ls hl => ?_)
                refine lv_goto (tgt := 32) hx hb dX6_mixSlot_57 (by decide) ?_
                refine lv_iload_n hx hb dX6_mixSlot_32 rfl (lv_at hl 0 rfl) ?_
                refine lv_bipush (v := nI 7) hx hb dX6_mixSlot_33 (by decide) ?_
                refine n_icmp_ge (tgt := 60) hx hb dX6_mixSlot_35 (by decide) (by decide) (by decide) (fun c_35 => ?_) (fun c_35 => ?_)
                · skip
                  exact absurd c_35 (by omega)
                · skip
                  refine lv_aload_n hx hb dX6_mixSlot_38 rfl (lv_at hl 1 rfl) ?_
                  refine lv_aload_n hx hb dX6_mixSlot_39 rfl (lv_at hl 1 rfl) ?_
                  refine q_get C0 hw mb f_11169 fw_X6_7 rfl dX6_mixSlot_40 ?_
                  refine lv_iload_n hx hb dX6_mixSlot_43 rfl (lv_at hl 2 rfl) ?_
                  refine q_calli hw (q_runS (As := [.int (nI (s9))]) (c_X6_flowAt2 l G L F_11165 s9 (by omega)) C0 hw sw_X6_138 rfl hl.1 rfl (Nat.le_of_ble_eq_true rfl) dX6_mixSlot_44 ⟨by decide, by decide⟩ ⟨by decide, by decide⟩) rfl rfl (fun r_11172 F_11170 H locs hw hp_11171 => ?_)
                  obtain ⟨he_11173, o_11174⟩ := hp_11171
                  subst he_11173
                  refine lv_iload_n hx hb dX6_mixSlot_47 rfl (lv_at hl 0 rfl) ?_
                  refine n_iadd hx hb dX6_mixSlot_48 ?_
                  have f_11175 : F_11165 (ma 0) = .inl (G.2 0, 89, .inl zf) := (hp_11166.2 (ma 0) (ne_ao f_11163 f_11164)).trans f_11163
                  have f_11176 : F_11170 (ma 0) = .inl (G.2 0, 89, .inl zf) := (o_11174 (ma 0) ).trans f_11175
                  refine q_iald C0 hw ((hma 0 (by decide))) f_11176 (5 + 7 * (6 + s9) + 3) (by omega) (by decide) (v := nI ((A.1.2.2.2.2.2 (6 + s9) 3).val)) (hrw (6 + s9) 3 (by omega) (by omega)) dX6_mixSlot_49 ?_
                  have := (A.1.2.2.2.2.2 (6 + s9) 3).isLt
                  refine n_i2l hx hb (by omega) dX6_mixSlot_50 ?_
                  have f_11177 : F_11170 b = mO ma mi hs_11167 := (o_11174 b ).trans f_11169
                  refine q_callv hw (q_runV (As := [.long (lN ((A.1.2.2.2.2.2 (6 + s9) 3).val))]) (c_X6_mix l G L F_11170 b ma mi hs_11167 (lN ((A.1.2.2.2.2.2 (6 + s9) 3).val)) mb f_11177) C0 hw vw_X6_240 mb f_11177 rfl rfl rfl hl.1 rfl (Nat.le_of_ble_eq_true rfl) dX6_mixSlot_51 ⟨by decide, by decide⟩ ⟨by decide, by decide⟩) rfl rfl (fun F_11178 H locs hw hp_11179 => ?_)
                  obtain ⟨hs_11180, eh_11181⟩ : ∃ h9 : Int64, h9 = lN 31 * hs_11167 + lN ((A.1.2.2.2.2.2 (6 + s9) 3).val) := ⟨_, rfl⟩
                  have f_11182 : F_11178 b = mO ma mi hs_11180 := by rw [eh_11181]; exact hp_11179.1
                  refine lv_iinc (v := nI 4) (lv' := [(2, .int (nI (4))), (0, .ref b), (1, .int (nI (s9)))]) hx hb dX6_mixSlot_54 hl (k := 0) rfl (by decide) (by decide) rfl (fun ls hl => ?_)
                  refine lv_goto (tgt := 32) hx hb dX6_mixSlot_57 (by decide) ?_
                  refine lv_iload_n hx hb dX6_mixSlot_32 rfl (lv_at hl 0 rfl) ?_
                  refine lv_bipush (v := nI 7) hx hb dX6_mixSlot_33 (by decide) ?_
                  refine n_icmp_ge (tgt := 60) hx hb dX6_mixSlot_35 (by decide) (by decide) (by decide) (fun c_35 => ?_) (fun c_35 => ?_)
                  · skip
                    exact absurd c_35 (by omega)
                  · skip
                    refine lv_aload_n hx hb dX6_mixSlot_38 rfl (lv_at hl 1 rfl) ?_
                    refine lv_aload_n hx hb dX6_mixSlot_39 rfl (lv_at hl 1 rfl) ?_
                    refine q_get C0 hw mb f_11182 fw_X6_7 rfl dX6_mixSlot_40 ?_
                    refine lv_iload_n hx hb dX6_mixSlot_43 rfl (lv_at hl 2 rfl) ?_
                    refine q_calli hw (q_runS (As := [.int (nI (s9))]) (c_X6_flowAt2 l G L F_11178 s9 (by omega)) C0 hw sw_X6_138 rfl hl.1 rfl (Nat.le_of_ble_eq_true rfl) dX6_mixSlot_44 ⟨by decide, by decide⟩ ⟨by decide, by decide⟩) rfl rfl (fun r_11185 F_11183 H locs hw hp_11184 => ?_)
                    obtain ⟨he_11186, o_11187⟩ := hp_11184
                    subst he_11186
                    refine lv_iload_n hx hb dX6_mixSlot_47 rfl (lv_at hl 0 rfl) ?_
                    refine n_iadd hx hb dX6_mixSlot_48 ?_
                    have f_11188 : F_11178 (ma 0) = .inl (G.2 0, 89, .inl zf) := (hp_11179.2 (ma 0) (ne_ao f_11176 f_11177)).trans f_11176
                    have f_11189 : F_11183 (ma 0) = .inl (G.2 0, 89, .inl zf) := (o_11187 (ma 0) ).trans f_11188
                    refine q_iald C0 hw ((hma 0 (by decide))) f_11189 (5 + 7 * (6 + s9) + 4) (by omega) (by decide) (v := nI ((A.1.2.2.2.2.2 (6 + s9) 4).val)) (hrw (6 + s9) 4 (by omega) (by omega)) dX6_mixSlot_49 ?_
                    have := (A.1.2.2.2.2.2 (6 + s9) 4).isLt
                    refine n_i2l hx hb (by omega) dX6_mixSlot_50 ?_
                    have f_11190 : F_11183 b = mO ma mi hs_11180 := (o_11187 b ).trans f_11182
                    refine q_callv hw (q_runV (As := [.long (lN ((A.1.2.2.2.2.2 (6 + s9) 4).val))]) (c_X6_mix l G L F_11183 b ma mi hs_11180 (lN ((A.1.2.2.2.2.2 (6 + s9) 4).val)) mb f_11190) C0 hw vw_X6_240 mb f_11190 rfl rfl rfl hl.1 rfl (Nat.le_of_ble_eq_true rfl) dX6_mixSlot_51 ⟨by decide, by decide⟩ ⟨by decide, by decide⟩) rfl rfl (fun F_11191 H locs hw hp_11192 => ?_)
                    obtain ⟨hs_11193, eh_11194⟩ : ∃ h9 : Int64, h9 = lN 31 * hs_11180 + lN ((A.1.2.2.2.2.2 (6 + s9) 4).val) := ⟨_, rfl⟩
                    have f_11195 : F_11191 b = mO ma mi hs_11193 := by rw [eh_11194]; exact hp_11192.1
                    refine lv_iinc (v := nI 5) (lv' := [(2, .int (nI (5))), (0, .ref b), (1, .int (nI (s9)))]) hx hb dX6_mixSlot_54 hl (k := 0) rfl (by decide) (by decide) rfl (fun ls hl => ?_)
                    refine lv_goto (tgt := 32) hx hb dX6_mixSlot_57 (by decide) ?_
                    refine lv_iload_n hx hb dX6_mixSlot_32 rfl (lv_at hl 0 rfl) ?_
                    refine lv_bipush (v := nI 7) hx hb dX6_mixSlot_33 (by decide) ?_
                    refine n_icmp_ge (tgt := 60) hx hb dX6_mixSlot_35 (by decide) (by decide) (by decide) (fun c_35 => ?_) (fun c_35 => ?_)
                    · skip
                      exact absurd c_35 (by omega)
                    · skip
                      refine lv_aload_n hx hb dX6_mixSlot_38 rfl (lv_at hl 1 rfl) ?_
                      refine lv_aload_n hx hb dX6_mixSlot_39 rfl (lv_at hl 1 rfl) ?_
                      refine q_get C0 hw mb f_11195 fw_X6_7 rfl dX6_mixSlot_40 ?_
                      refine lv_iload_n hx hb dX6_mixSlot_43 rfl (lv_at hl 2 rfl) ?_
                      refine q_calli hw (q_runS (As := [.int (nI (s9))]) (c_X6_flowAt2 l G L F_11191 s9 (by omega)) C0 hw sw_X6_138 rfl hl.1 rfl (Nat.le_of_ble_eq_true rfl) dX6_mixSlot_44 ⟨by decide, by decide⟩ ⟨by decide, by decide⟩) rfl rfl (fun r_11198 F_11196 H locs hw hp_11197 => ?_)
                      obtain ⟨he_11199, o_11200⟩ := hp_11197
                      subst he_11199
                      refine lv_iload_n hx hb dX6_mixSlot_47 rfl (lv_at hl 0 rfl) ?_
                      refine n_iadd hx hb dX6_mixSlot_48 ?_
                      have f_11201 : F_11191 (ma 0) = .inl (G.2 0, 89, .inl zf) := (hp_11192.2 (ma 0) (ne_ao f_11189 f_11190)).trans f_11189
                      have f_11202 : F_11196 (ma 0) = .inl (G.2 0, 89, .inl zf) := (o_11200 (ma 0) ).trans f_11201
                      refine q_iald C0 hw ((hma 0 (by decide))) f_11202 (5 + 7 * (6 + s9) + 5) (by omega) (by decide) (v := nI ((A.1.2.2.2.2.2 (6 + s9) 5).val)) (hrw (6 + s9) 5 (by omega) (by omega)) dX6_mixSlot_49 ?_
                      have := (A.1.2.2.2.2.2 (6 + s9) 5).isLt
                      refine n_i2l hx hb (by omega) dX6_mixSlot_50 ?_
                      have f_11203 : F_11196 b = mO ma mi hs_11193 := (o_11200 b ).trans f_11195
                      refine q_callv hw (q_runV (As := [.long (lN ((A.1.2.2.2.2.2 (6 + s9) 5).val))]) (c_X6_mix l G L F_11196 b ma mi hs_11193 (lN ((A.1.2.2.2.2.2 (6 + s9) 5).val)) mb f_11203) C0 hw vw_X6_240 mb f_11203 rfl rfl rfl hl.1 rfl (Nat.le_of_ble_eq_true rfl) dX6_mixSlot_51 ⟨by decide, by decide⟩ ⟨by decide, by decide⟩) rfl rfl (fun F_11204 H locs hw hp_11205 => ?_)
                      obtain ⟨hs_11206, eh_11207⟩ : ∃ h9 : Int64, h9 = lN 31 * hs_11193 + lN ((A.1.2.2.2.2.2 (6 + s9) 5).val) := ⟨_, rfl⟩
                      have f_11208 : F_11204 b = mO ma mi hs_11206 := by rw [eh_11207]; exact hp_11205.1
                      refine lv_iinc (v := nI 6) (lv' := [(2, .int (nI (6))), (0, .ref b), (1, .int (nI (s9)))]) hx hb dX6_mixSlot_54 hl (k := 0) rfl (by decide) (by decide) rfl (fun ls hl => ?_)
                      refine lv_goto (tgt := 32) hx hb dX6_mixSlot_57 (by decide) ?_
                      refine lv_iload_n hx hb dX6_mixSlot_32 rfl (lv_at hl 0 rfl) ?_
                      refine lv_bipush (v := nI 7) hx hb dX6_mixSlot_33 (by decide) ?_
                      refine n_icmp_ge (tgt := 60) hx hb dX6_mixSlot_35 (by decide) (by decide) (by decide) (fun c_35 => ?_) (fun c_35 => ?_)
                      · skip
                        exact absurd c_35 (by omega)
                      · skip
                        refine lv_aload_n hx hb dX6_mixSlot_38 rfl (lv_at hl 1 rfl) ?_
                        refine lv_aload_n hx hb dX6_mixSlot_39 rfl (lv_at hl 1 rfl) ?_
                        refine q_get C0 hw mb f_11208 fw_X6_7 rfl dX6_mixSlot_40 ?_
                        refine lv_iload_n hx hb dX6_mixSlot_43 rfl (lv_at hl 2 rfl) ?_
                        refine q_calli hw (q_runS (As := [.int (nI (s9))]) (c_X6_flowAt2 l G L F_11204 s9 (by omega)) C0 hw sw_X6_138 rfl hl.1 rfl (Nat.le_of_ble_eq_true rfl) dX6_mixSlot_44 ⟨by decide, by decide⟩ ⟨by decide, by decide⟩) rfl rfl (fun r_11211 F_11209 H locs hw hp_11210 => ?_)
                        obtain ⟨he_11212, o_11213⟩ := hp_11210
                        subst he_11212
                        refine lv_iload_n hx hb dX6_mixSlot_47 rfl (lv_at hl 0 rfl) ?_
                        refine n_iadd hx hb dX6_mixSlot_48 ?_
                        have f_11214 : F_11204 (ma 0) = .inl (G.2 0, 89, .inl zf) := (hp_11205.2 (ma 0) (ne_ao f_11202 f_11203)).trans f_11202
                        have f_11215 : F_11209 (ma 0) = .inl (G.2 0, 89, .inl zf) := (o_11213 (ma 0) ).trans f_11214
                        refine q_iald C0 hw ((hma 0 (by decide))) f_11215 (5 + 7 * (6 + s9) + 6) (by omega) (by decide) (v := nI ((A.1.2.2.2.2.2 (6 + s9) 6).val)) (hrw (6 + s9) 6 (by omega) (by omega)) dX6_mixSlot_49 ?_
                        have := (A.1.2.2.2.2.2 (6 + s9) 6).isLt
                        refine n_i2l hx hb (by omega) dX6_mixSlot_50 ?_
                        have f_11216 : F_11209 b = mO ma mi hs_11206 := (o_11213 b ).trans f_11208
                        refine q_callv hw (q_runV (As := [.long (lN ((A.1.2.2.2.2.2 (6 + s9) 6).val))]) (c_X6_mix l G L F_11209 b ma mi hs_11206 (lN ((A.1.2.2.2.2.2 (6 + s9) 6).val)) mb f_11216) C0 hw vw_X6_240 mb f_11216 rfl rfl rfl hl.1 rfl (Nat.le_of_ble_eq_true rfl) dX6_mixSlot_51 ⟨by decide, by decide⟩ ⟨by decide, by decide⟩) rfl rfl (fun F_11217 H locs hw hp_11218 => ?_)
                        obtain ⟨hs_11219, eh_11220⟩ : ∃ h9 : Int64, h9 = lN 31 * hs_11206 + lN ((A.1.2.2.2.2.2 (6 + s9) 6).val) := ⟨_, rfl⟩
                        have f_11221 : F_11217 b = mO ma mi hs_11219 := by rw [eh_11220]; exact hp_11218.1
                        refine lv_iinc (v := nI 7) (lv' := [(2, .int (nI (7))), (0, .ref b), (1, .int (nI (s9)))]) hx hb dX6_mixSlot_54 hl (k := 0) rfl (by decide) (by decide) rfl (fun ls hl => ?_)
                        refine lv_goto (tgt := 32) hx hb dX6_mixSlot_57 (by decide) ?_
                        refine lv_iload_n hx hb dX6_mixSlot_32 rfl (lv_at hl 0 rfl) ?_
                        refine lv_bipush (v := nI 7) hx hb dX6_mixSlot_33 (by decide) ?_
                        refine n_icmp_ge (tgt := 60) hx hb dX6_mixSlot_35 (by decide) (by decide) (by decide) (fun c_35 => ?_) (fun c_35 => ?_)
                        · skip
                          refine lv_aload_n hx hb dX6_mixSlot_60 rfl (lv_at hl 1 rfl) ?_
                          refine lv_aload_n hx hb dX6_mixSlot_61 rfl (lv_at hl 1 rfl) ?_
                          refine lv_iload_n hx hb dX6_mixSlot_62 rfl (lv_at hl 2 rfl) ?_
                          refine q_calli hw (q_runS (As := [.int (nI (s9))]) (c_X6_fieldAt l G L F_11217 s9 (by omega)) C0 hw sw_X6_109 rfl hl.1 rfl (Nat.le_of_ble_eq_true rfl) dX6_mixSlot_63 ⟨by decide, by decide⟩ ⟨by decide, by decide⟩) rfl rfl (fun r_11224 F_11222 H locs hw hp_11223 => ?_)
                          obtain ⟨he_11225, o_11226⟩ := hp_11223
                          subst he_11225
                          refine lv_iconst (v := nI 3) hx hb dX6_mixSlot_66 (by decide) ?_
                          have f_11227 : F_11222 b = mO ma mi hs_11219 := (o_11226 b ).trans f_11221
                          have f_11228 : F_11093 (ma 4) = pcE G pl := (o_11097 (ma 4) ).trans fp
                          have f_11229 : F_11100 (ma 4) = pcE G pl := (hp_11101.2 (ma 4) (ne_ao f_11228 f_11099)).trans f_11228
                          have f_11230 : F_11105 (ma 4) = pcE G pl := (o_11109 (ma 4) ).trans f_11229
                          have f_11231 : F_11113 (ma 4) = pcE G pl := (hp_11114.2 (ma 4) (ne_ao f_11230 f_11112)).trans f_11230
                          have f_11232 : F_11118 (ma 4) = pcE G pl := (o_11122 (ma 4) ).trans f_11231
                          have f_11233 : F_11126 (ma 4) = pcE G pl := (hp_11127.2 (ma 4) (ne_ao f_11232 f_11125)).trans f_11232
                          have f_11234 : F_11131 (ma 4) = pcE G pl := (o_11135 (ma 4) ).trans f_11233
                          have f_11235 : F_11139 (ma 4) = pcE G pl := (hp_11140.2 (ma 4) (ne_ao f_11234 f_11138)).trans f_11234
                          have f_11236 : F_11144 (ma 4) = pcE G pl := (o_11148 (ma 4) ).trans f_11235
                          have f_11237 : F_11152 (ma 4) = pcE G pl := (hp_11153.2 (ma 4) (ne_ao f_11236 f_11151)).trans f_11236
                          have f_11238 : F_11157 (ma 4) = pcE G pl := (o_11161 (ma 4) ).trans f_11237
                          have f_11239 : F_11165 (ma 4) = pcE G pl := (hp_11166.2 (ma 4) (ne_ao f_11238 f_11164)).trans f_11238
                          have f_11240 : F_11170 (ma 4) = pcE G pl := (o_11174 (ma 4) ).trans f_11239
                          have f_11241 : F_11178 (ma 4) = pcE G pl := (hp_11179.2 (ma 4) (ne_ao f_11240 f_11177)).trans f_11240
                          have f_11242 : F_11183 (ma 4) = pcE G pl := (o_11187 (ma 4) ).trans f_11241
                          have f_11243 : F_11191 (ma 4) = pcE G pl := (hp_11192.2 (ma 4) (ne_ao f_11242 f_11190)).trans f_11242
                          have f_11244 : F_11196 (ma 4) = pcE G pl := (o_11200 (ma 4) ).trans f_11243
                          have f_11245 : F_11204 (ma 4) = pcE G pl := (hp_11205.2 (ma 4) (ne_ao f_11244 f_11203)).trans f_11244
                          have f_11246 : F_11209 (ma 4) = pcE G pl := (o_11213 (ma 4) ).trans f_11245
                          have f_11247 : F_11217 (ma 4) = pcE G pl := (hp_11218.2 (ma 4) (ne_ao f_11246 f_11216)).trans f_11246
                          have f_11248 : F_11222 (ma 4) = pcE G pl := (o_11226 (ma 4) ).trans f_11247
                          have f_11249 : F_11217 (ma 0) = .inl (G.2 0, 89, .inl zf) := (hp_11218.2 (ma 0) (ne_ao f_11215 f_11216)).trans f_11215
                          have f_11250 : F_11222 (ma 0) = .inl (G.2 0, 89, .inl zf) := (o_11226 (ma 0) ).trans f_11249
                          refine q_calli hw (q_runV (As := [.int (nI (5 + 7 * s9)), .int (nI (3))]) (c_X6_valueAt l G L F_11222 b ma mi hs_11219 pl zf A.1.1 A.1.2.2.2.2.2 s9 (zc 3) mb f_11227 hma f_11248 f_11250 hz0 (by omega) (by omega) (by omega) hrw) C0 hw vw_X6_208 mb f_11227 rfl rfl rfl hl.1 rfl (Nat.le_of_ble_eq_true rfl) dX6_mixSlot_67 ⟨by decide, by decide⟩ ⟨by decide, by decide⟩) rfl rfl (fun r_11253 F_11251 H locs hw hp_11252 => ?_)
                          obtain ⟨he_11254, o_11255⟩ := hp_11252
                          subst he_11254
                          refine lv_i2l (v := (nI ((m_val (A.1.2.2.2.2.2 s9) (zc 3)).val)).toInt64) hx hb dX6_mixSlot_70 rfl ?_
                          have f_11256 : F_11251 b = mO ma mi hs_11219 := (o_11255 b ).trans f_11227
                          refine q_callv hw (q_runV (As := [.long ((nI ((m_val (A.1.2.2.2.2.2 s9) (zc 3)).val)).toInt64)]) (c_X6_mix l G L F_11251 b ma mi hs_11219 (((nI ((m_val (A.1.2.2.2.2.2 s9) (zc 3)).val)).toInt64)) mb f_11256) C0 hw vw_X6_240 mb f_11256 rfl rfl rfl hl.1 rfl (Nat.le_of_ble_eq_true rfl) dX6_mixSlot_71 ⟨by decide, by decide⟩ ⟨by decide, by decide⟩) rfl rfl (fun F_11257 H locs hw hp_11258 => ?_)
                          obtain ⟨hs_11259, eh_11260⟩ : ∃ h9 : Int64, h9 = lN 31 * hs_11219 + ((nI ((m_val (A.1.2.2.2.2.2 s9) (zc 3)).val)).toInt64) := ⟨_, rfl⟩
                          have f_11261 : F_11257 b = mO ma mi hs_11259 := by rw [eh_11260]; exact hp_11258.1
                          refine lv_aload_n hx hb dX6_mixSlot_74 rfl (lv_at hl 1 rfl) ?_
                          refine lv_aload_n hx hb dX6_mixSlot_75 rfl (lv_at hl 1 rfl) ?_
                          refine lv_iload_n hx hb dX6_mixSlot_76 rfl (lv_at hl 2 rfl) ?_
                          refine q_calli hw (q_runS (As := [.int (nI (s9))]) (c_X6_flowAt2 l G L F_11257 s9 (by omega)) C0 hw sw_X6_138 rfl hl.1 rfl (Nat.le_of_ble_eq_true rfl) dX6_mixSlot_77 ⟨by decide, by decide⟩ ⟨by decide, by decide⟩) rfl rfl (fun r_11264 F_11262 H locs hw hp_11263 => ?_)
                          obtain ⟨he_11265, o_11266⟩ := hp_11263
                          subst he_11265
                          refine lv_iconst (v := nI 3) hx hb dX6_mixSlot_80 (by decide) ?_
                          have f_11267 : F_11262 b = mO ma mi hs_11259 := (o_11266 b ).trans f_11261
                          have f_11268 : F_11251 (ma 4) = pcE G pl := (o_11255 (ma 4) ).trans f_11248
                          have f_11269 : F_11257 (ma 4) = pcE G pl := (hp_11258.2 (ma 4) (ne_ao f_11268 f_11256)).trans f_11268
                          have f_11270 : F_11262 (ma 4) = pcE G pl := (o_11266 (ma 4) ).trans f_11269
                          have f_11271 : F_11251 (ma 0) = .inl (G.2 0, 89, .inl zf) := (o_11255 (ma 0) ).trans f_11250
                          have f_11272 : F_11257 (ma 0) = .inl (G.2 0, 89, .inl zf) := (hp_11258.2 (ma 0) (ne_ao f_11271 f_11256)).trans f_11271
                          have f_11273 : F_11262 (ma 0) = .inl (G.2 0, 89, .inl zf) := (o_11266 (ma 0) ).trans f_11272
                          refine q_calli hw (q_runV (As := [.int (nI (5 + 7 * (6 + s9))), .int (nI (3))]) (c_X6_valueAt l G L F_11262 b ma mi hs_11259 pl zf A.1.1 A.1.2.2.2.2.2 (6 + s9) (zc 3) mb f_11267 hma f_11270 f_11273 hz0 (by omega) (by omega) (by omega) hrw) C0 hw vw_X6_208 mb f_11267 rfl rfl rfl hl.1 rfl (Nat.le_of_ble_eq_true rfl) dX6_mixSlot_81 ⟨by decide, by decide⟩ ⟨by decide, by decide⟩) rfl rfl (fun r_11276 F_11274 H locs hw hp_11275 => ?_)
                          obtain ⟨he_11277, o_11278⟩ := hp_11275
                          subst he_11277
                          refine lv_i2l (v := (nI ((m_val (A.1.2.2.2.2.2 (6 + s9)) (zc 3)).val)).toInt64) hx hb dX6_mixSlot_84 rfl ?_
                          have f_11279 : F_11274 b = mO ma mi hs_11259 := (o_11278 b ).trans f_11267
                          refine q_callv hw (q_runV (As := [.long ((nI ((m_val (A.1.2.2.2.2.2 (6 + s9)) (zc 3)).val)).toInt64)]) (c_X6_mix l G L F_11274 b ma mi hs_11259 (((nI ((m_val (A.1.2.2.2.2.2 (6 + s9)) (zc 3)).val)).toInt64)) mb f_11279) C0 hw vw_X6_240 mb f_11279 rfl rfl rfl hl.1 rfl (Nat.le_of_ble_eq_true rfl) dX6_mixSlot_85 ⟨by decide, by decide⟩ ⟨by decide, by decide⟩) rfl rfl (fun F_11280 H locs hw hp_11281 => ?_)
                          obtain ⟨hs_11282, eh_11283⟩ : ∃ h9 : Int64, h9 = lN 31 * hs_11259 + ((nI ((m_val (A.1.2.2.2.2.2 (6 + s9)) (zc 3)).val)).toInt64) := ⟨_, rfl⟩
                          have f_11284 : F_11280 b = mO ma mi hs_11282 := by rw [eh_11283]; exact hp_11281.1
                          refine lv_aload_n hx hb dX6_mixSlot_88 rfl (lv_at hl 1 rfl) ?_
                          refine lv_aload_n hx hb dX6_mixSlot_89 rfl (lv_at hl 1 rfl) ?_
                          refine lv_iload_n hx hb dX6_mixSlot_90 rfl (lv_at hl 2 rfl) ?_
                          refine lv_iconst (v := nI 0) hx hb dX6_mixSlot_91 (by decide) ?_
                          have f_11285 : F_11274 (ma 4) = pcE G pl := (o_11278 (ma 4) ).trans f_11270
                          have f_11286 : F_11280 (ma 4) = pcE G pl := (hp_11281.2 (ma 4) (ne_ao f_11285 f_11279)).trans f_11285
                          have f_11287 : F_11274 (ma 0) = .inl (G.2 0, 89, .inl zf) := (o_11278 (ma 0) ).trans f_11273
                          have f_11288 : F_11280 (ma 0) = .inl (G.2 0, 89, .inl zf) := (hp_11281.2 (ma 0) (ne_ao f_11287 f_11279)).trans f_11287
                          refine q_calli hw (q_runV (As := [.int (nI (s9)), .int (nI (0))]) (c_X6_clashNow l G L F_11280 b ma mi hs_11282 pl zf A.1.1 A.1.2.2.2.2.2 s9 0 mb f_11284 hma f_11286 f_11288 hz0 (by omega) (by omega) (by omega) (by omega) hrw hR) C0 hw vw_X6_211 mb f_11284 rfl rfl rfl hl.1 rfl (Nat.le_of_ble_eq_true rfl) dX6_mixSlot_92 ⟨by decide, by decide⟩ ⟨by decide, by decide⟩) rfl rfl (fun r_11291 F_11289 H locs hw hp_11290 => ?_)
                          obtain ⟨f_11293, ⟨P_11292, f_11294⟩, f_11295⟩ := hp_11290
                          subst f_11293
                          refine lv_i2l (v := (lowR (m_br (A.1.2.2.2.2.2 s9) (A.1.2.2.2.2.2 0) A.1.1)).toInt64) hx hb dX6_mixSlot_95 rfl ?_
                          have f_11296 : F_11289 b = mO ma mi hs_11282 := (f_11295 b (ne_oa f_11284 f_11286)).trans f_11284
                          refine q_callv hw (q_runV (As := [.long ((lowR (m_br (A.1.2.2.2.2.2 s9) (A.1.2.2.2.2.2 0) A.1.1)).toInt64)]) (c_X6_mix l G L F_11289 b ma mi hs_11282 (((lowR (m_br (A.1.2.2.2.2.2 s9) (A.1.2.2.2.2.2 0) A.1.1)).toInt64)) mb f_11296) C0 hw vw_X6_240 mb f_11296 rfl rfl rfl hl.1 rfl (Nat.le_of_ble_eq_true rfl) dX6_mixSlot_96 ⟨by decide, by decide⟩ ⟨by decide, by decide⟩) rfl rfl (fun F_11297 H locs hw hp_11298 => ?_)
                          obtain ⟨hs_11299, eh_11300⟩ : ∃ h9 : Int64, h9 = lN 31 * hs_11282 + ((lowR (m_br (A.1.2.2.2.2.2 s9) (A.1.2.2.2.2.2 0) A.1.1)).toInt64) := ⟨_, rfl⟩
                          have f_11301 : F_11297 b = mO ma mi hs_11299 := by rw [eh_11300]; exact hp_11298.1
                          refine lv_aload_n hx hb dX6_mixSlot_99 rfl (lv_at hl 1 rfl) ?_
                          refine lv_aload_n hx hb dX6_mixSlot_100 rfl (lv_at hl 1 rfl) ?_
                          refine lv_iload_n hx hb dX6_mixSlot_101 rfl (lv_at hl 2 rfl) ?_
                          refine lv_iconst (v := nI 0) hx hb dX6_mixSlot_102 (by decide) ?_
                          have f_11302 : F_11297 (ma 4) = pcE G P_11292 := (hp_11298.2 (ma 4) (ne_ao f_11294 f_11296)).trans f_11294
                          have f_11303 : F_11289 (ma 0) = .inl (G.2 0, 89, .inl zf) := (f_11295 (ma 0) (ne_aa (by decide) f_11288 f_11286)).trans f_11288
                          have f_11304 : F_11297 (ma 0) = .inl (G.2 0, 89, .inl zf) := (hp_11298.2 (ma 0) (ne_ao f_11303 f_11296)).trans f_11303
                          refine q_calli hw (q_runV (As := [.int (nI (s9)), .int (nI (0))]) (c_X6_apartNow l G L F_11297 b ma mi hs_11299 P_11292 zf A.1.1 A.1.2.2.2.2.2 s9 0 mb f_11301 hma f_11302 f_11304 hz0 (by omega) (by omega) (by omega) (by omega) hrw) C0 hw vw_X6_217 mb f_11301 rfl rfl rfl hl.1 rfl (Nat.le_of_ble_eq_true rfl) dX6_mixSlot_103 ⟨by decide, by decide⟩ ⟨by decide, by decide⟩) rfl rfl (fun r_11307 F_11305 H locs hw hp_11306 => ?_)
                          obtain ⟨f_11309, ⟨P_11308, f_11310⟩, f_11311⟩ := hp_11306
                          subst f_11309
                          refine lv_i2l (v := (m_low (fun k => decide ((m_sub (A.1.2.2.2.2.2 (6 + s9)) (A.1.2.2.2.2.2 (6 + 0)) A.1.1) k ≠ (m_sub (A.1.2.2.2.2.2 (6 + 0)) (A.1.2.2.2.2.2 (6 + s9)) A.1.1) k))).toInt64) hx hb dX6_mixSlot_106 rfl ?_
                          have f_11312 : F_11305 b = mO ma mi hs_11299 := (f_11311 b (ne_oa f_11301 f_11302)).trans f_11301
                          refine q_callv hw (q_runV (As := [.long ((m_low (fun k => decide ((m_sub (A.1.2.2.2.2.2 (6 + s9)) (A.1.2.2.2.2.2 (6 + 0)) A.1.1) k ≠ (m_sub (A.1.2.2.2.2.2 (6 + 0)) (A.1.2.2.2.2.2 (6 + s9)) A.1.1) k))).toInt64)]) (c_X6_mix l G L F_11305 b ma mi hs_11299 (((m_low (fun k => decide ((m_sub (A.1.2.2.2.2.2 (6 + s9)) (A.1.2.2.2.2.2 (6 + 0)) A.1.1) k ≠ (m_sub (A.1.2.2.2.2.2 (6 + 0)) (A.1.2.2.2.2.2 (6 + s9)) A.1.1) k))).toInt64)) mb f_11312) C0 hw vw_X6_240 mb f_11312 rfl rfl rfl hl.1 rfl (Nat.le_of_ble_eq_true rfl) dX6_mixSlot_107 ⟨by decide, by decide⟩ ⟨by decide, by decide⟩) rfl rfl (fun F_11313 H locs hw hp_11314 => ?_)
                          obtain ⟨hs_11315, eh_11316⟩ : ∃ h9 : Int64, h9 = lN 31 * hs_11299 + ((m_low (fun k => decide ((m_sub (A.1.2.2.2.2.2 (6 + s9)) (A.1.2.2.2.2.2 (6 + 0)) A.1.1) k ≠ (m_sub (A.1.2.2.2.2.2 (6 + 0)) (A.1.2.2.2.2.2 (6 + s9)) A.1.1) k))).toInt64) := ⟨_, rfl⟩
                          have f_11317 : F_11313 b = mO ma mi hs_11315 := by rw [eh_11316]; exact hp_11314.1
                          refine lv_iconst (v := nI 2) hx hb dX6_mixSlot_110 (by decide) ?_
                          refine lv_istore_n (lv' := [(2, .int (nI (2))), (0, .ref b), (1, .int (nI (s9)))]) hx hb dX6_mixSlot_111 rfl hl (by decide) rfl (fun ls hl => ?_)
                          refine lv_iload_n hx hb dX6_mixSlot_112 rfl (lv_at hl 0 rfl) ?_
                          refine lv_bipush (v := nI 6) hx hb dX6_mixSlot_113 (by decide) ?_
                          refine n_icmp_ge (tgt := 136) hx hb dX6_mixSlot_115 (by decide) (by decide) (by decide) (fun c_115 => ?_) (fun c_115 => ?_)
                          · skip
                            exact absurd c_115 (by omega)
                          · skip
                            refine lv_aload_n hx hb dX6_mixSlot_118 rfl (lv_at hl 1 rfl) ?_
                            refine lv_aload_n hx hb dX6_mixSlot_119 rfl (lv_at hl 1 rfl) ?_
                            refine lv_iconst (v := nI 0) hx hb dX6_mixSlot_120 (by decide) ?_
                            refine lv_iload_n hx hb dX6_mixSlot_121 rfl (lv_at hl 2 rfl) ?_
                            refine lv_iload_n hx hb dX6_mixSlot_122 rfl (lv_at hl 0 rfl) ?_
                            have f_11318 : F_11313 (ma 4) = pcE G P_11308 := (hp_11314.2 (ma 4) (ne_ao f_11310 f_11312)).trans f_11310
                            have f_11319 : F_11305 (ma 0) = .inl (G.2 0, 89, .inl zf) := (f_11311 (ma 0) (ne_aa (by decide) f_11304 f_11302)).trans f_11304
                            have f_11320 : F_11313 (ma 0) = .inl (G.2 0, 89, .inl zf) := (hp_11314.2 (ma 0) (ne_ao f_11319 f_11312)).trans f_11319
                            refine q_calli hw (q_runV (As := [.int (nI (0)), .int (nI (s9)), .int (nI (2))]) (c_X6_differsNow l G L F_11313 b ma mi hs_11315 P_11308 zf A.1.1 A.1.2.2.2.2.2 0 s9 2 mb f_11317 hma f_11318 f_11320 hz0 (by omega) (by omega) (by omega) (by omega) (by omega) (by omega) hrw hR) C0 hw vw_X6_220 mb f_11317 rfl rfl rfl hl.1 rfl (Nat.le_of_ble_eq_true rfl) dX6_mixSlot_123 ⟨by decide, by decide⟩ ⟨by decide, by decide⟩) rfl rfl (fun r_11323 F_11321 H locs hw hp_11322 => ?_)
                            obtain ⟨f_11325, ⟨P_11324, f_11326⟩, f_11327⟩ := hp_11322
                            subst f_11325
                            refine lv_i2l (v := (m_low (fun k => decide ((m_way (A.1.2.2.2.2.2 0) (A.1.2.2.2.2.2 s9) 2 A.1.1) k ≠ (m_cf (A.1.2.2.2.2.2 0) (A.1.2.2.2.2.2 s9) A.1.1) k))).toInt64) hx hb dX6_mixSlot_126 rfl ?_
                            have f_11328 : F_11321 b = mO ma mi hs_11315 := (f_11327 b (ne_oa f_11317 f_11318)).trans f_11317
                            refine q_callv hw (q_runV (As := [.long ((m_low (fun k => decide ((m_way (A.1.2.2.2.2.2 0) (A.1.2.2.2.2.2 s9) 2 A.1.1) k ≠ (m_cf (A.1.2.2.2.2.2 0) (A.1.2.2.2.2.2 s9) A.1.1) k))).toInt64)]) (c_X6_mix l G L F_11321 b ma mi hs_11315 (((m_low (fun k => decide ((m_way (A.1.2.2.2.2.2 0) (A.1.2.2.2.2.2 s9) 2 A.1.1) k ≠ (m_cf (A.1.2.2.2.2.2 0) (A.1.2.2.2.2.2 s9) A.1.1) k))).toInt64)) mb f_11328) C0 hw vw_X6_240 mb f_11328 rfl rfl rfl hl.1 rfl (Nat.le_of_ble_eq_true rfl) dX6_mixSlot_127 ⟨by decide, by decide⟩ ⟨by decide, by decide⟩) rfl rfl (fun F_11329 H locs hw hp_11330 => ?_)
                            obtain ⟨hs_11331, eh_11332⟩ : ∃ h9 : Int64, h9 = lN 31 * hs_11315 + ((m_low (fun k => decide ((m_way (A.1.2.2.2.2.2 0) (A.1.2.2.2.2.2 s9) 2 A.1.1) k ≠ (m_cf (A.1.2.2.2.2.2 0) (A.1.2.2.2.2.2 s9) A.1.1) k))).toInt64) := ⟨_, rfl⟩
                            have f_11333 : F_11329 b = mO ma mi hs_11331 := by rw [eh_11332]; exact hp_11330.1
                            refine lv_iinc (v := nI 3) (lv' := [(2, .int (nI (3))), (0, .ref b), (1, .int (nI (s9)))]) hx hb dX6_mixSlot_130 hl (k := 0) rfl (by decide) (by decide) rfl (fun ls hl => ?_)
                            refine lv_goto (tgt := 112) hx hb dX6_mixSlot_133 (by decide) ?_
                            refine lv_iload_n hx hb dX6_mixSlot_112 rfl (lv_at hl 0 rfl) ?_
                            refine lv_bipush (v := nI 6) hx hb dX6_mixSlot_113 (by decide) ?_
                            refine n_icmp_ge (tgt := 136) hx hb dX6_mixSlot_115 (by decide) (by decide) (by decide) (fun c_115 => ?_) (fun c_115 => ?_)
                            · skip
                              exact absurd c_115 (by omega)
                            · skip
                              refine lv_aload_n hx hb dX6_mixSlot_118 rfl (lv_at hl 1 rfl) ?_
                              refine lv_aload_n hx hb dX6_mixSlot_119 rfl (lv_at hl 1 rfl) ?_
                              refine lv_iconst (v := nI 0) hx hb dX6_mixSlot_120 (by decide) ?_
                              refine lv_iload_n hx hb dX6_mixSlot_121 rfl (lv_at hl 2 rfl) ?_
                              refine lv_iload_n hx hb dX6_mixSlot_122 rfl (lv_at hl 0 rfl) ?_
                              have f_11334 : F_11329 (ma 4) = pcE G P_11324 := (hp_11330.2 (ma 4) (ne_ao f_11326 f_11328)).trans f_11326
                              have f_11335 : F_11321 (ma 0) = .inl (G.2 0, 89, .inl zf) := (f_11327 (ma 0) (ne_aa (by decide) f_11320 f_11318)).trans f_11320
                              have f_11336 : F_11329 (ma 0) = .inl (G.2 0, 89, .inl zf) := (hp_11330.2 (ma 0) (ne_ao f_11335 f_11328)).trans f_11335
                              refine q_calli hw (q_runV (As := [.int (nI (0)), .int (nI (s9)), .int (nI (3))]) (c_X6_differsNow l G L F_11329 b ma mi hs_11331 P_11324 zf A.1.1 A.1.2.2.2.2.2 0 s9 3 mb f_11333 hma f_11334 f_11336 hz0 (by omega) (by omega) (by omega) (by omega) (by omega) (by omega) hrw hR) C0 hw vw_X6_220 mb f_11333 rfl rfl rfl hl.1 rfl (Nat.le_of_ble_eq_true rfl) dX6_mixSlot_123 ⟨by decide, by decide⟩ ⟨by decide, by decide⟩) rfl rfl (fun r_11339 F_11337 H locs hw hp_11338 => ?_)
                              obtain ⟨f_11341, ⟨P_11340, f_11342⟩, f_11343⟩ := hp_11338
                              subst f_11341
                              refine lv_i2l (v := (m_low (fun k => decide ((m_way (A.1.2.2.2.2.2 0) (A.1.2.2.2.2.2 s9) 3 A.1.1) k ≠ (m_cf (A.1.2.2.2.2.2 0) (A.1.2.2.2.2.2 s9) A.1.1) k))).toInt64) hx hb dX6_mixSlot_126 rfl ?_
                              have f_11344 : F_11337 b = mO ma mi hs_11331 := (f_11343 b (ne_oa f_11333 f_11334)).trans f_11333
                              refine q_callv hw (q_runV (As := [.long ((m_low (fun k => decide ((m_way (A.1.2.2.2.2.2 0) (A.1.2.2.2.2.2 s9) 3 A.1.1) k ≠ (m_cf (A.1.2.2.2.2.2 0) (A.1.2.2.2.2.2 s9) A.1.1) k))).toInt64)]) (c_X6_mix l G L F_11337 b ma mi hs_11331 (((m_low (fun k => decide ((m_way (A.1.2.2.2.2.2 0) (A.1.2.2.2.2.2 s9) 3 A.1.1) k ≠ (m_cf (A.1.2.2.2.2.2 0) (A.1.2.2.2.2.2 s9) A.1.1) k))).toInt64)) mb f_11344) C0 hw vw_X6_240 mb f_11344 rfl rfl rfl hl.1 rfl (Nat.le_of_ble_eq_true rfl) dX6_mixSlot_127 ⟨by decide, by decide⟩ ⟨by decide, by decide⟩) rfl rfl (fun F_11345 H locs hw hp_11346 => ?_)
                              obtain ⟨hs_11347, eh_11348⟩ : ∃ h9 : Int64, h9 = lN 31 * hs_11331 + ((m_low (fun k => decide ((m_way (A.1.2.2.2.2.2 0) (A.1.2.2.2.2.2 s9) 3 A.1.1) k ≠ (m_cf (A.1.2.2.2.2.2 0) (A.1.2.2.2.2.2 s9) A.1.1) k))).toInt64) := ⟨_, rfl⟩
                              have f_11349 : F_11345 b = mO ma mi hs_11347 := by rw [eh_11348]; exact hp_11346.1
                              refine lv_iinc (v := nI 4) (lv' := [(2, .int (nI (4))), (0, .ref b), (1, .int (nI (s9)))]) hx hb dX6_mixSlot_130 hl (k := 0) rfl (by decide) (by decide) rfl (fun ls hl => ?_)
                              refine lv_goto (tgt := 112) hx hb dX6_mixSlot_133 (by decide) ?_
                              refine lv_iload_n hx hb dX6_mixSlot_112 rfl (lv_at hl 0 rfl) ?_
                              refine lv_bipush (v := nI 6) hx hb dX6_mixSlot_113 (by decide) ?_
                              refine n_icmp_ge (tgt := 136) hx hb dX6_mixSlot_115 (by decide) (by decide) (by decide) (fun c_115 => ?_) (fun c_115 => ?_)
                              · skip
                                exact absurd c_115 (by omega)
                              · skip
                                refine lv_aload_n hx hb dX6_mixSlot_118 rfl (lv_at hl 1 rfl) ?_
                                refine lv_aload_n hx hb dX6_mixSlot_119 rfl (lv_at hl 1 rfl) ?_
                                refine lv_iconst (v := nI 0) hx hb dX6_mixSlot_120 (by decide) ?_
                                refine lv_iload_n hx hb dX6_mixSlot_121 rfl (lv_at hl 2 rfl) ?_
                                refine lv_iload_n hx hb dX6_mixSlot_122 rfl (lv_at hl 0 rfl) ?_
                                have f_11350 : F_11345 (ma 4) = pcE G P_11340 := (hp_11346.2 (ma 4) (ne_ao f_11342 f_11344)).trans f_11342
                                have f_11351 : F_11337 (ma 0) = .inl (G.2 0, 89, .inl zf) := (f_11343 (ma 0) (ne_aa (by decide) f_11336 f_11334)).trans f_11336
                                have f_11352 : F_11345 (ma 0) = .inl (G.2 0, 89, .inl zf) := (hp_11346.2 (ma 0) (ne_ao f_11351 f_11344)).trans f_11351
                                refine q_calli hw (q_runV (As := [.int (nI (0)), .int (nI (s9)), .int (nI (4))]) (c_X6_differsNow l G L F_11345 b ma mi hs_11347 P_11340 zf A.1.1 A.1.2.2.2.2.2 0 s9 4 mb f_11349 hma f_11350 f_11352 hz0 (by omega) (by omega) (by omega) (by omega) (by omega) (by omega) hrw hR) C0 hw vw_X6_220 mb f_11349 rfl rfl rfl hl.1 rfl (Nat.le_of_ble_eq_true rfl) dX6_mixSlot_123 ⟨by decide, by decide⟩ ⟨by decide, by decide⟩) rfl rfl (fun r_11355 F_11353 H locs hw hp_11354 => ?_)
                                obtain ⟨f_11357, ⟨P_11356, f_11358⟩, f_11359⟩ := hp_11354
                                subst f_11357
                                refine lv_i2l (v := (m_low (fun k => decide ((m_way (A.1.2.2.2.2.2 0) (A.1.2.2.2.2.2 s9) 4 A.1.1) k ≠ (m_cf (A.1.2.2.2.2.2 0) (A.1.2.2.2.2.2 s9) A.1.1) k))).toInt64) hx hb dX6_mixSlot_126 rfl ?_
                                have f_11360 : F_11353 b = mO ma mi hs_11347 := (f_11359 b (ne_oa f_11349 f_11350)).trans f_11349
                                refine q_callv hw (q_runV (As := [.long ((m_low (fun k => decide ((m_way (A.1.2.2.2.2.2 0) (A.1.2.2.2.2.2 s9) 4 A.1.1) k ≠ (m_cf (A.1.2.2.2.2.2 0) (A.1.2.2.2.2.2 s9) A.1.1) k))).toInt64)]) (c_X6_mix l G L F_11353 b ma mi hs_11347 (((m_low (fun k => decide ((m_way (A.1.2.2.2.2.2 0) (A.1.2.2.2.2.2 s9) 4 A.1.1) k ≠ (m_cf (A.1.2.2.2.2.2 0) (A.1.2.2.2.2.2 s9) A.1.1) k))).toInt64)) mb f_11360) C0 hw vw_X6_240 mb f_11360 rfl rfl rfl hl.1 rfl (Nat.le_of_ble_eq_true rfl) dX6_mixSlot_127 ⟨by decide, by decide⟩ ⟨by decide, by decide⟩) rfl rfl (fun F_11361 H locs hw hp_11362 => ?_)
                                obtain ⟨hs_11363, eh_11364⟩ : ∃ h9 : Int64, h9 = lN 31 * hs_11347 + ((m_low (fun k => decide ((m_way (A.1.2.2.2.2.2 0) (A.1.2.2.2.2.2 s9) 4 A.1.1) k ≠ (m_cf (A.1.2.2.2.2.2 0) (A.1.2.2.2.2.2 s9) A.1.1) k))).toInt64) := ⟨_, rfl⟩
                                have f_11365 : F_11361 b = mO ma mi hs_11363 := by rw [eh_11364]; exact hp_11362.1
                                refine lv_iinc (v := nI 5) (lv' := [(2, .int (nI (5))), (0, .ref b), (1, .int (nI (s9)))]) hx hb dX6_mixSlot_130 hl (k := 0) rfl (by decide) (by decide) rfl (fun ls hl => ?_)
                                refine lv_goto (tgt := 112) hx hb dX6_mixSlot_133 (by decide) ?_
                                refine lv_iload_n hx hb dX6_mixSlot_112 rfl (lv_at hl 0 rfl) ?_
                                refine lv_bipush (v := nI 6) hx hb dX6_mixSlot_113 (by decide) ?_
                                refine n_icmp_ge (tgt := 136) hx hb dX6_mixSlot_115 (by decide) (by decide) (by decide) (fun c_115 => ?_) (fun c_115 => ?_)
                                · skip
                                  exact absurd c_115 (by omega)
                                · skip
                                  refine lv_aload_n hx hb dX6_mixSlot_118 rfl (lv_at hl 1 rfl) ?_
                                  refine lv_aload_n hx hb dX6_mixSlot_119 rfl (lv_at hl 1 rfl) ?_
                                  refine lv_iconst (v := nI 0) hx hb dX6_mixSlot_120 (by decide) ?_
                                  refine lv_iload_n hx hb dX6_mixSlot_121 rfl (lv_at hl 2 rfl) ?_
                                  refine lv_iload_n hx hb dX6_mixSlot_122 rfl (lv_at hl 0 rfl) ?_
                                  have f_11366 : F_11361 (ma 4) = pcE G P_11356 := (hp_11362.2 (ma 4) (ne_ao f_11358 f_11360)).trans f_11358
                                  have f_11367 : F_11353 (ma 0) = .inl (G.2 0, 89, .inl zf) := (f_11359 (ma 0) (ne_aa (by decide) f_11352 f_11350)).trans f_11352
                                  have f_11368 : F_11361 (ma 0) = .inl (G.2 0, 89, .inl zf) := (hp_11362.2 (ma 0) (ne_ao f_11367 f_11360)).trans f_11367
                                  refine q_calli hw (q_runV (As := [.int (nI (0)), .int (nI (s9)), .int (nI (5))]) (c_X6_differsNow l G L F_11361 b ma mi hs_11363 P_11356 zf A.1.1 A.1.2.2.2.2.2 0 s9 5 mb f_11365 hma f_11366 f_11368 hz0 (by omega) (by omega) (by omega) (by omega) (by omega) (by omega) hrw hR) C0 hw vw_X6_220 mb f_11365 rfl rfl rfl hl.1 rfl (Nat.le_of_ble_eq_true rfl) dX6_mixSlot_123 ⟨by decide, by decide⟩ ⟨by decide, by decide⟩) rfl rfl (fun r_11371 F_11369 H locs hw hp_11370 => ?_)
                                  obtain ⟨f_11373, ⟨P_11372, f_11374⟩, f_11375⟩ := hp_11370
                                  subst f_11373
                                  refine lv_i2l (v := (m_low (fun k => decide ((m_way (A.1.2.2.2.2.2 0) (A.1.2.2.2.2.2 s9) 5 A.1.1) k ≠ (m_cf (A.1.2.2.2.2.2 0) (A.1.2.2.2.2.2 s9) A.1.1) k))).toInt64) hx hb dX6_mixSlot_126 rfl ?_
                                  have f_11376 : F_11369 b = mO ma mi hs_11363 := (f_11375 b (ne_oa f_11365 f_11366)).trans f_11365
                                  refine q_callv hw (q_runV (As := [.long ((m_low (fun k => decide ((m_way (A.1.2.2.2.2.2 0) (A.1.2.2.2.2.2 s9) 5 A.1.1) k ≠ (m_cf (A.1.2.2.2.2.2 0) (A.1.2.2.2.2.2 s9) A.1.1) k))).toInt64)]) (c_X6_mix l G L F_11369 b ma mi hs_11363 (((m_low (fun k => decide ((m_way (A.1.2.2.2.2.2 0) (A.1.2.2.2.2.2 s9) 5 A.1.1) k ≠ (m_cf (A.1.2.2.2.2.2 0) (A.1.2.2.2.2.2 s9) A.1.1) k))).toInt64)) mb f_11376) C0 hw vw_X6_240 mb f_11376 rfl rfl rfl hl.1 rfl (Nat.le_of_ble_eq_true rfl) dX6_mixSlot_127 ⟨by decide, by decide⟩ ⟨by decide, by decide⟩) rfl rfl (fun F_11377 H locs hw hp_11378 => ?_)
                                  obtain ⟨hs_11379, eh_11380⟩ : ∃ h9 : Int64, h9 = lN 31 * hs_11363 + ((m_low (fun k => decide ((m_way (A.1.2.2.2.2.2 0) (A.1.2.2.2.2.2 s9) 5 A.1.1) k ≠ (m_cf (A.1.2.2.2.2.2 0) (A.1.2.2.2.2.2 s9) A.1.1) k))).toInt64) := ⟨_, rfl⟩
                                  have f_11381 : F_11377 b = mO ma mi hs_11379 := by rw [eh_11380]; exact hp_11378.1
                                  refine lv_iinc (v := nI 6) (lv' := [(2, .int (nI (6))), (0, .ref b), (1, .int (nI (s9)))]) hx hb dX6_mixSlot_130 hl (k := 0) rfl (by decide) (by decide) rfl (fun ls hl => ?_)
                                  refine lv_goto (tgt := 112) hx hb dX6_mixSlot_133 (by decide) ?_
                                  refine lv_iload_n hx hb dX6_mixSlot_112 rfl (lv_at hl 0 rfl) ?_
                                  refine lv_bipush (v := nI 6) hx hb dX6_mixSlot_113 (by decide) ?_
                                  refine n_icmp_ge (tgt := 136) hx hb dX6_mixSlot_115 (by decide) (by decide) (by decide) (fun c_115 => ?_) (fun c_115 => ?_)
                                  · skip
                                    have hfin_11382 : hs_11379 = hLk A s9 (hC (hC hh (A.1.2.2.2.2.2 s9)) (A.1.2.2.2.2.2 (6 + s9))) := by rw [eh_11380, eh_11364, eh_11348, eh_11332, eh_11316, eh_11300, eh_11283, eh_11260, eh_11220, eh_11207, eh_11194, eh_11181, eh_11168, eh_11155, eh_11142, eh_11129, eh_11116, eh_11103]; unfold hLk hC; rw [zi3]
                                    have f_11383 : F_11377 (ma 4) = pcE G P_11372 := (hp_11378.2 (ma 4) (ne_ao f_11374 f_11376)).trans f_11374
                                    exact r_v C0 hr hlk hw ⟨by rw [← hfin_11382]; exact f_11381, ⟨_, f_11383⟩, (fun q k0 k1 => ((hp_11378.2 q k0).trans ((f_11375 q k1).trans ((hp_11362.2 q k0).trans ((f_11359 q k1).trans ((hp_11346.2 q k0).trans ((f_11343 q k1).trans ((hp_11330.2 q k0).trans ((f_11327 q k1).trans ((hp_11314.2 q k0).trans ((f_11311 q k1).trans ((hp_11298.2 q k0).trans ((f_11295 q k1).trans ((hp_11281.2 q k0).trans ((o_11278 q ).trans ((o_11266 q ).trans ((hp_11258.2 q k0).trans ((o_11255 q ).trans ((o_11226 q ).trans ((hp_11218.2 q k0).trans ((o_11213 q ).trans ((hp_11205.2 q k0).trans ((o_11200 q ).trans ((hp_11192.2 q k0).trans ((o_11187 q ).trans ((hp_11179.2 q k0).trans ((o_11174 q ).trans ((hp_11166.2 q k0).trans ((o_11161 q ).trans ((hp_11153.2 q k0).trans ((o_11148 q ).trans ((hp_11140.2 q k0).trans ((o_11135 q ).trans ((hp_11127.2 q k0).trans ((o_11122 q ).trans ((hp_11114.2 q k0).trans ((o_11109 q ).trans ((hp_11101.2 q k0).trans (o_11097 q )))))))))))))))))))))))))))))))))))))))⟩ (Nat.le_refl _) (Nat.le_refl _) dX6_mixSlot_136 hQ
                                  · skip
                                    exact absurd c_115 (by omega)
                        · skip
                          exact absurd c_35 (by omega)
            · skip
              exact absurd c_5 (by omega)
