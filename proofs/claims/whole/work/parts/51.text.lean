abbrev Txt := Nat × (Nat → Nat)
def cdA (t : Txt) (i : Nat) : Nat := if i < t.1 then t.2 i else 0
def okT (t : Txt) : Prop := ∀ i, i < t.1 → 33 ≤ t.2 i ∧ t.2 i ≤ 126
theorem cdA_le {t : Txt} (h : okT t) (i : Nat) : cdA t i ≤ 126 := by
  unfold cdA
  split
  · exact (h i (by assumption)).2
  · omega
abbrev isSl (x : Nat) : Prop := 48 ≤ x ∧ x < 54
def slA (t : Txt) (i : Nat) : Nat := if isSl (cdA t i) then cdA t i - 48 else 0
def dgA (t : Txt) (i : Nat) : Nat := digI (nI (cdA t i))
theorem dgA_le (t : Txt) (i : Nat) : dgA t i ≤ 2 := by
  unfold dgA digI
  split
  · omega
  · split <;> omega
def fitsB (t : Txt) (p s : Nat) : Bool := if p - s = 0 then decide (0 < dgA t s) else if p - s = dgA t s + 1 then decide (cdA t p = 62) else if p - s = dgA t s + 3 then decide (cdA t p = 59) else decide (isSl (cdA t p))
def fwF (t : Txt) : Nat → Nat → Nat → Nat
  | 0, p, _ => p
  | n + 1, p, s => if fitsB t p s then fwF t n (p + 1) (if t.2 p = 59 then p + 1 else s) else p
def fwA (t : Txt) : Nat := fwF t t.1 0 0
theorem fwF_le (t : Txt) : ∀ n p s, fwF t n p s ≤ p + n := by
  intro n
  induction n with
  | zero => intro p s; exact Nat.le_refl _
  | succ n ih =>
    intro p s
    rw [fwF]
    split
    · have := ih (p + 1) (if t.2 p = 59 then p + 1 else s); omega
    · omega
theorem fwA_le (t : Txt) : fwA t ≤ t.1 := by have := fwF_le t t.1 0 0; unfold fwA; omega
abbrev isPr (t : Txt) : Prop := fwA t = t.1 ∧ 2 ≤ t.1 ∧ t.2 (t.1 - 2) = 62
def hfN (t : Txt) (h : Int64) : Nat → Int64
  | 0 => lN 31 * h + lN t.1
  | i + 1 => lN 31 * hfN t h i + lN (t.2 i)
theorem fin_t {b : Bool} (h : b = true) : nI 1 = if b then nI 1 else nI 0 := (if_pos h).symm
theorem fin_f {b : Bool} (h : b = false) : nI 0 = if b then nI 1 else nI 0 := (if_neg (by rw [h]; decide)).symm
abbrev rm_X4_isFull : Room := { frames := 0, cells := 0, slots := 0, locals := 0 }
set_option maxHeartbeats 4000000 in
set_option maxRecDepth 100000 in
theorem c_X4_isFull (l : Launch) (G : Gl) (L : List Nat) (F : Nat → va_E) (ad : Nat → Nat) (hL : ∀ i, i < 166 → ad i ∈ L) (hin : ∀ i j, i < 166 → j < 166 → i ≠ j → ad i ≠ ad j) (t9 : Txt) (htx : txtW G F ad t9) (hco : okT t9) : CI l yX4_isFull cX4_isFull 1 (some .boolean) rm_X4_isFull G L F [.ref (ad 5)] (fun r F1 => r = (if 60 ≤ t9.1 then nI 1 else nI 0) ∧ ∀ q, F1 q = F q) := by
  obtain ⟨-, cf, h6, hcf, hl60⟩ := id htx
  refine CG_of (by decide) (Nat.le_of_ble_eq_true rfl) rfl ?_
  intro p e s m args below meth c Q C0 hr hlk hnm hQ hw ls hl
  have hx := C0.x
  have hb := C0.b
  refine lv_aload_n hx hb dX4_isFull_0 rfl (lv_at hl 0 rfl) ?_
  refine q_get C0 hw ((hL 5 (by omega))) htx.1 fw_X4_15 rfl dX4_isFull_1 ?_
  refine lv_bipush (v := nI 60) hx hb dX4_isFull_4 (by decide) ?_
  refine n_icmp_lt (tgt := 13) hx hb dX4_isFull_6 (by decide) (by omega) (by decide) (fun c_6 => ?_) (fun c_6 => ?_)
  · skip
    refine lv_iconst (v := nI 0) hx hb dX4_isFull_13 (by decide) ?_
    exact r_i C0 hr hlk hw (v := nI 0) rfl ⟨bool_f (by omega), (fun q  => rfl)⟩ (Nat.le_refl _) (Nat.le_refl _) dX4_isFull_14 hQ
  · skip
    refine lv_iconst (v := nI 1) hx hb dX4_isFull_9 (by decide) ?_
    refine lv_goto (tgt := 14) hx hb dX4_isFull_10 (by decide) ?_
    exact r_i C0 hr hlk hw (v := nI 1) rfl ⟨bool_t (by omega), (fun q  => rfl)⟩ (Nat.le_refl _) (Nat.le_refl _) dX4_isFull_14 hQ
abbrev rm_X4_add : Room := { frames := 1, cells := 0, slots := 0, locals := 20 }
theorem tx_add {G : Gl} {F : Nat → va_E} {ad : Nat → Nat} {t : Txt} {cf : Nat → Int32} {x : Nat} (h5 : F (ad 5) = tO (ad 6) (t.1 + 1)) (h6 : F (ad 6) = .inl (G.2 0, 60, .inl (upd cf t.1 (nI x)))) (hcf : ∀ i, i < t.1 → cf i = nI (t.2 i)) (hl : t.1 ≤ 60) (h60 : t.1 < 60) : txtW G F ad (t.1 + 1, va_up t.2 t.1 x) := by
  refine ⟨h5, _, h6, fun i hi => ?_, h60⟩
  by_cases e : i = t.1
  · subst e
    simp [upd, va_up]
  · have := hcf i (by have : i < t.1 + 1 := hi; omega)
    simp [upd, va_up, e, this]
set_option maxHeartbeats 4000000 in
set_option maxRecDepth 100000 in
theorem c_X4_add (l : Launch) (G : Gl) (L : List Nat) (F : Nat → va_E) (ad : Nat → Nat) (hL : ∀ i, i < 166 → ad i ∈ L) (hin : ∀ i j, i < 166 → j < 166 → i ≠ j → ad i ≠ ad j) (t9 : Txt) (htx : txtW G F ad t9) (hco : okT t9) (x9 : Nat) (hx1 : 33 ≤ x9) (hx2 : x9 ≤ 126) (h60 : t9.1 < 60) : CV l yX4_add cX4_add 2 none rm_X4_add G L F [.ref (ad 5), .int (nI (x9))] (fun F1 => txtW G F1 ad (t9.1 + 1, va_up t9.2 t9.1 x9) ∧ ∀ q, (∀ i, (i = 5 ∨ i = 6) → q ≠ ad i) → F1 q = F q) := by
  obtain ⟨-, cf, h6, hcf, hl60⟩ := id htx
  refine CG_of (by decide) (Nat.le_of_ble_eq_true rfl) rfl ?_
  intro p e s m args below meth c Q C0 hr hlk hnm hQ hw ls hl
  have hx := C0.x
  have hb := C0.b
  refine lv_aload_n hx hb dX4_add_0 rfl (lv_at hl 0 rfl) ?_
  refine q_calli hw (q_runV (As := []) (c_X4_isFull l G L F ad hL hin t9 htx hco) C0 hw vw_X4_19 ((hL 5 (by omega))) htx.1 rfl rfl rfl hl.1 rfl (Nat.le_of_ble_eq_true rfl) dX4_add_1 ⟨by decide, by decide⟩ ⟨by decide, by decide⟩) rfl rfl (fun r_3786 F_3784 H locs hw hp_3785 => ?_)
  obtain ⟨he_3787, o_3788⟩ := hp_3785
  by_cases hb_3789 : 60 ≤ t9.1
  · skip
    rw [if_pos hb_3789] at he_3787
    subst he_3787
    refine n_if_ne (tgt := 27) hx hb dX4_add_4 (by decide) (by decide) (fun c_4 => ?_) (fun c_4 => ?_)
    · skip
      omega
    · skip
      exact absurd c_4 (by omega)
  · skip
    rw [if_neg hb_3789] at he_3787
    subst he_3787
    refine n_if_ne (tgt := 27) hx hb dX4_add_4 (by decide) (by decide) (fun c_4 => ?_) (fun c_4 => ?_)
    · skip
      exact absurd c_4 (by omega)
    · skip
      refine lv_aload_n hx hb dX4_add_7 rfl (lv_at hl 0 rfl) ?_
      have f_3790 : F_3784 (ad 5) = tO (ad 6) t9.1 := (o_3788 (ad 5) ).trans htx.1
      refine q_get C0 hw ((hL 5 (by omega))) f_3790 fw_X4_9 rfl dX4_add_8 ?_
      refine lv_aload_n hx hb dX4_add_11 rfl (lv_at hl 0 rfl) ?_
      refine q_get C0 hw ((hL 5 (by omega))) f_3790 fw_X4_15 rfl dX4_add_12 ?_
      refine lv_iload_n hx hb dX4_add_15 rfl (lv_at hl 1 rfl) ?_
      have f_3791 : F_3784 (ad 6) = .inl (G.2 0, 60, .inl cf) := (o_3788 (ad 6) ).trans h6
      refine q_iast C0 hw ((hL 6 (by omega))) f_3791 (t9.1) (by omega) (by decide) dX4_add_16 (fun F_3792 H locs hw f_3793 o_3794 => ?_)
      refine lv_aload_n hx hb dX4_add_17 rfl (lv_at hl 0 rfl) ?_
      refine lv_dup hx hb dX4_add_18 rfl ?_
      have f_3795 : F_3792 (ad 5) = tO (ad 6) t9.1 := (o_3794 (ad 5) (hin 5 6 (by omega) (by omega) (by omega))).trans f_3790
      refine q_get C0 hw ((hL 5 (by omega))) f_3795 fw_X4_15 rfl dX4_add_19 ?_
      refine lv_iconst (v := nI 1) hx hb dX4_add_22 (by decide) ?_
      refine n_iadd hx hb dX4_add_23 ?_
      refine q_put C0 hw ((hL 5 (by omega))) f_3795 fw_X4_15 pw_X4_1 rfl rfl rfl (Nat.le_of_ble_eq_true rfl) dX4_add_24 (fun F_3796 H locs hw f_3797 o_3798 => ?_)
      have f_3797 : F_3796 (ad 5) = .inr (4, [.ref (ad 6), .int (nI (t9.1 + 1))]) := f_3797
      have f_3799 : F_3796 (ad 6) = .inl (G.2 0, 60, .inl (upd cf (t9.1) (nI (x9)))) := (o_3798 (ad 6) (hin 6 5 (by omega) (by omega) (by omega))).trans f_3793
      exact r_v C0 hr hlk hw ⟨tx_add f_3797 f_3799 hcf hl60 h60, (fun q hq => ((o_3798 q (hq 5 (by omega))).trans ((o_3794 q (hq 6 (by omega))).trans (o_3788 q ))))⟩ (Nat.le_refl _) (Nat.le_refl _) dX4_add_27 hQ
abbrev rm_X4_empty : Room := { frames := 0, cells := 0, slots := 0, locals := 0 }
set_option maxHeartbeats 4000000 in
set_option maxRecDepth 100000 in
theorem c_X4_empty (l : Launch) (G : Gl) (L : List Nat) (F : Nat → va_E) (ad : Nat → Nat) (hL : ∀ i, i < 166 → ad i ∈ L) (hin : ∀ i j, i < 166 → j < 166 → i ≠ j → ad i ≠ ad j) (t9 : Txt) (htx : txtW G F ad t9) (hco : okT t9) (g9 : Nat → Nat) : CV l yX4_empty cX4_empty 1 none rm_X4_empty G L F [.ref (ad 5)] (fun F1 => txtW G F1 ad (0, g9) ∧ ∀ q, (∀ i, (i = 5) → q ≠ ad i) → F1 q = F q) := by
  obtain ⟨-, cf, h6, hcf, hl60⟩ := id htx
  refine CG_of (by decide) (Nat.le_of_ble_eq_true rfl) rfl ?_
  intro p e s m args below meth c Q C0 hr hlk hnm hQ hw ls hl
  have hx := C0.x
  have hb := C0.b
  refine lv_aload_n hx hb dX4_empty_0 rfl (lv_at hl 0 rfl) ?_
  refine lv_iconst (v := nI 0) hx hb dX4_empty_1 (by decide) ?_
  refine q_put C0 hw ((hL 5 (by omega))) htx.1 fw_X4_15 pw_X4_1 rfl rfl rfl (Nat.le_of_ble_eq_true rfl) dX4_empty_2 (fun F_3800 H locs hw f_3801 o_3802 => ?_)
  have f_3801 : F_3800 (ad 5) = .inr (4, [.ref (ad 6), .int (nI (0))]) := f_3801
  have f_3803 : F_3800 (ad 6) = .inl (G.2 0, 60, .inl cf) := (o_3802 (ad 6) (hin 6 5 (by omega) (by omega) (by omega))).trans h6
  exact r_v C0 hr hlk hw ⟨⟨f_3801, cf, f_3803, fun i hi => absurd hi (Nat.not_lt_zero i), Nat.zero_le _⟩, (fun q hq => (o_3802 q (hq 5 (by omega))))⟩ (Nat.le_refl _) (Nat.le_refl _) dX4_empty_5 hQ
abbrev rm_X4_codeAt : Room := { frames := 0, cells := 0, slots := 0, locals := 0 }
set_option maxHeartbeats 4000000 in
set_option maxRecDepth 100000 in
theorem c_X4_codeAt (l : Launch) (G : Gl) (L : List Nat) (F : Nat → va_E) (ad : Nat → Nat) (hL : ∀ i, i < 166 → ad i ∈ L) (hin : ∀ i j, i < 166 → j < 166 → i ≠ j → ad i ≠ ad j) (t9 : Txt) (htx : txtW G F ad t9) (hco : okT t9) (p9 : Nat) (hp9 : p9 < 2 ^ 30) : CI l yX4_codeAt cX4_codeAt 2 (some .int) rm_X4_codeAt G L F [.ref (ad 5), .int (nI (p9))] (fun r F1 => r = nI (cdA t9 p9) ∧ ∀ q, F1 q = F q) := by
  obtain ⟨-, cf, h6, hcf, hl60⟩ := id htx
  refine CG_of (by decide) (Nat.le_of_ble_eq_true rfl) rfl ?_
  intro p e s m args below meth c Q C0 hr hlk hnm hQ hw ls hl
  have hx := C0.x
  have hb := C0.b
  refine lv_iload_n hx hb dX4_codeAt_0 rfl (lv_at hl 1 rfl) ?_
  refine n_if_lt (tgt := 12) hx hb dX4_codeAt_1 (by decide) (by omega) ?_
  refine lv_iload_n hx hb dX4_codeAt_4 rfl (lv_at hl 1 rfl) ?_
  refine lv_aload_n hx hb dX4_codeAt_5 rfl (lv_at hl 0 rfl) ?_
  refine q_get C0 hw ((hL 5 (by omega))) htx.1 fw_X4_15 rfl dX4_codeAt_6 ?_
  refine n_icmp_lt (tgt := 16) hx hb dX4_codeAt_9 (by decide) (by omega) (by omega) (fun c_9 => ?_) (fun c_9 => ?_)
  · skip
    refine lv_aload_n hx hb dX4_codeAt_16 rfl (lv_at hl 0 rfl) ?_
    refine q_get C0 hw ((hL 5 (by omega))) htx.1 fw_X4_9 rfl dX4_codeAt_17 ?_
    refine lv_iload_n hx hb dX4_codeAt_20 rfl (lv_at hl 1 rfl) ?_
    refine q_iald C0 hw ((hL 6 (by omega))) h6 (p9) (by omega) (by decide) (v := nI (t9.2 p9)) (hcf p9 (by omega)) dX4_codeAt_21 ?_
    have := hco p9 (by omega)
    exact r_i C0 hr hlk hw (v := nI (t9.2 p9)) rfl ⟨congrArg nI (if_pos c_9).symm, (fun q  => rfl)⟩ (Nat.le_refl _) (Nat.le_refl _) dX4_codeAt_22 hQ
  · skip
    refine lv_iconst (v := nI 0) hx hb dX4_codeAt_12 (by decide) ?_
    refine lv_goto (tgt := 22) hx hb dX4_codeAt_13 (by decide) ?_
    exact r_i C0 hr hlk hw (v := nI 0) rfl ⟨congrArg nI (if_neg c_9).symm, (fun q  => rfl)⟩ (Nat.le_refl _) (Nat.le_refl _) dX4_codeAt_22 hQ
set_option maxHeartbeats 4000000 in
set_option maxRecDepth 100000 in
theorem c_X4_codeAt_neg (l : Launch) (G : Gl) (L : List Nat) (F : Nat → va_E) (ad : Nat → Nat) (hL : ∀ i, i < 166 → ad i ∈ L) (hin : ∀ i j, i < 166 → j < 166 → i ≠ j → ad i ≠ ad j) (t9 : Txt) (htx : txtW G F ad t9) (hco : okT t9) (x9 : Int32) (hx9 : x9 < 0) : CI l yX4_codeAt cX4_codeAt 2 (some .int) rm_X4_codeAt G L F [.ref (ad 5), .int (x9)] (fun r F1 => r = nI 0 ∧ ∀ q, F1 q = F q) := by
  obtain ⟨-, cf, h6, hcf, hl60⟩ := id htx
  refine CG_of (by decide) (Nat.le_of_ble_eq_true rfl) rfl ?_
  intro p e s m args below meth c Q C0 hr hlk hnm hQ hw ls hl
  have hx := C0.x
  have hb := C0.b
  refine lv_iload_n hx hb dX4_codeAt_0 rfl (lv_at hl 1 rfl) ?_
  refine lv_if_lt (tgt := 12) hx hb dX4_codeAt_1 (by decide) (fun c_1 => ?_) (fun c_1 => ?_)
  · skip
    refine lv_iconst (v := nI 0) hx hb dX4_codeAt_12 (by decide) ?_
    refine lv_goto (tgt := 22) hx hb dX4_codeAt_13 (by decide) ?_
    exact r_i C0 hr hlk hw (v := nI 0) rfl ⟨rfl, (fun q  => rfl)⟩ (Nat.le_refl _) (Nat.le_refl _) dX4_codeAt_22 hQ
  · skip
    exact absurd hx9 c_1
abbrev rm_X4_isSlot : Room := { frames := 0, cells := 0, slots := 0, locals := 0 }
set_option maxHeartbeats 4000000 in
set_option maxRecDepth 100000 in
theorem c_X4_isSlot (l : Launch) (G : Gl) (L : List Nat) (F : Nat → va_E) (x9 : Nat) (hx9 : x9 < 2 ^ 30) : CI l yX4_isSlot cX4_isSlot 1 (some .boolean) rm_X4_isSlot G L F [.int (nI (x9))] (fun r F1 => r = (if isSl x9 then nI 1 else nI 0) ∧ ∀ q, F1 q = F q) := by
  refine CG_of (by decide) (Nat.le_of_ble_eq_true rfl) rfl ?_
  intro p e s m args below meth c Q C0 hr hlk hnm hQ hw ls hl
  have hx := C0.x
  have hb := C0.b
  refine lv_iload_n hx hb dX4_isSlot_0 rfl (lv_at hl 0 rfl) ?_
  refine lv_bipush (v := nI 48) hx hb dX4_isSlot_1 (by decide) ?_
  refine n_icmp_lt (tgt := 16) hx hb dX4_isSlot_3 (by decide) (by omega) (by decide) (fun c_3 => ?_) (fun c_3 => ?_)
  · skip
    refine lv_iconst (v := nI 0) hx hb dX4_isSlot_16 (by decide) ?_
    exact r_i C0 hr hlk hw (v := nI 0) rfl ⟨bool_f (fun h9 => by omega), (fun q  => rfl)⟩ (Nat.le_refl _) (Nat.le_refl _) dX4_isSlot_17 hQ
  · skip
    refine lv_iload_n hx hb dX4_isSlot_6 rfl (lv_at hl 0 rfl) ?_
    refine lv_bipush (v := nI 54) hx hb dX4_isSlot_7 (by decide) ?_
    refine n_icmp_ge (tgt := 16) hx hb dX4_isSlot_9 (by decide) (by omega) (by decide) (fun c_9 => ?_) (fun c_9 => ?_)
    · skip
      refine lv_iconst (v := nI 0) hx hb dX4_isSlot_16 (by decide) ?_
      exact r_i C0 hr hlk hw (v := nI 0) rfl ⟨bool_f (fun h9 => by omega), (fun q  => rfl)⟩ (Nat.le_refl _) (Nat.le_refl _) dX4_isSlot_17 hQ
    · skip
      refine lv_iconst (v := nI 1) hx hb dX4_isSlot_12 (by decide) ?_
      refine lv_goto (tgt := 17) hx hb dX4_isSlot_13 (by decide) ?_
      exact r_i C0 hr hlk hw (v := nI 1) rfl ⟨bool_t ⟨by omega, by omega⟩, (fun q  => rfl)⟩ (Nat.le_refl _) (Nat.le_refl _) dX4_isSlot_17 hQ
abbrev rm_X4_slotAt : Room := { frames := 1, cells := 0, slots := 0, locals := 21 }
set_option maxHeartbeats 4000000 in
set_option maxRecDepth 100000 in
theorem c_X4_slotAt (l : Launch) (G : Gl) (L : List Nat) (F : Nat → va_E) (ad : Nat → Nat) (hL : ∀ i, i < 166 → ad i ∈ L) (hin : ∀ i j, i < 166 → j < 166 → i ≠ j → ad i ≠ ad j) (t9 : Txt) (htx : txtW G F ad t9) (hco : okT t9) (p9 : Nat) (hp9 : p9 < 2 ^ 30) : CI l yX4_slotAt cX4_slotAt 3 (some .int) rm_X4_slotAt G L F [.ref (ad 5), .int (nI (p9))] (fun r F1 => r = nI (slA t9 p9) ∧ ∀ q, F1 q = F q) := by
  obtain ⟨-, cf, h6, hcf, hl60⟩ := id htx
  refine CG_of (by decide) (Nat.le_of_ble_eq_true rfl) rfl ?_
  intro p e s m args below meth c Q C0 hr hlk hnm hQ hw ls hl
  have hx := C0.x
  have hb := C0.b
  refine lv_aload_n hx hb dX4_slotAt_0 rfl (lv_at hl 0 rfl) ?_
  refine lv_iload_n hx hb dX4_slotAt_1 rfl (lv_at hl 1 rfl) ?_
  refine q_calli hw (q_runV (As := [.int (nI (p9))]) (c_X4_codeAt l G L F ad hL hin t9 htx hco p9 (by omega)) C0 hw vw_X4_23 ((hL 5 (by omega))) htx.1 rfl rfl rfl hl.1 rfl (Nat.le_of_ble_eq_true rfl) dX4_slotAt_2 ⟨by decide, by decide⟩ ⟨by decide, by decide⟩) rfl rfl (fun r_3806 F_3804 H locs hw hp_3805 => ?_)
  obtain ⟨he_3807, o_3808⟩ := hp_3805
  subst he_3807
  have cb_3809 := cdA_le hco p9
  refine lv_istore_n (lv' := [(2, .int (nI (cdA t9 p9))), (0, .ref (ad 5)), (1, .int (nI (p9)))]) hx hb dX4_slotAt_5 rfl hl (by decide) rfl (fun ls hl => ?_)
  refine lv_iload_n hx hb dX4_slotAt_6 rfl (lv_at hl 0 rfl) ?_
  refine q_calli hw (q_runS (As := [.int (nI (cdA t9 p9))]) (c_X4_isSlot l G L F_3804 (cdA t9 p9) (by omega)) C0 hw sw_X4_27 rfl hl.1 rfl (Nat.le_of_ble_eq_true rfl) dX4_slotAt_7 ⟨by decide, by decide⟩ ⟨by decide, by decide⟩) rfl rfl (fun r_3812 F_3810 H locs hw hp_3811 => ?_)
  obtain ⟨he_3813, o_3814⟩ := hp_3811
  by_cases hb_3815 : isSl (cdA t9 p9)
  · skip
    rw [if_pos hb_3815] at he_3813
    subst he_3813
    refine n_if_eq (tgt := 20) hx hb dX4_slotAt_10 (by decide) (by decide) (fun c_10 => ?_) (fun c_10 => ?_)
    · skip
      exact absurd c_10 (by omega)
    · skip
      refine lv_iload_n hx hb dX4_slotAt_13 rfl (lv_at hl 0 rfl) ?_
      refine lv_bipush (v := nI 48) hx hb dX4_slotAt_14 (by decide) ?_
      refine n_isub hx hb (by omega) dX4_slotAt_16 ?_
      refine lv_goto (tgt := 21) hx hb dX4_slotAt_17 (by decide) ?_
      exact r_i C0 hr hlk hw (v := nI (cdA t9 p9 - 48)) rfl ⟨congrArg nI (if_pos hb_3815).symm, (fun q  => ((o_3814 q ).trans (o_3808 q )))⟩ (Nat.le_refl _) (Nat.le_refl _) dX4_slotAt_21 hQ
  · skip
    rw [if_neg hb_3815] at he_3813
    subst he_3813
    refine n_if_eq (tgt := 20) hx hb dX4_slotAt_10 (by decide) (by decide) (fun c_10 => ?_) (fun c_10 => ?_)
    · skip
      refine lv_iconst (v := nI 0) hx hb dX4_slotAt_20 (by decide) ?_
      exact r_i C0 hr hlk hw (v := nI 0) rfl ⟨congrArg nI (if_neg hb_3815).symm, (fun q  => ((o_3814 q ).trans (o_3808 q )))⟩ (Nat.le_refl _) (Nat.le_refl _) dX4_slotAt_21 hQ
    · skip
      exact absurd c_10 (by omega)
abbrev rm_X4_fits : Room := { frames := 1, cells := 0, slots := 0, locals := 21 }
set_option maxHeartbeats 4000000 in
set_option maxRecDepth 100000 in
theorem c_X4_fits (l : Launch) (G : Gl) (L : List Nat) (F : Nat → va_E) (ad : Nat → Nat) (hL : ∀ i, i < 166 → ad i ∈ L) (hin : ∀ i j, i < 166 → j < 166 → i ≠ j → ad i ≠ ad j) (t9 : Txt) (htx : txtW G F ad t9) (hco : okT t9) (p9 s9 : Nat) (hp9 : p9 < 2 ^ 30) (hs9 : s9 ≤ p9) : CI l yX4_fits cX4_fits 6 (some .boolean) rm_X4_fits G L F [.ref (ad 5), .int (nI (p9)), .int (nI (s9))] (fun r F1 => r = (if fitsB t9 p9 s9 then nI 1 else nI 0) ∧ ∀ q, F1 q = F q) := by
  obtain ⟨-, cf, h6, hcf, hl60⟩ := id htx
  refine CG_of (by decide) (Nat.le_of_ble_eq_true rfl) rfl ?_
  intro p e s m args below meth c Q C0 hr hlk hnm hQ hw ls hl
  have hx := C0.x
  have hb := C0.b
  refine lv_aload_n hx hb dX4_fits_0 rfl (lv_at hl 0 rfl) ?_
  refine lv_iload_n hx hb dX4_fits_1 rfl (lv_at hl 1 rfl) ?_
  refine q_calli hw (q_runV (As := [.int (nI (p9))]) (c_X4_codeAt l G L F ad hL hin t9 htx hco p9 (by omega)) C0 hw vw_X4_23 ((hL 5 (by omega))) htx.1 rfl rfl rfl hl.1 rfl (Nat.le_of_ble_eq_true rfl) dX4_fits_2 ⟨by decide, by decide⟩ ⟨by decide, by decide⟩) rfl rfl (fun r_3818 F_3816 H locs hw hp_3817 => ?_)
  obtain ⟨he_3819, o_3820⟩ := hp_3817
  subst he_3819
  have cb_3821 := cdA_le hco p9
  refine lv_istore_n (lv' := [(3, .int (nI (cdA t9 p9))), (0, .ref (ad 5)), (1, .int (nI (p9))), (2, .int (nI (s9)))]) hx hb dX4_fits_5 rfl hl (by decide) rfl (fun ls hl => ?_)
  refine lv_aload_n hx hb dX4_fits_6 rfl (lv_at hl 1 rfl) ?_
  refine lv_iload_n hx hb dX4_fits_7 rfl (lv_at hl 3 rfl) ?_
  have f_3822 : F_3816 (ad 5) = tO (ad 6) t9.1 := (o_3820 (ad 5) ).trans htx.1
  refine q_calli hw (q_runV (As := [.int (nI (s9))]) (c_X4_codeAt l G L F_3816 ad hL hin t9 (htx.keep (fun i0 hi => (o_3820 (ad (i0)) ))) hco s9 (by omega)) C0 hw vw_X4_23 ((hL 5 (by omega))) f_3822 rfl rfl rfl hl.1 rfl (Nat.le_of_ble_eq_true rfl) dX4_fits_8 ⟨by decide, by decide⟩ ⟨by decide, by decide⟩) rfl rfl (fun r_3825 F_3823 H locs hw hp_3824 => ?_)
  obtain ⟨he_3826, o_3827⟩ := hp_3824
  subst he_3826
  have cb_3828 := cdA_le hco s9
  refine q_calli hw (q_runS (As := [.int (nI (cdA t9 s9))]) (c_X4_digitsOf l G L F_3823 (nI (cdA t9 s9))) C0 hw sw_X4_35 rfl hl.1 rfl (Nat.le_of_ble_eq_true rfl) dX4_fits_11 ⟨by decide, by decide⟩ ⟨by decide, by decide⟩) rfl rfl (fun r_3831 F_3829 H locs hw hp_3830 => ?_)
  obtain ⟨he_3832, o_3833⟩ := hp_3830
  subst he_3832
  have hd9 := dgA_le t9 s9
  refine n_top (y := .int (nI (dgA t9 s9))) rfl ?_
  refine lv_istore (lv' := [(4, .int (nI (dgA t9 s9))), (3, .int (nI (cdA t9 p9))), (0, .ref (ad 5)), (1, .int (nI (p9))), (2, .int (nI (s9)))]) hx hb dX4_fits_14 hl (by decide) rfl (fun ls hl => ?_)
  refine lv_iload_n hx hb dX4_fits_16 rfl (lv_at hl 3 rfl) ?_
  refine lv_iload_n hx hb dX4_fits_17 rfl (lv_at hl 4 rfl) ?_
  refine n_isub hx hb (by omega) dX4_fits_18 ?_
  refine lv_istore (lv' := [(5, .int (nI (p9 - s9))), (4, .int (nI (dgA t9 s9))), (3, .int (nI (cdA t9 p9))), (0, .ref (ad 5)), (1, .int (nI (p9))), (2, .int (nI (s9)))]) hx hb dX4_fits_19 hl (by decide) rfl (fun ls hl => ?_)
  refine lv_iload hx hb dX4_fits_21 (lv_at hl 0 rfl) ?_
  refine n_if_ne (tgt := 37) hx hb dX4_fits_23 (by decide) (by omega) (fun c_23 => ?_) (fun c_23 => ?_)
  · skip
    refine lv_iload hx hb dX4_fits_37 (lv_at hl 0 rfl) ?_
    refine lv_iload hx hb dX4_fits_39 (lv_at hl 1 rfl) ?_
    refine lv_iconst (v := nI 1) hx hb dX4_fits_41 (by decide) ?_
    refine n_iadd hx hb dX4_fits_42 ?_
    refine n_icmp_ne (tgt := 58) hx hb dX4_fits_43 (by decide) (by omega) (by omega) (fun c_43 => ?_) (fun c_43 => ?_)
    · skip
      refine lv_iload hx hb dX4_fits_58 (lv_at hl 0 rfl) ?_
      refine lv_iload hx hb dX4_fits_60 (lv_at hl 1 rfl) ?_
      refine lv_iconst (v := nI 3) hx hb dX4_fits_62 (by decide) ?_
      refine n_iadd hx hb dX4_fits_63 ?_
      refine n_icmp_ne (tgt := 79) hx hb dX4_fits_64 (by decide) (by omega) (by omega) (fun c_64 => ?_) (fun c_64 => ?_)
      · skip
        refine lv_iload_n hx hb dX4_fits_79 rfl (lv_at hl 2 rfl) ?_
        refine q_calli hw (q_runS (As := [.int (nI (cdA t9 p9))]) (c_X4_isSlot l G L F_3829 (cdA t9 p9) (by omega)) C0 hw sw_X4_27 rfl hl.1 rfl (Nat.le_of_ble_eq_true rfl) dX4_fits_80 ⟨by decide, by decide⟩ ⟨by decide, by decide⟩) rfl rfl (fun r_3836 F_3834 H locs hw hp_3835 => ?_)
        obtain ⟨he_3837, o_3838⟩ := hp_3835
        by_cases hb_3839 : isSl (cdA t9 p9)
        · skip
          rw [if_pos hb_3839] at he_3837
          subst he_3837
          exact r_i C0 hr hlk hw (v := nI 1) rfl ⟨fin_t (by unfold fitsB; rw [if_neg c_23, if_neg c_43, if_neg c_64]; exact decide_eq_true hb_3839), (fun q  => ((o_3838 q ).trans ((o_3833 q ).trans ((o_3827 q ).trans (o_3820 q )))))⟩ (Nat.le_refl _) (Nat.le_refl _) dX4_fits_83 hQ
        · skip
          rw [if_neg hb_3839] at he_3837
          subst he_3837
          exact r_i C0 hr hlk hw (v := nI 0) rfl ⟨fin_f (by unfold fitsB; rw [if_neg c_23, if_neg c_43, if_neg c_64]; exact decide_eq_false hb_3839), (fun q  => ((o_3838 q ).trans ((o_3833 q ).trans ((o_3827 q ).trans (o_3820 q )))))⟩ (Nat.le_refl _) (Nat.le_refl _) dX4_fits_83 hQ
      · skip
        refine lv_iload_n hx hb dX4_fits_67 rfl (lv_at hl 2 rfl) ?_
        refine lv_bipush (v := nI 59) hx hb dX4_fits_68 (by decide) ?_
        refine n_icmp_ne (tgt := 77) hx hb dX4_fits_70 (by decide) (by omega) (by decide) (fun c_70 => ?_) (fun c_70 => ?_)
        · skip
          refine lv_iconst (v := nI 0) hx hb dX4_fits_77 (by decide) ?_
          exact r_i C0 hr hlk hw (v := nI 0) rfl ⟨fin_f (by unfold fitsB; rw [if_neg c_23, if_neg c_43, if_pos c_64]; exact decide_eq_false c_70), (fun q  => ((o_3833 q ).trans ((o_3827 q ).trans (o_3820 q ))))⟩ (Nat.le_refl _) (Nat.le_refl _) dX4_fits_78 hQ
        · skip
          refine lv_iconst (v := nI 1) hx hb dX4_fits_73 (by decide) ?_
          refine lv_goto (tgt := 78) hx hb dX4_fits_74 (by decide) ?_
          exact r_i C0 hr hlk hw (v := nI 1) rfl ⟨fin_t (by unfold fitsB; rw [if_neg c_23, if_neg c_43, if_pos c_64]; exact decide_eq_true c_70), (fun q  => ((o_3833 q ).trans ((o_3827 q ).trans (o_3820 q ))))⟩ (Nat.le_refl _) (Nat.le_refl _) dX4_fits_78 hQ
    · skip
      refine lv_iload_n hx hb dX4_fits_46 rfl (lv_at hl 2 rfl) ?_
      refine lv_bipush (v := nI 62) hx hb dX4_fits_47 (by decide) ?_
      refine n_icmp_ne (tgt := 56) hx hb dX4_fits_49 (by decide) (by omega) (by decide) (fun c_49 => ?_) (fun c_49 => ?_)
      · skip
        refine lv_iconst (v := nI 0) hx hb dX4_fits_56 (by decide) ?_
        exact r_i C0 hr hlk hw (v := nI 0) rfl ⟨fin_f (by unfold fitsB; rw [if_neg c_23, if_pos c_43]; exact decide_eq_false c_49), (fun q  => ((o_3833 q ).trans ((o_3827 q ).trans (o_3820 q ))))⟩ (Nat.le_refl _) (Nat.le_refl _) dX4_fits_57 hQ
      · skip
        refine lv_iconst (v := nI 1) hx hb dX4_fits_52 (by decide) ?_
        refine lv_goto (tgt := 57) hx hb dX4_fits_53 (by decide) ?_
        exact r_i C0 hr hlk hw (v := nI 1) rfl ⟨fin_t (by unfold fitsB; rw [if_neg c_23, if_pos c_43]; exact decide_eq_true c_49), (fun q  => ((o_3833 q ).trans ((o_3827 q ).trans (o_3820 q ))))⟩ (Nat.le_refl _) (Nat.le_refl _) dX4_fits_57 hQ
  · skip
    refine lv_iload hx hb dX4_fits_26 (lv_at hl 1 rfl) ?_
    refine n_if_le (tgt := 35) hx hb dX4_fits_28 (by decide) (by omega) (fun c_28 => ?_) (fun c_28 => ?_)
    · skip
      refine lv_iconst (v := nI 0) hx hb dX4_fits_35 (by decide) ?_
      exact r_i C0 hr hlk hw (v := nI 0) rfl ⟨fin_f (by unfold fitsB; rw [if_pos c_23]; exact decide_eq_false (by omega)), (fun q  => ((o_3833 q ).trans ((o_3827 q ).trans (o_3820 q ))))⟩ (Nat.le_refl _) (Nat.le_refl _) dX4_fits_36 hQ
    · skip
      refine lv_iconst (v := nI 1) hx hb dX4_fits_31 (by decide) ?_
      refine lv_goto (tgt := 36) hx hb dX4_fits_32 (by decide) ?_
      exact r_i C0 hr hlk hw (v := nI 1) rfl ⟨fin_t (by unfold fitsB; rw [if_pos c_23]; exact decide_eq_true (by omega)), (fun q  => ((o_3833 q ).trans ((o_3827 q ).trans (o_3820 q ))))⟩ (Nat.le_refl _) (Nat.le_refl _) dX4_fits_36 hQ
