theorem ob_i : Cond.instanceMethod Lib.objectInit ∈ TB := tb_t 22 (by decide +kernel) rfl
theorem ob_c : Cond.code Lib.objectInit ⟨#[0xb1]⟩ 1 none ∈ TB := tb_t 23 (by decide +kernel) rfl
theorem ob_X0 : Cond.methodLink RX0 3 Lib.objectInit ∈ TB := tb_t 78 (by decide +kernel) rfl
theorem ob_X1 : Cond.methodLink RX1 3 Lib.objectInit ∈ TB := tb_t 111 (by decide +kernel) rfl
theorem ob_X2 : Cond.methodLink RX2 3 Lib.objectInit ∈ TB := tb_t 35 (by decide +kernel) rfl
theorem ob_X3 : Cond.methodLink RX3 3 Lib.objectInit ∈ TB := tb_t 29 (by decide +kernel) rfl
theorem ob_X4 : Cond.methodLink RX4 3 Lib.objectInit ∈ TB := tb_t 98 (by decide +kernel) rfl
theorem ob_X5 : Cond.methodLink RX5 3 Lib.objectInit ∈ TB := tb_t 21 (by decide +kernel) rfl
theorem ac_int : Cond.arrayClass .int ∈ TB := tb_t 51 (by decide +kernel) rfl
theorem ac_boolean : Cond.arrayClass .boolean ∈ TB := tb_t 105 (by decide +kernel) rfl
theorem nw_X5_9 : nWd RX5 9 RX3 TX3 5 3 [.null, .int (nI (0)), .int (nI (0)), .int (nI (0)), .int (nI (0))] := ⟨uw_X3, rfl, tb_t 24 (by decide +kernel) rfl, tb_t 25 (by decide +kernel) rfl, tb_t 2 (by decide +kernel) rfl, tyX3, tyX3_ok, fun j hj => by
  match j, hj with
  | 0, _ => exact rfl
  | 1, _ => exact rfl
  | 2, _ => exact rfl
  | 3, _ => exact rfl
  | 4, _ => exact rfl
  | j + 5, h9 => exact absurd h9 (by omega)⟩
theorem nw_X5_16 : nWd RX5 16 RX0 TX0 2 0 [.null, .int (nI (0))] := ⟨uw_X0, rfl, tb_t 73 (by decide +kernel) rfl, tb_t 74 (by decide +kernel) rfl, tb_t 4 (by decide +kernel) rfl, tyX0, tyX0_ok, fun j hj => by
  match j, hj with
  | 0, _ => exact rfl
  | 1, _ => exact rfl
  | j + 2, h9 => exact absurd h9 (by omega)⟩
theorem nw_X5_34 : nWd RX5 34 RX4 TX4 2 4 [.null, .int (nI (0))] := ⟨uw_X4, rfl, tb_t 93 (by decide +kernel) rfl, tb_t 94 (by decide +kernel) rfl, tb_t 5 (by decide +kernel) rfl, tyX4, tyX4_ok, fun j hj => by
  match j, hj with
  | 0, _ => exact rfl
  | 1, _ => exact rfl
  | j + 2, h9 => exact absurd h9 (by omega)⟩
theorem nw_X5_41 : nWd RX5 41 RX1 TX1 14 1 [.null, .null, .null, .null, .null, .null, .null, .null, .null, .null, .null, .null, .null, .null] := ⟨uw_X1, rfl, tb_t 106 (by decide +kernel) rfl, tb_t 107 (by decide +kernel) rfl, tb_t 6 (by decide +kernel) rfl, tyX1, tyX1_ok, fun j hj => by
  match j, hj with
  | 0, _ => exact rfl
  | 1, _ => exact rfl
  | 2, _ => exact rfl
  | 3, _ => exact rfl
  | 4, _ => exact rfl
  | 5, _ => exact rfl
  | 6, _ => exact rfl
  | 7, _ => exact rfl
  | 8, _ => exact rfl
  | 9, _ => exact rfl
  | 10, _ => exact rfl
  | 11, _ => exact rfl
  | 12, _ => exact rfl
  | 13, _ => exact rfl
  | j + 14, h9 => exact absurd h9 (by omega)⟩
theorem nw_X5_23 : nWd RX5 23 RX2 TX2 3 2 [.int (nI (0)), .null, .null] := ⟨uw_X2, rfl, tb_t 90 (by decide +kernel) rfl, tb_t 31 (by decide +kernel) rfl, tb_t 3 (by decide +kernel) rfl, tyX2, tyX2_ok, fun j hj => by
  match j, hj with
  | 0, _ => exact rfl
  | 1, _ => exact rfl
  | 2, _ => exact rfl
  | j + 3, h9 => exact absurd h9 (by omega)⟩
theorem nw_X3_9 : nWd RX3 9 RX2 TX2 3 2 [.int (nI (0)), .null, .null] := ⟨uw_X2, rfl, tb_t 30 (by decide +kernel) rfl, tb_t 31 (by decide +kernel) rfl, tb_t 3 (by decide +kernel) rfl, tyX2, tyX2_ok, fun j hj => by
  match j, hj with
  | 0, _ => exact rfl
  | 1, _ => exact rfl
  | 2, _ => exact rfl
  | j + 3, h9 => exact absurd h9 (by omega)⟩
theorem nw_X0_9 : nWd RX0 9 RX3 TX3 5 3 [.null, .int (nI (0)), .int (nI (0)), .int (nI (0)), .int (nI (0))] := ⟨uw_X3, rfl, tb_t 79 (by decide +kernel) rfl, tb_t 25 (by decide +kernel) rfl, tb_t 2 (by decide +kernel) rfl, tyX3, tyX3_ok, fun j hj => by
  match j, hj with
  | 0, _ => exact rfl
  | 1, _ => exact rfl
  | 2, _ => exact rfl
  | 3, _ => exact rfl
  | 4, _ => exact rfl
  | j + 5, h9 => exact absurd h9 (by omega)⟩
theorem nw_L_44 : nWd RL 44 RX5 TX5 8 5 [.null, .null, .null, .null, .null, .null, .null, .null] := ⟨uw_X5, rfl, tb_t 16 (by decide +kernel) rfl, tb_t 17 (by decide +kernel) rfl, tb_t 1 (by decide +kernel) rfl, tyX5, tyX5_ok, fun j hj => by
  match j, hj with
  | 0, _ => exact rfl
  | 1, _ => exact rfl
  | 2, _ => exact rfl
  | 3, _ => exact rfl
  | 4, _ => exact rfl
  | 5, _ => exact rfl
  | 6, _ => exact rfl
  | 7, _ => exact rfl
  | j + 8, h9 => exact absurd h9 (by omega)⟩
theorem cl_X0_9 : Cond.classLink RX0 9 "LineFields$State" ∈ TB := tb_t 79 (by decide +kernel) rfl
theorem cl_X5_23 : Cond.classLink RX5 23 "LineFields$Shape" ∈ TB := tb_t 90 (by decide +kernel) rfl
theorem cl_X2_15 : Cond.classLink RX2 15 "[[I" ∈ TB := tb_t 36 (by decide +kernel) rfl
theorem pw_X0_0 : pWd TX0 2 0 (.array (.object "LineFields$State")) := ⟨⟨tyX0, tyX0_ok⟩, nmX0, by decide +kernel⟩
theorem pw_X1_0 : pWd TX1 14 0 (.array .int) := ⟨⟨tyX1, tyX1_ok⟩, nmX1, by decide +kernel⟩
theorem pw_X1_1 : pWd TX1 14 1 (.array .int) := ⟨⟨tyX1, tyX1_ok⟩, nmX1, by decide +kernel⟩
theorem pw_X1_2 : pWd TX1 14 2 (.array .int) := ⟨⟨tyX1, tyX1_ok⟩, nmX1, by decide +kernel⟩
theorem pw_X1_3 : pWd TX1 14 3 (.array .int) := ⟨⟨tyX1, tyX1_ok⟩, nmX1, by decide +kernel⟩
theorem pw_X1_4 : pWd TX1 14 4 (.array .int) := ⟨⟨tyX1, tyX1_ok⟩, nmX1, by decide +kernel⟩
theorem pw_X1_5 : pWd TX1 14 5 (.array .int) := ⟨⟨tyX1, tyX1_ok⟩, nmX1, by decide +kernel⟩
theorem pw_X1_6 : pWd TX1 14 6 (.array .int) := ⟨⟨tyX1, tyX1_ok⟩, nmX1, by decide +kernel⟩
theorem pw_X1_7 : pWd TX1 14 7 (.array .int) := ⟨⟨tyX1, tyX1_ok⟩, nmX1, by decide +kernel⟩
theorem pw_X1_8 : pWd TX1 14 8 (.array .int) := ⟨⟨tyX1, tyX1_ok⟩, nmX1, by decide +kernel⟩
theorem pw_X1_9 : pWd TX1 14 9 (.array .int) := ⟨⟨tyX1, tyX1_ok⟩, nmX1, by decide +kernel⟩
theorem pw_X1_10 : pWd TX1 14 10 (.array .int) := ⟨⟨tyX1, tyX1_ok⟩, nmX1, by decide +kernel⟩
theorem pw_X1_11 : pWd TX1 14 11 (.array .int) := ⟨⟨tyX1, tyX1_ok⟩, nmX1, by decide +kernel⟩
theorem pw_X1_12 : pWd TX1 14 12 (.array .int) := ⟨⟨tyX1, tyX1_ok⟩, nmX1, by decide +kernel⟩
theorem pw_X1_13 : pWd TX1 14 13 (.array .int) := ⟨⟨tyX1, tyX1_ok⟩, nmX1, by decide +kernel⟩
theorem pw_X2_1 : pWd TX2 3 1 (.array (.array .int)) := ⟨⟨tyX2, tyX2_ok⟩, nmX2, by decide +kernel⟩
theorem pw_X2_2 : pWd TX2 3 2 (.array (.array .int)) := ⟨⟨tyX2, tyX2_ok⟩, nmX2, by decide +kernel⟩
theorem pw_X3_0 : pWd TX3 5 0 (.object "LineFields$Shape") := ⟨⟨tyX3, tyX3_ok⟩, nmX3, by decide +kernel⟩
theorem pw_X4_0 : pWd TX4 2 0 (.array .int) := ⟨⟨tyX4, tyX4_ok⟩, nmX4, by decide +kernel⟩
theorem pw_X5_0 : pWd TX5 8 0 (.object "LineFields$State") := ⟨⟨tyX5, tyX5_ok⟩, nmX5, by decide +kernel⟩
theorem pw_X5_1 : pWd TX5 8 1 (.object "LineFields$History") := ⟨⟨tyX5, tyX5_ok⟩, nmX5, by decide +kernel⟩
theorem pw_X5_2 : pWd TX5 8 2 (.array (.object "LineFields$Shape")) := ⟨⟨tyX5, tyX5_ok⟩, nmX5, by decide +kernel⟩
theorem pw_X5_3 : pWd TX5 8 3 (.array .boolean) := ⟨⟨tyX5, tyX5_ok⟩, nmX5, by decide +kernel⟩
theorem pw_X5_4 : pWd TX5 8 4 (.object "LineFields$Text") := ⟨⟨tyX5, tyX5_ok⟩, nmX5, by decide +kernel⟩
theorem pw_X5_5 : pWd TX5 8 5 (.object "LineFields$Reckoner") := ⟨⟨tyX5, tyX5_ok⟩, nmX5, by decide +kernel⟩
theorem pw_X5_6 : pWd TX5 8 6 (.array .int) := ⟨⟨tyX5, tyX5_ok⟩, nmX5, by decide +kernel⟩
theorem pw_X5_7 : pWd TX5 8 7 (.array .int) := ⟨⟨tyX5, tyX5_ok⟩, nmX5, by decide +kernel⟩
section KROWS
variable {p : Program} {l : Launch} {e : Env} {R : Room} {s : State} {m : MethodId} {args : Array Value} {below : List Frame} {meth : Method} {c : Code} {H : Heap} {locs : List Loc} {cells slots : Nat} {Q : State → Prop}
variable {cc : ByteArray} {nL : Nat} {own : String} {pc : Nat} {ls : Array Slot} {rest : List Value} {G : Gl} {L L1 : List Nat} {F F1 : Nat → va_E} {a : Nat}
/-- what a new cell brings -/
def Gw (L L1 : List Nat) (F F1 : Nat → va_E) (a sz : Nat) (e9 : va_E) : Prop := gr L L1 sz ∧ F1 a = e9 ∧ (∀ q ∈ L, F1 q = F q ∧ q < a) ∧ a ∈ L1 ∧ sz ≤ a
theorem Gw.of (hw : wD G L F s H locs) (e9 : va_E) : Gw L (L ++ [H.size]) F (va_up F H.size e9) H.size H.size e9 := ⟨gr1 hw, va_up_self _ _ _, fun q hq => ⟨va_up_ne _ _ (Nat.ne_of_lt (hw.lt hq)), hw.lt hq⟩, List.mem_append_right _ (List.mem_singleton.mpr rfl), Nat.le_refl _⟩
theorem k_newi (C0 : Cx p s m args c cc nL own G L) (hw : wD G L F s H locs) {N : Nat} (hN : N < 2 ^ 26) (hby : N * 4 ≤ 536870912) (hcells : cells + 1 ≤ R.cells) (hslots : slots + N ≤ R.slots) (hdg : decode cc pc = .ok (.newarray .int, 2))
    (kk : ∀ (L1 : List Nat) (F1 : Nat → va_E) (a : Nat) (H1 : Heap), Gw L L1 F F1 a H.size (.inl (G.2 0, N, .inl (fun _ => nI 0))) → wD G L1 F1 s H1 locs → W p l e R s m args below meth c H1 locs (cells + 1) (slots + N) Q (F0 m (pc + 2) ls (.ref a :: rest))) : W p l e R s m args below meth c H locs cells slots Q (F0 m pc ls (.int (nI N) :: rest)) :=
  q_newa C0 hw (ty := .int) 0 rfl rfl (fun h => h) ac_int hN (a0 := (N, .inl (fun _ => nI 0))) rfl hby hcells hslots hdg (fun H1 _ hw1 => kk _ _ _ H1 (Gw.of hw _) hw1)
theorem k_newz (C0 : Cx p s m args c cc nL own G L) (hw : wD G L F s H locs) {N : Nat} (hN : N < 2 ^ 26) (hby : N * 1 ≤ 536870912) (hcells : cells + 1 ≤ R.cells) (hslots : slots + N ≤ R.slots) (hdg : decode cc pc = .ok (.newarray .boolean, 2))
    (kk : ∀ (L1 : List Nat) (F1 : Nat → va_E) (a : Nat) (H1 : Heap), Gw L L1 F F1 a H.size (.inl (G.2 1, N, .inl (fun _ => nI 0))) → wD G L1 F1 s H1 locs → W p l e R s m args below meth c H1 locs (cells + 1) (slots + N) Q (F0 m (pc + 2) ls (.ref a :: rest))) : W p l e R s m args below meth c H locs cells slots Q (F0 m pc ls (.int (nI N) :: rest)) :=
  q_newa C0 hw (ty := .boolean) 1 rfl rfl (fun h => h) ac_boolean hN (a0 := (N, .inl (fun _ => nI 0))) rfl hby hcells hslots hdg (fun H1 _ hw1 => kk _ _ _ H1 (Gw.of hw _) hw1)
theorem k_newq (C0 : Cx p s m args c cc nL own G L) (hw : wD G L F s H locs) {C : String} (t0 : Nat) (ht : (g_tys G)[t0]? = some (G.2 t0, .object C)) {idx : Nat} (hcl : Cond.classLink own idx C ∈ TB) (hov : va_AO C s) {N : Nat} (hN : N < 2 ^ 26) (hcells : cells + 1 ≤ R.cells) (hslots : slots + N ≤ R.slots) (hdg : decode cc pc = .ok (.anewarray idx, 3))
    (kk : ∀ (L1 : List Nat) (F1 : Nat → va_E) (a : Nat) (H1 : Heap), Gw L L1 F F1 a H.size (.inl (G.2 t0, N, .inr (.inr (.inr (.inr (fun _ => none)))))) → wD G L1 F1 s H1 locs → W p l e R s m args below meth c H1 locs (cells + 1) (slots + N) Q (F0 m (pc + 3) ls (.ref a :: rest))) : W p l e R s m args below meth c H locs cells slots Q (F0 m pc ls (.int (nI N) :: rest)) :=
  q_newq C0 hw t0 ht hcl hov hN hcells hslots hdg (fun H1 _ hw1 => kk _ _ _ H1 (Gw.of hw _) hw1)
theorem k_new (C0 : Cx p s m args c cc nL own G L) (hw : wD G L F s H locs) {idx N ci : Nat} {C : String} {T : u_T} {fs : List Value} (nw : nWd own idx C T N ci fs) (hcells : cells + 1 ≤ R.cells) (hslots : slots + N ≤ R.slots) (hdg : decode cc pc = .ok (.new idx, 3))
    (kk : ∀ (L1 : List Nat) (F1 : Nat → va_E) (a : Nat) (H1 : Heap), Gw L L1 F F1 a H.size (.inr (ci, fs)) → wD G L1 F1 s H1 locs → W p l e R s m args below meth c H1 locs (cells + 1) (slots + N) Q (F0 m (pc + 3) ls (.ref a :: rest))) : W p l e R s m args below meth c H locs cells slots Q (F0 m pc ls rest) :=
  q_new C0 hw nw hcells hslots hdg (fun H1 _ hw1 => kk _ _ _ H1 (Gw.of hw _) hw1)
theorem k_newM (C0 : Cx p s m args c cc nL own G L) (hAI : g_AI s) (hw : wD G L F s H locs) {idx : Nat} (hcl : Cond.classLink own idx "[[I" ∈ TB) (hcells : cells + 7 ≤ R.cells) (hslots : slots + 48 ≤ R.slots) (hdg : decode cc pc = .ok (.multianewarray idx 2, 4))
    (kk : ∀ (L1 : List Nat) (F1 : Nat → va_E) (a : Nat) (H1 : Heap), Gw L L1 F F1 a H.size (oE G (fun i => a + 1 + i)) → (∀ i, i < 6 → F1 (a + 1 + i) = rw7 G (fun _ => zc 0)) → (∀ i, i < 6 → a + 1 + i ∈ L1) → wD G L1 F1 s H1 locs → W p l e R s m args below meth c H1 locs (cells + 7) (slots + 48) Q (F0 m (pc + 4) ls (.ref a :: rest))) : W p l e R s m args below meth c H locs cells slots Q (F0 m pc ls (.int (nI 7) :: .int (nI 6) :: rest)) :=
  q_newM C0 hAI hw hcl ac_int hcells hslots hdg (fun L1 F1 H1 g hw1 h1 h2 h3 h4 => kk L1 F1 H.size H1 ⟨g, h1, fun q hq => ⟨h4 q (hw.lt hq), hw.lt hq⟩, h3 0 (by omega), Nat.le_refl _⟩ h2 (fun i hi => by have h9 := h3 (i + 1) (by omega); rw [show H.size + (i + 1) = H.size + 1 + i by omega] at h9; exact h9) hw1)
end KROWS
