abbrev rm_L_put : Room := { frames := 0, cells := 0, slots := 0, locals := 0 }
set_option maxHeartbeats 4000000 in
set_option maxRecDepth 100000 in
theorem c_L_put (l : Launch) (G : Gl) (L : List Nat) (F : Nat → va_E) (nu rows pa slot un : Nat) (a b c9 d9 e9 f9 : Nat) (X : Rws) (u : Nat → ZP) (mn : nu ∈ L) (mr : rows ∈ L) (mp : pa ∈ L) (fn : F nu = nE G a b c9 d9 e9 f9) (fr : F rows = pcF G X) (fp : F pa = rw7 G u) (hs6 : slot < 6) (hmo : un * a ≤ b) (hf6 : f9 ≤ 6) : CI l yL_put cL_put 7 (some .int) rm_L_put G L F [.ref nu, .ref rows, .int (nI (slot)), .ref pa, .int (nI (un))] (fun r F1 => r = lowR u ∧ F1 nu = nE G a (b - un * a) (c9 + un * a) (d9 + 1) e9 (hs f9) ∧ F1 rows = pcF G (va_up X slot u) ∧ ∀ q, q ≠ nu → q ≠ rows → F1 q = F q) := by
  refine CG_of (by decide) (Nat.le_of_ble_eq_true rfl) rfl ?_
  intro p e s m args below meth c Q C0 hr hlk hnm hQ hw ls hl
  have hx := C0.x
  have hb := C0.b
  have nn1 : nu ≠ rows := ne_aa (by decide) fn fr
  have nn2 : nu ≠ pa := ne_aa (by decide) fn fp
  have nn3 : rows ≠ pa := ne_aa (by decide) fr fp
  refine lv_iconst (v := (-1)) hx hb dL_put_0 (by decide) ?_
  refine lv_istore (lv' := [(5, .int ((-1))), (0, .ref nu), (1, .ref rows), (2, .int (nI (slot))), (3, .ref pa), (4, .int (nI (un)))]) hx hb dL_put_1 hl (by decide) rfl (fun ls hl => ?_)
  refine lv_bipush (v := nI 6) hx hb dL_put_3 (by decide) ?_
  refine lv_istore (lv' := [(6, .int (nI (6))), (5, .int ((-1))), (0, .ref nu), (1, .ref rows), (2, .int (nI (slot))), (3, .ref pa), (4, .int (nI (un)))]) hx hb dL_put_5 hl (by decide) rfl (fun ls hl => ?_)
  have lp7 : ∀ (n : Nat) (r : Nat), r ≤ 7 → r < n → ∀ (F_5089 : Nat → va_E) (H : Heap) (locs : List Loc), wD G L F_5089 s H locs → F_5089 nu = nE G a b c9 d9 e9 f9 → F_5089 rows = pcF G (va_up X slot (putr u (X slot) r)) → F_5089 pa = rw7 G u → (∀ q, q ≠ nu → q ≠ rows → F_5089 q = F q) → ∀ ls : Array Slot, lv_has ls 7 [(0, .ref nu), (1, .ref rows), (2, .int (nI (slot))), (3, .ref pa), (4, .int (nI (un))), (5, .int (l_lw u (7 - r))), (6, .int (nI (r) + (-1)))] → W p l e rm_L_put s m args below meth c H locs 0 0 Q (F0 m 7 ls []) := by
    intro n
    induction n with
    | zero => intro r hr9 hm; exact absurd hm (Nat.not_lt_zero _)
    | succ n ih_7 =>
      intro r hr9 hm F_5089 H locs hw f_5090 f_5091 f_5092 fr_5093 ls hl
      rcases r with _ | r
      · skip
        have hl : lv_has ls 7 [(0, .ref nu), (1, .ref rows), (2, .int (nI (slot))), (3, .ref pa), (4, .int (nI (un))), (5, .int (l_lw u (7 - 0))), (6, .int ((-1)))] := hl
        refine lv_iload hx hb dL_put_7 (lv_at hl 6 rfl) ?_
        refine lv_if_lt (tgt := 48) hx hb dL_put_9 (by decide) (fun c_9 => ?_) (fun c_9 => ?_)
        · skip
          have f_5094 : F_5089 rows = pcF G (va_up X slot u) := f_5091.trans (congrArg (pcF G) (putr_0 X slot u))
          have hl : lv_has ls 7 [(0, .ref nu), (1, .ref rows), (2, .int (nI (slot))), (3, .ref pa), (4, .int (nI (un))), (5, .int (lowR u)), (6, .int ((-1)))] := (by rw [← lw_end]; exact hl)
          refine lv_aload_n hx hb dL_put_48 rfl (lv_at hl 0 rfl) ?_
          refine lv_iconst (v := nI 1) hx hb dL_put_49 (by decide) ?_
          refine lv_dup2_11 hx hb dL_put_50 rfl rfl ?_
          refine q_iald C0 hw mn f_5090 (1) (by omega) (by decide) (v := nI (b)) rfl dL_put_51 ?_
          refine lv_aload_n hx hb dL_put_52 rfl (lv_at hl 0 rfl) ?_
          refine lv_iconst (v := nI 0) hx hb dL_put_53 (by decide) ?_
          refine q_iald C0 hw mn f_5090 (0) (by omega) (by decide) (v := nI (a)) rfl dL_put_54 ?_
          refine lv_iload hx hb dL_put_55 (lv_at hl 4 rfl) ?_
          refine n_imul hx hb dL_put_57 ?_
          have hm2 : a * un ≤ b := by rw [Nat.mul_comm]; exact hmo
          refine n_isub hx hb (by omega) dL_put_58 ?_
          refine q_iast C0 hw mn f_5090 1 (by decide) (by decide) dL_put_59 (fun F_5095 H locs hw f_5096 o_5097 => ?_)
          rw [Nat.mul_comm a un] at f_5096
          have f_5098 : F_5095 nu = nE G a (b - un * a) c9 d9 e9 f9 := f_5096.trans (by rw [nG_u1])
          refine lv_aload_n hx hb dL_put_60 rfl (lv_at hl 0 rfl) ?_
          refine lv_iconst (v := nI 2) hx hb dL_put_61 (by decide) ?_
          refine lv_dup2_11 hx hb dL_put_62 rfl rfl ?_
          refine q_iald C0 hw mn f_5098 (2) (by omega) (by decide) (v := nI (c9)) rfl dL_put_63 ?_
          refine lv_aload_n hx hb dL_put_64 rfl (lv_at hl 0 rfl) ?_
          refine lv_iconst (v := nI 0) hx hb dL_put_65 (by decide) ?_
          refine q_iald C0 hw mn f_5098 (0) (by omega) (by decide) (v := nI (a)) rfl dL_put_66 ?_
          refine lv_iload hx hb dL_put_67 (lv_at hl 4 rfl) ?_
          refine n_imul hx hb dL_put_69 ?_
          refine n_iadd hx hb dL_put_70 ?_
          refine q_iast C0 hw mn f_5098 2 (by decide) (by decide) dL_put_71 (fun F_5099 H locs hw f_5100 o_5101 => ?_)
          rw [Nat.mul_comm a un] at f_5100
          have f_5102 : F_5099 nu = nE G a (b - un * a) (c9 + un * a) d9 e9 f9 := f_5100.trans (by rw [nG_u2])
          refine lv_aload_n hx hb dL_put_72 rfl (lv_at hl 0 rfl) ?_
          refine lv_iconst (v := nI 3) hx hb dL_put_73 (by decide) ?_
          refine lv_dup2_11 hx hb dL_put_74 rfl rfl ?_
          refine q_iald C0 hw mn f_5102 (3) (by omega) (by decide) (v := nI (d9)) rfl dL_put_75 ?_
          refine lv_iconst (v := nI 1) hx hb dL_put_76 (by decide) ?_
          refine n_iadd hx hb dL_put_77 ?_
          refine q_iast C0 hw mn f_5102 3 (by decide) (by decide) dL_put_78 (fun F_5103 H locs hw f_5104 o_5105 => ?_)
          have f_5106 : F_5103 nu = nE G a (b - un * a) (c9 + un * a) (d9 + 1) e9 f9 := f_5104.trans (by rw [nG_u3])
          refine lv_aload_n hx hb dL_put_79 rfl (lv_at hl 0 rfl) ?_
          refine lv_iconst (v := nI 5) hx hb dL_put_80 (by decide) ?_
          refine q_iald C0 hw mn f_5106 (5) (by omega) (by decide) (v := nI (f9)) rfl dL_put_81 ?_
          refine lv_bipush (v := nI 6) hx hb dL_put_82 (by decide) ?_
          refine n_icmp_ge (tgt := 94) hx hb dL_put_84 (by decide) (by omega) (by decide) (fun c_84 => ?_) (fun c_84 => ?_)
          · skip
            refine lv_iload hx hb dL_put_94 (lv_at hl 5 rfl) ?_
            have f_5107 : F_5095 rows = pcF G (va_up X slot u) := (o_5097 rows (Ne.symm (nn1))).trans f_5094
            have f_5108 : F_5099 rows = pcF G (va_up X slot u) := (o_5101 rows (Ne.symm (nn1))).trans f_5107
            have f_5109 : F_5103 rows = pcF G (va_up X slot u) := (o_5105 rows (Ne.symm (nn1))).trans f_5108
            exact r_i C0 hr hlk hw (v := (lowR u)) rfl ⟨rfl, (f_5106).trans (by rw [hs_b (by omega)]), f_5109, (fun q k0 k1 => ((o_5105 q k0).trans ((o_5101 q k0).trans ((o_5097 q k0).trans (fr_5093 q k0 k1)))))⟩ (Nat.le_refl _) (Nat.le_refl _) dL_put_96 hQ
          · skip
            refine lv_aload_n hx hb dL_put_87 rfl (lv_at hl 0 rfl) ?_
            refine lv_iconst (v := nI 5) hx hb dL_put_88 (by decide) ?_
            refine lv_dup2_11 hx hb dL_put_89 rfl rfl ?_
            refine q_iald C0 hw mn f_5106 (5) (by omega) (by decide) (v := nI (f9)) rfl dL_put_90 ?_
            refine lv_iconst (v := nI 1) hx hb dL_put_91 (by decide) ?_
            refine n_iadd hx hb dL_put_92 ?_
            refine q_iast C0 hw mn f_5106 5 (by decide) (by decide) dL_put_93 (fun F_5110 H locs hw f_5111 o_5112 => ?_)
            obtain ⟨F_5113, hw, f_5114, o_5115⟩ := hw.canonE f_5111 (nG_5 _ _ _ _ _ _ _)
            have o_5116 : ∀ q, q ≠ nu → F_5113 q = F_5103 q := fun q hq => (o_5115 q hq).trans (o_5112 q hq)
            refine lv_iload hx hb dL_put_94 (lv_at hl 5 rfl) ?_
            have f_5117 : F_5095 rows = pcF G (va_up X slot u) := (o_5097 rows (Ne.symm (nn1))).trans f_5094
            have f_5118 : F_5099 rows = pcF G (va_up X slot u) := (o_5101 rows (Ne.symm (nn1))).trans f_5117
            have f_5119 : F_5103 rows = pcF G (va_up X slot u) := (o_5105 rows (Ne.symm (nn1))).trans f_5118
            have f_5120 : F_5113 rows = pcF G (va_up X slot u) := (o_5116 rows (Ne.symm (nn1))).trans f_5119
            exact r_i C0 hr hlk hw (v := (lowR u)) rfl ⟨rfl, (f_5114).trans (by rw [hs_a (by omega)]), f_5120, (fun q k0 k1 => ((o_5116 q k0).trans ((o_5105 q k0).trans ((o_5101 q k0).trans ((o_5097 q k0).trans (fr_5093 q k0 k1))))))⟩ (Nat.le_refl _) (Nat.le_refl _) dL_put_96 hQ
        · skip
          exact absurd (by decide) c_9
      · skip
        have hl : lv_has ls 7 [(0, .ref nu), (1, .ref rows), (2, .int (nI (slot))), (3, .ref pa), (4, .int (nI (un))), (5, .int (l_lw u (7 - (r + 1)))), (6, .int (nI (r)))] := (by rw [pk_m1] at hl; exact hl)
        refine lv_iload hx hb dL_put_7 (lv_at hl 6 rfl) ?_
        refine n_if_lt (tgt := 48) hx hb dL_put_9 (by decide) (by omega) ?_
        refine lv_aload_n hx hb dL_put_12 rfl (lv_at hl 1 rfl) ?_
        refine lv_bipush (v := nI 7) hx hb dL_put_13 (by decide) ?_
        refine lv_iload_n hx hb dL_put_15 rfl (lv_at hl 2 rfl) ?_
        refine n_imul hx hb dL_put_16 ?_
        refine lv_iload hx hb dL_put_17 (lv_at hl 6 rfl) ?_
        refine n_iadd hx hb dL_put_19 ?_
        refine lv_aload_n hx hb dL_put_20 rfl (lv_at hl 3 rfl) ?_
        refine lv_iload hx hb dL_put_21 (lv_at hl 6 rfl) ?_
        refine q_rld C0 hw mp f_5092 (r) (by omega) dL_put_23 (fun z_5121 => ?_)
        refine q_pst42 C0 hw mr f_5091 slot r (by omega) (by omega) (z := u (r)) dL_put_24 (fun F_5122 H locs hw f_5123 o_5124 => ?_)
        refine lv_iload hx hb dL_put_25 (lv_at hl 6 rfl) ?_
        refine lv_iconst (v := nI 1) hx hb dL_put_27 (by decide) ?_
        refine n_icmp_le (tgt := 42) hx hb dL_put_28 (by decide) (by omega) (by decide) (fun c_28 => ?_) (fun c_28 => ?_)
        · skip
          have hl : lv_has ls 7 [(0, .ref nu), (1, .ref rows), (2, .int (nI (slot))), (3, .ref pa), (4, .int (nI (un))), (5, .int (l_lw u (7 - r))), (6, .int (nI (r)))] := (by rw [← lw_no u (by omega) (fun h9 => by omega)]; exact hl)
          refine lv_iinc (v := nI (r) + (-1)) (lv' := [(6, .int (nI (r) + (-1))), (0, .ref nu), (1, .ref rows), (2, .int (nI (slot))), (3, .ref pa), (4, .int (nI (un))), (5, .int (l_lw u (7 - r)))]) hx hb dL_put_42 hl (k := 6) rfl rfl (by decide) rfl (fun ls hl => ?_)
          refine lv_goto (tgt := 7) hx hb dL_put_45 (by decide) ?_
          have f_5125 : F_5122 nu = nE G a b c9 d9 e9 f9 := (o_5124 nu (nn1)).trans f_5090
          have f_5126 : F_5122 pa = rw7 G u := (o_5124 pa (Ne.symm (nn3))).trans f_5092
          exact ih_7 (r) ((by omega)) (by omega) F_5122 _ _ hw (f_5125) (f_5123.trans (congrArg (pcF G) (putr_s X slot r u))) (f_5126) (fun q k0 k1 => ((o_5124 q k1).trans (fr_5093 q k0 k1))) ls (lv_sub hl [1, 2, 3, 4, 5, 6, 0] rfl)
        · skip
          refine lv_aload_n hx hb dL_put_31 rfl (lv_at hl 3 rfl) ?_
          refine lv_iload hx hb dL_put_32 (lv_at hl 6 rfl) ?_
          have f_5127 : F_5122 pa = rw7 G u := (o_5124 pa (Ne.symm (nn3))).trans f_5092
          refine q_rld C0 hw mp f_5127 (r) (by omega) dL_put_34 (fun z_5128 => ?_)
          refine n_if_eq (tgt := 42) hx hb dL_put_35 (by decide) (by omega) (fun c_35 => ?_) (fun c_35 => ?_)
          · skip
            have hl : lv_has ls 7 [(0, .ref nu), (1, .ref rows), (2, .int (nI (slot))), (3, .ref pa), (4, .int (nI (un))), (5, .int (l_lw u (7 - r))), (6, .int (nI (r)))] := (by rw [← lw_no u (by omega) (fun h9 => h9.2 c_35)]; exact hl)
            refine lv_iinc (v := nI (r) + (-1)) (lv' := [(6, .int (nI (r) + (-1))), (0, .ref nu), (1, .ref rows), (2, .int (nI (slot))), (3, .ref pa), (4, .int (nI (un))), (5, .int (l_lw u (7 - r)))]) hx hb dL_put_42 hl (k := 6) rfl rfl (by decide) rfl (fun ls hl => ?_)
            refine lv_goto (tgt := 7) hx hb dL_put_45 (by decide) ?_
            have f_5129 : F_5122 nu = nE G a b c9 d9 e9 f9 := (o_5124 nu (nn1)).trans f_5090
            exact ih_7 (r) ((by omega)) (by omega) F_5122 _ _ hw (f_5129) (f_5123.trans (congrArg (pcF G) (putr_s X slot r u))) (f_5127) (fun q k0 k1 => ((o_5124 q k1).trans (fr_5093 q k0 k1))) ls (lv_sub hl [1, 2, 3, 4, 5, 6, 0] rfl)
          · skip
            refine lv_iload hx hb dL_put_38 (lv_at hl 6 rfl) ?_
            refine lv_istore (lv' := [(5, .int (nI (r))), (0, .ref nu), (1, .ref rows), (2, .int (nI (slot))), (3, .ref pa), (4, .int (nI (un))), (6, .int (nI (r)))]) hx hb dL_put_40 hl (by decide) rfl (fun ls hl => ?_)
            have hl : lv_has ls 7 [(5, .int (l_lw u (7 - r))), (0, .ref nu), (1, .ref rows), (2, .int (nI (slot))), (3, .ref pa), (4, .int (nI (un))), (6, .int (nI (r)))] := (by rw [← lw_yes u (by omega) ⟨by omega, c_35⟩]; exact hl)
            refine lv_iinc (v := nI (r) + (-1)) (lv' := [(6, .int (nI (r) + (-1))), (5, .int (l_lw u (7 - r))), (0, .ref nu), (1, .ref rows), (2, .int (nI (slot))), (3, .ref pa), (4, .int (nI (un)))]) hx hb dL_put_42 hl (k := 6) rfl rfl (by decide) rfl (fun ls hl => ?_)
            refine lv_goto (tgt := 7) hx hb dL_put_45 (by decide) ?_
            have f_5130 : F_5122 nu = nE G a b c9 d9 e9 f9 := (o_5124 nu (nn1)).trans f_5090
            exact ih_7 (r) ((by omega)) (by omega) F_5122 _ _ hw (f_5130) (f_5123.trans (congrArg (pcF G) (putr_s X slot r u))) (f_5127) (fun q k0 k1 => ((o_5124 q k1).trans (fr_5093 q k0 k1))) ls (lv_sub hl [2, 3, 4, 5, 6, 1, 0] rfl)
  exact lp7 _ (7) ((Nat.le_refl _)) (Nat.lt_succ_self _) F _ _ hw (fn) (fr.trans (putr_7 X slot u)) (fp) (fun q k0 k1 => rfl) ls (lv_sub hl [2, 3, 4, 5, 6, 1, 0] rfl)
