abbrev rm_L_agree : Room := { frames := 4, cells := 0, slots := 0, locals := 84 }
set_option maxHeartbeats 4000000 in
set_option maxRecDepth 100000 in
theorem c_L_agree (l : Launch) (G : Gl) (L : List Nat) (F : Nat → va_E) (ad : Nat → Nat) (nu fi fl : Nat) (hS : LSQ L ad nu fi fl) (A : AB) (hX : XW G F ad A) (hA : okA A) (hFl : okFl A) (hN : LNQ G F nu fi fl A) : CI l yL_agree cL_agree 6 (some .boolean) rm_L_agree G L F [.ref (ad 0), .ref nu, .ref fi, .ref fl] (fun r F1 => r = nI 1 ∧ LWQ G F1 ad nu fi fl A) := by
  refine CG_of (by decide) (Nat.le_of_ble_eq_true rfl) rfl ?_
  intro p e s m args below meth c Q C0 hr hlk hnm hQ hw ls hl
  obtain ⟨hL, hin, mnu, mfi, mfl, hnf, hnl, hff, hna, hfa, hga⟩ := id hS
  obtain ⟨fnu, ffi, ffl⟩ := id hN
  obtain ⟨⟨hc2, hc, hpu, hok⟩, ⟨hh6, hho⟩, -⟩ := id hA
  have had0 : ∀ i, i < 166 → F (ad i) = F (ad i) := fun _ _ => rfl
  have hx := C0.x
  have hb := C0.b
  have hg0 := gr.rfl (L := L) s.heap.size
  have hLs : ∀ q ∈ L, q < s.heap.size := fun q hq => hw.lt hq
  have hfr0 : ∀ q ∈ L, F q = F q := fun _ _ => rfl
  have hlt_nu := hLs nu mnu
  have hlt_fi := hLs fi mfi
  have hlt_fl := hLs fl mfl
  refine lv_iconst (v := nI 0) hx hb dL_agree_0 (by decide) ?_
  refine lv_istore (lv' := [(4, .int (nI (0))), (0, .ref (ad 0)), (1, .ref nu), (2, .ref fi), (3, .ref fl)]) hx hb dL_agree_1 hl (by decide) rfl (fun ls hl => ?_)
  have lp3_n_5444 : ∀ (n : Nat) (sl : Nat), 0 ≤ sl → sl ≤ 6 → 6 + 1 - sl < n → ∀ (F_5445 : Nat → va_E) (H : Heap) (locs : List Loc), wD G L F_5445 s H locs → LWQ G F_5445 ad nu fi fl A → ∀ ls : Array Slot, lv_has ls 6 [(0, .ref (ad 0)), (1, .ref nu), (2, .ref fi), (3, .ref fl), (4, .int (nI (sl)))] → W p l e rm_L_agree s m args below meth c H locs (0) (0) Q (F0 m 3 ls []) := by
    intro n
    induction n with
    | zero => intro sl hlo hhi hm; exact absurd hm (Nat.not_lt_zero _)
    | succ n ih_3_n_5447 =>
      intro sl hlo hhi hm F_5445 H locs hw hB_5446 ls hl
      obtain ⟨hX_5448, -, -, f_5449, f_5450, f_5451⟩ := hB_5446
      have had_5452 : ∀ i, i < 166 → F_5445 (ad i) = F_5445 (ad i) := fun _ _ => rfl
      refine lv_iload hx hb dL_agree_3 (lv_at hl 4 rfl) ?_
      refine lv_bipush (v := nI 6) hx hb dL_agree_5 (by decide) ?_
      refine n_icmp_ge (tgt := 76) hx hb dL_agree_7 (by decide) (by omega) (by decide) (fun c_7 => ?_) (fun c_7 => ?_)
      · skip
        obtain rfl : sl = 6 := by omega
        refine lv_aload_n hx hb dL_agree_76 rfl (lv_at hl 0 rfl) ?_
        refine lv_iconst (v := nI 0) hx hb dL_agree_77 (by decide) ?_
        have hX_5453 : XW G F_5445 ad A := (hX_5448.keep (fun i hi => (had_5452 i hi)))
        refine q_calli hw (q_runV (As := [.int (nI (0))]) (c_X5_count_0 l G L F_5445 ad hL hin A hX_5453 hA) C0 hw vw_L_115 (hL 0 (by decide)) hX_5453.1 rfl rfl rfl hl.1 rfl (Nat.le_of_ble_eq_true rfl) dL_agree_78 ⟨by decide, by decide⟩ ⟨(by show 0 + 0 ≤ 0; omega), (by show 0 + 0 ≤ 0; omega)⟩) rfl rfl (fun r_5456 F_5454 H locs hw hp_5455 => ?_)
        obtain ⟨he_5457, o_5458⟩ := hp_5455
        subst he_5457
        refine n_top (y := .int (nI (A.1.1))) (congrArg Value.int (congrArg nI (show cntA A 0 = A.1.1 from rfl))) ?_
        refine lv_aload_n hx hb dL_agree_81 rfl (lv_at hl 1 rfl) ?_
        refine lv_iconst (v := nI 0) hx hb dL_agree_82 (by decide) ?_
        have f_5459 : F_5454 nu = nE G A.1.1 A.1.2.1 A.1.2.2.1 A.1.2.2.2.1 A.1.2.2.2.2.1 A.2.1.1 := (o_5458 nu ).trans f_5449
        refine q_iald C0 hw mnu f_5459 (0) (by omega) (by decide) (v := nI (A.1.1)) rfl dL_agree_83 ?_
        refine lv_icmp_ne (tgt := 148) hx hb dL_agree_84 (by decide) (fun c_84 => ?_) (fun c_84 => ?_)
        · skip
          exact absurd rfl c_84
        · skip
          refine lv_aload_n hx hb dL_agree_87 rfl (lv_at hl 0 rfl) ?_
          refine lv_iconst (v := nI 1) hx hb dL_agree_88 (by decide) ?_
          have hX_5460 : XW G F_5454 ad A := (hX_5448.keep (fun i hi => ((o_5458 (ad i) ).trans (had_5452 i hi))))
          refine q_calli hw (q_runV (As := [.int (nI (1))]) (c_X5_count_1 l G L F_5454 ad hL hin A hX_5460 hA) C0 hw vw_L_115 (hL 0 (by decide)) hX_5460.1 rfl rfl rfl hl.1 rfl (Nat.le_of_ble_eq_true rfl) dL_agree_89 ⟨by decide, by decide⟩ ⟨(by show 0 + 0 ≤ 0; omega), (by show 0 + 0 ≤ 0; omega)⟩) rfl rfl (fun r_5463 F_5461 H locs hw hp_5462 => ?_)
          obtain ⟨he_5464, o_5465⟩ := hp_5462
          subst he_5464
          refine n_top (y := .int (nI (A.1.2.1))) (congrArg Value.int (congrArg nI (show cntA A 1 = A.1.2.1 from rfl))) ?_
          refine lv_aload_n hx hb dL_agree_92 rfl (lv_at hl 1 rfl) ?_
          refine lv_iconst (v := nI 1) hx hb dL_agree_93 (by decide) ?_
          have f_5466 : F_5461 nu = nE G A.1.1 A.1.2.1 A.1.2.2.1 A.1.2.2.2.1 A.1.2.2.2.2.1 A.2.1.1 := (o_5465 nu ).trans f_5459
          refine q_iald C0 hw mnu f_5466 (1) (by omega) (by decide) (v := nI (A.1.2.1)) rfl dL_agree_94 ?_
          refine lv_icmp_ne (tgt := 148) hx hb dL_agree_95 (by decide) (fun c_95 => ?_) (fun c_95 => ?_)
          · skip
            exact absurd rfl c_95
          · skip
            refine lv_aload_n hx hb dL_agree_98 rfl (lv_at hl 0 rfl) ?_
            refine lv_iconst (v := nI 4) hx hb dL_agree_99 (by decide) ?_
            have hX_5467 : XW G F_5461 ad A := (hX_5448.keep (fun i hi => ((o_5465 (ad i) ).trans ((o_5458 (ad i) ).trans (had_5452 i hi)))))
            refine q_calli hw (q_runV (As := [.int (nI (4))]) (c_X5_count_4 l G L F_5461 ad hL hin A hX_5467 hA) C0 hw vw_L_115 (hL 0 (by decide)) hX_5467.1 rfl rfl rfl hl.1 rfl (Nat.le_of_ble_eq_true rfl) dL_agree_100 ⟨by decide, by decide⟩ ⟨(by show 0 + 0 ≤ 0; omega), (by show 0 + 0 ≤ 0; omega)⟩) rfl rfl (fun r_5470 F_5468 H locs hw hp_5469 => ?_)
            obtain ⟨he_5471, o_5472⟩ := hp_5469
            subst he_5471
            refine n_top (y := .int (nI (A.1.2.2.1))) (congrArg Value.int (congrArg nI (show cntA A 4 = A.1.2.2.1 from rfl))) ?_
            refine lv_aload_n hx hb dL_agree_103 rfl (lv_at hl 1 rfl) ?_
            refine lv_iconst (v := nI 2) hx hb dL_agree_104 (by decide) ?_
            have f_5473 : F_5468 nu = nE G A.1.1 A.1.2.1 A.1.2.2.1 A.1.2.2.2.1 A.1.2.2.2.2.1 A.2.1.1 := (o_5472 nu ).trans f_5466
            refine q_iald C0 hw mnu f_5473 (2) (by omega) (by decide) (v := nI (A.1.2.2.1)) rfl dL_agree_105 ?_
            refine lv_icmp_ne (tgt := 148) hx hb dL_agree_106 (by decide) (fun c_106 => ?_) (fun c_106 => ?_)
            · skip
              exact absurd rfl c_106
            · skip
              refine lv_aload_n hx hb dL_agree_109 rfl (lv_at hl 0 rfl) ?_
              refine lv_iconst (v := nI 5) hx hb dL_agree_110 (by decide) ?_
              have hX_5474 : XW G F_5468 ad A := (hX_5448.keep (fun i hi => ((o_5472 (ad i) ).trans ((o_5465 (ad i) ).trans ((o_5458 (ad i) ).trans (had_5452 i hi))))))
              refine q_calli hw (q_runV (As := [.int (nI (5))]) (c_X5_count_5 l G L F_5468 ad hL hin A hX_5474 hA) C0 hw vw_L_115 (hL 0 (by decide)) hX_5474.1 rfl rfl rfl hl.1 rfl (Nat.le_of_ble_eq_true rfl) dL_agree_111 ⟨by decide, by decide⟩ ⟨(by show 0 + 0 ≤ 0; omega), (by show 0 + 0 ≤ 0; omega)⟩) rfl rfl (fun r_5477 F_5475 H locs hw hp_5476 => ?_)
              obtain ⟨he_5478, o_5479⟩ := hp_5476
              subst he_5478
              refine n_top (y := .int (nI (A.1.2.2.2.1))) (congrArg Value.int (congrArg nI (show cntA A 5 = A.1.2.2.2.1 from rfl))) ?_
              refine lv_aload_n hx hb dL_agree_114 rfl (lv_at hl 1 rfl) ?_
              refine lv_iconst (v := nI 3) hx hb dL_agree_115 (by decide) ?_
              have f_5480 : F_5475 nu = nE G A.1.1 A.1.2.1 A.1.2.2.1 A.1.2.2.2.1 A.1.2.2.2.2.1 A.2.1.1 := (o_5479 nu ).trans f_5473
              refine q_iald C0 hw mnu f_5480 (3) (by omega) (by decide) (v := nI (A.1.2.2.2.1)) rfl dL_agree_116 ?_
              refine lv_icmp_ne (tgt := 148) hx hb dL_agree_117 (by decide) (fun c_117 => ?_) (fun c_117 => ?_)
              · skip
                exact absurd rfl c_117
              · skip
                refine lv_aload_n hx hb dL_agree_120 rfl (lv_at hl 0 rfl) ?_
                refine lv_bipush (v := nI 6) hx hb dL_agree_121 (by decide) ?_
                have hX_5481 : XW G F_5475 ad A := (hX_5448.keep (fun i hi => ((o_5479 (ad i) ).trans ((o_5472 (ad i) ).trans ((o_5465 (ad i) ).trans ((o_5458 (ad i) ).trans (had_5452 i hi)))))))
                refine q_calli hw (q_runV (As := [.int (nI (6))]) (c_X5_count_6 l G L F_5475 ad hL hin A hX_5481 hA) C0 hw vw_L_115 (hL 0 (by decide)) hX_5481.1 rfl rfl rfl hl.1 rfl (Nat.le_of_ble_eq_true rfl) dL_agree_123 ⟨by decide, by decide⟩ ⟨(by show 0 + 0 ≤ 0; omega), (by show 0 + 0 ≤ 0; omega)⟩) rfl rfl (fun r_5484 F_5482 H locs hw hp_5483 => ?_)
                obtain ⟨he_5485, o_5486⟩ := hp_5483
                subst he_5485
                refine n_top (y := .int (nI (A.1.2.2.2.2.1))) (congrArg Value.int (congrArg nI (show cntA A 6 = A.1.2.2.2.2.1 from rfl))) ?_
                refine lv_aload_n hx hb dL_agree_126 rfl (lv_at hl 1 rfl) ?_
                refine lv_iconst (v := nI 4) hx hb dL_agree_127 (by decide) ?_
                have f_5487 : F_5482 nu = nE G A.1.1 A.1.2.1 A.1.2.2.1 A.1.2.2.2.1 A.1.2.2.2.2.1 A.2.1.1 := (o_5486 nu ).trans f_5480
                refine q_iald C0 hw mnu f_5487 (4) (by omega) (by decide) (v := nI (A.1.2.2.2.2.1)) rfl dL_agree_128 ?_
                refine lv_icmp_ne (tgt := 148) hx hb dL_agree_129 (by decide) (fun c_129 => ?_) (fun c_129 => ?_)
                · skip
                  exact absurd rfl c_129
                · skip
                  refine lv_aload_n hx hb dL_agree_132 rfl (lv_at hl 0 rfl) ?_
                  refine lv_bipush (v := nI 8) hx hb dL_agree_133 (by decide) ?_
                  have hX_5488 : XW G F_5482 ad A := (hX_5448.keep (fun i hi => ((o_5486 (ad i) ).trans ((o_5479 (ad i) ).trans ((o_5472 (ad i) ).trans ((o_5465 (ad i) ).trans ((o_5458 (ad i) ).trans (had_5452 i hi))))))))
                  refine q_calli hw (q_runV (As := [.int (nI (8))]) (c_X5_count_8 l G L F_5482 ad hL hin A hX_5488 hA) C0 hw vw_L_115 (hL 0 (by decide)) hX_5488.1 rfl rfl rfl hl.1 rfl (Nat.le_of_ble_eq_true rfl) dL_agree_135 ⟨by decide, by decide⟩ ⟨(by show 0 + 0 ≤ 0; omega), (by show 0 + 0 ≤ 0; omega)⟩) rfl rfl (fun r_5491 F_5489 H locs hw hp_5490 => ?_)
                  obtain ⟨he_5492, o_5493⟩ := hp_5490
                  subst he_5492
                  refine n_top (y := .int (nI (A.2.1.1))) (congrArg Value.int (congrArg nI (show cntA A 8 = A.2.1.1 from rfl))) ?_
                  refine lv_aload_n hx hb dL_agree_138 rfl (lv_at hl 1 rfl) ?_
                  refine lv_iconst (v := nI 5) hx hb dL_agree_139 (by decide) ?_
                  have f_5494 : F_5489 nu = nE G A.1.1 A.1.2.1 A.1.2.2.1 A.1.2.2.2.1 A.1.2.2.2.2.1 A.2.1.1 := (o_5493 nu ).trans f_5487
                  refine q_iald C0 hw mnu f_5494 (5) (by omega) (by decide) (v := nI (A.2.1.1)) rfl dL_agree_140 ?_
                  refine lv_icmp_ne (tgt := 148) hx hb dL_agree_141 (by decide) (fun c_141 => ?_) (fun c_141 => ?_)
                  · skip
                    exact absurd rfl c_141
                  · skip
                    refine lv_iconst (v := nI 1) hx hb dL_agree_144 (by decide) ?_
                    refine lv_goto (tgt := 149) hx hb dL_agree_145 (by decide) ?_
                    have f_5495 : F_5454 fi = pcF G ((loR A.1.2.2.2.2.2)) := (o_5458 fi ).trans f_5450
                    have f_5496 : F_5461 fi = pcF G ((loR A.1.2.2.2.2.2)) := (o_5465 fi ).trans f_5495
                    have f_5497 : F_5468 fi = pcF G ((loR A.1.2.2.2.2.2)) := (o_5472 fi ).trans f_5496
                    have f_5498 : F_5475 fi = pcF G ((loR A.1.2.2.2.2.2)) := (o_5479 fi ).trans f_5497
                    have f_5499 : F_5482 fi = pcF G ((loR A.1.2.2.2.2.2)) := (o_5486 fi ).trans f_5498
                    have f_5500 : F_5489 fi = pcF G ((loR A.1.2.2.2.2.2)) := (o_5493 fi ).trans f_5499
                    have f_5501 : F_5454 fl = pcF G ((hiR A.1.2.2.2.2.2)) := (o_5458 fl ).trans f_5451
                    have f_5502 : F_5461 fl = pcF G ((hiR A.1.2.2.2.2.2)) := (o_5465 fl ).trans f_5501
                    have f_5503 : F_5468 fl = pcF G ((hiR A.1.2.2.2.2.2)) := (o_5472 fl ).trans f_5502
                    have f_5504 : F_5475 fl = pcF G ((hiR A.1.2.2.2.2.2)) := (o_5479 fl ).trans f_5503
                    have f_5505 : F_5482 fl = pcF G ((hiR A.1.2.2.2.2.2)) := (o_5486 fl ).trans f_5504
                    have f_5506 : F_5489 fl = pcF G ((hiR A.1.2.2.2.2.2)) := (o_5493 fl ).trans f_5505
                    exact r_iG C0 hg0 hr hlk hw (v := nI 1) rfl ⟨rfl, ⟨(hX_5448.keep (fun i hi => ((o_5493 (ad i) ).trans ((o_5486 (ad i) ).trans ((o_5479 (ad i) ).trans ((o_5472 (ad i) ).trans ((o_5465 (ad i) ).trans ((o_5458 (ad i) ).trans (had_5452 i hi))))))))), hA, hFl, f_5494, f_5500, f_5506⟩⟩ (show 0 ≤ 0 by omega) (show 0 ≤ 0 by omega) dL_agree_149 hQ
      · skip
        refine lv_iconst (v := nI 0) hx hb dL_agree_10 (by decide) ?_
        refine lv_istore (lv' := [(5, .int (nI (0))), (0, .ref (ad 0)), (1, .ref nu), (2, .ref fi), (3, .ref fl), (4, .int (nI (sl)))]) hx hb dL_agree_11 hl (by decide) rfl (fun ls hl => ?_)
        have lp13_n_5507 : ∀ (n : Nat) (k : Nat), 0 ≤ k → k ≤ 7 → 7 + 1 - k < n → ∀ (F_5508 : Nat → va_E) (H : Heap) (locs : List Loc), wD G L F_5508 s H locs → LWQ G F_5508 ad nu fi fl A → ∀ ls : Array Slot, lv_has ls 6 [(0, .ref (ad 0)), (1, .ref nu), (2, .ref fi), (3, .ref fl), (4, .int (nI (sl))), (5, .int (nI (k)))] → W p l e rm_L_agree s m args below meth c H locs (0) (0) Q (F0 m 13 ls []) := by
          intro n
          induction n with
          | zero => intro k hlo hhi hm; exact absurd hm (Nat.not_lt_zero _)
          | succ n ih_13_n_5510 =>
            intro k hlo hhi hm F_5508 H locs hw hB_5509 ls hl
            obtain ⟨hX_5511, -, -, f_5512, f_5513, f_5514⟩ := hB_5509
            have had_5515 : ∀ i, i < 166 → F_5508 (ad i) = F_5508 (ad i) := fun _ _ => rfl
            have z_5516 := (A.1.2.2.2.2.2 sl k).isLt
            have z_5517 := (A.1.2.2.2.2.2 (6 + sl) k).isLt
            refine lv_iload hx hb dL_agree_13 (lv_at hl 5 rfl) ?_
            refine lv_bipush (v := nI 7) hx hb dL_agree_15 (by decide) ?_
            refine n_icmp_ge (tgt := 70) hx hb dL_agree_17 (by decide) (by omega) (by decide) (fun c_17 => ?_) (fun c_17 => ?_)
            · skip
              obtain rfl : k = 7 := by omega
              refine lv_iinc (v := nI (sl + 1)) (lv' := [(4, .int (nI (sl + 1))), (0, .ref (ad 0)), (1, .ref nu), (2, .ref fi), (3, .ref fl), (5, .int (nI (7)))]) hx hb dL_agree_70 hl (k := 4) rfl (nI_add _ _) (by decide) rfl (fun ls hl => ?_)
              refine lv_goto (tgt := 3) hx hb dL_agree_73 (by decide) ?_
              exact ih_3_n_5447 (sl + 1) ((by omega)) ((by omega)) (by omega) F_5508 _ _ hw ⟨(hX_5511.keep (fun i hi => (had_5515 i hi))), hA, hFl, f_5512, f_5513, f_5514⟩ ls (lv_sub hl [1, 2, 3, 4, 0] rfl)
            · skip
              refine lv_aload_n hx hb dL_agree_20 rfl (lv_at hl 0 rfl) ?_
              refine lv_iload hx hb dL_agree_21 (lv_at hl 4 rfl) ?_
              refine lv_iload hx hb dL_agree_23 (lv_at hl 5 rfl) ?_
              have hX_5518 : XW G F_5508 ad A := (hX_5511.keep (fun i hi => (had_5515 i hi)))
              refine q_calli hw (q_runV (As := [.int (nI (sl)), .int (nI (k))]) (c_X5_field l G L F_5508 ad hL hin A sl k (by omega) (by omega) hX_5518 hA) C0 hw vw_L_109 (hL 0 (by decide)) hX_5518.1 rfl rfl rfl hl.1 rfl (Nat.le_of_ble_eq_true rfl) dL_agree_25 ⟨by decide, by decide⟩ ⟨(by show 0 + 0 ≤ 0; omega), (by show 0 + 0 ≤ 0; omega)⟩) rfl rfl (fun r_5521 F_5519 H locs hw hp_5520 => ?_)
              obtain ⟨h_5522, h_5523, h_5524⟩ := hp_5520
              subst h_5522
              have f_5525 : F_5519 nu = nE G A.1.1 A.1.2.1 A.1.2.2.1 A.1.2.2.2.1 A.1.2.2.2.2.1 A.2.1.1 := (h_5524 nu (fun i hi => hna i hi)).trans f_5512
              have f_5526 : F_5519 fi = pcF G ((loR A.1.2.2.2.2.2)) := (h_5524 fi (fun i hi => hfa i hi)).trans f_5513
              have f_5527 : F_5519 fl = pcF G ((hiR A.1.2.2.2.2.2)) := (h_5524 fl (fun i hi => hga i hi)).trans f_5514
              have had_5528 : ∀ i, i < 166 → F_5519 (ad i) = F_5519 (ad i) := fun _ _ => rfl
              refine lv_aload_n hx hb dL_agree_28 rfl (lv_at hl 2 rfl) ?_
              refine lv_bipush (v := nI 7) hx hb dL_agree_29 (by decide) ?_
              refine lv_iload hx hb dL_agree_31 (lv_at hl 4 rfl) ?_
              refine n_imul hx hb dL_agree_33 ?_
              refine lv_iload hx hb dL_agree_34 (lv_at hl 5 rfl) ?_
              refine n_iadd hx hb dL_agree_36 ?_
              refine q_iald C0 hw mfi f_5526 (7 * sl + k) (by omega) (by decide) (v := nI ((((loR A.1.2.2.2.2.2)) sl k).val)) (pc_at _ _ _ (by omega)) dL_agree_37 ?_
              have z_5529 := (((loR A.1.2.2.2.2.2)) sl k).isLt
              refine n_icmp_ne (tgt := 62) hx hb dL_agree_38 (by decide) (by omega) (by omega) (fun c_38 => ?_) (fun c_38 => ?_)
              · skip
                exact absurd (by rw [loR_at _ (by omega)]) c_38
              · skip
                refine lv_aload_n hx hb dL_agree_41 rfl (lv_at hl 0 rfl) ?_
                refine lv_iload hx hb dL_agree_42 (lv_at hl 4 rfl) ?_
                refine lv_iload hx hb dL_agree_44 (lv_at hl 5 rfl) ?_
                have hX_5530 : XW G F_5519 ad A := (h_5523.keep (fun i hi => (had_5528 i hi)))
                refine q_calli hw (q_runV (As := [.int (nI (sl)), .int (nI (k))]) (c_X5_flow l G L F_5519 ad hL hin A sl k (by omega) (by omega) hX_5530 hA) C0 hw vw_L_112 (hL 0 (by decide)) hX_5530.1 rfl rfl rfl hl.1 rfl (Nat.le_of_ble_eq_true rfl) dL_agree_46 ⟨by decide, by decide⟩ ⟨(by show 0 + 0 ≤ 0; omega), (by show 0 + 0 ≤ 0; omega)⟩) rfl rfl (fun r_5533 F_5531 H locs hw hp_5532 => ?_)
                obtain ⟨h_5534, h_5535, h_5536⟩ := hp_5532
                subst h_5534
                have f_5537 : F_5531 nu = nE G A.1.1 A.1.2.1 A.1.2.2.1 A.1.2.2.2.1 A.1.2.2.2.2.1 A.2.1.1 := (h_5536 nu (fun i hi => hna i hi)).trans f_5525
                have f_5538 : F_5531 fi = pcF G ((loR A.1.2.2.2.2.2)) := (h_5536 fi (fun i hi => hfa i hi)).trans f_5526
                have f_5539 : F_5531 fl = pcF G ((hiR A.1.2.2.2.2.2)) := (h_5536 fl (fun i hi => hga i hi)).trans f_5527
                have had_5540 : ∀ i, i < 166 → F_5531 (ad i) = F_5531 (ad i) := fun _ _ => rfl
                refine lv_aload_n hx hb dL_agree_49 rfl (lv_at hl 3 rfl) ?_
                refine lv_bipush (v := nI 7) hx hb dL_agree_50 (by decide) ?_
                refine lv_iload hx hb dL_agree_52 (lv_at hl 4 rfl) ?_
                refine n_imul hx hb dL_agree_54 ?_
                refine lv_iload hx hb dL_agree_55 (lv_at hl 5 rfl) ?_
                refine n_iadd hx hb dL_agree_57 ?_
                refine q_iald C0 hw mfl f_5539 (7 * sl + k) (by omega) (by decide) (v := nI ((((hiR A.1.2.2.2.2.2)) sl k).val)) (pc_at _ _ _ (by omega)) dL_agree_58 ?_
                have z_5541 := (((hiR A.1.2.2.2.2.2)) sl k).isLt
                refine n_icmp_eq (tgt := 64) hx hb dL_agree_59 (by decide) (by omega) (by omega) (fun c_59 => ?_) (fun c_59 => ?_)
                · skip
                  refine lv_iinc (v := nI (k + 1)) (lv' := [(5, .int (nI (k + 1))), (0, .ref (ad 0)), (1, .ref nu), (2, .ref fi), (3, .ref fl), (4, .int (nI (sl)))]) hx hb dL_agree_64 hl (k := 5) rfl (nI_add _ _) (by decide) rfl (fun ls hl => ?_)
                  refine lv_goto (tgt := 13) hx hb dL_agree_67 (by decide) ?_
                  exact ih_13_n_5510 (k + 1) ((by omega)) ((by omega)) (by omega) F_5531 _ _ hw ⟨(h_5535.keep (fun i hi => (had_5540 i hi))), hA, hFl, f_5537, f_5538, f_5539⟩ ls (lv_sub hl [1, 2, 3, 4, 5, 0] rfl)
                · skip
                  exact absurd (by rw [hiR_at _ (by omega)]) c_59
        exact lp13_n_5507 _ (0) ((by omega)) ((by omega)) (Nat.lt_succ_self _) F_5445 _ _ hw ⟨(hX_5448.keep (fun i hi => (had_5452 i hi))), hA, hFl, f_5449, f_5450, f_5451⟩ ls (lv_sub hl [1, 2, 3, 4, 5, 0] rfl)
  exact lp3_n_5444 _ (0) ((by omega)) ((by omega)) (Nat.lt_succ_self _) F _ _ hw ⟨(hX.keep (fun i hi => (had0 i hi))), hA, hFl, fnu, ffi, ffl⟩ ls (lv_sub hl [1, 2, 3, 4, 0] rfl)
/-- the script's next number, whatever it is -/
def cPS (G : Gl) (L : List Nat) (F : Nat → va_E) (sz : Nat) (vals : List Value) (b N : Nat) (xs : Nat → Int32) : Array Value → State → Prop := fun a U => cP G L F sz vals a U ∧ va_X b N xs U U.heap ∧ b < sz ∧ ¬ wA L sz b
theorem cPS.blind {G : Gl} {L : List Nat} {F : Nat → va_E} {sz : Nat} {vals : List Value} {b N : Nat} {xs : Nat → Int32} : FrameBlind (cPS G L F sz vals b N xs) := fun a U g mk q => ⟨cP.blind a U g mk q.1, va_X.moved (Vm.Alike.refl U.vm) q.2.1, q.2.2⟩
abbrev rm_L_cell : Room := { frames := 0, cells := 0, slots := 0, locals := 0 }
set_option maxHeartbeats 4000000 in
set_option maxRecDepth 100000 in
theorem c_L_cell (l : Launch) (G : Gl) (L : List Nat) (F : Nat → va_E) (b N : Nat) (xs : Nat → Int32) (hN : N ≤ 260) (k : Nat) (hk : k ≤ 1000) : ∀ sz, Met l yL_cell (.code yL_cell cL_cell 2 (some .int) :: TB) rm_L_cell (cPS G L F sz [.ref b, .int (nI k)] b N xs) (va_Qi (fun r F1 => ∀ q, F1 q = F q) (cB G L) (wA L sz)) rm_L_cell.cells rm_L_cell.slots (wA L sz) := by
  intro sz
  refine Met.ofW (cc := cL_cell) (maxL := 2) (ret := some .int) (by decide) rfl ?_
  intro p e s m args below meth c s₁ B hml hq
  obtain ⟨⟨rfl, hsz, hP, hD0, hAm⟩, hX, hbl, hbA⟩ := hq
  subst hsz
  have hts := atoms_spec (ws := Cond.code yL_cell cL_cell 2 (some .int) :: TB) B.pre
  have hl0 := lv_entry [Value.ref b, Value.int (nI k)] (n := 2) (Nat.le_of_ble_eq_true rfl)
  rw [lg_entry_eq]
  have hl : lv_has ((lg_sl [Value.ref b, Value.int (nI k)] ++ List.replicate (2 - (lg_sl [Value.ref b, Value.int (nI k)]).length) Slot.unset).toArray) 2 [(0, Value.ref b), (1, Value.int (nI k))] := hl0
  generalize (lg_sl [Value.ref b, Value.int (nI k)] ++ List.replicate (2 - (lg_sl [Value.ref b, Value.int (nI k)]).length) Slot.unset).toArray = ls at hl ⊢
  have C0 : Cx p s m _ c cL_cell 2 RL G L := ⟨B.exec, B.bytes, hml, findClass_of_methodNamed B.named, fun w h => hts w (List.mem_cons_of_mem _ h), hAm⟩
  have hx := C0.x
  have hb := C0.b
  have hr := B.returns
  have hlk := B.notSynchronized
  have hw : wD G L F s s.heap [] := wD.start hP hD0
  have hNn : Int32.ofNat N = nI N := rfl
  refine lv_iload_n hx hb dL_cell_0 rfl (lv_at hl 1 rfl) ?_
  refine lv_aload_n hx hb dL_cell_1 rfl (lv_at hl 0 rfl) ?_
  refine va_slen hx hb hX hbl hbA hw.2.2 dL_cell_2 ?_
  rw [hNn]
  refine n_icmp_ge (tgt := 12) hx hb dL_cell_3 (by decide) (by omega) (by omega) (fun c_3 => ?_) (fun c_3 => ?_)
  · refine lv_ldc (v := nI 625341607) hx hb C0.ow (C0.ts _ kw_L_7) dL_cell_12 ?_
    refine lv_iload_n hx hb dL_cell_14 rfl (lv_at hl 1 rfl) ?_
    refine lv_sipush (v := nI 239) hx hb dL_cell_15 (by decide) ?_
    refine lv_iadd hx hb dL_cell_18 ?_
    refine lv_imul hx hb dL_cell_19 ?_
    exact r_i C0 hr hlk hw rfl (fun _ => rfl) (Nat.le_refl _) (Nat.le_refl _) dL_cell_20 rfl
  · refine lv_aload_n hx hb dL_cell_6 rfl (lv_at hl 0 rfl) ?_
    refine lv_iload_n hx hb dL_cell_7 rfl (lv_at hl 1 rfl) ?_
    refine va_sld hx hb hX hbl hbA hw.2.2 (vp_in_nI (by omega) (by omega)) dL_cell_8 ?_
    refine lv_goto (tgt := 20) hx hb dL_cell_9 (by decide) ?_
    exact r_i C0 hr hlk hw rfl (fun _ => rfl) (Nat.le_refl _) (Nat.le_refl _) dL_cell_20 rfl
