/-! the wrappers' contracts -/
theorem w_cut_n (l : Launch) (G : Gl) (L : List Nat) (F : Nat → va_E) (ad : Nat → Nat) (o : Nat) (f : Nat → Int64) (x9 : Int32) (hL0 : ad 0 ∈ L) (ho : o ∈ L) (hOf : F o = wO G f) (fx : F (ad 0) = xO ad) {post0 post : Int32 → (Nat → va_E) → Prop} (hM : CI l yX5_cut cX5_cut 3 (some .int) rm_X5_cut G L F (.ref (ad 0) :: [.int (x9)]) post0) (hO : ∀ r F1, post0 r F1 → F1 o = wO G f) (hpost : ∀ r F1 F2 f2, post0 r F1 → F2 o = wO G f2 → f2 0 = r.toInt64 → (∀ q, q ≠ o → F2 q = F1 q) → post (nI 0) F2) : CW l yL_cut cL_cut 4 hh_cut G L F [.ref (ad 0), .int (x9), .ref o] post := by
  refine CW_of (by decide) (Nat.le_of_ble_eq_true rfl) rfl ?_
  intro p e s m args below meth c Q C0 hXw hr hlk htb hQ hw ls hl
  have hx := C0.x
  have hb := C0.b
  refine lv_aload_n hx hb dL_cut_0 rfl (lv_at hl 2 rfl) ?_
  refine lv_iconst (v := nI 0) hx hb dL_cut_1 rfl ?_
  refine lv_aload_n hx hb dL_cut_2 rfl (lv_at hl 0 rfl) ?_
  refine lv_iload_n hx hb dL_cut_3 rfl (lv_at hl 1 rfl) ?_
  exact w_norm (As := [.int (x9)]) C0 hr hlk hw hM vw_L_7 hL0 fx rfl rfl rfl hl.1 ho hO hpost rfl (tgt := 15) dL_cut_4 dL_cut_7 dL_cut_8 dL_cut_9 (by decide) dL_cut_15 dL_cut_16 rfl rfl ⟨by decide, by decide⟩ ⟨by decide, by decide⟩ (by decide) (by decide) hQ
theorem w_cut_x1 (l : Launch) (G : Gl) (L : List Nat) (F : Nat → va_E) (ad : Nat → Nat) (o : Nat) (f : Nat → Int64) (x9 : Int32) (hL0 : ad 0 ∈ L) (ho : o ∈ L) (hOf : F o = wO G f) (fx : F (ad 0) = xO ad) (hM : XG l yX5_cut cX5_cut 3 (some .int) rx_X5_cut G L F (.ref (ad 0) :: [.int (x9)]) "java/lang/IllegalArgumentException") {post : Int32 → (Nat → va_E) → Prop} (hpost : post (nI 1) F) : CW l yL_cut cL_cut 4 hh_cut G L F [.ref (ad 0), .int (x9), .ref o] post := by
  refine CW_of (by decide) (Nat.le_of_ble_eq_true rfl) rfl ?_
  intro p e s m args below meth c Q C0 hXw hr hlk htb hQ hw ls hl
  have hx := C0.x
  have hb := C0.b
  refine lv_aload_n hx hb dL_cut_0 rfl (lv_at hl 2 rfl) ?_
  refine lv_iconst (v := nI 0) hx hb dL_cut_1 rfl ?_
  refine lv_aload_n hx hb dL_cut_2 rfl (lv_at hl 0 rfl) ?_
  refine lv_iload_n hx hb dL_cut_3 rfl (lv_at hl 1 rfl) ?_
  refine w_exc (As := [.int (x9)]) C0 hXw hw hM vw_L_7 hL0 fx rfl rfl rfl hl.1 rfl dL_cut_4 [] ⟨0, 9, 12, 13⟩ [] (htb.trans rfl) (fun _ h => absurd h List.not_mem_nil) (by decide) (by decide) cl_L_13 (by decide +kernel) ⟨by decide, by decide⟩ ⟨by decide, by decide⟩ (fun q9 H1 locs1 hw1 => ?_)
  refine lv_astore_n hx hb dL_cut_12 rfl hl (by decide) rfl (fun ls1 hl1 => ?_)
  refine lv_iconst (v := nI 1) hx hb dL_cut_13 rfl ?_
  exact r_i C0 hr hlk hw1 (v := nI 1) rfl hpost (by decide) (by decide) dL_cut_14 hQ
theorem w_setField_n (l : Launch) (G : Gl) (L : List Nat) (F : Nat → va_E) (ad : Nat → Nat) (o : Nat) (f : Nat → Int64) (x9 y9 z9 : Int32) (hL0 : ad 0 ∈ L) (ho : o ∈ L) (hOf : F o = wO G f) (fx : F (ad 0) = xO ad) {post0 post : Int32 → (Nat → va_E) → Prop} (hM : CI l yX5_setField cX5_setField 4 (some .int) rm_X5_setField G L F (.ref (ad 0) :: [.int (x9), .int (y9), .int (z9)]) post0) (hO : ∀ r F1, post0 r F1 → F1 o = wO G f) (hpost : ∀ r F1 F2 f2, post0 r F1 → F2 o = wO G f2 → f2 0 = r.toInt64 → (∀ q, q ≠ o → F2 q = F1 q) → post (nI 0) F2) : CW l yL_setField cL_setField 6 hh_setField G L F [.ref (ad 0), .int (x9), .int (y9), .int (z9), .ref o] post := by
  refine CW_of (by decide) (Nat.le_of_ble_eq_true rfl) rfl ?_
  intro p e s m args below meth c Q C0 hXw hr hlk htb hQ hw ls hl
  have hx := C0.x
  have hb := C0.b
  refine lv_aload hx hb dL_setField_0 (lv_at hl 4 rfl) ?_
  refine lv_iconst (v := nI 0) hx hb dL_setField_2 rfl ?_
  refine lv_aload_n hx hb dL_setField_3 rfl (lv_at hl 0 rfl) ?_
  refine lv_iload_n hx hb dL_setField_4 rfl (lv_at hl 1 rfl) ?_
  refine lv_iload_n hx hb dL_setField_5 rfl (lv_at hl 2 rfl) ?_
  refine lv_iload_n hx hb dL_setField_6 rfl (lv_at hl 3 rfl) ?_
  exact w_norm (As := [.int (x9), .int (y9), .int (z9)]) C0 hr hlk hw hM vw_L_15 hL0 fx rfl rfl rfl hl.1 ho hO hpost rfl (tgt := 19) dL_setField_7 dL_setField_10 dL_setField_11 dL_setField_12 (by decide) dL_setField_19 dL_setField_20 rfl rfl ⟨by decide, by decide⟩ ⟨by decide, by decide⟩ (by decide) (by decide) hQ
theorem w_setField_x1 (l : Launch) (G : Gl) (L : List Nat) (F : Nat → va_E) (ad : Nat → Nat) (o : Nat) (f : Nat → Int64) (x9 y9 z9 : Int32) (hL0 : ad 0 ∈ L) (ho : o ∈ L) (hOf : F o = wO G f) (fx : F (ad 0) = xO ad) (hM : XG l yX5_setField cX5_setField 4 (some .int) rx_X5_setField G L F (.ref (ad 0) :: [.int (x9), .int (y9), .int (z9)]) "java/lang/IndexOutOfBoundsException") {post : Int32 → (Nat → va_E) → Prop} (hpost : post (nI 1) F) : CW l yL_setField cL_setField 6 hh_setField G L F [.ref (ad 0), .int (x9), .int (y9), .int (z9), .ref o] post := by
  refine CW_of (by decide) (Nat.le_of_ble_eq_true rfl) rfl ?_
  intro p e s m args below meth c Q C0 hXw hr hlk htb hQ hw ls hl
  have hx := C0.x
  have hb := C0.b
  refine lv_aload hx hb dL_setField_0 (lv_at hl 4 rfl) ?_
  refine lv_iconst (v := nI 0) hx hb dL_setField_2 rfl ?_
  refine lv_aload_n hx hb dL_setField_3 rfl (lv_at hl 0 rfl) ?_
  refine lv_iload_n hx hb dL_setField_4 rfl (lv_at hl 1 rfl) ?_
  refine lv_iload_n hx hb dL_setField_5 rfl (lv_at hl 2 rfl) ?_
  refine lv_iload_n hx hb dL_setField_6 rfl (lv_at hl 3 rfl) ?_
  refine w_exc (As := [.int (x9), .int (y9), .int (z9)]) C0 hXw hw hM vw_L_15 hL0 fx rfl rfl rfl hl.1 rfl dL_setField_7 [] ⟨0, 12, 15, 19⟩ [] (htb.trans rfl) (fun _ h => absurd h List.not_mem_nil) (by decide) (by decide) cl_L_19 (by decide +kernel) ⟨by decide, by decide⟩ ⟨by decide, by decide⟩ (fun q9 H1 locs1 hw1 => ?_)
  refine lv_astore hx hb dL_setField_15 hl (by decide) rfl (fun ls1 hl1 => ?_)
  refine lv_iconst (v := nI 1) hx hb dL_setField_17 rfl ?_
  exact r_i C0 hr hlk hw1 (v := nI 1) rfl hpost (by decide) (by decide) dL_setField_18 hQ
theorem w_setFlow_n (l : Launch) (G : Gl) (L : List Nat) (F : Nat → va_E) (ad : Nat → Nat) (o : Nat) (f : Nat → Int64) (x9 y9 z9 : Int32) (hL0 : ad 0 ∈ L) (ho : o ∈ L) (hOf : F o = wO G f) (fx : F (ad 0) = xO ad) {post0 post : Int32 → (Nat → va_E) → Prop} (hM : CI l yX5_setFlow cX5_setFlow 4 (some .int) rm_X5_setFlow G L F (.ref (ad 0) :: [.int (x9), .int (y9), .int (z9)]) post0) (hO : ∀ r F1, post0 r F1 → F1 o = wO G f) (hpost : ∀ r F1 F2 f2, post0 r F1 → F2 o = wO G f2 → f2 0 = r.toInt64 → (∀ q, q ≠ o → F2 q = F1 q) → post (nI 0) F2) : CW l yL_setFlow cL_setFlow 6 hh_setFlow G L F [.ref (ad 0), .int (x9), .int (y9), .int (z9), .ref o] post := by
  refine CW_of (by decide) (Nat.le_of_ble_eq_true rfl) rfl ?_
  intro p e s m args below meth c Q C0 hXw hr hlk htb hQ hw ls hl
  have hx := C0.x
  have hb := C0.b
  refine lv_aload hx hb dL_setFlow_0 (lv_at hl 4 rfl) ?_
  refine lv_iconst (v := nI 0) hx hb dL_setFlow_2 rfl ?_
  refine lv_aload_n hx hb dL_setFlow_3 rfl (lv_at hl 0 rfl) ?_
  refine lv_iload_n hx hb dL_setFlow_4 rfl (lv_at hl 1 rfl) ?_
  refine lv_iload_n hx hb dL_setFlow_5 rfl (lv_at hl 2 rfl) ?_
  refine lv_iload_n hx hb dL_setFlow_6 rfl (lv_at hl 3 rfl) ?_
  exact w_norm (As := [.int (x9), .int (y9), .int (z9)]) C0 hr hlk hw hM vw_L_21 hL0 fx rfl rfl rfl hl.1 ho hO hpost rfl (tgt := 19) dL_setFlow_7 dL_setFlow_10 dL_setFlow_11 dL_setFlow_12 (by decide) dL_setFlow_19 dL_setFlow_20 rfl rfl ⟨by decide, by decide⟩ ⟨by decide, by decide⟩ (by decide) (by decide) hQ
theorem w_setFlow_x1 (l : Launch) (G : Gl) (L : List Nat) (F : Nat → va_E) (ad : Nat → Nat) (o : Nat) (f : Nat → Int64) (x9 y9 z9 : Int32) (hL0 : ad 0 ∈ L) (ho : o ∈ L) (hOf : F o = wO G f) (fx : F (ad 0) = xO ad) (hM : XG l yX5_setFlow cX5_setFlow 4 (some .int) rx_X5_setFlow G L F (.ref (ad 0) :: [.int (x9), .int (y9), .int (z9)]) "java/lang/IndexOutOfBoundsException") {post : Int32 → (Nat → va_E) → Prop} (hpost : post (nI 1) F) : CW l yL_setFlow cL_setFlow 6 hh_setFlow G L F [.ref (ad 0), .int (x9), .int (y9), .int (z9), .ref o] post := by
  refine CW_of (by decide) (Nat.le_of_ble_eq_true rfl) rfl ?_
  intro p e s m args below meth c Q C0 hXw hr hlk htb hQ hw ls hl
  have hx := C0.x
  have hb := C0.b
  refine lv_aload hx hb dL_setFlow_0 (lv_at hl 4 rfl) ?_
  refine lv_iconst (v := nI 0) hx hb dL_setFlow_2 rfl ?_
  refine lv_aload_n hx hb dL_setFlow_3 rfl (lv_at hl 0 rfl) ?_
  refine lv_iload_n hx hb dL_setFlow_4 rfl (lv_at hl 1 rfl) ?_
  refine lv_iload_n hx hb dL_setFlow_5 rfl (lv_at hl 2 rfl) ?_
  refine lv_iload_n hx hb dL_setFlow_6 rfl (lv_at hl 3 rfl) ?_
  refine w_exc (As := [.int (x9), .int (y9), .int (z9)]) C0 hXw hw hM vw_L_21 hL0 fx rfl rfl rfl hl.1 rfl dL_setFlow_7 [] ⟨0, 12, 15, 19⟩ [] (htb.trans rfl) (fun _ h => absurd h List.not_mem_nil) (by decide) (by decide) cl_L_19 (by decide +kernel) ⟨by decide, by decide⟩ ⟨by decide, by decide⟩ (fun q9 H1 locs1 hw1 => ?_)
  refine lv_astore hx hb dL_setFlow_15 hl (by decide) rfl (fun ls1 hl1 => ?_)
  refine lv_iconst (v := nI 1) hx hb dL_setFlow_17 rfl ?_
  exact r_i C0 hr hlk hw1 (v := nI 1) rfl hpost (by decide) (by decide) dL_setFlow_18 hQ
theorem w_earn_n (l : Launch) (G : Gl) (L : List Nat) (F : Nat → va_E) (ad : Nat → Nat) (o : Nat) (f : Nat → Int64) (x9 : Int32) (hL0 : ad 0 ∈ L) (ho : o ∈ L) (hOf : F o = wO G f) (fx : F (ad 0) = xO ad) {post0 post : Int32 → (Nat → va_E) → Prop} (hM : CI l yX5_earn cX5_earn 2 (some .int) rm_X5_earn G L F (.ref (ad 0) :: [.int (x9)]) post0) (hO : ∀ r F1, post0 r F1 → F1 o = wO G f) (hpost : ∀ r F1 F2 f2, post0 r F1 → F2 o = wO G f2 → f2 0 = r.toInt64 → (∀ q, q ≠ o → F2 q = F1 q) → post (nI 0) F2) : CW l yL_earn cL_earn 4 hh_earn G L F [.ref (ad 0), .int (x9), .ref o] post := by
  refine CW_of (by decide) (Nat.le_of_ble_eq_true rfl) rfl ?_
  intro p e s m args below meth c Q C0 hXw hr hlk htb hQ hw ls hl
  have hx := C0.x
  have hb := C0.b
  refine lv_aload_n hx hb dL_earn_0 rfl (lv_at hl 2 rfl) ?_
  refine lv_iconst (v := nI 0) hx hb dL_earn_1 rfl ?_
  refine lv_aload_n hx hb dL_earn_2 rfl (lv_at hl 0 rfl) ?_
  refine lv_iload_n hx hb dL_earn_3 rfl (lv_at hl 1 rfl) ?_
  exact w_norm (As := [.int (x9)]) C0 hr hlk hw hM vw_L_24 hL0 fx rfl rfl rfl hl.1 ho hO hpost rfl (tgt := 18) dL_earn_4 dL_earn_7 dL_earn_8 dL_earn_9 (by decide) dL_earn_18 dL_earn_19 rfl rfl ⟨by decide, by decide⟩ ⟨by decide, by decide⟩ (by decide) (by decide) hQ
theorem w_earn_x1 (l : Launch) (G : Gl) (L : List Nat) (F : Nat → va_E) (ad : Nat → Nat) (o : Nat) (f : Nat → Int64) (x9 : Int32) (hL0 : ad 0 ∈ L) (ho : o ∈ L) (hOf : F o = wO G f) (fx : F (ad 0) = xO ad) (hM : XG l yX5_earn cX5_earn 2 (some .int) rx_X5_earn G L F (.ref (ad 0) :: [.int (x9)]) "java/lang/IllegalArgumentException") {post : Int32 → (Nat → va_E) → Prop} (hpost : post (nI 1) F) : CW l yL_earn cL_earn 4 hh_earn G L F [.ref (ad 0), .int (x9), .ref o] post := by
  refine CW_of (by decide) (Nat.le_of_ble_eq_true rfl) rfl ?_
  intro p e s m args below meth c Q C0 hXw hr hlk htb hQ hw ls hl
  have hx := C0.x
  have hb := C0.b
  refine lv_aload_n hx hb dL_earn_0 rfl (lv_at hl 2 rfl) ?_
  refine lv_iconst (v := nI 0) hx hb dL_earn_1 rfl ?_
  refine lv_aload_n hx hb dL_earn_2 rfl (lv_at hl 0 rfl) ?_
  refine lv_iload_n hx hb dL_earn_3 rfl (lv_at hl 1 rfl) ?_
  refine w_exc (As := [.int (x9)]) C0 hXw hw hM vw_L_24 hL0 fx rfl rfl rfl hl.1 rfl dL_earn_4 [] ⟨0, 9, 12, 13⟩ [⟨0, 9, 15, 27⟩] (htb.trans rfl) (fun _ h => absurd h List.not_mem_nil) (by decide) (by decide) cl_L_13 (by decide +kernel) ⟨by decide, by decide⟩ ⟨by decide, by decide⟩ (fun q9 H1 locs1 hw1 => ?_)
  refine lv_astore_n hx hb dL_earn_12 rfl hl (by decide) rfl (fun ls1 hl1 => ?_)
  refine lv_iconst (v := nI 1) hx hb dL_earn_13 rfl ?_
  exact r_i C0 hr hlk hw1 (v := nI 1) rfl hpost (by decide) (by decide) dL_earn_14 hQ
theorem w_earn_x2 (l : Launch) (G : Gl) (L : List Nat) (F : Nat → va_E) (ad : Nat → Nat) (o : Nat) (f : Nat → Int64) (x9 : Int32) (hL0 : ad 0 ∈ L) (ho : o ∈ L) (hOf : F o = wO G f) (fx : F (ad 0) = xO ad) (hM : XG l yX5_earn cX5_earn 2 (some .int) rx_X5_earn G L F (.ref (ad 0) :: [.int (x9)]) "java/lang/IllegalStateException") {post : Int32 → (Nat → va_E) → Prop} (hpost : post (nI 2) F) : CW l yL_earn cL_earn 4 hh_earn G L F [.ref (ad 0), .int (x9), .ref o] post := by
  refine CW_of (by decide) (Nat.le_of_ble_eq_true rfl) rfl ?_
  intro p e s m args below meth c Q C0 hXw hr hlk htb hQ hw ls hl
  have hx := C0.x
  have hb := C0.b
  refine lv_aload_n hx hb dL_earn_0 rfl (lv_at hl 2 rfl) ?_
  refine lv_iconst (v := nI 0) hx hb dL_earn_1 rfl ?_
  refine lv_aload_n hx hb dL_earn_2 rfl (lv_at hl 0 rfl) ?_
  refine lv_iload_n hx hb dL_earn_3 rfl (lv_at hl 1 rfl) ?_
  refine w_exc (As := [.int (x9)]) C0 hXw hw hM vw_L_24 hL0 fx rfl rfl rfl hl.1 rfl dL_earn_4 [⟨0, 9, 12, 13⟩] ⟨0, 9, 15, 27⟩ [] (htb.trans rfl) (List.forall_mem_cons.mpr ⟨⟨Nat.succ_ne_zero 12, _, cl_L_13, by decide +kernel⟩, fun _ h => absurd h List.not_mem_nil⟩) (by decide) (by decide) cl_L_27 (by decide +kernel) ⟨by decide, by decide⟩ ⟨by decide, by decide⟩ (fun q9 H1 locs1 hw1 => ?_)
  refine lv_astore_n hx hb dL_earn_15 rfl hl (by decide) rfl (fun ls1 hl1 => ?_)
  refine lv_iconst (v := nI 2) hx hb dL_earn_16 rfl ?_
  exact r_i C0 hr hlk hw1 (v := nI 2) rfl hpost (by decide) (by decide) dL_earn_17 hQ
theorem w_bracket_n (l : Launch) (G : Gl) (L : List Nat) (F : Nat → va_E) (ad : Nat → Nat) (o : Nat) (f : Nat → Int64) (x9 y9 z9 : Int32) (hL0 : ad 0 ∈ L) (ho : o ∈ L) (hOf : F o = wO G f) (fx : F (ad 0) = xO ad) {post0 post : Int32 → (Nat → va_E) → Prop} (hM : CI l yX5_bracket cX5_bracket 4 (some .int) rm_X5_bracket G L F (.ref (ad 0) :: [.int (x9), .int (y9), .int (z9)]) post0) (hO : ∀ r F1, post0 r F1 → F1 o = wO G f) (hpost : ∀ r F1 F2 f2, post0 r F1 → F2 o = wO G f2 → f2 0 = r.toInt64 → (∀ q, q ≠ o → F2 q = F1 q) → post (nI 0) F2) : CW l yL_bracket cL_bracket 6 hh_bracket G L F [.ref (ad 0), .int (x9), .int (y9), .int (z9), .ref o] post := by
  refine CW_of (by decide) (Nat.le_of_ble_eq_true rfl) rfl ?_
  intro p e s m args below meth c Q C0 hXw hr hlk htb hQ hw ls hl
  have hx := C0.x
  have hb := C0.b
  refine lv_aload hx hb dL_bracket_0 (lv_at hl 4 rfl) ?_
  refine lv_iconst (v := nI 0) hx hb dL_bracket_2 rfl ?_
  refine lv_aload_n hx hb dL_bracket_3 rfl (lv_at hl 0 rfl) ?_
  refine lv_iload_n hx hb dL_bracket_4 rfl (lv_at hl 1 rfl) ?_
  refine lv_iload_n hx hb dL_bracket_5 rfl (lv_at hl 2 rfl) ?_
  refine lv_iload_n hx hb dL_bracket_6 rfl (lv_at hl 3 rfl) ?_
  exact w_norm (As := [.int (x9), .int (y9), .int (z9)]) C0 hr hlk hw hM vw_L_29 hL0 fx rfl rfl rfl hl.1 ho hO hpost rfl (tgt := 23) dL_bracket_7 dL_bracket_10 dL_bracket_11 dL_bracket_12 (by decide) dL_bracket_23 dL_bracket_24 rfl rfl ⟨by decide, by decide⟩ ⟨by decide, by decide⟩ (by decide) (by decide) hQ
theorem w_bracket_x1 (l : Launch) (G : Gl) (L : List Nat) (F : Nat → va_E) (ad : Nat → Nat) (o : Nat) (f : Nat → Int64) (x9 y9 z9 : Int32) (hL0 : ad 0 ∈ L) (ho : o ∈ L) (hOf : F o = wO G f) (fx : F (ad 0) = xO ad) (hM : XG l yX5_bracket cX5_bracket 4 (some .int) rx_X5_bracket G L F (.ref (ad 0) :: [.int (x9), .int (y9), .int (z9)]) "java/lang/IndexOutOfBoundsException") {post : Int32 → (Nat → va_E) → Prop} (hpost : post (nI 1) F) : CW l yL_bracket cL_bracket 6 hh_bracket G L F [.ref (ad 0), .int (x9), .int (y9), .int (z9), .ref o] post := by
  refine CW_of (by decide) (Nat.le_of_ble_eq_true rfl) rfl ?_
  intro p e s m args below meth c Q C0 hXw hr hlk htb hQ hw ls hl
  have hx := C0.x
  have hb := C0.b
  refine lv_aload hx hb dL_bracket_0 (lv_at hl 4 rfl) ?_
  refine lv_iconst (v := nI 0) hx hb dL_bracket_2 rfl ?_
  refine lv_aload_n hx hb dL_bracket_3 rfl (lv_at hl 0 rfl) ?_
  refine lv_iload_n hx hb dL_bracket_4 rfl (lv_at hl 1 rfl) ?_
  refine lv_iload_n hx hb dL_bracket_5 rfl (lv_at hl 2 rfl) ?_
  refine lv_iload_n hx hb dL_bracket_6 rfl (lv_at hl 3 rfl) ?_
  refine w_exc (As := [.int (x9), .int (y9), .int (z9)]) C0 hXw hw hM vw_L_29 hL0 fx rfl rfl rfl hl.1 rfl dL_bracket_7 [] ⟨0, 12, 15, 19⟩ [⟨0, 12, 19, 27⟩] (htb.trans rfl) (fun _ h => absurd h List.not_mem_nil) (by decide) (by decide) cl_L_19 (by decide +kernel) ⟨by decide, by decide⟩ ⟨by decide, by decide⟩ (fun q9 H1 locs1 hw1 => ?_)
  refine lv_astore hx hb dL_bracket_15 hl (by decide) rfl (fun ls1 hl1 => ?_)
  refine lv_iconst (v := nI 1) hx hb dL_bracket_17 rfl ?_
  exact r_i C0 hr hlk hw1 (v := nI 1) rfl hpost (by decide) (by decide) dL_bracket_18 hQ
theorem w_bracket_x2 (l : Launch) (G : Gl) (L : List Nat) (F : Nat → va_E) (ad : Nat → Nat) (o : Nat) (f : Nat → Int64) (x9 y9 z9 : Int32) (hL0 : ad 0 ∈ L) (ho : o ∈ L) (hOf : F o = wO G f) (fx : F (ad 0) = xO ad) (hM : XG l yX5_bracket cX5_bracket 4 (some .int) rx_X5_bracket G L F (.ref (ad 0) :: [.int (x9), .int (y9), .int (z9)]) "java/lang/IllegalStateException") {post : Int32 → (Nat → va_E) → Prop} (hpost : post (nI 2) F) : CW l yL_bracket cL_bracket 6 hh_bracket G L F [.ref (ad 0), .int (x9), .int (y9), .int (z9), .ref o] post := by
  refine CW_of (by decide) (Nat.le_of_ble_eq_true rfl) rfl ?_
  intro p e s m args below meth c Q C0 hXw hr hlk htb hQ hw ls hl
  have hx := C0.x
  have hb := C0.b
  refine lv_aload hx hb dL_bracket_0 (lv_at hl 4 rfl) ?_
  refine lv_iconst (v := nI 0) hx hb dL_bracket_2 rfl ?_
  refine lv_aload_n hx hb dL_bracket_3 rfl (lv_at hl 0 rfl) ?_
  refine lv_iload_n hx hb dL_bracket_4 rfl (lv_at hl 1 rfl) ?_
  refine lv_iload_n hx hb dL_bracket_5 rfl (lv_at hl 2 rfl) ?_
  refine lv_iload_n hx hb dL_bracket_6 rfl (lv_at hl 3 rfl) ?_
  refine w_exc (As := [.int (x9), .int (y9), .int (z9)]) C0 hXw hw hM vw_L_29 hL0 fx rfl rfl rfl hl.1 rfl dL_bracket_7 [⟨0, 12, 15, 19⟩] ⟨0, 12, 19, 27⟩ [] (htb.trans rfl) (List.forall_mem_cons.mpr ⟨⟨Nat.succ_ne_zero 18, _, cl_L_19, by decide +kernel⟩, fun _ h => absurd h List.not_mem_nil⟩) (by decide) (by decide) cl_L_27 (by decide +kernel) ⟨by decide, by decide⟩ ⟨by decide, by decide⟩ (fun q9 H1 locs1 hw1 => ?_)
  refine lv_astore hx hb dL_bracket_19 hl (by decide) rfl (fun ls1 hl1 => ?_)
  refine lv_iconst (v := nI 2) hx hb dL_bracket_21 rfl ?_
  exact r_i C0 hr hlk hw1 (v := nI 2) rfl hpost (by decide) (by decide) dL_bracket_22 hQ
theorem w_sum_n (l : Launch) (G : Gl) (L : List Nat) (F : Nat → va_E) (ad : Nat → Nat) (o : Nat) (f : Nat → Int64) (x9 y9 z9 : Int32) (hL0 : ad 0 ∈ L) (ho : o ∈ L) (hOf : F o = wO G f) (fx : F (ad 0) = xO ad) {post0 post : Int32 → (Nat → va_E) → Prop} (hM : CI l yX5_sum cX5_sum 4 (some .int) rm_X5_sum G L F (.ref (ad 0) :: [.int (x9), .int (y9), .int (z9)]) post0) (hO : ∀ r F1, post0 r F1 → F1 o = wO G f) (hpost : ∀ r F1 F2 f2, post0 r F1 → F2 o = wO G f2 → f2 0 = r.toInt64 → (∀ q, q ≠ o → F2 q = F1 q) → post (nI 0) F2) : CW l yL_sum cL_sum 6 hh_sum G L F [.ref (ad 0), .int (x9), .int (y9), .int (z9), .ref o] post := by
  refine CW_of (by decide) (Nat.le_of_ble_eq_true rfl) rfl ?_
  intro p e s m args below meth c Q C0 hXw hr hlk htb hQ hw ls hl
  have hx := C0.x
  have hb := C0.b
  refine lv_aload hx hb dL_sum_0 (lv_at hl 4 rfl) ?_
  refine lv_iconst (v := nI 0) hx hb dL_sum_2 rfl ?_
  refine lv_aload_n hx hb dL_sum_3 rfl (lv_at hl 0 rfl) ?_
  refine lv_iload_n hx hb dL_sum_4 rfl (lv_at hl 1 rfl) ?_
  refine lv_iload_n hx hb dL_sum_5 rfl (lv_at hl 2 rfl) ?_
  refine lv_iload_n hx hb dL_sum_6 rfl (lv_at hl 3 rfl) ?_
  exact w_norm (As := [.int (x9), .int (y9), .int (z9)]) C0 hr hlk hw hM vw_L_32 hL0 fx rfl rfl rfl hl.1 ho hO hpost rfl (tgt := 23) dL_sum_7 dL_sum_10 dL_sum_11 dL_sum_12 (by decide) dL_sum_23 dL_sum_24 rfl rfl ⟨by decide, by decide⟩ ⟨by decide, by decide⟩ (by decide) (by decide) hQ
theorem w_sum_x1 (l : Launch) (G : Gl) (L : List Nat) (F : Nat → va_E) (ad : Nat → Nat) (o : Nat) (f : Nat → Int64) (x9 y9 z9 : Int32) (hL0 : ad 0 ∈ L) (ho : o ∈ L) (hOf : F o = wO G f) (fx : F (ad 0) = xO ad) (hM : XG l yX5_sum cX5_sum 4 (some .int) rx_X5_sum G L F (.ref (ad 0) :: [.int (x9), .int (y9), .int (z9)]) "java/lang/IndexOutOfBoundsException") {post : Int32 → (Nat → va_E) → Prop} (hpost : post (nI 1) F) : CW l yL_sum cL_sum 6 hh_sum G L F [.ref (ad 0), .int (x9), .int (y9), .int (z9), .ref o] post := by
  refine CW_of (by decide) (Nat.le_of_ble_eq_true rfl) rfl ?_
  intro p e s m args below meth c Q C0 hXw hr hlk htb hQ hw ls hl
  have hx := C0.x
  have hb := C0.b
  refine lv_aload hx hb dL_sum_0 (lv_at hl 4 rfl) ?_
  refine lv_iconst (v := nI 0) hx hb dL_sum_2 rfl ?_
  refine lv_aload_n hx hb dL_sum_3 rfl (lv_at hl 0 rfl) ?_
  refine lv_iload_n hx hb dL_sum_4 rfl (lv_at hl 1 rfl) ?_
  refine lv_iload_n hx hb dL_sum_5 rfl (lv_at hl 2 rfl) ?_
  refine lv_iload_n hx hb dL_sum_6 rfl (lv_at hl 3 rfl) ?_
  refine w_exc (As := [.int (x9), .int (y9), .int (z9)]) C0 hXw hw hM vw_L_32 hL0 fx rfl rfl rfl hl.1 rfl dL_sum_7 [] ⟨0, 12, 15, 19⟩ [⟨0, 12, 19, 27⟩] (htb.trans rfl) (fun _ h => absurd h List.not_mem_nil) (by decide) (by decide) cl_L_19 (by decide +kernel) ⟨by decide, by decide⟩ ⟨by decide, by decide⟩ (fun q9 H1 locs1 hw1 => ?_)
  refine lv_astore hx hb dL_sum_15 hl (by decide) rfl (fun ls1 hl1 => ?_)
  refine lv_iconst (v := nI 1) hx hb dL_sum_17 rfl ?_
  exact r_i C0 hr hlk hw1 (v := nI 1) rfl hpost (by decide) (by decide) dL_sum_18 hQ
theorem w_sum_x2 (l : Launch) (G : Gl) (L : List Nat) (F : Nat → va_E) (ad : Nat → Nat) (o : Nat) (f : Nat → Int64) (x9 y9 z9 : Int32) (hL0 : ad 0 ∈ L) (ho : o ∈ L) (hOf : F o = wO G f) (fx : F (ad 0) = xO ad) (hM : XG l yX5_sum cX5_sum 4 (some .int) rx_X5_sum G L F (.ref (ad 0) :: [.int (x9), .int (y9), .int (z9)]) "java/lang/IllegalStateException") {post : Int32 → (Nat → va_E) → Prop} (hpost : post (nI 2) F) : CW l yL_sum cL_sum 6 hh_sum G L F [.ref (ad 0), .int (x9), .int (y9), .int (z9), .ref o] post := by
  refine CW_of (by decide) (Nat.le_of_ble_eq_true rfl) rfl ?_
  intro p e s m args below meth c Q C0 hXw hr hlk htb hQ hw ls hl
  have hx := C0.x
  have hb := C0.b
  refine lv_aload hx hb dL_sum_0 (lv_at hl 4 rfl) ?_
  refine lv_iconst (v := nI 0) hx hb dL_sum_2 rfl ?_
  refine lv_aload_n hx hb dL_sum_3 rfl (lv_at hl 0 rfl) ?_
  refine lv_iload_n hx hb dL_sum_4 rfl (lv_at hl 1 rfl) ?_
  refine lv_iload_n hx hb dL_sum_5 rfl (lv_at hl 2 rfl) ?_
  refine lv_iload_n hx hb dL_sum_6 rfl (lv_at hl 3 rfl) ?_
  refine w_exc (As := [.int (x9), .int (y9), .int (z9)]) C0 hXw hw hM vw_L_32 hL0 fx rfl rfl rfl hl.1 rfl dL_sum_7 [⟨0, 12, 15, 19⟩] ⟨0, 12, 19, 27⟩ [] (htb.trans rfl) (List.forall_mem_cons.mpr ⟨⟨Nat.succ_ne_zero 18, _, cl_L_19, by decide +kernel⟩, fun _ h => absurd h List.not_mem_nil⟩) (by decide) (by decide) cl_L_27 (by decide +kernel) ⟨by decide, by decide⟩ ⟨by decide, by decide⟩ (fun q9 H1 locs1 hw1 => ?_)
  refine lv_astore hx hb dL_sum_19 hl (by decide) rfl (fun ls1 hl1 => ?_)
  refine lv_iconst (v := nI 2) hx hb dL_sum_21 rfl ?_
  exact r_i C0 hr hlk hw1 (v := nI 2) rfl hpost (by decide) (by decide) dL_sum_22 hQ
theorem w_scale_n (l : Launch) (G : Gl) (L : List Nat) (F : Nat → va_E) (ad : Nat → Nat) (o : Nat) (f : Nat → Int64) (x9 y9 z9 : Int32) (hL0 : ad 0 ∈ L) (ho : o ∈ L) (hOf : F o = wO G f) (fx : F (ad 0) = xO ad) {post0 post : Int32 → (Nat → va_E) → Prop} (hM : CI l yX5_scale cX5_scale 4 (some .int) rm_X5_scale G L F (.ref (ad 0) :: [.int (x9), .int (y9), .int (z9)]) post0) (hO : ∀ r F1, post0 r F1 → F1 o = wO G f) (hpost : ∀ r F1 F2 f2, post0 r F1 → F2 o = wO G f2 → f2 0 = r.toInt64 → (∀ q, q ≠ o → F2 q = F1 q) → post (nI 0) F2) : CW l yL_scale cL_scale 6 hh_scale G L F [.ref (ad 0), .int (x9), .int (y9), .int (z9), .ref o] post := by
  refine CW_of (by decide) (Nat.le_of_ble_eq_true rfl) rfl ?_
  intro p e s m args below meth c Q C0 hXw hr hlk htb hQ hw ls hl
  have hx := C0.x
  have hb := C0.b
  refine lv_aload hx hb dL_scale_0 (lv_at hl 4 rfl) ?_
  refine lv_iconst (v := nI 0) hx hb dL_scale_2 rfl ?_
  refine lv_aload_n hx hb dL_scale_3 rfl (lv_at hl 0 rfl) ?_
  refine lv_iload_n hx hb dL_scale_4 rfl (lv_at hl 1 rfl) ?_
  refine lv_iload_n hx hb dL_scale_5 rfl (lv_at hl 2 rfl) ?_
  refine lv_iload_n hx hb dL_scale_6 rfl (lv_at hl 3 rfl) ?_
  exact w_norm (As := [.int (x9), .int (y9), .int (z9)]) C0 hr hlk hw hM vw_L_35 hL0 fx rfl rfl rfl hl.1 ho hO hpost rfl (tgt := 23) dL_scale_7 dL_scale_10 dL_scale_11 dL_scale_12 (by decide) dL_scale_23 dL_scale_24 rfl rfl ⟨by decide, by decide⟩ ⟨by decide, by decide⟩ (by decide) (by decide) hQ
theorem w_scale_x1 (l : Launch) (G : Gl) (L : List Nat) (F : Nat → va_E) (ad : Nat → Nat) (o : Nat) (f : Nat → Int64) (x9 y9 z9 : Int32) (hL0 : ad 0 ∈ L) (ho : o ∈ L) (hOf : F o = wO G f) (fx : F (ad 0) = xO ad) (hM : XG l yX5_scale cX5_scale 4 (some .int) rx_X5_scale G L F (.ref (ad 0) :: [.int (x9), .int (y9), .int (z9)]) "java/lang/IndexOutOfBoundsException") {post : Int32 → (Nat → va_E) → Prop} (hpost : post (nI 1) F) : CW l yL_scale cL_scale 6 hh_scale G L F [.ref (ad 0), .int (x9), .int (y9), .int (z9), .ref o] post := by
  refine CW_of (by decide) (Nat.le_of_ble_eq_true rfl) rfl ?_
  intro p e s m args below meth c Q C0 hXw hr hlk htb hQ hw ls hl
  have hx := C0.x
  have hb := C0.b
  refine lv_aload hx hb dL_scale_0 (lv_at hl 4 rfl) ?_
  refine lv_iconst (v := nI 0) hx hb dL_scale_2 rfl ?_
  refine lv_aload_n hx hb dL_scale_3 rfl (lv_at hl 0 rfl) ?_
  refine lv_iload_n hx hb dL_scale_4 rfl (lv_at hl 1 rfl) ?_
  refine lv_iload_n hx hb dL_scale_5 rfl (lv_at hl 2 rfl) ?_
  refine lv_iload_n hx hb dL_scale_6 rfl (lv_at hl 3 rfl) ?_
  refine w_exc (As := [.int (x9), .int (y9), .int (z9)]) C0 hXw hw hM vw_L_35 hL0 fx rfl rfl rfl hl.1 rfl dL_scale_7 [] ⟨0, 12, 15, 19⟩ [⟨0, 12, 19, 27⟩] (htb.trans rfl) (fun _ h => absurd h List.not_mem_nil) (by decide) (by decide) cl_L_19 (by decide +kernel) ⟨by decide, by decide⟩ ⟨by decide, by decide⟩ (fun q9 H1 locs1 hw1 => ?_)
  refine lv_astore hx hb dL_scale_15 hl (by decide) rfl (fun ls1 hl1 => ?_)
  refine lv_iconst (v := nI 1) hx hb dL_scale_17 rfl ?_
  exact r_i C0 hr hlk hw1 (v := nI 1) rfl hpost (by decide) (by decide) dL_scale_18 hQ
theorem w_scale_x2 (l : Launch) (G : Gl) (L : List Nat) (F : Nat → va_E) (ad : Nat → Nat) (o : Nat) (f : Nat → Int64) (x9 y9 z9 : Int32) (hL0 : ad 0 ∈ L) (ho : o ∈ L) (hOf : F o = wO G f) (fx : F (ad 0) = xO ad) (hM : XG l yX5_scale cX5_scale 4 (some .int) rx_X5_scale G L F (.ref (ad 0) :: [.int (x9), .int (y9), .int (z9)]) "java/lang/IllegalStateException") {post : Int32 → (Nat → va_E) → Prop} (hpost : post (nI 2) F) : CW l yL_scale cL_scale 6 hh_scale G L F [.ref (ad 0), .int (x9), .int (y9), .int (z9), .ref o] post := by
  refine CW_of (by decide) (Nat.le_of_ble_eq_true rfl) rfl ?_
  intro p e s m args below meth c Q C0 hXw hr hlk htb hQ hw ls hl
  have hx := C0.x
  have hb := C0.b
  refine lv_aload hx hb dL_scale_0 (lv_at hl 4 rfl) ?_
  refine lv_iconst (v := nI 0) hx hb dL_scale_2 rfl ?_
  refine lv_aload_n hx hb dL_scale_3 rfl (lv_at hl 0 rfl) ?_
  refine lv_iload_n hx hb dL_scale_4 rfl (lv_at hl 1 rfl) ?_
  refine lv_iload_n hx hb dL_scale_5 rfl (lv_at hl 2 rfl) ?_
  refine lv_iload_n hx hb dL_scale_6 rfl (lv_at hl 3 rfl) ?_
  refine w_exc (As := [.int (x9), .int (y9), .int (z9)]) C0 hXw hw hM vw_L_35 hL0 fx rfl rfl rfl hl.1 rfl dL_scale_7 [⟨0, 12, 15, 19⟩] ⟨0, 12, 19, 27⟩ [] (htb.trans rfl) (List.forall_mem_cons.mpr ⟨⟨Nat.succ_ne_zero 18, _, cl_L_19, by decide +kernel⟩, fun _ h => absurd h List.not_mem_nil⟩) (by decide) (by decide) cl_L_27 (by decide +kernel) ⟨by decide, by decide⟩ ⟨by decide, by decide⟩ (fun q9 H1 locs1 hw1 => ?_)
  refine lv_astore hx hb dL_scale_19 hl (by decide) rfl (fun ls1 hl1 => ?_)
  refine lv_iconst (v := nI 2) hx hb dL_scale_21 rfl ?_
  exact r_i C0 hr hlk hw1 (v := nI 2) rfl hpost (by decide) (by decide) dL_scale_22 hQ
theorem w_byBrackets_n (l : Launch) (G : Gl) (L : List Nat) (F : Nat → va_E) (ad : Nat → Nat) (o : Nat) (f : Nat → Int64) (x9 y9 z9 : Int32) (hL0 : ad 0 ∈ L) (ho : o ∈ L) (hOf : F o = wO G f) (fx : F (ad 0) = xO ad) {post0 post : Int32 → (Nat → va_E) → Prop} (hM : CI l yX5_byBrackets cX5_byBrackets 4 (some .int) rm_X5_byBrackets G L F (.ref (ad 0) :: [.int (x9), .int (y9), .int (z9)]) post0) (hO : ∀ r F1, post0 r F1 → F1 o = wO G f) (hpost : ∀ r F1 F2 f2, post0 r F1 → F2 o = wO G f2 → f2 0 = r.toInt64 → (∀ q, q ≠ o → F2 q = F1 q) → post (nI 0) F2) : CW l yL_byBrackets cL_byBrackets 6 hh_byBrackets G L F [.ref (ad 0), .int (x9), .int (y9), .int (z9), .ref o] post := by
  refine CW_of (by decide) (Nat.le_of_ble_eq_true rfl) rfl ?_
  intro p e s m args below meth c Q C0 hXw hr hlk htb hQ hw ls hl
  have hx := C0.x
  have hb := C0.b
  refine lv_aload hx hb dL_byBrackets_0 (lv_at hl 4 rfl) ?_
  refine lv_iconst (v := nI 0) hx hb dL_byBrackets_2 rfl ?_
  refine lv_aload_n hx hb dL_byBrackets_3 rfl (lv_at hl 0 rfl) ?_
  refine lv_iload_n hx hb dL_byBrackets_4 rfl (lv_at hl 1 rfl) ?_
  refine lv_iload_n hx hb dL_byBrackets_5 rfl (lv_at hl 2 rfl) ?_
  refine lv_iload_n hx hb dL_byBrackets_6 rfl (lv_at hl 3 rfl) ?_
  exact w_norm (As := [.int (x9), .int (y9), .int (z9)]) C0 hr hlk hw hM vw_L_38 hL0 fx rfl rfl rfl hl.1 ho hO hpost rfl (tgt := 23) dL_byBrackets_7 dL_byBrackets_10 dL_byBrackets_11 dL_byBrackets_12 (by decide) dL_byBrackets_23 dL_byBrackets_24 rfl rfl ⟨by decide, by decide⟩ ⟨by decide, by decide⟩ (by decide) (by decide) hQ
theorem w_byBrackets_x1 (l : Launch) (G : Gl) (L : List Nat) (F : Nat → va_E) (ad : Nat → Nat) (o : Nat) (f : Nat → Int64) (x9 y9 z9 : Int32) (hL0 : ad 0 ∈ L) (ho : o ∈ L) (hOf : F o = wO G f) (fx : F (ad 0) = xO ad) (hM : XG l yX5_byBrackets cX5_byBrackets 4 (some .int) rx_X5_byBrackets G L F (.ref (ad 0) :: [.int (x9), .int (y9), .int (z9)]) "java/lang/IndexOutOfBoundsException") {post : Int32 → (Nat → va_E) → Prop} (hpost : post (nI 1) F) : CW l yL_byBrackets cL_byBrackets 6 hh_byBrackets G L F [.ref (ad 0), .int (x9), .int (y9), .int (z9), .ref o] post := by
  refine CW_of (by decide) (Nat.le_of_ble_eq_true rfl) rfl ?_
  intro p e s m args below meth c Q C0 hXw hr hlk htb hQ hw ls hl
  have hx := C0.x
  have hb := C0.b
  refine lv_aload hx hb dL_byBrackets_0 (lv_at hl 4 rfl) ?_
  refine lv_iconst (v := nI 0) hx hb dL_byBrackets_2 rfl ?_
  refine lv_aload_n hx hb dL_byBrackets_3 rfl (lv_at hl 0 rfl) ?_
  refine lv_iload_n hx hb dL_byBrackets_4 rfl (lv_at hl 1 rfl) ?_
  refine lv_iload_n hx hb dL_byBrackets_5 rfl (lv_at hl 2 rfl) ?_
  refine lv_iload_n hx hb dL_byBrackets_6 rfl (lv_at hl 3 rfl) ?_
  refine w_exc (As := [.int (x9), .int (y9), .int (z9)]) C0 hXw hw hM vw_L_38 hL0 fx rfl rfl rfl hl.1 rfl dL_byBrackets_7 [] ⟨0, 12, 15, 19⟩ [⟨0, 12, 19, 27⟩] (htb.trans rfl) (fun _ h => absurd h List.not_mem_nil) (by decide) (by decide) cl_L_19 (by decide +kernel) ⟨by decide, by decide⟩ ⟨by decide, by decide⟩ (fun q9 H1 locs1 hw1 => ?_)
  refine lv_astore hx hb dL_byBrackets_15 hl (by decide) rfl (fun ls1 hl1 => ?_)
  refine lv_iconst (v := nI 1) hx hb dL_byBrackets_17 rfl ?_
  exact r_i C0 hr hlk hw1 (v := nI 1) rfl hpost (by decide) (by decide) dL_byBrackets_18 hQ
theorem w_byBrackets_x2 (l : Launch) (G : Gl) (L : List Nat) (F : Nat → va_E) (ad : Nat → Nat) (o : Nat) (f : Nat → Int64) (x9 y9 z9 : Int32) (hL0 : ad 0 ∈ L) (ho : o ∈ L) (hOf : F o = wO G f) (fx : F (ad 0) = xO ad) (hM : XG l yX5_byBrackets cX5_byBrackets 4 (some .int) rx_X5_byBrackets G L F (.ref (ad 0) :: [.int (x9), .int (y9), .int (z9)]) "java/lang/IllegalStateException") {post : Int32 → (Nat → va_E) → Prop} (hpost : post (nI 2) F) : CW l yL_byBrackets cL_byBrackets 6 hh_byBrackets G L F [.ref (ad 0), .int (x9), .int (y9), .int (z9), .ref o] post := by
  refine CW_of (by decide) (Nat.le_of_ble_eq_true rfl) rfl ?_
  intro p e s m args below meth c Q C0 hXw hr hlk htb hQ hw ls hl
  have hx := C0.x
  have hb := C0.b
  refine lv_aload hx hb dL_byBrackets_0 (lv_at hl 4 rfl) ?_
  refine lv_iconst (v := nI 0) hx hb dL_byBrackets_2 rfl ?_
  refine lv_aload_n hx hb dL_byBrackets_3 rfl (lv_at hl 0 rfl) ?_
  refine lv_iload_n hx hb dL_byBrackets_4 rfl (lv_at hl 1 rfl) ?_
  refine lv_iload_n hx hb dL_byBrackets_5 rfl (lv_at hl 2 rfl) ?_
  refine lv_iload_n hx hb dL_byBrackets_6 rfl (lv_at hl 3 rfl) ?_
  refine w_exc (As := [.int (x9), .int (y9), .int (z9)]) C0 hXw hw hM vw_L_38 hL0 fx rfl rfl rfl hl.1 rfl dL_byBrackets_7 [⟨0, 12, 15, 19⟩] ⟨0, 12, 19, 27⟩ [] (htb.trans rfl) (List.forall_mem_cons.mpr ⟨⟨Nat.succ_ne_zero 18, _, cl_L_19, by decide +kernel⟩, fun _ h => absurd h List.not_mem_nil⟩) (by decide) (by decide) cl_L_27 (by decide +kernel) ⟨by decide, by decide⟩ ⟨by decide, by decide⟩ (fun q9 H1 locs1 hw1 => ?_)
  refine lv_astore hx hb dL_byBrackets_19 hl (by decide) rfl (fun ls1 hl1 => ?_)
  refine lv_iconst (v := nI 2) hx hb dL_byBrackets_21 rfl ?_
  exact r_i C0 hr hlk hw1 (v := nI 2) rfl hpost (by decide) (by decide) dL_byBrackets_22 hQ
theorem w_push_n (l : Launch) (G : Gl) (L : List Nat) (F : Nat → va_E) (ad : Nat → Nat) (o : Nat) (f : Nat → Int64) (x9 y9 z9 : Int32) (hL0 : ad 0 ∈ L) (ho : o ∈ L) (hOf : F o = wO G f) (fx : F (ad 0) = xO ad) {post0 post : Int32 → (Nat → va_E) → Prop} (hM : CI l yX5_push cX5_push 4 (some .int) rm_X5_push G L F (.ref (ad 0) :: [.int (x9), .int (y9), .int (z9)]) post0) (hO : ∀ r F1, post0 r F1 → F1 o = wO G f) (hpost : ∀ r F1 F2 f2, post0 r F1 → F2 o = wO G f2 → f2 0 = r.toInt64 → (∀ q, q ≠ o → F2 q = F1 q) → post (nI 0) F2) : CW l yL_push cL_push 6 hh_push G L F [.ref (ad 0), .int (x9), .int (y9), .int (z9), .ref o] post := by
  refine CW_of (by decide) (Nat.le_of_ble_eq_true rfl) rfl ?_
  intro p e s m args below meth c Q C0 hXw hr hlk htb hQ hw ls hl
  have hx := C0.x
  have hb := C0.b
  refine lv_aload hx hb dL_push_0 (lv_at hl 4 rfl) ?_
  refine lv_iconst (v := nI 0) hx hb dL_push_2 rfl ?_
  refine lv_aload_n hx hb dL_push_3 rfl (lv_at hl 0 rfl) ?_
  refine lv_iload_n hx hb dL_push_4 rfl (lv_at hl 1 rfl) ?_
  refine lv_iload_n hx hb dL_push_5 rfl (lv_at hl 2 rfl) ?_
  refine lv_iload_n hx hb dL_push_6 rfl (lv_at hl 3 rfl) ?_
  exact w_norm (As := [.int (x9), .int (y9), .int (z9)]) C0 hr hlk hw hM vw_L_41 hL0 fx rfl rfl rfl hl.1 ho hO hpost rfl (tgt := 23) dL_push_7 dL_push_10 dL_push_11 dL_push_12 (by decide) dL_push_23 dL_push_24 rfl rfl ⟨by decide, by decide⟩ ⟨by decide, by decide⟩ (by decide) (by decide) hQ
theorem w_push_x1 (l : Launch) (G : Gl) (L : List Nat) (F : Nat → va_E) (ad : Nat → Nat) (o : Nat) (f : Nat → Int64) (x9 y9 z9 : Int32) (hL0 : ad 0 ∈ L) (ho : o ∈ L) (hOf : F o = wO G f) (fx : F (ad 0) = xO ad) (hM : XG l yX5_push cX5_push 4 (some .int) rx_X5_push G L F (.ref (ad 0) :: [.int (x9), .int (y9), .int (z9)]) "java/lang/IndexOutOfBoundsException") {post : Int32 → (Nat → va_E) → Prop} (hpost : post (nI 1) F) : CW l yL_push cL_push 6 hh_push G L F [.ref (ad 0), .int (x9), .int (y9), .int (z9), .ref o] post := by
  refine CW_of (by decide) (Nat.le_of_ble_eq_true rfl) rfl ?_
  intro p e s m args below meth c Q C0 hXw hr hlk htb hQ hw ls hl
  have hx := C0.x
  have hb := C0.b
  refine lv_aload hx hb dL_push_0 (lv_at hl 4 rfl) ?_
  refine lv_iconst (v := nI 0) hx hb dL_push_2 rfl ?_
  refine lv_aload_n hx hb dL_push_3 rfl (lv_at hl 0 rfl) ?_
  refine lv_iload_n hx hb dL_push_4 rfl (lv_at hl 1 rfl) ?_
  refine lv_iload_n hx hb dL_push_5 rfl (lv_at hl 2 rfl) ?_
  refine lv_iload_n hx hb dL_push_6 rfl (lv_at hl 3 rfl) ?_
  refine w_exc (As := [.int (x9), .int (y9), .int (z9)]) C0 hXw hw hM vw_L_41 hL0 fx rfl rfl rfl hl.1 rfl dL_push_7 [] ⟨0, 12, 15, 19⟩ [⟨0, 12, 19, 27⟩] (htb.trans rfl) (fun _ h => absurd h List.not_mem_nil) (by decide) (by decide) cl_L_19 (by decide +kernel) ⟨by decide, by decide⟩ ⟨by decide, by decide⟩ (fun q9 H1 locs1 hw1 => ?_)
  refine lv_astore hx hb dL_push_15 hl (by decide) rfl (fun ls1 hl1 => ?_)
  refine lv_iconst (v := nI 1) hx hb dL_push_17 rfl ?_
  exact r_i C0 hr hlk hw1 (v := nI 1) rfl hpost (by decide) (by decide) dL_push_18 hQ
theorem w_push_x2 (l : Launch) (G : Gl) (L : List Nat) (F : Nat → va_E) (ad : Nat → Nat) (o : Nat) (f : Nat → Int64) (x9 y9 z9 : Int32) (hL0 : ad 0 ∈ L) (ho : o ∈ L) (hOf : F o = wO G f) (fx : F (ad 0) = xO ad) (hM : XG l yX5_push cX5_push 4 (some .int) rx_X5_push G L F (.ref (ad 0) :: [.int (x9), .int (y9), .int (z9)]) "java/lang/IllegalStateException") {post : Int32 → (Nat → va_E) → Prop} (hpost : post (nI 2) F) : CW l yL_push cL_push 6 hh_push G L F [.ref (ad 0), .int (x9), .int (y9), .int (z9), .ref o] post := by
  refine CW_of (by decide) (Nat.le_of_ble_eq_true rfl) rfl ?_
  intro p e s m args below meth c Q C0 hXw hr hlk htb hQ hw ls hl
  have hx := C0.x
  have hb := C0.b
  refine lv_aload hx hb dL_push_0 (lv_at hl 4 rfl) ?_
  refine lv_iconst (v := nI 0) hx hb dL_push_2 rfl ?_
  refine lv_aload_n hx hb dL_push_3 rfl (lv_at hl 0 rfl) ?_
  refine lv_iload_n hx hb dL_push_4 rfl (lv_at hl 1 rfl) ?_
  refine lv_iload_n hx hb dL_push_5 rfl (lv_at hl 2 rfl) ?_
  refine lv_iload_n hx hb dL_push_6 rfl (lv_at hl 3 rfl) ?_
  refine w_exc (As := [.int (x9), .int (y9), .int (z9)]) C0 hXw hw hM vw_L_41 hL0 fx rfl rfl rfl hl.1 rfl dL_push_7 [⟨0, 12, 15, 19⟩] ⟨0, 12, 19, 27⟩ [] (htb.trans rfl) (List.forall_mem_cons.mpr ⟨⟨Nat.succ_ne_zero 18, _, cl_L_19, by decide +kernel⟩, fun _ h => absurd h List.not_mem_nil⟩) (by decide) (by decide) cl_L_27 (by decide +kernel) ⟨by decide, by decide⟩ ⟨by decide, by decide⟩ (fun q9 H1 locs1 hw1 => ?_)
  refine lv_astore hx hb dL_push_19 hl (by decide) rfl (fun ls1 hl1 => ?_)
  refine lv_iconst (v := nI 2) hx hb dL_push_21 rfl ?_
  exact r_i C0 hr hlk hw1 (v := nI 2) rfl hpost (by decide) (by decide) dL_push_22 hQ
theorem w_log_n (l : Launch) (G : Gl) (L : List Nat) (F : Nat → va_E) (ad : Nat → Nat) (o : Nat) (f : Nat → Int64) (x9 y9 : Int32) (hL0 : ad 0 ∈ L) (ho : o ∈ L) (hOf : F o = wO G f) (fx : F (ad 0) = xO ad) {post0 post : Int32 → (Nat → va_E) → Prop} (hM : CI l yX5_log cX5_log 3 (some .int) rm_X5_log G L F (.ref (ad 0) :: [.int (x9), .int (y9)]) post0) (hO : ∀ r F1, post0 r F1 → F1 o = wO G f) (hpost : ∀ r F1 F2 f2, post0 r F1 → F2 o = wO G f2 → f2 0 = r.toInt64 → (∀ q, q ≠ o → F2 q = F1 q) → post (nI 0) F2) : CW l yL_log cL_log 5 hh_log G L F [.ref (ad 0), .int (x9), .int (y9), .ref o] post := by
  refine CW_of (by decide) (Nat.le_of_ble_eq_true rfl) rfl ?_
  intro p e s m args below meth c Q C0 hXw hr hlk htb hQ hw ls hl
  have hx := C0.x
  have hb := C0.b
  refine lv_aload_n hx hb dL_log_0 rfl (lv_at hl 3 rfl) ?_
  refine lv_iconst (v := nI 0) hx hb dL_log_1 rfl ?_
  refine lv_aload_n hx hb dL_log_2 rfl (lv_at hl 0 rfl) ?_
  refine lv_iload_n hx hb dL_log_3 rfl (lv_at hl 1 rfl) ?_
  refine lv_iload_n hx hb dL_log_4 rfl (lv_at hl 2 rfl) ?_
  exact w_norm (As := [.int (x9), .int (y9)]) C0 hr hlk hw hM vw_L_44 hL0 fx rfl rfl rfl hl.1 ho hO hpost rfl (tgt := 21) dL_log_5 dL_log_8 dL_log_9 dL_log_10 (by decide) dL_log_21 dL_log_22 rfl rfl ⟨by decide, by decide⟩ ⟨by decide, by decide⟩ (by decide) (by decide) hQ
theorem w_log_x1 (l : Launch) (G : Gl) (L : List Nat) (F : Nat → va_E) (ad : Nat → Nat) (o : Nat) (f : Nat → Int64) (x9 y9 : Int32) (hL0 : ad 0 ∈ L) (ho : o ∈ L) (hOf : F o = wO G f) (fx : F (ad 0) = xO ad) (hM : XG l yX5_log cX5_log 3 (some .int) rx_X5_log G L F (.ref (ad 0) :: [.int (x9), .int (y9)]) "java/lang/IndexOutOfBoundsException") {post : Int32 → (Nat → va_E) → Prop} (hpost : post (nI 1) F) : CW l yL_log cL_log 5 hh_log G L F [.ref (ad 0), .int (x9), .int (y9), .ref o] post := by
  refine CW_of (by decide) (Nat.le_of_ble_eq_true rfl) rfl ?_
  intro p e s m args below meth c Q C0 hXw hr hlk htb hQ hw ls hl
  have hx := C0.x
  have hb := C0.b
  refine lv_aload_n hx hb dL_log_0 rfl (lv_at hl 3 rfl) ?_
  refine lv_iconst (v := nI 0) hx hb dL_log_1 rfl ?_
  refine lv_aload_n hx hb dL_log_2 rfl (lv_at hl 0 rfl) ?_
  refine lv_iload_n hx hb dL_log_3 rfl (lv_at hl 1 rfl) ?_
  refine lv_iload_n hx hb dL_log_4 rfl (lv_at hl 2 rfl) ?_
  refine w_exc (As := [.int (x9), .int (y9)]) C0 hXw hw hM vw_L_44 hL0 fx rfl rfl rfl hl.1 rfl dL_log_5 [] ⟨0, 10, 13, 19⟩ [⟨0, 10, 17, 27⟩] (htb.trans rfl) (fun _ h => absurd h List.not_mem_nil) (by decide) (by decide) cl_L_19 (by decide +kernel) ⟨by decide, by decide⟩ ⟨by decide, by decide⟩ (fun q9 H1 locs1 hw1 => ?_)
  refine lv_astore hx hb dL_log_13 hl (by decide) rfl (fun ls1 hl1 => ?_)
  refine lv_iconst (v := nI 1) hx hb dL_log_15 rfl ?_
  exact r_i C0 hr hlk hw1 (v := nI 1) rfl hpost (by decide) (by decide) dL_log_16 hQ
theorem w_log_x2 (l : Launch) (G : Gl) (L : List Nat) (F : Nat → va_E) (ad : Nat → Nat) (o : Nat) (f : Nat → Int64) (x9 y9 : Int32) (hL0 : ad 0 ∈ L) (ho : o ∈ L) (hOf : F o = wO G f) (fx : F (ad 0) = xO ad) (hM : XG l yX5_log cX5_log 3 (some .int) rx_X5_log G L F (.ref (ad 0) :: [.int (x9), .int (y9)]) "java/lang/IllegalStateException") {post : Int32 → (Nat → va_E) → Prop} (hpost : post (nI 2) F) : CW l yL_log cL_log 5 hh_log G L F [.ref (ad 0), .int (x9), .int (y9), .ref o] post := by
  refine CW_of (by decide) (Nat.le_of_ble_eq_true rfl) rfl ?_
  intro p e s m args below meth c Q C0 hXw hr hlk htb hQ hw ls hl
  have hx := C0.x
  have hb := C0.b
  refine lv_aload_n hx hb dL_log_0 rfl (lv_at hl 3 rfl) ?_
  refine lv_iconst (v := nI 0) hx hb dL_log_1 rfl ?_
  refine lv_aload_n hx hb dL_log_2 rfl (lv_at hl 0 rfl) ?_
  refine lv_iload_n hx hb dL_log_3 rfl (lv_at hl 1 rfl) ?_
  refine lv_iload_n hx hb dL_log_4 rfl (lv_at hl 2 rfl) ?_
  refine w_exc (As := [.int (x9), .int (y9)]) C0 hXw hw hM vw_L_44 hL0 fx rfl rfl rfl hl.1 rfl dL_log_5 [⟨0, 10, 13, 19⟩] ⟨0, 10, 17, 27⟩ [] (htb.trans rfl) (List.forall_mem_cons.mpr ⟨⟨Nat.succ_ne_zero 18, _, cl_L_19, by decide +kernel⟩, fun _ h => absurd h List.not_mem_nil⟩) (by decide) (by decide) cl_L_27 (by decide +kernel) ⟨by decide, by decide⟩ ⟨by decide, by decide⟩ (fun q9 H1 locs1 hw1 => ?_)
  refine lv_astore hx hb dL_log_17 hl (by decide) rfl (fun ls1 hl1 => ?_)
  refine lv_iconst (v := nI 2) hx hb dL_log_19 rfl ?_
  exact r_i C0 hr hlk hw1 (v := nI 2) rfl hpost (by decide) (by decide) dL_log_20 hQ
theorem w_exp_n (l : Launch) (G : Gl) (L : List Nat) (F : Nat → va_E) (ad : Nat → Nat) (o : Nat) (f : Nat → Int64) (x9 y9 : Int32) (hL0 : ad 0 ∈ L) (ho : o ∈ L) (hOf : F o = wO G f) (fx : F (ad 0) = xO ad) {post0 post : Int32 → (Nat → va_E) → Prop} (hM : CI l yX5_exp cX5_exp 3 (some .int) rm_X5_exp G L F (.ref (ad 0) :: [.int (x9), .int (y9)]) post0) (hO : ∀ r F1, post0 r F1 → F1 o = wO G f) (hpost : ∀ r F1 F2 f2, post0 r F1 → F2 o = wO G f2 → f2 0 = r.toInt64 → (∀ q, q ≠ o → F2 q = F1 q) → post (nI 0) F2) : CW l yL_exp cL_exp 5 hh_exp G L F [.ref (ad 0), .int (x9), .int (y9), .ref o] post := by
  refine CW_of (by decide) (Nat.le_of_ble_eq_true rfl) rfl ?_
  intro p e s m args below meth c Q C0 hXw hr hlk htb hQ hw ls hl
  have hx := C0.x
  have hb := C0.b
  refine lv_aload_n hx hb dL_exp_0 rfl (lv_at hl 3 rfl) ?_
  refine lv_iconst (v := nI 0) hx hb dL_exp_1 rfl ?_
  refine lv_aload_n hx hb dL_exp_2 rfl (lv_at hl 0 rfl) ?_
  refine lv_iload_n hx hb dL_exp_3 rfl (lv_at hl 1 rfl) ?_
  refine lv_iload_n hx hb dL_exp_4 rfl (lv_at hl 2 rfl) ?_
  exact w_norm (As := [.int (x9), .int (y9)]) C0 hr hlk hw hM vw_L_48 hL0 fx rfl rfl rfl hl.1 ho hO hpost rfl (tgt := 21) dL_exp_5 dL_exp_8 dL_exp_9 dL_exp_10 (by decide) dL_exp_21 dL_exp_22 rfl rfl ⟨by decide, by decide⟩ ⟨by decide, by decide⟩ (by decide) (by decide) hQ
theorem w_exp_x1 (l : Launch) (G : Gl) (L : List Nat) (F : Nat → va_E) (ad : Nat → Nat) (o : Nat) (f : Nat → Int64) (x9 y9 : Int32) (hL0 : ad 0 ∈ L) (ho : o ∈ L) (hOf : F o = wO G f) (fx : F (ad 0) = xO ad) (hM : XG l yX5_exp cX5_exp 3 (some .int) rx_X5_exp G L F (.ref (ad 0) :: [.int (x9), .int (y9)]) "java/lang/IndexOutOfBoundsException") {post : Int32 → (Nat → va_E) → Prop} (hpost : post (nI 1) F) : CW l yL_exp cL_exp 5 hh_exp G L F [.ref (ad 0), .int (x9), .int (y9), .ref o] post := by
  refine CW_of (by decide) (Nat.le_of_ble_eq_true rfl) rfl ?_
  intro p e s m args below meth c Q C0 hXw hr hlk htb hQ hw ls hl
  have hx := C0.x
  have hb := C0.b
  refine lv_aload_n hx hb dL_exp_0 rfl (lv_at hl 3 rfl) ?_
  refine lv_iconst (v := nI 0) hx hb dL_exp_1 rfl ?_
  refine lv_aload_n hx hb dL_exp_2 rfl (lv_at hl 0 rfl) ?_
  refine lv_iload_n hx hb dL_exp_3 rfl (lv_at hl 1 rfl) ?_
  refine lv_iload_n hx hb dL_exp_4 rfl (lv_at hl 2 rfl) ?_
  refine w_exc (As := [.int (x9), .int (y9)]) C0 hXw hw hM vw_L_48 hL0 fx rfl rfl rfl hl.1 rfl dL_exp_5 [] ⟨0, 10, 13, 19⟩ [⟨0, 10, 17, 27⟩] (htb.trans rfl) (fun _ h => absurd h List.not_mem_nil) (by decide) (by decide) cl_L_19 (by decide +kernel) ⟨by decide, by decide⟩ ⟨by decide, by decide⟩ (fun q9 H1 locs1 hw1 => ?_)
  refine lv_astore hx hb dL_exp_13 hl (by decide) rfl (fun ls1 hl1 => ?_)
  refine lv_iconst (v := nI 1) hx hb dL_exp_15 rfl ?_
  exact r_i C0 hr hlk hw1 (v := nI 1) rfl hpost (by decide) (by decide) dL_exp_16 hQ
theorem w_exp_x2 (l : Launch) (G : Gl) (L : List Nat) (F : Nat → va_E) (ad : Nat → Nat) (o : Nat) (f : Nat → Int64) (x9 y9 : Int32) (hL0 : ad 0 ∈ L) (ho : o ∈ L) (hOf : F o = wO G f) (fx : F (ad 0) = xO ad) (hM : XG l yX5_exp cX5_exp 3 (some .int) rx_X5_exp G L F (.ref (ad 0) :: [.int (x9), .int (y9)]) "java/lang/IllegalStateException") {post : Int32 → (Nat → va_E) → Prop} (hpost : post (nI 2) F) : CW l yL_exp cL_exp 5 hh_exp G L F [.ref (ad 0), .int (x9), .int (y9), .ref o] post := by
  refine CW_of (by decide) (Nat.le_of_ble_eq_true rfl) rfl ?_
  intro p e s m args below meth c Q C0 hXw hr hlk htb hQ hw ls hl
  have hx := C0.x
  have hb := C0.b
  refine lv_aload_n hx hb dL_exp_0 rfl (lv_at hl 3 rfl) ?_
  refine lv_iconst (v := nI 0) hx hb dL_exp_1 rfl ?_
  refine lv_aload_n hx hb dL_exp_2 rfl (lv_at hl 0 rfl) ?_
  refine lv_iload_n hx hb dL_exp_3 rfl (lv_at hl 1 rfl) ?_
  refine lv_iload_n hx hb dL_exp_4 rfl (lv_at hl 2 rfl) ?_
  refine w_exc (As := [.int (x9), .int (y9)]) C0 hXw hw hM vw_L_48 hL0 fx rfl rfl rfl hl.1 rfl dL_exp_5 [⟨0, 10, 13, 19⟩] ⟨0, 10, 17, 27⟩ [] (htb.trans rfl) (List.forall_mem_cons.mpr ⟨⟨Nat.succ_ne_zero 18, _, cl_L_19, by decide +kernel⟩, fun _ h => absurd h List.not_mem_nil⟩) (by decide) (by decide) cl_L_27 (by decide +kernel) ⟨by decide, by decide⟩ ⟨by decide, by decide⟩ (fun q9 H1 locs1 hw1 => ?_)
  refine lv_astore hx hb dL_exp_17 hl (by decide) rfl (fun ls1 hl1 => ?_)
  refine lv_iconst (v := nI 2) hx hb dL_exp_19 rfl ?_
  exact r_i C0 hr hlk hw1 (v := nI 2) rfl hpost (by decide) (by decide) dL_exp_20 hQ
theorem w_compose_n (l : Launch) (G : Gl) (L : List Nat) (F : Nat → va_E) (ad : Nat → Nat) (o : Nat) (f : Nat → Int64) (x9 y9 z9 : Int32) (hL0 : ad 0 ∈ L) (ho : o ∈ L) (hOf : F o = wO G f) (fx : F (ad 0) = xO ad) {post0 post : Int32 → (Nat → va_E) → Prop} (hM : CI l yX5_compose cX5_compose 4 (some .int) rm_X5_compose G L F (.ref (ad 0) :: [.int (x9), .int (y9), .int (z9)]) post0) (hO : ∀ r F1, post0 r F1 → F1 o = wO G f) (hpost : ∀ r F1 F2 f2, post0 r F1 → F2 o = wO G f2 → f2 0 = r.toInt64 → (∀ q, q ≠ o → F2 q = F1 q) → post (nI 0) F2) : CW l yL_compose cL_compose 6 hh_compose G L F [.ref (ad 0), .int (x9), .int (y9), .int (z9), .ref o] post := by
  refine CW_of (by decide) (Nat.le_of_ble_eq_true rfl) rfl ?_
  intro p e s m args below meth c Q C0 hXw hr hlk htb hQ hw ls hl
  have hx := C0.x
  have hb := C0.b
  refine lv_aload hx hb dL_compose_0 (lv_at hl 4 rfl) ?_
  refine lv_iconst (v := nI 0) hx hb dL_compose_2 rfl ?_
  refine lv_aload_n hx hb dL_compose_3 rfl (lv_at hl 0 rfl) ?_
  refine lv_iload_n hx hb dL_compose_4 rfl (lv_at hl 1 rfl) ?_
  refine lv_iload_n hx hb dL_compose_5 rfl (lv_at hl 2 rfl) ?_
  refine lv_iload_n hx hb dL_compose_6 rfl (lv_at hl 3 rfl) ?_
  exact w_norm (As := [.int (x9), .int (y9), .int (z9)]) C0 hr hlk hw hM vw_L_51 hL0 fx rfl rfl rfl hl.1 ho hO hpost rfl (tgt := 23) dL_compose_7 dL_compose_10 dL_compose_11 dL_compose_12 (by decide) dL_compose_23 dL_compose_24 rfl rfl ⟨by decide, by decide⟩ ⟨by decide, by decide⟩ (by decide) (by decide) hQ
theorem w_compose_x1 (l : Launch) (G : Gl) (L : List Nat) (F : Nat → va_E) (ad : Nat → Nat) (o : Nat) (f : Nat → Int64) (x9 y9 z9 : Int32) (hL0 : ad 0 ∈ L) (ho : o ∈ L) (hOf : F o = wO G f) (fx : F (ad 0) = xO ad) (hM : XG l yX5_compose cX5_compose 4 (some .int) rx_X5_compose G L F (.ref (ad 0) :: [.int (x9), .int (y9), .int (z9)]) "java/lang/IndexOutOfBoundsException") {post : Int32 → (Nat → va_E) → Prop} (hpost : post (nI 1) F) : CW l yL_compose cL_compose 6 hh_compose G L F [.ref (ad 0), .int (x9), .int (y9), .int (z9), .ref o] post := by
  refine CW_of (by decide) (Nat.le_of_ble_eq_true rfl) rfl ?_
  intro p e s m args below meth c Q C0 hXw hr hlk htb hQ hw ls hl
  have hx := C0.x
  have hb := C0.b
  refine lv_aload hx hb dL_compose_0 (lv_at hl 4 rfl) ?_
  refine lv_iconst (v := nI 0) hx hb dL_compose_2 rfl ?_
  refine lv_aload_n hx hb dL_compose_3 rfl (lv_at hl 0 rfl) ?_
  refine lv_iload_n hx hb dL_compose_4 rfl (lv_at hl 1 rfl) ?_
  refine lv_iload_n hx hb dL_compose_5 rfl (lv_at hl 2 rfl) ?_
  refine lv_iload_n hx hb dL_compose_6 rfl (lv_at hl 3 rfl) ?_
  refine w_exc (As := [.int (x9), .int (y9), .int (z9)]) C0 hXw hw hM vw_L_51 hL0 fx rfl rfl rfl hl.1 rfl dL_compose_7 [] ⟨0, 12, 15, 19⟩ [⟨0, 12, 19, 27⟩] (htb.trans rfl) (fun _ h => absurd h List.not_mem_nil) (by decide) (by decide) cl_L_19 (by decide +kernel) ⟨by decide, by decide⟩ ⟨by decide, by decide⟩ (fun q9 H1 locs1 hw1 => ?_)
  refine lv_astore hx hb dL_compose_15 hl (by decide) rfl (fun ls1 hl1 => ?_)
  refine lv_iconst (v := nI 1) hx hb dL_compose_17 rfl ?_
  exact r_i C0 hr hlk hw1 (v := nI 1) rfl hpost (by decide) (by decide) dL_compose_18 hQ
theorem w_compose_x2 (l : Launch) (G : Gl) (L : List Nat) (F : Nat → va_E) (ad : Nat → Nat) (o : Nat) (f : Nat → Int64) (x9 y9 z9 : Int32) (hL0 : ad 0 ∈ L) (ho : o ∈ L) (hOf : F o = wO G f) (fx : F (ad 0) = xO ad) (hM : XG l yX5_compose cX5_compose 4 (some .int) rx_X5_compose G L F (.ref (ad 0) :: [.int (x9), .int (y9), .int (z9)]) "java/lang/IllegalStateException") {post : Int32 → (Nat → va_E) → Prop} (hpost : post (nI 2) F) : CW l yL_compose cL_compose 6 hh_compose G L F [.ref (ad 0), .int (x9), .int (y9), .int (z9), .ref o] post := by
  refine CW_of (by decide) (Nat.le_of_ble_eq_true rfl) rfl ?_
  intro p e s m args below meth c Q C0 hXw hr hlk htb hQ hw ls hl
  have hx := C0.x
  have hb := C0.b
  refine lv_aload hx hb dL_compose_0 (lv_at hl 4 rfl) ?_
  refine lv_iconst (v := nI 0) hx hb dL_compose_2 rfl ?_
  refine lv_aload_n hx hb dL_compose_3 rfl (lv_at hl 0 rfl) ?_
  refine lv_iload_n hx hb dL_compose_4 rfl (lv_at hl 1 rfl) ?_
  refine lv_iload_n hx hb dL_compose_5 rfl (lv_at hl 2 rfl) ?_
  refine lv_iload_n hx hb dL_compose_6 rfl (lv_at hl 3 rfl) ?_
  refine w_exc (As := [.int (x9), .int (y9), .int (z9)]) C0 hXw hw hM vw_L_51 hL0 fx rfl rfl rfl hl.1 rfl dL_compose_7 [⟨0, 12, 15, 19⟩] ⟨0, 12, 19, 27⟩ [] (htb.trans rfl) (List.forall_mem_cons.mpr ⟨⟨Nat.succ_ne_zero 18, _, cl_L_19, by decide +kernel⟩, fun _ h => absurd h List.not_mem_nil⟩) (by decide) (by decide) cl_L_27 (by decide +kernel) ⟨by decide, by decide⟩ ⟨by decide, by decide⟩ (fun q9 H1 locs1 hw1 => ?_)
  refine lv_astore hx hb dL_compose_19 hl (by decide) rfl (fun ls1 hl1 => ?_)
  refine lv_iconst (v := nI 2) hx hb dL_compose_21 rfl ?_
  exact r_i C0 hr hlk hw1 (v := nI 2) rfl hpost (by decide) (by decide) dL_compose_22 hQ
theorem w_invert_n (l : Launch) (G : Gl) (L : List Nat) (F : Nat → va_E) (ad : Nat → Nat) (o : Nat) (f : Nat → Int64) (x9 y9 : Int32) (hL0 : ad 0 ∈ L) (ho : o ∈ L) (hOf : F o = wO G f) (fx : F (ad 0) = xO ad) {post0 post : Int32 → (Nat → va_E) → Prop} (hM : CI l yX5_invert cX5_invert 3 (some .int) rm_X5_invert G L F (.ref (ad 0) :: [.int (x9), .int (y9)]) post0) (hO : ∀ r F1, post0 r F1 → F1 o = wO G f) (hpost : ∀ r F1 F2 f2, post0 r F1 → F2 o = wO G f2 → f2 0 = r.toInt64 → (∀ q, q ≠ o → F2 q = F1 q) → post (nI 0) F2) : CW l yL_invert cL_invert 5 hh_invert G L F [.ref (ad 0), .int (x9), .int (y9), .ref o] post := by
  refine CW_of (by decide) (Nat.le_of_ble_eq_true rfl) rfl ?_
  intro p e s m args below meth c Q C0 hXw hr hlk htb hQ hw ls hl
  have hx := C0.x
  have hb := C0.b
  refine lv_aload_n hx hb dL_invert_0 rfl (lv_at hl 3 rfl) ?_
  refine lv_iconst (v := nI 0) hx hb dL_invert_1 rfl ?_
  refine lv_aload_n hx hb dL_invert_2 rfl (lv_at hl 0 rfl) ?_
  refine lv_iload_n hx hb dL_invert_3 rfl (lv_at hl 1 rfl) ?_
  refine lv_iload_n hx hb dL_invert_4 rfl (lv_at hl 2 rfl) ?_
  exact w_norm (As := [.int (x9), .int (y9)]) C0 hr hlk hw hM vw_L_54 hL0 fx rfl rfl rfl hl.1 ho hO hpost rfl (tgt := 21) dL_invert_5 dL_invert_8 dL_invert_9 dL_invert_10 (by decide) dL_invert_21 dL_invert_22 rfl rfl ⟨by decide, by decide⟩ ⟨by decide, by decide⟩ (by decide) (by decide) hQ
theorem w_invert_x1 (l : Launch) (G : Gl) (L : List Nat) (F : Nat → va_E) (ad : Nat → Nat) (o : Nat) (f : Nat → Int64) (x9 y9 : Int32) (hL0 : ad 0 ∈ L) (ho : o ∈ L) (hOf : F o = wO G f) (fx : F (ad 0) = xO ad) (hM : XG l yX5_invert cX5_invert 3 (some .int) rx_X5_invert G L F (.ref (ad 0) :: [.int (x9), .int (y9)]) "java/lang/IndexOutOfBoundsException") {post : Int32 → (Nat → va_E) → Prop} (hpost : post (nI 1) F) : CW l yL_invert cL_invert 5 hh_invert G L F [.ref (ad 0), .int (x9), .int (y9), .ref o] post := by
  refine CW_of (by decide) (Nat.le_of_ble_eq_true rfl) rfl ?_
  intro p e s m args below meth c Q C0 hXw hr hlk htb hQ hw ls hl
  have hx := C0.x
  have hb := C0.b
  refine lv_aload_n hx hb dL_invert_0 rfl (lv_at hl 3 rfl) ?_
  refine lv_iconst (v := nI 0) hx hb dL_invert_1 rfl ?_
  refine lv_aload_n hx hb dL_invert_2 rfl (lv_at hl 0 rfl) ?_
  refine lv_iload_n hx hb dL_invert_3 rfl (lv_at hl 1 rfl) ?_
  refine lv_iload_n hx hb dL_invert_4 rfl (lv_at hl 2 rfl) ?_
  refine w_exc (As := [.int (x9), .int (y9)]) C0 hXw hw hM vw_L_54 hL0 fx rfl rfl rfl hl.1 rfl dL_invert_5 [] ⟨0, 10, 13, 19⟩ [⟨0, 10, 17, 27⟩] (htb.trans rfl) (fun _ h => absurd h List.not_mem_nil) (by decide) (by decide) cl_L_19 (by decide +kernel) ⟨by decide, by decide⟩ ⟨by decide, by decide⟩ (fun q9 H1 locs1 hw1 => ?_)
  refine lv_astore hx hb dL_invert_13 hl (by decide) rfl (fun ls1 hl1 => ?_)
  refine lv_iconst (v := nI 1) hx hb dL_invert_15 rfl ?_
  exact r_i C0 hr hlk hw1 (v := nI 1) rfl hpost (by decide) (by decide) dL_invert_16 hQ
theorem w_invert_x2 (l : Launch) (G : Gl) (L : List Nat) (F : Nat → va_E) (ad : Nat → Nat) (o : Nat) (f : Nat → Int64) (x9 y9 : Int32) (hL0 : ad 0 ∈ L) (ho : o ∈ L) (hOf : F o = wO G f) (fx : F (ad 0) = xO ad) (hM : XG l yX5_invert cX5_invert 3 (some .int) rx_X5_invert G L F (.ref (ad 0) :: [.int (x9), .int (y9)]) "java/lang/IllegalStateException") {post : Int32 → (Nat → va_E) → Prop} (hpost : post (nI 2) F) : CW l yL_invert cL_invert 5 hh_invert G L F [.ref (ad 0), .int (x9), .int (y9), .ref o] post := by
  refine CW_of (by decide) (Nat.le_of_ble_eq_true rfl) rfl ?_
  intro p e s m args below meth c Q C0 hXw hr hlk htb hQ hw ls hl
  have hx := C0.x
  have hb := C0.b
  refine lv_aload_n hx hb dL_invert_0 rfl (lv_at hl 3 rfl) ?_
  refine lv_iconst (v := nI 0) hx hb dL_invert_1 rfl ?_
  refine lv_aload_n hx hb dL_invert_2 rfl (lv_at hl 0 rfl) ?_
  refine lv_iload_n hx hb dL_invert_3 rfl (lv_at hl 1 rfl) ?_
  refine lv_iload_n hx hb dL_invert_4 rfl (lv_at hl 2 rfl) ?_
  refine w_exc (As := [.int (x9), .int (y9)]) C0 hXw hw hM vw_L_54 hL0 fx rfl rfl rfl hl.1 rfl dL_invert_5 [⟨0, 10, 13, 19⟩] ⟨0, 10, 17, 27⟩ [] (htb.trans rfl) (List.forall_mem_cons.mpr ⟨⟨Nat.succ_ne_zero 18, _, cl_L_19, by decide +kernel⟩, fun _ h => absurd h List.not_mem_nil⟩) (by decide) (by decide) cl_L_27 (by decide +kernel) ⟨by decide, by decide⟩ ⟨by decide, by decide⟩ (fun q9 H1 locs1 hw1 => ?_)
  refine lv_astore hx hb dL_invert_17 hl (by decide) rfl (fun ls1 hl1 => ?_)
  refine lv_iconst (v := nI 2) hx hb dL_invert_19 rfl ?_
  exact r_i C0 hr hlk hw1 (v := nI 2) rfl hpost (by decide) (by decide) dL_invert_20 hQ
theorem w_power_n (l : Launch) (G : Gl) (L : List Nat) (F : Nat → va_E) (ad : Nat → Nat) (o : Nat) (f : Nat → Int64) (x9 y9 z9 : Int32) (hL0 : ad 0 ∈ L) (ho : o ∈ L) (hOf : F o = wO G f) (fx : F (ad 0) = xO ad) {post0 post : Int32 → (Nat → va_E) → Prop} (hM : CI l yX5_power cX5_power 4 (some .int) rm_X5_power G L F (.ref (ad 0) :: [.int (x9), .int (y9), .int (z9)]) post0) (hO : ∀ r F1, post0 r F1 → F1 o = wO G f) (hpost : ∀ r F1 F2 f2, post0 r F1 → F2 o = wO G f2 → f2 0 = r.toInt64 → (∀ q, q ≠ o → F2 q = F1 q) → post (nI 0) F2) : CW l yL_power cL_power 6 hh_power G L F [.ref (ad 0), .int (x9), .int (y9), .int (z9), .ref o] post := by
  refine CW_of (by decide) (Nat.le_of_ble_eq_true rfl) rfl ?_
  intro p e s m args below meth c Q C0 hXw hr hlk htb hQ hw ls hl
  have hx := C0.x
  have hb := C0.b
  refine lv_aload hx hb dL_power_0 (lv_at hl 4 rfl) ?_
  refine lv_iconst (v := nI 0) hx hb dL_power_2 rfl ?_
  refine lv_aload_n hx hb dL_power_3 rfl (lv_at hl 0 rfl) ?_
  refine lv_iload_n hx hb dL_power_4 rfl (lv_at hl 1 rfl) ?_
  refine lv_iload_n hx hb dL_power_5 rfl (lv_at hl 2 rfl) ?_
  refine lv_iload_n hx hb dL_power_6 rfl (lv_at hl 3 rfl) ?_
  exact w_norm (As := [.int (x9), .int (y9), .int (z9)]) C0 hr hlk hw hM vw_L_57 hL0 fx rfl rfl rfl hl.1 ho hO hpost rfl (tgt := 27) dL_power_7 dL_power_10 dL_power_11 dL_power_12 (by decide) dL_power_27 dL_power_28 rfl rfl ⟨by decide, by decide⟩ ⟨by decide, by decide⟩ (by decide) (by decide) hQ
theorem w_power_x1 (l : Launch) (G : Gl) (L : List Nat) (F : Nat → va_E) (ad : Nat → Nat) (o : Nat) (f : Nat → Int64) (x9 y9 z9 : Int32) (hL0 : ad 0 ∈ L) (ho : o ∈ L) (hOf : F o = wO G f) (fx : F (ad 0) = xO ad) (hM : XG l yX5_power cX5_power 4 (some .int) rx_X5_power G L F (.ref (ad 0) :: [.int (x9), .int (y9), .int (z9)]) "java/lang/IndexOutOfBoundsException") {post : Int32 → (Nat → va_E) → Prop} (hpost : post (nI 1) F) : CW l yL_power cL_power 6 hh_power G L F [.ref (ad 0), .int (x9), .int (y9), .int (z9), .ref o] post := by
  refine CW_of (by decide) (Nat.le_of_ble_eq_true rfl) rfl ?_
  intro p e s m args below meth c Q C0 hXw hr hlk htb hQ hw ls hl
  have hx := C0.x
  have hb := C0.b
  refine lv_aload hx hb dL_power_0 (lv_at hl 4 rfl) ?_
  refine lv_iconst (v := nI 0) hx hb dL_power_2 rfl ?_
  refine lv_aload_n hx hb dL_power_3 rfl (lv_at hl 0 rfl) ?_
  refine lv_iload_n hx hb dL_power_4 rfl (lv_at hl 1 rfl) ?_
  refine lv_iload_n hx hb dL_power_5 rfl (lv_at hl 2 rfl) ?_
  refine lv_iload_n hx hb dL_power_6 rfl (lv_at hl 3 rfl) ?_
  refine w_exc (As := [.int (x9), .int (y9), .int (z9)]) C0 hXw hw hM vw_L_57 hL0 fx rfl rfl rfl hl.1 rfl dL_power_7 [] ⟨0, 12, 15, 19⟩ [⟨0, 12, 19, 13⟩, ⟨0, 12, 23, 27⟩] (htb.trans rfl) (fun _ h => absurd h List.not_mem_nil) (by decide) (by decide) cl_L_19 (by decide +kernel) ⟨by decide, by decide⟩ ⟨by decide, by decide⟩ (fun q9 H1 locs1 hw1 => ?_)
  refine lv_astore hx hb dL_power_15 hl (by decide) rfl (fun ls1 hl1 => ?_)
  refine lv_iconst (v := nI 1) hx hb dL_power_17 rfl ?_
  exact r_i C0 hr hlk hw1 (v := nI 1) rfl hpost (by decide) (by decide) dL_power_18 hQ
theorem w_power_x2 (l : Launch) (G : Gl) (L : List Nat) (F : Nat → va_E) (ad : Nat → Nat) (o : Nat) (f : Nat → Int64) (x9 y9 z9 : Int32) (hL0 : ad 0 ∈ L) (ho : o ∈ L) (hOf : F o = wO G f) (fx : F (ad 0) = xO ad) (hM : XG l yX5_power cX5_power 4 (some .int) rx_X5_power G L F (.ref (ad 0) :: [.int (x9), .int (y9), .int (z9)]) "java/lang/IllegalArgumentException") {post : Int32 → (Nat → va_E) → Prop} (hpost : post (nI 2) F) : CW l yL_power cL_power 6 hh_power G L F [.ref (ad 0), .int (x9), .int (y9), .int (z9), .ref o] post := by
  refine CW_of (by decide) (Nat.le_of_ble_eq_true rfl) rfl ?_
  intro p e s m args below meth c Q C0 hXw hr hlk htb hQ hw ls hl
  have hx := C0.x
  have hb := C0.b
  refine lv_aload hx hb dL_power_0 (lv_at hl 4 rfl) ?_
  refine lv_iconst (v := nI 0) hx hb dL_power_2 rfl ?_
  refine lv_aload_n hx hb dL_power_3 rfl (lv_at hl 0 rfl) ?_
  refine lv_iload_n hx hb dL_power_4 rfl (lv_at hl 1 rfl) ?_
  refine lv_iload_n hx hb dL_power_5 rfl (lv_at hl 2 rfl) ?_
  refine lv_iload_n hx hb dL_power_6 rfl (lv_at hl 3 rfl) ?_
  refine w_exc (As := [.int (x9), .int (y9), .int (z9)]) C0 hXw hw hM vw_L_57 hL0 fx rfl rfl rfl hl.1 rfl dL_power_7 [⟨0, 12, 15, 19⟩] ⟨0, 12, 19, 13⟩ [⟨0, 12, 23, 27⟩] (htb.trans rfl) (List.forall_mem_cons.mpr ⟨⟨Nat.succ_ne_zero 18, _, cl_L_19, by decide +kernel⟩, fun _ h => absurd h List.not_mem_nil⟩) (by decide) (by decide) cl_L_13 (by decide +kernel) ⟨by decide, by decide⟩ ⟨by decide, by decide⟩ (fun q9 H1 locs1 hw1 => ?_)
  refine lv_astore hx hb dL_power_19 hl (by decide) rfl (fun ls1 hl1 => ?_)
  refine lv_iconst (v := nI 2) hx hb dL_power_21 rfl ?_
  exact r_i C0 hr hlk hw1 (v := nI 2) rfl hpost (by decide) (by decide) dL_power_22 hQ
theorem w_power_x3 (l : Launch) (G : Gl) (L : List Nat) (F : Nat → va_E) (ad : Nat → Nat) (o : Nat) (f : Nat → Int64) (x9 y9 z9 : Int32) (hL0 : ad 0 ∈ L) (ho : o ∈ L) (hOf : F o = wO G f) (fx : F (ad 0) = xO ad) (hM : XG l yX5_power cX5_power 4 (some .int) rx_X5_power G L F (.ref (ad 0) :: [.int (x9), .int (y9), .int (z9)]) "java/lang/IllegalStateException") {post : Int32 → (Nat → va_E) → Prop} (hpost : post (nI 3) F) : CW l yL_power cL_power 6 hh_power G L F [.ref (ad 0), .int (x9), .int (y9), .int (z9), .ref o] post := by
  refine CW_of (by decide) (Nat.le_of_ble_eq_true rfl) rfl ?_
  intro p e s m args below meth c Q C0 hXw hr hlk htb hQ hw ls hl
  have hx := C0.x
  have hb := C0.b
  refine lv_aload hx hb dL_power_0 (lv_at hl 4 rfl) ?_
  refine lv_iconst (v := nI 0) hx hb dL_power_2 rfl ?_
  refine lv_aload_n hx hb dL_power_3 rfl (lv_at hl 0 rfl) ?_
  refine lv_iload_n hx hb dL_power_4 rfl (lv_at hl 1 rfl) ?_
  refine lv_iload_n hx hb dL_power_5 rfl (lv_at hl 2 rfl) ?_
  refine lv_iload_n hx hb dL_power_6 rfl (lv_at hl 3 rfl) ?_
  refine w_exc (As := [.int (x9), .int (y9), .int (z9)]) C0 hXw hw hM vw_L_57 hL0 fx rfl rfl rfl hl.1 rfl dL_power_7 [⟨0, 12, 15, 19⟩, ⟨0, 12, 19, 13⟩] ⟨0, 12, 23, 27⟩ [] (htb.trans rfl) (List.forall_mem_cons.mpr ⟨⟨Nat.succ_ne_zero 18, _, cl_L_19, by decide +kernel⟩, List.forall_mem_cons.mpr ⟨⟨Nat.succ_ne_zero 12, _, cl_L_13, by decide +kernel⟩, fun _ h => absurd h List.not_mem_nil⟩⟩) (by decide) (by decide) cl_L_27 (by decide +kernel) ⟨by decide, by decide⟩ ⟨by decide, by decide⟩ (fun q9 H1 locs1 hw1 => ?_)
  refine lv_astore hx hb dL_power_23 hl (by decide) rfl (fun ls1 hl1 => ?_)
  refine lv_iconst (v := nI 3) hx hb dL_power_25 rfl ?_
  exact r_i C0 hr hlk hw1 (v := nI 3) rfl hpost (by decide) (by decide) dL_power_26 hQ
theorem w_root_n (l : Launch) (G : Gl) (L : List Nat) (F : Nat → va_E) (ad : Nat → Nat) (o : Nat) (f : Nat → Int64) (x9 y9 z9 : Int32) (hL0 : ad 0 ∈ L) (ho : o ∈ L) (hOf : F o = wO G f) (fx : F (ad 0) = xO ad) {post0 post : Int32 → (Nat → va_E) → Prop} (hM : CI l yX5_root cX5_root 4 (some .int) rm_X5_root G L F (.ref (ad 0) :: [.int (x9), .int (y9), .int (z9)]) post0) (hO : ∀ r F1, post0 r F1 → F1 o = wO G f) (hpost : ∀ r F1 F2 f2, post0 r F1 → F2 o = wO G f2 → f2 0 = r.toInt64 → (∀ q, q ≠ o → F2 q = F1 q) → post (nI 0) F2) : CW l yL_root cL_root 6 hh_root G L F [.ref (ad 0), .int (x9), .int (y9), .int (z9), .ref o] post := by
  refine CW_of (by decide) (Nat.le_of_ble_eq_true rfl) rfl ?_
  intro p e s m args below meth c Q C0 hXw hr hlk htb hQ hw ls hl
  have hx := C0.x
  have hb := C0.b
  refine lv_aload hx hb dL_root_0 (lv_at hl 4 rfl) ?_
  refine lv_iconst (v := nI 0) hx hb dL_root_2 rfl ?_
  refine lv_aload_n hx hb dL_root_3 rfl (lv_at hl 0 rfl) ?_
  refine lv_iload_n hx hb dL_root_4 rfl (lv_at hl 1 rfl) ?_
  refine lv_iload_n hx hb dL_root_5 rfl (lv_at hl 2 rfl) ?_
  refine lv_iload_n hx hb dL_root_6 rfl (lv_at hl 3 rfl) ?_
  exact w_norm (As := [.int (x9), .int (y9), .int (z9)]) C0 hr hlk hw hM vw_L_60 hL0 fx rfl rfl rfl hl.1 ho hO hpost rfl (tgt := 27) dL_root_7 dL_root_10 dL_root_11 dL_root_12 (by decide) dL_root_27 dL_root_28 rfl rfl ⟨by decide, by decide⟩ ⟨by decide, by decide⟩ (by decide) (by decide) hQ
theorem w_root_x1 (l : Launch) (G : Gl) (L : List Nat) (F : Nat → va_E) (ad : Nat → Nat) (o : Nat) (f : Nat → Int64) (x9 y9 z9 : Int32) (hL0 : ad 0 ∈ L) (ho : o ∈ L) (hOf : F o = wO G f) (fx : F (ad 0) = xO ad) (hM : XG l yX5_root cX5_root 4 (some .int) rx_X5_root G L F (.ref (ad 0) :: [.int (x9), .int (y9), .int (z9)]) "java/lang/IndexOutOfBoundsException") {post : Int32 → (Nat → va_E) → Prop} (hpost : post (nI 1) F) : CW l yL_root cL_root 6 hh_root G L F [.ref (ad 0), .int (x9), .int (y9), .int (z9), .ref o] post := by
  refine CW_of (by decide) (Nat.le_of_ble_eq_true rfl) rfl ?_
  intro p e s m args below meth c Q C0 hXw hr hlk htb hQ hw ls hl
  have hx := C0.x
  have hb := C0.b
  refine lv_aload hx hb dL_root_0 (lv_at hl 4 rfl) ?_
  refine lv_iconst (v := nI 0) hx hb dL_root_2 rfl ?_
  refine lv_aload_n hx hb dL_root_3 rfl (lv_at hl 0 rfl) ?_
  refine lv_iload_n hx hb dL_root_4 rfl (lv_at hl 1 rfl) ?_
  refine lv_iload_n hx hb dL_root_5 rfl (lv_at hl 2 rfl) ?_
  refine lv_iload_n hx hb dL_root_6 rfl (lv_at hl 3 rfl) ?_
  refine w_exc (As := [.int (x9), .int (y9), .int (z9)]) C0 hXw hw hM vw_L_60 hL0 fx rfl rfl rfl hl.1 rfl dL_root_7 [] ⟨0, 12, 15, 19⟩ [⟨0, 12, 19, 13⟩, ⟨0, 12, 23, 27⟩] (htb.trans rfl) (fun _ h => absurd h List.not_mem_nil) (by decide) (by decide) cl_L_19 (by decide +kernel) ⟨by decide, by decide⟩ ⟨by decide, by decide⟩ (fun q9 H1 locs1 hw1 => ?_)
  refine lv_astore hx hb dL_root_15 hl (by decide) rfl (fun ls1 hl1 => ?_)
  refine lv_iconst (v := nI 1) hx hb dL_root_17 rfl ?_
  exact r_i C0 hr hlk hw1 (v := nI 1) rfl hpost (by decide) (by decide) dL_root_18 hQ
theorem w_root_x2 (l : Launch) (G : Gl) (L : List Nat) (F : Nat → va_E) (ad : Nat → Nat) (o : Nat) (f : Nat → Int64) (x9 y9 z9 : Int32) (hL0 : ad 0 ∈ L) (ho : o ∈ L) (hOf : F o = wO G f) (fx : F (ad 0) = xO ad) (hM : XG l yX5_root cX5_root 4 (some .int) rx_X5_root G L F (.ref (ad 0) :: [.int (x9), .int (y9), .int (z9)]) "java/lang/IllegalArgumentException") {post : Int32 → (Nat → va_E) → Prop} (hpost : post (nI 2) F) : CW l yL_root cL_root 6 hh_root G L F [.ref (ad 0), .int (x9), .int (y9), .int (z9), .ref o] post := by
  refine CW_of (by decide) (Nat.le_of_ble_eq_true rfl) rfl ?_
  intro p e s m args below meth c Q C0 hXw hr hlk htb hQ hw ls hl
  have hx := C0.x
  have hb := C0.b
  refine lv_aload hx hb dL_root_0 (lv_at hl 4 rfl) ?_
  refine lv_iconst (v := nI 0) hx hb dL_root_2 rfl ?_
  refine lv_aload_n hx hb dL_root_3 rfl (lv_at hl 0 rfl) ?_
  refine lv_iload_n hx hb dL_root_4 rfl (lv_at hl 1 rfl) ?_
  refine lv_iload_n hx hb dL_root_5 rfl (lv_at hl 2 rfl) ?_
  refine lv_iload_n hx hb dL_root_6 rfl (lv_at hl 3 rfl) ?_
  refine w_exc (As := [.int (x9), .int (y9), .int (z9)]) C0 hXw hw hM vw_L_60 hL0 fx rfl rfl rfl hl.1 rfl dL_root_7 [⟨0, 12, 15, 19⟩] ⟨0, 12, 19, 13⟩ [⟨0, 12, 23, 27⟩] (htb.trans rfl) (List.forall_mem_cons.mpr ⟨⟨Nat.succ_ne_zero 18, _, cl_L_19, by decide +kernel⟩, fun _ h => absurd h List.not_mem_nil⟩) (by decide) (by decide) cl_L_13 (by decide +kernel) ⟨by decide, by decide⟩ ⟨by decide, by decide⟩ (fun q9 H1 locs1 hw1 => ?_)
  refine lv_astore hx hb dL_root_19 hl (by decide) rfl (fun ls1 hl1 => ?_)
  refine lv_iconst (v := nI 2) hx hb dL_root_21 rfl ?_
  exact r_i C0 hr hlk hw1 (v := nI 2) rfl hpost (by decide) (by decide) dL_root_22 hQ
theorem w_root_x3 (l : Launch) (G : Gl) (L : List Nat) (F : Nat → va_E) (ad : Nat → Nat) (o : Nat) (f : Nat → Int64) (x9 y9 z9 : Int32) (hL0 : ad 0 ∈ L) (ho : o ∈ L) (hOf : F o = wO G f) (fx : F (ad 0) = xO ad) (hM : XG l yX5_root cX5_root 4 (some .int) rx_X5_root G L F (.ref (ad 0) :: [.int (x9), .int (y9), .int (z9)]) "java/lang/IllegalStateException") {post : Int32 → (Nat → va_E) → Prop} (hpost : post (nI 3) F) : CW l yL_root cL_root 6 hh_root G L F [.ref (ad 0), .int (x9), .int (y9), .int (z9), .ref o] post := by
  refine CW_of (by decide) (Nat.le_of_ble_eq_true rfl) rfl ?_
  intro p e s m args below meth c Q C0 hXw hr hlk htb hQ hw ls hl
  have hx := C0.x
  have hb := C0.b
  refine lv_aload hx hb dL_root_0 (lv_at hl 4 rfl) ?_
  refine lv_iconst (v := nI 0) hx hb dL_root_2 rfl ?_
  refine lv_aload_n hx hb dL_root_3 rfl (lv_at hl 0 rfl) ?_
  refine lv_iload_n hx hb dL_root_4 rfl (lv_at hl 1 rfl) ?_
  refine lv_iload_n hx hb dL_root_5 rfl (lv_at hl 2 rfl) ?_
  refine lv_iload_n hx hb dL_root_6 rfl (lv_at hl 3 rfl) ?_
  refine w_exc (As := [.int (x9), .int (y9), .int (z9)]) C0 hXw hw hM vw_L_60 hL0 fx rfl rfl rfl hl.1 rfl dL_root_7 [⟨0, 12, 15, 19⟩, ⟨0, 12, 19, 13⟩] ⟨0, 12, 23, 27⟩ [] (htb.trans rfl) (List.forall_mem_cons.mpr ⟨⟨Nat.succ_ne_zero 18, _, cl_L_19, by decide +kernel⟩, List.forall_mem_cons.mpr ⟨⟨Nat.succ_ne_zero 12, _, cl_L_13, by decide +kernel⟩, fun _ h => absurd h List.not_mem_nil⟩⟩) (by decide) (by decide) cl_L_27 (by decide +kernel) ⟨by decide, by decide⟩ ⟨by decide, by decide⟩ (fun q9 H1 locs1 hw1 => ?_)
  refine lv_astore hx hb dL_root_23 hl (by decide) rfl (fun ls1 hl1 => ?_)
  refine lv_iconst (v := nI 3) hx hb dL_root_25 rfl ?_
  exact r_i C0 hr hlk hw1 (v := nI 3) rfl hpost (by decide) (by decide) dL_root_26 hQ
theorem w_append_n (l : Launch) (G : Gl) (L : List Nat) (F : Nat → va_E) (ad : Nat → Nat) (o : Nat) (f : Nat → Int64) (x9 : Int32) (hL0 : ad 0 ∈ L) (ho : o ∈ L) (hOf : F o = wO G f) (fx : F (ad 0) = xO ad) {post0 post : Int32 → (Nat → va_E) → Prop} (hM : CI l yX5_append cX5_append 2 (some .int) rm_X5_append G L F (.ref (ad 0) :: [.int (x9)]) post0) (hO : ∀ r F1, post0 r F1 → F1 o = wO G f) (hpost : ∀ r F1 F2 f2, post0 r F1 → F2 o = wO G f2 → f2 0 = r.toInt64 → (∀ q, q ≠ o → F2 q = F1 q) → post (nI 0) F2) : CW l yL_append cL_append 4 hh_append G L F [.ref (ad 0), .int (x9), .ref o] post := by
  refine CW_of (by decide) (Nat.le_of_ble_eq_true rfl) rfl ?_
  intro p e s m args below meth c Q C0 hXw hr hlk htb hQ hw ls hl
  have hx := C0.x
  have hb := C0.b
  refine lv_aload_n hx hb dL_append_0 rfl (lv_at hl 2 rfl) ?_
  refine lv_iconst (v := nI 0) hx hb dL_append_1 rfl ?_
  refine lv_aload_n hx hb dL_append_2 rfl (lv_at hl 0 rfl) ?_
  refine lv_iload_n hx hb dL_append_3 rfl (lv_at hl 1 rfl) ?_
  exact w_norm (As := [.int (x9)]) C0 hr hlk hw hM vw_L_63 hL0 fx rfl rfl rfl hl.1 ho hO hpost rfl (tgt := 18) dL_append_4 dL_append_7 dL_append_8 dL_append_9 (by decide) dL_append_18 dL_append_19 rfl rfl ⟨by decide, by decide⟩ ⟨by decide, by decide⟩ (by decide) (by decide) hQ
theorem w_append_x1 (l : Launch) (G : Gl) (L : List Nat) (F : Nat → va_E) (ad : Nat → Nat) (o : Nat) (f : Nat → Int64) (x9 : Int32) (hL0 : ad 0 ∈ L) (ho : o ∈ L) (hOf : F o = wO G f) (fx : F (ad 0) = xO ad) (hM : XG l yX5_append cX5_append 2 (some .int) rx_X5_append G L F (.ref (ad 0) :: [.int (x9)]) "java/lang/IllegalArgumentException") {post : Int32 → (Nat → va_E) → Prop} (hpost : post (nI 1) F) : CW l yL_append cL_append 4 hh_append G L F [.ref (ad 0), .int (x9), .ref o] post := by
  refine CW_of (by decide) (Nat.le_of_ble_eq_true rfl) rfl ?_
  intro p e s m args below meth c Q C0 hXw hr hlk htb hQ hw ls hl
  have hx := C0.x
  have hb := C0.b
  refine lv_aload_n hx hb dL_append_0 rfl (lv_at hl 2 rfl) ?_
  refine lv_iconst (v := nI 0) hx hb dL_append_1 rfl ?_
  refine lv_aload_n hx hb dL_append_2 rfl (lv_at hl 0 rfl) ?_
  refine lv_iload_n hx hb dL_append_3 rfl (lv_at hl 1 rfl) ?_
  refine w_exc (As := [.int (x9)]) C0 hXw hw hM vw_L_63 hL0 fx rfl rfl rfl hl.1 rfl dL_append_4 [] ⟨0, 9, 12, 13⟩ [⟨0, 9, 15, 27⟩] (htb.trans rfl) (fun _ h => absurd h List.not_mem_nil) (by decide) (by decide) cl_L_13 (by decide +kernel) ⟨by decide, by decide⟩ ⟨by decide, by decide⟩ (fun q9 H1 locs1 hw1 => ?_)
  refine lv_astore_n hx hb dL_append_12 rfl hl (by decide) rfl (fun ls1 hl1 => ?_)
  refine lv_iconst (v := nI 1) hx hb dL_append_13 rfl ?_
  exact r_i C0 hr hlk hw1 (v := nI 1) rfl hpost (by decide) (by decide) dL_append_14 hQ
theorem w_append_x2 (l : Launch) (G : Gl) (L : List Nat) (F : Nat → va_E) (ad : Nat → Nat) (o : Nat) (f : Nat → Int64) (x9 : Int32) (hL0 : ad 0 ∈ L) (ho : o ∈ L) (hOf : F o = wO G f) (fx : F (ad 0) = xO ad) (hM : XG l yX5_append cX5_append 2 (some .int) rx_X5_append G L F (.ref (ad 0) :: [.int (x9)]) "java/lang/IllegalStateException") {post : Int32 → (Nat → va_E) → Prop} (hpost : post (nI 2) F) : CW l yL_append cL_append 4 hh_append G L F [.ref (ad 0), .int (x9), .ref o] post := by
  refine CW_of (by decide) (Nat.le_of_ble_eq_true rfl) rfl ?_
  intro p e s m args below meth c Q C0 hXw hr hlk htb hQ hw ls hl
  have hx := C0.x
  have hb := C0.b
  refine lv_aload_n hx hb dL_append_0 rfl (lv_at hl 2 rfl) ?_
  refine lv_iconst (v := nI 0) hx hb dL_append_1 rfl ?_
  refine lv_aload_n hx hb dL_append_2 rfl (lv_at hl 0 rfl) ?_
  refine lv_iload_n hx hb dL_append_3 rfl (lv_at hl 1 rfl) ?_
  refine w_exc (As := [.int (x9)]) C0 hXw hw hM vw_L_63 hL0 fx rfl rfl rfl hl.1 rfl dL_append_4 [⟨0, 9, 12, 13⟩] ⟨0, 9, 15, 27⟩ [] (htb.trans rfl) (List.forall_mem_cons.mpr ⟨⟨Nat.succ_ne_zero 12, _, cl_L_13, by decide +kernel⟩, fun _ h => absurd h List.not_mem_nil⟩) (by decide) (by decide) cl_L_27 (by decide +kernel) ⟨by decide, by decide⟩ ⟨by decide, by decide⟩ (fun q9 H1 locs1 hw1 => ?_)
  refine lv_astore_n hx hb dL_append_15 rfl hl (by decide) rfl (fun ls1 hl1 => ?_)
  refine lv_iconst (v := nI 2) hx hb dL_append_16 rfl ?_
  exact r_i C0 hr hlk hw1 (v := nI 2) rfl hpost (by decide) (by decide) dL_append_17 hQ
theorem w_run_n (l : Launch) (G : Gl) (L : List Nat) (F : Nat → va_E) (ad : Nat → Nat) (o : Nat) (f : Nat → Int64) (hL0 : ad 0 ∈ L) (ho : o ∈ L) (hOf : F o = wO G f) (fx : F (ad 0) = xO ad) {post0 post : Int32 → (Nat → va_E) → Prop} (hM : CI l yX5_run cX5_run 2 (some .int) rm_X5_run G L F (.ref (ad 0) :: []) post0) (hO : ∀ r F1, post0 r F1 → F1 o = wO G f) (hpost : ∀ r F1 F2 f2, post0 r F1 → F2 o = wO G f2 → f2 0 = r.toInt64 → (∀ q, q ≠ o → F2 q = F1 q) → post (nI 0) F2) : CW l yL_run cL_run 3 hh_run G L F [.ref (ad 0), .ref o] post := by
  refine CW_of (by decide) (Nat.le_of_ble_eq_true rfl) rfl ?_
  intro p e s m args below meth c Q C0 hXw hr hlk htb hQ hw ls hl
  have hx := C0.x
  have hb := C0.b
  refine lv_aload_n hx hb dL_run_0 rfl (lv_at hl 1 rfl) ?_
  refine lv_iconst (v := nI 0) hx hb dL_run_1 rfl ?_
  refine lv_aload_n hx hb dL_run_2 rfl (lv_at hl 0 rfl) ?_
  exact w_norm (As := []) C0 hr hlk hw hM vw_L_66 hL0 fx rfl rfl rfl hl.1 ho hO hpost rfl (tgt := 14) dL_run_3 dL_run_6 dL_run_7 dL_run_8 (by decide) dL_run_14 dL_run_15 rfl rfl ⟨by decide, by decide⟩ ⟨by decide, by decide⟩ (by decide) (by decide) hQ
theorem w_run_x1 (l : Launch) (G : Gl) (L : List Nat) (F : Nat → va_E) (ad : Nat → Nat) (o : Nat) (f : Nat → Int64) (hL0 : ad 0 ∈ L) (ho : o ∈ L) (hOf : F o = wO G f) (fx : F (ad 0) = xO ad) (hM : XG l yX5_run cX5_run 2 (some .int) rx_X5_run G L F (.ref (ad 0) :: []) "java/lang/IllegalArgumentException") {post : Int32 → (Nat → va_E) → Prop} (hpost : post (nI 1) F) : CW l yL_run cL_run 3 hh_run G L F [.ref (ad 0), .ref o] post := by
  refine CW_of (by decide) (Nat.le_of_ble_eq_true rfl) rfl ?_
  intro p e s m args below meth c Q C0 hXw hr hlk htb hQ hw ls hl
  have hx := C0.x
  have hb := C0.b
  refine lv_aload_n hx hb dL_run_0 rfl (lv_at hl 1 rfl) ?_
  refine lv_iconst (v := nI 0) hx hb dL_run_1 rfl ?_
  refine lv_aload_n hx hb dL_run_2 rfl (lv_at hl 0 rfl) ?_
  refine w_exc (As := []) C0 hXw hw hM vw_L_66 hL0 fx rfl rfl rfl hl.1 rfl dL_run_3 [] ⟨0, 8, 11, 13⟩ [] (htb.trans rfl) (fun _ h => absurd h List.not_mem_nil) (by decide) (by decide) cl_L_13 (by decide +kernel) ⟨by decide, by decide⟩ ⟨by decide, by decide⟩ (fun q9 H1 locs1 hw1 => ?_)
  refine lv_astore_n hx hb dL_run_11 rfl hl (by decide) rfl (fun ls1 hl1 => ?_)
  refine lv_iconst (v := nI 1) hx hb dL_run_12 rfl ?_
  exact r_i C0 hr hlk hw1 (v := nI 1) rfl hpost (by decide) (by decide) dL_run_13 hQ
theorem w_take_n (l : Launch) (G : Gl) (L : List Nat) (F : Nat → va_E) (ad : Nat → Nat) (o : Nat) (f : Nat → Int64) (x9 : Int32) (hL0 : ad 0 ∈ L) (ho : o ∈ L) (hOf : F o = wO G f) (fx : F (ad 0) = xO ad) {post0 post : Int32 → (Nat → va_E) → Prop} (hM : CI l yX5_take cX5_take 2 (some .int) rm_X5_take G L F (.ref (ad 0) :: [.int (x9)]) post0) (hO : ∀ r F1, post0 r F1 → F1 o = wO G f) (hpost : ∀ r F1 F2 f2, post0 r F1 → F2 o = wO G f2 → f2 0 = r.toInt64 → (∀ q, q ≠ o → F2 q = F1 q) → post (nI 0) F2) : CW l yL_take cL_take 4 hh_take G L F [.ref (ad 0), .int (x9), .ref o] post := by
  refine CW_of (by decide) (Nat.le_of_ble_eq_true rfl) rfl ?_
  intro p e s m args below meth c Q C0 hXw hr hlk htb hQ hw ls hl
  have hx := C0.x
  have hb := C0.b
  refine lv_aload_n hx hb dL_take_0 rfl (lv_at hl 2 rfl) ?_
  refine lv_iconst (v := nI 0) hx hb dL_take_1 rfl ?_
  refine lv_aload_n hx hb dL_take_2 rfl (lv_at hl 0 rfl) ?_
  refine lv_iload_n hx hb dL_take_3 rfl (lv_at hl 1 rfl) ?_
  exact w_norm (As := [.int (x9)]) C0 hr hlk hw hM vw_L_70 hL0 fx rfl rfl rfl hl.1 ho hO hpost rfl (tgt := 15) dL_take_4 dL_take_7 dL_take_8 dL_take_9 (by decide) dL_take_15 dL_take_16 rfl rfl ⟨by decide, by decide⟩ ⟨by decide, by decide⟩ (by decide) (by decide) hQ
theorem w_take_x1 (l : Launch) (G : Gl) (L : List Nat) (F : Nat → va_E) (ad : Nat → Nat) (o : Nat) (f : Nat → Int64) (x9 : Int32) (hL0 : ad 0 ∈ L) (ho : o ∈ L) (hOf : F o = wO G f) (fx : F (ad 0) = xO ad) (hM : XG l yX5_take cX5_take 2 (some .int) rx_X5_take G L F (.ref (ad 0) :: [.int (x9)]) "java/lang/IndexOutOfBoundsException") {post : Int32 → (Nat → va_E) → Prop} (hpost : post (nI 1) F) : CW l yL_take cL_take 4 hh_take G L F [.ref (ad 0), .int (x9), .ref o] post := by
  refine CW_of (by decide) (Nat.le_of_ble_eq_true rfl) rfl ?_
  intro p e s m args below meth c Q C0 hXw hr hlk htb hQ hw ls hl
  have hx := C0.x
  have hb := C0.b
  refine lv_aload_n hx hb dL_take_0 rfl (lv_at hl 2 rfl) ?_
  refine lv_iconst (v := nI 0) hx hb dL_take_1 rfl ?_
  refine lv_aload_n hx hb dL_take_2 rfl (lv_at hl 0 rfl) ?_
  refine lv_iload_n hx hb dL_take_3 rfl (lv_at hl 1 rfl) ?_
  refine w_exc (As := [.int (x9)]) C0 hXw hw hM vw_L_70 hL0 fx rfl rfl rfl hl.1 rfl dL_take_4 [] ⟨0, 9, 12, 19⟩ [] (htb.trans rfl) (fun _ h => absurd h List.not_mem_nil) (by decide) (by decide) cl_L_19 (by decide +kernel) ⟨by decide, by decide⟩ ⟨by decide, by decide⟩ (fun q9 H1 locs1 hw1 => ?_)
  refine lv_astore_n hx hb dL_take_12 rfl hl (by decide) rfl (fun ls1 hl1 => ?_)
  refine lv_iconst (v := nI 1) hx hb dL_take_13 rfl ?_
  exact r_i C0 hr hlk hw1 (v := nI 1) rfl hpost (by decide) (by decide) dL_take_14 hQ
theorem w_restore_n (l : Launch) (G : Gl) (L : List Nat) (F : Nat → va_E) (ad : Nat → Nat) (o : Nat) (f : Nat → Int64) (x9 : Int32) (hL0 : ad 0 ∈ L) (ho : o ∈ L) (hOf : F o = wO G f) (fx : F (ad 0) = xO ad) {post0 post : Int32 → (Nat → va_E) → Prop} (hM : CI l yX5_restore cX5_restore 2 (some .int) rm_X5_restore G L F (.ref (ad 0) :: [.int (x9)]) post0) (hO : ∀ r F1, post0 r F1 → F1 o = wO G f) (hpost : ∀ r F1 F2 f2, post0 r F1 → F2 o = wO G f2 → f2 0 = r.toInt64 → (∀ q, q ≠ o → F2 q = F1 q) → post (nI 0) F2) : CW l yL_restore cL_restore 4 hh_restore G L F [.ref (ad 0), .int (x9), .ref o] post := by
  refine CW_of (by decide) (Nat.le_of_ble_eq_true rfl) rfl ?_
  intro p e s m args below meth c Q C0 hXw hr hlk htb hQ hw ls hl
  have hx := C0.x
  have hb := C0.b
  refine lv_aload_n hx hb dL_restore_0 rfl (lv_at hl 2 rfl) ?_
  refine lv_iconst (v := nI 0) hx hb dL_restore_1 rfl ?_
  refine lv_aload_n hx hb dL_restore_2 rfl (lv_at hl 0 rfl) ?_
  refine lv_iload_n hx hb dL_restore_3 rfl (lv_at hl 1 rfl) ?_
  exact w_norm (As := [.int (x9)]) C0 hr hlk hw hM vw_L_73 hL0 fx rfl rfl rfl hl.1 ho hO hpost rfl (tgt := 18) dL_restore_4 dL_restore_7 dL_restore_8 dL_restore_9 (by decide) dL_restore_18 dL_restore_19 rfl rfl ⟨by decide, by decide⟩ ⟨by decide, by decide⟩ (by decide) (by decide) hQ
theorem w_restore_x1 (l : Launch) (G : Gl) (L : List Nat) (F : Nat → va_E) (ad : Nat → Nat) (o : Nat) (f : Nat → Int64) (x9 : Int32) (hL0 : ad 0 ∈ L) (ho : o ∈ L) (hOf : F o = wO G f) (fx : F (ad 0) = xO ad) (hM : XG l yX5_restore cX5_restore 2 (some .int) rx_X5_restore G L F (.ref (ad 0) :: [.int (x9)]) "java/lang/IndexOutOfBoundsException") {post : Int32 → (Nat → va_E) → Prop} (hpost : post (nI 1) F) : CW l yL_restore cL_restore 4 hh_restore G L F [.ref (ad 0), .int (x9), .ref o] post := by
  refine CW_of (by decide) (Nat.le_of_ble_eq_true rfl) rfl ?_
  intro p e s m args below meth c Q C0 hXw hr hlk htb hQ hw ls hl
  have hx := C0.x
  have hb := C0.b
  refine lv_aload_n hx hb dL_restore_0 rfl (lv_at hl 2 rfl) ?_
  refine lv_iconst (v := nI 0) hx hb dL_restore_1 rfl ?_
  refine lv_aload_n hx hb dL_restore_2 rfl (lv_at hl 0 rfl) ?_
  refine lv_iload_n hx hb dL_restore_3 rfl (lv_at hl 1 rfl) ?_
  refine w_exc (As := [.int (x9)]) C0 hXw hw hM vw_L_73 hL0 fx rfl rfl rfl hl.1 rfl dL_restore_4 [] ⟨0, 9, 12, 19⟩ [⟨0, 9, 15, 27⟩] (htb.trans rfl) (fun _ h => absurd h List.not_mem_nil) (by decide) (by decide) cl_L_19 (by decide +kernel) ⟨by decide, by decide⟩ ⟨by decide, by decide⟩ (fun q9 H1 locs1 hw1 => ?_)
  refine lv_astore_n hx hb dL_restore_12 rfl hl (by decide) rfl (fun ls1 hl1 => ?_)
  refine lv_iconst (v := nI 1) hx hb dL_restore_13 rfl ?_
  exact r_i C0 hr hlk hw1 (v := nI 1) rfl hpost (by decide) (by decide) dL_restore_14 hQ
theorem w_restore_x2 (l : Launch) (G : Gl) (L : List Nat) (F : Nat → va_E) (ad : Nat → Nat) (o : Nat) (f : Nat → Int64) (x9 : Int32) (hL0 : ad 0 ∈ L) (ho : o ∈ L) (hOf : F o = wO G f) (fx : F (ad 0) = xO ad) (hM : XG l yX5_restore cX5_restore 2 (some .int) rx_X5_restore G L F (.ref (ad 0) :: [.int (x9)]) "java/lang/IllegalStateException") {post : Int32 → (Nat → va_E) → Prop} (hpost : post (nI 2) F) : CW l yL_restore cL_restore 4 hh_restore G L F [.ref (ad 0), .int (x9), .ref o] post := by
  refine CW_of (by decide) (Nat.le_of_ble_eq_true rfl) rfl ?_
  intro p e s m args below meth c Q C0 hXw hr hlk htb hQ hw ls hl
  have hx := C0.x
  have hb := C0.b
  refine lv_aload_n hx hb dL_restore_0 rfl (lv_at hl 2 rfl) ?_
  refine lv_iconst (v := nI 0) hx hb dL_restore_1 rfl ?_
  refine lv_aload_n hx hb dL_restore_2 rfl (lv_at hl 0 rfl) ?_
  refine lv_iload_n hx hb dL_restore_3 rfl (lv_at hl 1 rfl) ?_
  refine w_exc (As := [.int (x9)]) C0 hXw hw hM vw_L_73 hL0 fx rfl rfl rfl hl.1 rfl dL_restore_4 [⟨0, 9, 12, 19⟩] ⟨0, 9, 15, 27⟩ [] (htb.trans rfl) (List.forall_mem_cons.mpr ⟨⟨Nat.succ_ne_zero 18, _, cl_L_19, by decide +kernel⟩, fun _ h => absurd h List.not_mem_nil⟩) (by decide) (by decide) cl_L_27 (by decide +kernel) ⟨by decide, by decide⟩ ⟨by decide, by decide⟩ (fun q9 H1 locs1 hw1 => ?_)
  refine lv_astore_n hx hb dL_restore_15 rfl hl (by decide) rfl (fun ls1 hl1 => ?_)
  refine lv_iconst (v := nI 2) hx hb dL_restore_16 rfl ?_
  exact r_i C0 hr hlk hw1 (v := nI 2) rfl hpost (by decide) (by decide) dL_restore_17 hQ
theorem w_undo_n (l : Launch) (G : Gl) (L : List Nat) (F : Nat → va_E) (ad : Nat → Nat) (o : Nat) (f : Nat → Int64) (hL0 : ad 0 ∈ L) (ho : o ∈ L) (hOf : F o = wO G f) (fx : F (ad 0) = xO ad) {post0 post : Int32 → (Nat → va_E) → Prop} (hM : CI l yX5_undo cX5_undo 1 (some .int) rm_X5_undo G L F (.ref (ad 0) :: []) post0) (hO : ∀ r F1, post0 r F1 → F1 o = wO G f) (hpost : ∀ r F1 F2 f2, post0 r F1 → F2 o = wO G f2 → f2 0 = r.toInt64 → (∀ q, q ≠ o → F2 q = F1 q) → post (nI 0) F2) : CW l yL_undo cL_undo 3 hh_undo G L F [.ref (ad 0), .ref o] post := by
  refine CW_of (by decide) (Nat.le_of_ble_eq_true rfl) rfl ?_
  intro p e s m args below meth c Q C0 hXw hr hlk htb hQ hw ls hl
  have hx := C0.x
  have hb := C0.b
  refine lv_aload_n hx hb dL_undo_0 rfl (lv_at hl 1 rfl) ?_
  refine lv_iconst (v := nI 0) hx hb dL_undo_1 rfl ?_
  refine lv_aload_n hx hb dL_undo_2 rfl (lv_at hl 0 rfl) ?_
  exact w_norm (As := []) C0 hr hlk hw hM vw_L_76 hL0 fx rfl rfl rfl hl.1 ho hO hpost rfl (tgt := 14) dL_undo_3 dL_undo_6 dL_undo_7 dL_undo_8 (by decide) dL_undo_14 dL_undo_15 rfl rfl ⟨by decide, by decide⟩ ⟨by decide, by decide⟩ (by decide) (by decide) hQ
theorem w_undo_x1 (l : Launch) (G : Gl) (L : List Nat) (F : Nat → va_E) (ad : Nat → Nat) (o : Nat) (f : Nat → Int64) (hL0 : ad 0 ∈ L) (ho : o ∈ L) (hOf : F o = wO G f) (fx : F (ad 0) = xO ad) (hM : XG l yX5_undo cX5_undo 1 (some .int) rx_X5_undo G L F (.ref (ad 0) :: []) "java/lang/IllegalStateException") {post : Int32 → (Nat → va_E) → Prop} (hpost : post (nI 1) F) : CW l yL_undo cL_undo 3 hh_undo G L F [.ref (ad 0), .ref o] post := by
  refine CW_of (by decide) (Nat.le_of_ble_eq_true rfl) rfl ?_
  intro p e s m args below meth c Q C0 hXw hr hlk htb hQ hw ls hl
  have hx := C0.x
  have hb := C0.b
  refine lv_aload_n hx hb dL_undo_0 rfl (lv_at hl 1 rfl) ?_
  refine lv_iconst (v := nI 0) hx hb dL_undo_1 rfl ?_
  refine lv_aload_n hx hb dL_undo_2 rfl (lv_at hl 0 rfl) ?_
  refine w_exc (As := []) C0 hXw hw hM vw_L_76 hL0 fx rfl rfl rfl hl.1 rfl dL_undo_3 [] ⟨0, 8, 11, 27⟩ [] (htb.trans rfl) (fun _ h => absurd h List.not_mem_nil) (by decide) (by decide) cl_L_27 (by decide +kernel) ⟨by decide, by decide⟩ ⟨by decide, by decide⟩ (fun q9 H1 locs1 hw1 => ?_)
  refine lv_astore_n hx hb dL_undo_11 rfl hl (by decide) rfl (fun ls1 hl1 => ?_)
  refine lv_iconst (v := nI 1) hx hb dL_undo_12 rfl ?_
  exact r_i C0 hr hlk hw1 (v := nI 1) rfl hpost (by decide) (by decide) dL_undo_13 hQ
theorem w_field_n (l : Launch) (G : Gl) (L : List Nat) (F : Nat → va_E) (ad : Nat → Nat) (o : Nat) (f : Nat → Int64) (x9 y9 : Int32) (hL0 : ad 0 ∈ L) (ho : o ∈ L) (hOf : F o = wO G f) (fx : F (ad 0) = xO ad) {post0 post : Int32 → (Nat → va_E) → Prop} (hM : CI l yX5_field cX5_field 3 (some .int) rm_X5_field G L F (.ref (ad 0) :: [.int (x9), .int (y9)]) post0) (hO : ∀ r F1, post0 r F1 → F1 o = wO G f) (hpost : ∀ r F1 F2 f2, post0 r F1 → F2 o = wO G f2 → f2 0 = r.toInt64 → (∀ q, q ≠ o → F2 q = F1 q) → post (nI 0) F2) : CW l yL_field cL_field 5 hh_field G L F [.ref (ad 0), .int (x9), .int (y9), .ref o] post := by
  refine CW_of (by decide) (Nat.le_of_ble_eq_true rfl) rfl ?_
  intro p e s m args below meth c Q C0 hXw hr hlk htb hQ hw ls hl
  have hx := C0.x
  have hb := C0.b
  refine lv_aload_n hx hb dL_field_0 rfl (lv_at hl 3 rfl) ?_
  refine lv_iconst (v := nI 0) hx hb dL_field_1 rfl ?_
  refine lv_aload_n hx hb dL_field_2 rfl (lv_at hl 0 rfl) ?_
  refine lv_iload_n hx hb dL_field_3 rfl (lv_at hl 1 rfl) ?_
  refine lv_iload_n hx hb dL_field_4 rfl (lv_at hl 2 rfl) ?_
  exact w_norm (As := [.int (x9), .int (y9)]) C0 hr hlk hw hM vw_L_79 hL0 fx rfl rfl rfl hl.1 ho hO hpost rfl (tgt := 17) dL_field_5 dL_field_8 dL_field_9 dL_field_10 (by decide) dL_field_17 dL_field_18 rfl rfl ⟨by decide, by decide⟩ ⟨by decide, by decide⟩ (by decide) (by decide) hQ
theorem w_field_x1 (l : Launch) (G : Gl) (L : List Nat) (F : Nat → va_E) (ad : Nat → Nat) (o : Nat) (f : Nat → Int64) (x9 y9 : Int32) (hL0 : ad 0 ∈ L) (ho : o ∈ L) (hOf : F o = wO G f) (fx : F (ad 0) = xO ad) (hM : XG l yX5_field cX5_field 3 (some .int) rx_X5_field G L F (.ref (ad 0) :: [.int (x9), .int (y9)]) "java/lang/IndexOutOfBoundsException") {post : Int32 → (Nat → va_E) → Prop} (hpost : post (nI 1) F) : CW l yL_field cL_field 5 hh_field G L F [.ref (ad 0), .int (x9), .int (y9), .ref o] post := by
  refine CW_of (by decide) (Nat.le_of_ble_eq_true rfl) rfl ?_
  intro p e s m args below meth c Q C0 hXw hr hlk htb hQ hw ls hl
  have hx := C0.x
  have hb := C0.b
  refine lv_aload_n hx hb dL_field_0 rfl (lv_at hl 3 rfl) ?_
  refine lv_iconst (v := nI 0) hx hb dL_field_1 rfl ?_
  refine lv_aload_n hx hb dL_field_2 rfl (lv_at hl 0 rfl) ?_
  refine lv_iload_n hx hb dL_field_3 rfl (lv_at hl 1 rfl) ?_
  refine lv_iload_n hx hb dL_field_4 rfl (lv_at hl 2 rfl) ?_
  refine w_exc (As := [.int (x9), .int (y9)]) C0 hXw hw hM vw_L_79 hL0 fx rfl rfl rfl hl.1 rfl dL_field_5 [] ⟨0, 10, 13, 19⟩ [] (htb.trans rfl) (fun _ h => absurd h List.not_mem_nil) (by decide) (by decide) cl_L_19 (by decide +kernel) ⟨by decide, by decide⟩ ⟨by decide, by decide⟩ (fun q9 H1 locs1 hw1 => ?_)
  refine lv_astore hx hb dL_field_13 hl (by decide) rfl (fun ls1 hl1 => ?_)
  refine lv_iconst (v := nI 1) hx hb dL_field_15 rfl ?_
  exact r_i C0 hr hlk hw1 (v := nI 1) rfl hpost (by decide) (by decide) dL_field_16 hQ
theorem w_flow_n (l : Launch) (G : Gl) (L : List Nat) (F : Nat → va_E) (ad : Nat → Nat) (o : Nat) (f : Nat → Int64) (x9 y9 : Int32) (hL0 : ad 0 ∈ L) (ho : o ∈ L) (hOf : F o = wO G f) (fx : F (ad 0) = xO ad) {post0 post : Int32 → (Nat → va_E) → Prop} (hM : CI l yX5_flow cX5_flow 3 (some .int) rm_X5_flow G L F (.ref (ad 0) :: [.int (x9), .int (y9)]) post0) (hO : ∀ r F1, post0 r F1 → F1 o = wO G f) (hpost : ∀ r F1 F2 f2, post0 r F1 → F2 o = wO G f2 → f2 0 = r.toInt64 → (∀ q, q ≠ o → F2 q = F1 q) → post (nI 0) F2) : CW l yL_flow cL_flow 5 hh_flow G L F [.ref (ad 0), .int (x9), .int (y9), .ref o] post := by
  refine CW_of (by decide) (Nat.le_of_ble_eq_true rfl) rfl ?_
  intro p e s m args below meth c Q C0 hXw hr hlk htb hQ hw ls hl
  have hx := C0.x
  have hb := C0.b
  refine lv_aload_n hx hb dL_flow_0 rfl (lv_at hl 3 rfl) ?_
  refine lv_iconst (v := nI 0) hx hb dL_flow_1 rfl ?_
  refine lv_aload_n hx hb dL_flow_2 rfl (lv_at hl 0 rfl) ?_
  refine lv_iload_n hx hb dL_flow_3 rfl (lv_at hl 1 rfl) ?_
  refine lv_iload_n hx hb dL_flow_4 rfl (lv_at hl 2 rfl) ?_
  exact w_norm (As := [.int (x9), .int (y9)]) C0 hr hlk hw hM vw_L_82 hL0 fx rfl rfl rfl hl.1 ho hO hpost rfl (tgt := 17) dL_flow_5 dL_flow_8 dL_flow_9 dL_flow_10 (by decide) dL_flow_17 dL_flow_18 rfl rfl ⟨by decide, by decide⟩ ⟨by decide, by decide⟩ (by decide) (by decide) hQ
theorem w_flow_x1 (l : Launch) (G : Gl) (L : List Nat) (F : Nat → va_E) (ad : Nat → Nat) (o : Nat) (f : Nat → Int64) (x9 y9 : Int32) (hL0 : ad 0 ∈ L) (ho : o ∈ L) (hOf : F o = wO G f) (fx : F (ad 0) = xO ad) (hM : XG l yX5_flow cX5_flow 3 (some .int) rx_X5_flow G L F (.ref (ad 0) :: [.int (x9), .int (y9)]) "java/lang/IndexOutOfBoundsException") {post : Int32 → (Nat → va_E) → Prop} (hpost : post (nI 1) F) : CW l yL_flow cL_flow 5 hh_flow G L F [.ref (ad 0), .int (x9), .int (y9), .ref o] post := by
  refine CW_of (by decide) (Nat.le_of_ble_eq_true rfl) rfl ?_
  intro p e s m args below meth c Q C0 hXw hr hlk htb hQ hw ls hl
  have hx := C0.x
  have hb := C0.b
  refine lv_aload_n hx hb dL_flow_0 rfl (lv_at hl 3 rfl) ?_
  refine lv_iconst (v := nI 0) hx hb dL_flow_1 rfl ?_
  refine lv_aload_n hx hb dL_flow_2 rfl (lv_at hl 0 rfl) ?_
  refine lv_iload_n hx hb dL_flow_3 rfl (lv_at hl 1 rfl) ?_
  refine lv_iload_n hx hb dL_flow_4 rfl (lv_at hl 2 rfl) ?_
  refine w_exc (As := [.int (x9), .int (y9)]) C0 hXw hw hM vw_L_82 hL0 fx rfl rfl rfl hl.1 rfl dL_flow_5 [] ⟨0, 10, 13, 19⟩ [] (htb.trans rfl) (fun _ h => absurd h List.not_mem_nil) (by decide) (by decide) cl_L_19 (by decide +kernel) ⟨by decide, by decide⟩ ⟨by decide, by decide⟩ (fun q9 H1 locs1 hw1 => ?_)
  refine lv_astore hx hb dL_flow_13 hl (by decide) rfl (fun ls1 hl1 => ?_)
  refine lv_iconst (v := nI 1) hx hb dL_flow_15 rfl ?_
  exact r_i C0 hr hlk hw1 (v := nI 1) rfl hpost (by decide) (by decide) dL_flow_16 hQ
theorem w_value_n (l : Launch) (G : Gl) (L : List Nat) (F : Nat → va_E) (ad : Nat → Nat) (o : Nat) (f : Nat → Int64) (x9 y9 z9 : Int32) (hL0 : ad 0 ∈ L) (ho : o ∈ L) (hOf : F o = wO G f) (fx : F (ad 0) = xO ad) {post0 post : Int32 → (Nat → va_E) → Prop} (hM : CI l yX5_value cX5_value 5 (some .int) rm_X5_value G L F (.ref (ad 0) :: [.int (x9), .int (y9), .int (z9)]) post0) (hO : ∀ r F1, post0 r F1 → F1 o = wO G f) (hpost : ∀ r F1 F2 f2, post0 r F1 → F2 o = wO G f2 → f2 0 = r.toInt64 → (∀ q, q ≠ o → F2 q = F1 q) → post (nI 0) F2) : CW l yL_value cL_value 6 hh_value G L F [.ref (ad 0), .int (x9), .int (y9), .int (z9), .ref o] post := by
  refine CW_of (by decide) (Nat.le_of_ble_eq_true rfl) rfl ?_
  intro p e s m args below meth c Q C0 hXw hr hlk htb hQ hw ls hl
  have hx := C0.x
  have hb := C0.b
  refine lv_aload hx hb dL_value_0 (lv_at hl 4 rfl) ?_
  refine lv_iconst (v := nI 0) hx hb dL_value_2 rfl ?_
  refine lv_aload_n hx hb dL_value_3 rfl (lv_at hl 0 rfl) ?_
  refine lv_iload_n hx hb dL_value_4 rfl (lv_at hl 1 rfl) ?_
  refine lv_iload_n hx hb dL_value_5 rfl (lv_at hl 2 rfl) ?_
  refine lv_iload_n hx hb dL_value_6 rfl (lv_at hl 3 rfl) ?_
  exact w_norm (As := [.int (x9), .int (y9), .int (z9)]) C0 hr hlk hw hM vw_L_85 hL0 fx rfl rfl rfl hl.1 ho hO hpost rfl (tgt := 23) dL_value_7 dL_value_10 dL_value_11 dL_value_12 (by decide) dL_value_23 dL_value_24 rfl rfl ⟨by decide, by decide⟩ ⟨by decide, by decide⟩ (by decide) (by decide) hQ
theorem w_value_x1 (l : Launch) (G : Gl) (L : List Nat) (F : Nat → va_E) (ad : Nat → Nat) (o : Nat) (f : Nat → Int64) (x9 y9 z9 : Int32) (hL0 : ad 0 ∈ L) (ho : o ∈ L) (hOf : F o = wO G f) (fx : F (ad 0) = xO ad) (hM : XG l yX5_value cX5_value 5 (some .int) rx_X5_value G L F (.ref (ad 0) :: [.int (x9), .int (y9), .int (z9)]) "java/lang/IndexOutOfBoundsException") {post : Int32 → (Nat → va_E) → Prop} (hpost : post (nI 1) F) : CW l yL_value cL_value 6 hh_value G L F [.ref (ad 0), .int (x9), .int (y9), .int (z9), .ref o] post := by
  refine CW_of (by decide) (Nat.le_of_ble_eq_true rfl) rfl ?_
  intro p e s m args below meth c Q C0 hXw hr hlk htb hQ hw ls hl
  have hx := C0.x
  have hb := C0.b
  refine lv_aload hx hb dL_value_0 (lv_at hl 4 rfl) ?_
  refine lv_iconst (v := nI 0) hx hb dL_value_2 rfl ?_
  refine lv_aload_n hx hb dL_value_3 rfl (lv_at hl 0 rfl) ?_
  refine lv_iload_n hx hb dL_value_4 rfl (lv_at hl 1 rfl) ?_
  refine lv_iload_n hx hb dL_value_5 rfl (lv_at hl 2 rfl) ?_
  refine lv_iload_n hx hb dL_value_6 rfl (lv_at hl 3 rfl) ?_
  refine w_exc (As := [.int (x9), .int (y9), .int (z9)]) C0 hXw hw hM vw_L_85 hL0 fx rfl rfl rfl hl.1 rfl dL_value_7 [] ⟨0, 12, 15, 19⟩ [⟨0, 12, 19, 13⟩] (htb.trans rfl) (fun _ h => absurd h List.not_mem_nil) (by decide) (by decide) cl_L_19 (by decide +kernel) ⟨by decide, by decide⟩ ⟨by decide, by decide⟩ (fun q9 H1 locs1 hw1 => ?_)
  refine lv_astore hx hb dL_value_15 hl (by decide) rfl (fun ls1 hl1 => ?_)
  refine lv_iconst (v := nI 1) hx hb dL_value_17 rfl ?_
  exact r_i C0 hr hlk hw1 (v := nI 1) rfl hpost (by decide) (by decide) dL_value_18 hQ
theorem w_value_x2 (l : Launch) (G : Gl) (L : List Nat) (F : Nat → va_E) (ad : Nat → Nat) (o : Nat) (f : Nat → Int64) (x9 y9 z9 : Int32) (hL0 : ad 0 ∈ L) (ho : o ∈ L) (hOf : F o = wO G f) (fx : F (ad 0) = xO ad) (hM : XG l yX5_value cX5_value 5 (some .int) rx_X5_value G L F (.ref (ad 0) :: [.int (x9), .int (y9), .int (z9)]) "java/lang/IllegalArgumentException") {post : Int32 → (Nat → va_E) → Prop} (hpost : post (nI 2) F) : CW l yL_value cL_value 6 hh_value G L F [.ref (ad 0), .int (x9), .int (y9), .int (z9), .ref o] post := by
  refine CW_of (by decide) (Nat.le_of_ble_eq_true rfl) rfl ?_
  intro p e s m args below meth c Q C0 hXw hr hlk htb hQ hw ls hl
  have hx := C0.x
  have hb := C0.b
  refine lv_aload hx hb dL_value_0 (lv_at hl 4 rfl) ?_
  refine lv_iconst (v := nI 0) hx hb dL_value_2 rfl ?_
  refine lv_aload_n hx hb dL_value_3 rfl (lv_at hl 0 rfl) ?_
  refine lv_iload_n hx hb dL_value_4 rfl (lv_at hl 1 rfl) ?_
  refine lv_iload_n hx hb dL_value_5 rfl (lv_at hl 2 rfl) ?_
  refine lv_iload_n hx hb dL_value_6 rfl (lv_at hl 3 rfl) ?_
  refine w_exc (As := [.int (x9), .int (y9), .int (z9)]) C0 hXw hw hM vw_L_85 hL0 fx rfl rfl rfl hl.1 rfl dL_value_7 [⟨0, 12, 15, 19⟩] ⟨0, 12, 19, 13⟩ [] (htb.trans rfl) (List.forall_mem_cons.mpr ⟨⟨Nat.succ_ne_zero 18, _, cl_L_19, by decide +kernel⟩, fun _ h => absurd h List.not_mem_nil⟩) (by decide) (by decide) cl_L_13 (by decide +kernel) ⟨by decide, by decide⟩ ⟨by decide, by decide⟩ (fun q9 H1 locs1 hw1 => ?_)
  refine lv_astore hx hb dL_value_19 hl (by decide) rfl (fun ls1 hl1 => ?_)
  refine lv_iconst (v := nI 2) hx hb dL_value_21 rfl ?_
  exact r_i C0 hr hlk hw1 (v := nI 2) rfl hpost (by decide) (by decide) dL_value_22 hQ
theorem w_clash_n (l : Launch) (G : Gl) (L : List Nat) (F : Nat → va_E) (ad : Nat → Nat) (o : Nat) (f : Nat → Int64) (x9 y9 : Int32) (hL0 : ad 0 ∈ L) (ho : o ∈ L) (hOf : F o = wO G f) (fx : F (ad 0) = xO ad) {post0 post : Int32 → (Nat → va_E) → Prop} (hM : CI l yX5_clash cX5_clash 3 (some .int) rm_X5_clash G L F (.ref (ad 0) :: [.int (x9), .int (y9)]) post0) (hO : ∀ r F1, post0 r F1 → F1 o = wO G f) (hpost : ∀ r F1 F2 f2, post0 r F1 → F2 o = wO G f2 → f2 0 = r.toInt64 → (∀ q, q ≠ o → F2 q = F1 q) → post (nI 0) F2) : CW l yL_clash cL_clash 5 hh_clash G L F [.ref (ad 0), .int (x9), .int (y9), .ref o] post := by
  refine CW_of (by decide) (Nat.le_of_ble_eq_true rfl) rfl ?_
  intro p e s m args below meth c Q C0 hXw hr hlk htb hQ hw ls hl
  have hx := C0.x
  have hb := C0.b
  refine lv_aload_n hx hb dL_clash_0 rfl (lv_at hl 3 rfl) ?_
  refine lv_iconst (v := nI 0) hx hb dL_clash_1 rfl ?_
  refine lv_aload_n hx hb dL_clash_2 rfl (lv_at hl 0 rfl) ?_
  refine lv_iload_n hx hb dL_clash_3 rfl (lv_at hl 1 rfl) ?_
  refine lv_iload_n hx hb dL_clash_4 rfl (lv_at hl 2 rfl) ?_
  exact w_norm (As := [.int (x9), .int (y9)]) C0 hr hlk hw hM vw_L_88 hL0 fx rfl rfl rfl hl.1 ho hO hpost rfl (tgt := 17) dL_clash_5 dL_clash_8 dL_clash_9 dL_clash_10 (by decide) dL_clash_17 dL_clash_18 rfl rfl ⟨by decide, by decide⟩ ⟨by decide, by decide⟩ (by decide) (by decide) hQ
theorem w_clash_x1 (l : Launch) (G : Gl) (L : List Nat) (F : Nat → va_E) (ad : Nat → Nat) (o : Nat) (f : Nat → Int64) (x9 y9 : Int32) (hL0 : ad 0 ∈ L) (ho : o ∈ L) (hOf : F o = wO G f) (fx : F (ad 0) = xO ad) (hM : XG l yX5_clash cX5_clash 3 (some .int) rx_X5_clash G L F (.ref (ad 0) :: [.int (x9), .int (y9)]) "java/lang/IndexOutOfBoundsException") {post : Int32 → (Nat → va_E) → Prop} (hpost : post (nI 1) F) : CW l yL_clash cL_clash 5 hh_clash G L F [.ref (ad 0), .int (x9), .int (y9), .ref o] post := by
  refine CW_of (by decide) (Nat.le_of_ble_eq_true rfl) rfl ?_
  intro p e s m args below meth c Q C0 hXw hr hlk htb hQ hw ls hl
  have hx := C0.x
  have hb := C0.b
  refine lv_aload_n hx hb dL_clash_0 rfl (lv_at hl 3 rfl) ?_
  refine lv_iconst (v := nI 0) hx hb dL_clash_1 rfl ?_
  refine lv_aload_n hx hb dL_clash_2 rfl (lv_at hl 0 rfl) ?_
  refine lv_iload_n hx hb dL_clash_3 rfl (lv_at hl 1 rfl) ?_
  refine lv_iload_n hx hb dL_clash_4 rfl (lv_at hl 2 rfl) ?_
  refine w_exc (As := [.int (x9), .int (y9)]) C0 hXw hw hM vw_L_88 hL0 fx rfl rfl rfl hl.1 rfl dL_clash_5 [] ⟨0, 10, 13, 19⟩ [] (htb.trans rfl) (fun _ h => absurd h List.not_mem_nil) (by decide) (by decide) cl_L_19 (by decide +kernel) ⟨by decide, by decide⟩ ⟨by decide, by decide⟩ (fun q9 H1 locs1 hw1 => ?_)
  refine lv_astore hx hb dL_clash_13 hl (by decide) rfl (fun ls1 hl1 => ?_)
  refine lv_iconst (v := nI 1) hx hb dL_clash_15 rfl ?_
  exact r_i C0 hr hlk hw1 (v := nI 1) rfl hpost (by decide) (by decide) dL_clash_16 hQ
theorem w_apart_n (l : Launch) (G : Gl) (L : List Nat) (F : Nat → va_E) (ad : Nat → Nat) (o : Nat) (f : Nat → Int64) (x9 y9 : Int32) (hL0 : ad 0 ∈ L) (ho : o ∈ L) (hOf : F o = wO G f) (fx : F (ad 0) = xO ad) {post0 post : Int32 → (Nat → va_E) → Prop} (hM : CI l yX5_apart cX5_apart 3 (some .int) rm_X5_apart G L F (.ref (ad 0) :: [.int (x9), .int (y9)]) post0) (hO : ∀ r F1, post0 r F1 → F1 o = wO G f) (hpost : ∀ r F1 F2 f2, post0 r F1 → F2 o = wO G f2 → f2 0 = r.toInt64 → (∀ q, q ≠ o → F2 q = F1 q) → post (nI 0) F2) : CW l yL_apart cL_apart 5 hh_apart G L F [.ref (ad 0), .int (x9), .int (y9), .ref o] post := by
  refine CW_of (by decide) (Nat.le_of_ble_eq_true rfl) rfl ?_
  intro p e s m args below meth c Q C0 hXw hr hlk htb hQ hw ls hl
  have hx := C0.x
  have hb := C0.b
  refine lv_aload_n hx hb dL_apart_0 rfl (lv_at hl 3 rfl) ?_
  refine lv_iconst (v := nI 0) hx hb dL_apart_1 rfl ?_
  refine lv_aload_n hx hb dL_apart_2 rfl (lv_at hl 0 rfl) ?_
  refine lv_iload_n hx hb dL_apart_3 rfl (lv_at hl 1 rfl) ?_
  refine lv_iload_n hx hb dL_apart_4 rfl (lv_at hl 2 rfl) ?_
  exact w_norm (As := [.int (x9), .int (y9)]) C0 hr hlk hw hM vw_L_91 hL0 fx rfl rfl rfl hl.1 ho hO hpost rfl (tgt := 17) dL_apart_5 dL_apart_8 dL_apart_9 dL_apart_10 (by decide) dL_apart_17 dL_apart_18 rfl rfl ⟨by decide, by decide⟩ ⟨by decide, by decide⟩ (by decide) (by decide) hQ
theorem w_apart_x1 (l : Launch) (G : Gl) (L : List Nat) (F : Nat → va_E) (ad : Nat → Nat) (o : Nat) (f : Nat → Int64) (x9 y9 : Int32) (hL0 : ad 0 ∈ L) (ho : o ∈ L) (hOf : F o = wO G f) (fx : F (ad 0) = xO ad) (hM : XG l yX5_apart cX5_apart 3 (some .int) rx_X5_apart G L F (.ref (ad 0) :: [.int (x9), .int (y9)]) "java/lang/IndexOutOfBoundsException") {post : Int32 → (Nat → va_E) → Prop} (hpost : post (nI 1) F) : CW l yL_apart cL_apart 5 hh_apart G L F [.ref (ad 0), .int (x9), .int (y9), .ref o] post := by
  refine CW_of (by decide) (Nat.le_of_ble_eq_true rfl) rfl ?_
  intro p e s m args below meth c Q C0 hXw hr hlk htb hQ hw ls hl
  have hx := C0.x
  have hb := C0.b
  refine lv_aload_n hx hb dL_apart_0 rfl (lv_at hl 3 rfl) ?_
  refine lv_iconst (v := nI 0) hx hb dL_apart_1 rfl ?_
  refine lv_aload_n hx hb dL_apart_2 rfl (lv_at hl 0 rfl) ?_
  refine lv_iload_n hx hb dL_apart_3 rfl (lv_at hl 1 rfl) ?_
  refine lv_iload_n hx hb dL_apart_4 rfl (lv_at hl 2 rfl) ?_
  refine w_exc (As := [.int (x9), .int (y9)]) C0 hXw hw hM vw_L_91 hL0 fx rfl rfl rfl hl.1 rfl dL_apart_5 [] ⟨0, 10, 13, 19⟩ [] (htb.trans rfl) (fun _ h => absurd h List.not_mem_nil) (by decide) (by decide) cl_L_19 (by decide +kernel) ⟨by decide, by decide⟩ ⟨by decide, by decide⟩ (fun q9 H1 locs1 hw1 => ?_)
  refine lv_astore hx hb dL_apart_13 hl (by decide) rfl (fun ls1 hl1 => ?_)
  refine lv_iconst (v := nI 1) hx hb dL_apart_15 rfl ?_
  exact r_i C0 hr hlk hw1 (v := nI 1) rfl hpost (by decide) (by decide) dL_apart_16 hQ
theorem w_differs_n (l : Launch) (G : Gl) (L : List Nat) (F : Nat → va_E) (ad : Nat → Nat) (o : Nat) (f : Nat → Int64) (x9 y9 z9 : Int32) (hL0 : ad 0 ∈ L) (ho : o ∈ L) (hOf : F o = wO G f) (fx : F (ad 0) = xO ad) {post0 post : Int32 → (Nat → va_E) → Prop} (hM : CI l yX5_differs cX5_differs 4 (some .int) rm_X5_differs G L F (.ref (ad 0) :: [.int (x9), .int (y9), .int (z9)]) post0) (hO : ∀ r F1, post0 r F1 → F1 o = wO G f) (hpost : ∀ r F1 F2 f2, post0 r F1 → F2 o = wO G f2 → f2 0 = r.toInt64 → (∀ q, q ≠ o → F2 q = F1 q) → post (nI 0) F2) : CW l yL_differs cL_differs 6 hh_differs G L F [.ref (ad 0), .int (x9), .int (y9), .int (z9), .ref o] post := by
  refine CW_of (by decide) (Nat.le_of_ble_eq_true rfl) rfl ?_
  intro p e s m args below meth c Q C0 hXw hr hlk htb hQ hw ls hl
  have hx := C0.x
  have hb := C0.b
  refine lv_aload hx hb dL_differs_0 (lv_at hl 4 rfl) ?_
  refine lv_iconst (v := nI 0) hx hb dL_differs_2 rfl ?_
  refine lv_aload_n hx hb dL_differs_3 rfl (lv_at hl 0 rfl) ?_
  refine lv_iload_n hx hb dL_differs_4 rfl (lv_at hl 1 rfl) ?_
  refine lv_iload_n hx hb dL_differs_5 rfl (lv_at hl 2 rfl) ?_
  refine lv_iload_n hx hb dL_differs_6 rfl (lv_at hl 3 rfl) ?_
  exact w_norm (As := [.int (x9), .int (y9), .int (z9)]) C0 hr hlk hw hM vw_L_94 hL0 fx rfl rfl rfl hl.1 ho hO hpost rfl (tgt := 23) dL_differs_7 dL_differs_10 dL_differs_11 dL_differs_12 (by decide) dL_differs_23 dL_differs_24 rfl rfl ⟨by decide, by decide⟩ ⟨by decide, by decide⟩ (by decide) (by decide) hQ
theorem w_differs_x1 (l : Launch) (G : Gl) (L : List Nat) (F : Nat → va_E) (ad : Nat → Nat) (o : Nat) (f : Nat → Int64) (x9 y9 z9 : Int32) (hL0 : ad 0 ∈ L) (ho : o ∈ L) (hOf : F o = wO G f) (fx : F (ad 0) = xO ad) (hM : XG l yX5_differs cX5_differs 4 (some .int) rx_X5_differs G L F (.ref (ad 0) :: [.int (x9), .int (y9), .int (z9)]) "java/lang/IndexOutOfBoundsException") {post : Int32 → (Nat → va_E) → Prop} (hpost : post (nI 1) F) : CW l yL_differs cL_differs 6 hh_differs G L F [.ref (ad 0), .int (x9), .int (y9), .int (z9), .ref o] post := by
  refine CW_of (by decide) (Nat.le_of_ble_eq_true rfl) rfl ?_
  intro p e s m args below meth c Q C0 hXw hr hlk htb hQ hw ls hl
  have hx := C0.x
  have hb := C0.b
  refine lv_aload hx hb dL_differs_0 (lv_at hl 4 rfl) ?_
  refine lv_iconst (v := nI 0) hx hb dL_differs_2 rfl ?_
  refine lv_aload_n hx hb dL_differs_3 rfl (lv_at hl 0 rfl) ?_
  refine lv_iload_n hx hb dL_differs_4 rfl (lv_at hl 1 rfl) ?_
  refine lv_iload_n hx hb dL_differs_5 rfl (lv_at hl 2 rfl) ?_
  refine lv_iload_n hx hb dL_differs_6 rfl (lv_at hl 3 rfl) ?_
  refine w_exc (As := [.int (x9), .int (y9), .int (z9)]) C0 hXw hw hM vw_L_94 hL0 fx rfl rfl rfl hl.1 rfl dL_differs_7 [] ⟨0, 12, 15, 19⟩ [⟨0, 12, 19, 13⟩] (htb.trans rfl) (fun _ h => absurd h List.not_mem_nil) (by decide) (by decide) cl_L_19 (by decide +kernel) ⟨by decide, by decide⟩ ⟨by decide, by decide⟩ (fun q9 H1 locs1 hw1 => ?_)
  refine lv_astore hx hb dL_differs_15 hl (by decide) rfl (fun ls1 hl1 => ?_)
  refine lv_iconst (v := nI 1) hx hb dL_differs_17 rfl ?_
  exact r_i C0 hr hlk hw1 (v := nI 1) rfl hpost (by decide) (by decide) dL_differs_18 hQ
theorem w_differs_x2 (l : Launch) (G : Gl) (L : List Nat) (F : Nat → va_E) (ad : Nat → Nat) (o : Nat) (f : Nat → Int64) (x9 y9 z9 : Int32) (hL0 : ad 0 ∈ L) (ho : o ∈ L) (hOf : F o = wO G f) (fx : F (ad 0) = xO ad) (hM : XG l yX5_differs cX5_differs 4 (some .int) rx_X5_differs G L F (.ref (ad 0) :: [.int (x9), .int (y9), .int (z9)]) "java/lang/IllegalArgumentException") {post : Int32 → (Nat → va_E) → Prop} (hpost : post (nI 2) F) : CW l yL_differs cL_differs 6 hh_differs G L F [.ref (ad 0), .int (x9), .int (y9), .int (z9), .ref o] post := by
  refine CW_of (by decide) (Nat.le_of_ble_eq_true rfl) rfl ?_
  intro p e s m args below meth c Q C0 hXw hr hlk htb hQ hw ls hl
  have hx := C0.x
  have hb := C0.b
  refine lv_aload hx hb dL_differs_0 (lv_at hl 4 rfl) ?_
  refine lv_iconst (v := nI 0) hx hb dL_differs_2 rfl ?_
  refine lv_aload_n hx hb dL_differs_3 rfl (lv_at hl 0 rfl) ?_
  refine lv_iload_n hx hb dL_differs_4 rfl (lv_at hl 1 rfl) ?_
  refine lv_iload_n hx hb dL_differs_5 rfl (lv_at hl 2 rfl) ?_
  refine lv_iload_n hx hb dL_differs_6 rfl (lv_at hl 3 rfl) ?_
  refine w_exc (As := [.int (x9), .int (y9), .int (z9)]) C0 hXw hw hM vw_L_94 hL0 fx rfl rfl rfl hl.1 rfl dL_differs_7 [⟨0, 12, 15, 19⟩] ⟨0, 12, 19, 13⟩ [] (htb.trans rfl) (List.forall_mem_cons.mpr ⟨⟨Nat.succ_ne_zero 18, _, cl_L_19, by decide +kernel⟩, fun _ h => absurd h List.not_mem_nil⟩) (by decide) (by decide) cl_L_13 (by decide +kernel) ⟨by decide, by decide⟩ ⟨by decide, by decide⟩ (fun q9 H1 locs1 hw1 => ?_)
  refine lv_astore hx hb dL_differs_19 hl (by decide) rfl (fun ls1 hl1 => ?_)
  refine lv_iconst (v := nI 2) hx hb dL_differs_21 rfl ?_
  exact r_i C0 hr hlk hw1 (v := nI 2) rfl hpost (by decide) (by decide) dL_differs_22 hQ
theorem w_lacks_n (l : Launch) (G : Gl) (L : List Nat) (F : Nat → va_E) (ad : Nat → Nat) (o : Nat) (f : Nat → Int64) (x9 : Int32) (hL0 : ad 0 ∈ L) (ho : o ∈ L) (hOf : F o = wO G f) (fx : F (ad 0) = xO ad) {post0 post : Int32 → (Nat → va_E) → Prop} (hM : CI l yX5_lacks cX5_lacks 2 (some .int) rm_X5_lacks G L F (.ref (ad 0) :: [.int (x9)]) post0) (hO : ∀ r F1, post0 r F1 → F1 o = wO G f) (hpost : ∀ r F1 F2 f2, post0 r F1 → F2 o = wO G f2 → f2 0 = r.toInt64 → (∀ q, q ≠ o → F2 q = F1 q) → post (nI 0) F2) : CW l yL_lacks cL_lacks 4 hh_lacks G L F [.ref (ad 0), .int (x9), .ref o] post := by
  refine CW_of (by decide) (Nat.le_of_ble_eq_true rfl) rfl ?_
  intro p e s m args below meth c Q C0 hXw hr hlk htb hQ hw ls hl
  have hx := C0.x
  have hb := C0.b
  refine lv_aload_n hx hb dL_lacks_0 rfl (lv_at hl 2 rfl) ?_
  refine lv_iconst (v := nI 0) hx hb dL_lacks_1 rfl ?_
  refine lv_aload_n hx hb dL_lacks_2 rfl (lv_at hl 0 rfl) ?_
  refine lv_iload_n hx hb dL_lacks_3 rfl (lv_at hl 1 rfl) ?_
  exact w_norm (As := [.int (x9)]) C0 hr hlk hw hM vw_L_97 hL0 fx rfl rfl rfl hl.1 ho hO hpost rfl (tgt := 15) dL_lacks_4 dL_lacks_7 dL_lacks_8 dL_lacks_9 (by decide) dL_lacks_15 dL_lacks_16 rfl rfl ⟨by decide, by decide⟩ ⟨by decide, by decide⟩ (by decide) (by decide) hQ
theorem w_lacks_x1 (l : Launch) (G : Gl) (L : List Nat) (F : Nat → va_E) (ad : Nat → Nat) (o : Nat) (f : Nat → Int64) (x9 : Int32) (hL0 : ad 0 ∈ L) (ho : o ∈ L) (hOf : F o = wO G f) (fx : F (ad 0) = xO ad) (hM : XG l yX5_lacks cX5_lacks 2 (some .int) rx_X5_lacks G L F (.ref (ad 0) :: [.int (x9)]) "java/lang/IllegalArgumentException") {post : Int32 → (Nat → va_E) → Prop} (hpost : post (nI 1) F) : CW l yL_lacks cL_lacks 4 hh_lacks G L F [.ref (ad 0), .int (x9), .ref o] post := by
  refine CW_of (by decide) (Nat.le_of_ble_eq_true rfl) rfl ?_
  intro p e s m args below meth c Q C0 hXw hr hlk htb hQ hw ls hl
  have hx := C0.x
  have hb := C0.b
  refine lv_aload_n hx hb dL_lacks_0 rfl (lv_at hl 2 rfl) ?_
  refine lv_iconst (v := nI 0) hx hb dL_lacks_1 rfl ?_
  refine lv_aload_n hx hb dL_lacks_2 rfl (lv_at hl 0 rfl) ?_
  refine lv_iload_n hx hb dL_lacks_3 rfl (lv_at hl 1 rfl) ?_
  refine w_exc (As := [.int (x9)]) C0 hXw hw hM vw_L_97 hL0 fx rfl rfl rfl hl.1 rfl dL_lacks_4 [] ⟨0, 9, 12, 13⟩ [] (htb.trans rfl) (fun _ h => absurd h List.not_mem_nil) (by decide) (by decide) cl_L_13 (by decide +kernel) ⟨by decide, by decide⟩ ⟨by decide, by decide⟩ (fun q9 H1 locs1 hw1 => ?_)
  refine lv_astore_n hx hb dL_lacks_12 rfl hl (by decide) rfl (fun ls1 hl1 => ?_)
  refine lv_iconst (v := nI 1) hx hb dL_lacks_13 rfl ?_
  exact r_i C0 hr hlk hw1 (v := nI 1) rfl hpost (by decide) (by decide) dL_lacks_14 hQ
theorem w_count_n (l : Launch) (G : Gl) (L : List Nat) (F : Nat → va_E) (ad : Nat → Nat) (o : Nat) (f : Nat → Int64) (x9 : Int32) (hL0 : ad 0 ∈ L) (ho : o ∈ L) (hOf : F o = wO G f) (fx : F (ad 0) = xO ad) {post0 post : Int32 → (Nat → va_E) → Prop} (hM : CI l yX5_count cX5_count 2 (some .int) rm_X5_count G L F (.ref (ad 0) :: [.int (x9)]) post0) (hO : ∀ r F1, post0 r F1 → F1 o = wO G f) (hpost : ∀ r F1 F2 f2, post0 r F1 → F2 o = wO G f2 → f2 0 = r.toInt64 → (∀ q, q ≠ o → F2 q = F1 q) → post (nI 0) F2) : CW l yL_count cL_count 4 hh_count G L F [.ref (ad 0), .int (x9), .ref o] post := by
  refine CW_of (by decide) (Nat.le_of_ble_eq_true rfl) rfl ?_
  intro p e s m args below meth c Q C0 hXw hr hlk htb hQ hw ls hl
  have hx := C0.x
  have hb := C0.b
  refine lv_aload_n hx hb dL_count_0 rfl (lv_at hl 2 rfl) ?_
  refine lv_iconst (v := nI 0) hx hb dL_count_1 rfl ?_
  refine lv_aload_n hx hb dL_count_2 rfl (lv_at hl 0 rfl) ?_
  refine lv_iload_n hx hb dL_count_3 rfl (lv_at hl 1 rfl) ?_
  exact w_norm (As := [.int (x9)]) C0 hr hlk hw hM vw_L_100 hL0 fx rfl rfl rfl hl.1 ho hO hpost rfl (tgt := 15) dL_count_4 dL_count_7 dL_count_8 dL_count_9 (by decide) dL_count_15 dL_count_16 rfl rfl ⟨by decide, by decide⟩ ⟨by decide, by decide⟩ (by decide) (by decide) hQ
theorem w_count_x1 (l : Launch) (G : Gl) (L : List Nat) (F : Nat → va_E) (ad : Nat → Nat) (o : Nat) (f : Nat → Int64) (x9 : Int32) (hL0 : ad 0 ∈ L) (ho : o ∈ L) (hOf : F o = wO G f) (fx : F (ad 0) = xO ad) (hM : XG l yX5_count cX5_count 2 (some .int) rx_X5_count G L F (.ref (ad 0) :: [.int (x9)]) "java/lang/IllegalArgumentException") {post : Int32 → (Nat → va_E) → Prop} (hpost : post (nI 1) F) : CW l yL_count cL_count 4 hh_count G L F [.ref (ad 0), .int (x9), .ref o] post := by
  refine CW_of (by decide) (Nat.le_of_ble_eq_true rfl) rfl ?_
  intro p e s m args below meth c Q C0 hXw hr hlk htb hQ hw ls hl
  have hx := C0.x
  have hb := C0.b
  refine lv_aload_n hx hb dL_count_0 rfl (lv_at hl 2 rfl) ?_
  refine lv_iconst (v := nI 0) hx hb dL_count_1 rfl ?_
  refine lv_aload_n hx hb dL_count_2 rfl (lv_at hl 0 rfl) ?_
  refine lv_iload_n hx hb dL_count_3 rfl (lv_at hl 1 rfl) ?_
  refine w_exc (As := [.int (x9)]) C0 hXw hw hM vw_L_100 hL0 fx rfl rfl rfl hl.1 rfl dL_count_4 [] ⟨0, 9, 12, 13⟩ [] (htb.trans rfl) (fun _ h => absurd h List.not_mem_nil) (by decide) (by decide) cl_L_13 (by decide +kernel) ⟨by decide, by decide⟩ ⟨by decide, by decide⟩ (fun q9 H1 locs1 hw1 => ?_)
  refine lv_astore_n hx hb dL_count_12 rfl hl (by decide) rfl (fun ls1 hl1 => ?_)
  refine lv_iconst (v := nI 1) hx hb dL_count_13 rfl ?_
  exact r_i C0 hr hlk hw1 (v := nI 1) rfl hpost (by decide) (by decide) dL_count_14 hQ
