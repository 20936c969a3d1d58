/-! the law's own methods: rows that are new, and what comes back -/
abbrev pcF (G : Gl) (pl : Nat → Nat → ZP) : va_E := .inl (G.2 0, 42, .inl (pc pl))
theorem zp_div {x y w z : ZP} (h1 : x * y = z) (h2 : x * w = 1) : y = z * w := by
  subst h1
  grind
section LROWS
variable {p : Program} {l : Launch} {e : Env} {R : Room} {s : State} {m : MethodId} {args : Array Value} {below : List Frame} {meth : Method} {c : Code} {H : Heap} {locs : List Loc} {cells slots : Nat} {Q : State → Prop}
variable {cc : ByteArray} {nL : Nat} {own : String} {pc : Nat} {ls : Array Slot} {rest : List Value} {G : Gl} {L L1 : List Nat} {F F1 : Nat → va_E} {a : Nat}
def cBr (G : Gl) (L : List Nat) (F : Nat → va_E) (u : Nat → ZP) (A : Nat → Prop) : List Nat × (Nat → va_E) → Nat → State → Prop := fun x a t => (∀ q ∈ L, q ∈ x.1) ∧ (∀ q ∈ x.1, A q) ∧ a ∈ x.1 ∧ a ∉ L ∧ x.2 a = rw7 G u ∧ (∀ q ∈ L, x.2 q = F q) ∧ va_P G.1 vwCl (va_pl x.1 x.2) t.heap ∧ va_D (fun _ => True) (va_pl x.1 x.2)
def crQ (G : Gl) (L : List Nat) (F : Nat → va_E) (u : Nat → ZP) : (Nat → Prop) → Array Value → State → Outcome → State → Prop := fun A => va_Qr (S := List Nat × (Nat → va_E)) (fun _ => True) (cBr G L F u A) A
abbrev CR (l : Launch) (y : MethodName) (cc : ByteArray) (nL : Nat) (rm : Room) (G : Gl) (L : List Nat) (F : Nat → va_E) (vals : List Value) (u : Nat → ZP) : Prop := CG l y cc nL (some (.array .int)) rm G L F vals (crQ G L F u)
theorem r_r (C0 : Cx p s m args c cc nL own G L1) (hg : gr L L1 s.heap.size) {mc ms : Nat} (hr : meth.sig.returnType = some (.array .int)) (hlk : meth.locks = false) (hw : wD G L1 F1 s H locs) {u : Nat → ZP} (ha : a ∈ L1) (hna : s.heap.size ≤ a) (hLs : ∀ q ∈ L, q < s.heap.size) (he : F1 a = rw7 G u) (hf : ∀ q ∈ L, F1 q = F q) (hc : cells ≤ mc) (hs : slots ≤ ms) (hdg : decode cc pc = .ok (.areturn, 1)) (hQ : Q = MQ below (crQ G L F u (wA L s.heap.size)) args s mc ms (wA L s.heap.size)) : W p l e R s m args below meth c H locs cells slots Q (F0 m pc ls [.ref a]) := by
  have hA : wA L1 s.heap.size = wA L s.heap.size := hg.wA (Nat.le_refl _)
  have hw2 := hw.2.2
  rw [hA] at hw2
  exact hQ ▸ W.widen hc hs (W.aret C0.x C0.b hr (Or.inr ⟨.int, rfl⟩) (Or.inr ⟨a, rfl⟩) (fun t ht _ => ⟨⟨(L1, F1), a, rfl, trivial, hg.1, hg.2, ha, fun h => absurd (hLs a h) (Nat.not_lt.mpr hna), he, hf, (by rw [ht]; exact hw.1), hw.2.1.weaken (fun _ _ _ _ => trivial)⟩, hw2.F ht⟩) hw2.2.2 hdg hlk)
theorem q_callr (hw : wD G L F s H locs) {mc ms : Nat} {a9 : Array Value} {st0 : List Value} {u : Nat → ZP} (hr : va_Run p l e R s m args below meth c H locs cells slots mc ms (F0 m pc ls st0) rest (crQ G L F u (wA L H.size) a9) (wA L H.size))
    (kk : ∀ (L1 : List Nat) (F1 : Nat → va_E) (a : Nat) (H1 : Heap) (locs1 : List Loc), Gw L L1 F F1 a H.size (rw7 G u) → wD G L1 F1 s H1 locs1 → W p l e R s m args below meth c H1 locs1 (cells + mc) (slots + ms) Q (F0 m (pc + 3) ls (.ref a :: rest))) : W p l e R s m args below meth c H locs cells slots Q (F0 m pc ls st0) := by
  refine va_callr hr hw.2.2 (fun q _ h => wA.mono hw.2.2.1 q h) (wA.mono hw.2.2.1) (fun x a t H1 locs1 ht _ _ hB _ _ hS => ?_)
  obtain ⟨b1, b2, b3, b4, b5, b6, b7, b8⟩ := hB
  have hg : gr L x.1 H.size := ⟨b1, b2⟩
  have hA : wA x.1 s.heap.size = wA L s.heap.size := hg.wA hw.2.2.1
  have hge : H.size ≤ a := (b2 a b3).elim (fun h => absurd h b4) id
  refine kk x.1 x.2 a H1 locs1 ⟨hg, b5, fun q hq => ⟨b6 q hq, Nat.lt_of_lt_of_le (hw.lt hq) hge⟩, b3, hge⟩ ⟨by rw [← ht]; exact b7, b8.weaken (fun k q hq _ => Or.inl ?_), by rw [hA]; exact hS⟩
  have hm := List.mem_of_getElem? hq
  obtain ⟨a, ha, rfl⟩ := List.mem_map.mp hm
  exact ha
/-- less of the world -/
theorem va_P_sub {C : va_G} (h : ∀ q ∈ L, q ∈ L1) (hP : va_P C vwCl (va_pl L1 F1) H) : va_P C vwCl (va_pl L F1) H := fun k q hk => by
  obtain ⟨b, hb, rfl⟩ := List.mem_map.mp (List.mem_of_getElem? hk)
  obtain ⟨k9, hk9⟩ := va_pl_get (X := []) (f := F1) (h b hb)
  exact hP k9 _ hk9
theorem r_iG (C0 : Cx p s m args c cc nL own G L1) (hg : gr L L1 s.heap.size) {mc ms : Nat} {ty : FieldType} (hr : meth.sig.returnType = some ty) (hlk : meth.locks = false) (hw : wD G L1 F1 s H locs) {v : Int32} (hn : narrow ty (.int v) = .int v) {post : Int32 → (Nat → va_E) → Prop} (hp : post v F1) (hc : cells ≤ mc) (hs : slots ≤ ms) (hdg : decode cc pc = .ok (.ireturn, 1)) (hQ : Q = MQ below (va_Qi post (cB G L) (wA L s.heap.size)) args s mc ms (wA L s.heap.size)) : W p l e R s m args below meth c H locs cells slots Q (F0 m pc ls [.int v]) := by
  have hA : wA L1 s.heap.size = wA L s.heap.size := hg.wA (Nat.le_refl _)
  have hw2 := hw.2.2
  rw [hA] at hw2
  exact hQ ▸ W.widen hc hs (W.zret C0.x C0.b hr hn (fun t ht _ => ⟨⟨v, F1, rfl, hp, by show va_P _ _ _ t.heap; rw [ht]; exact va_P_sub hg.1 hw.1⟩, hw2.F ht⟩) hw2.2.2 hdg hlk)
theorem q_calliG (hw : wD G L F s H locs) {mc ms : Nat} {a9 : Array Value} {st0 : List Value} {post : Int32 → (Nat → va_E) → Prop} (hr : va_Run p l e R s m args below meth c H locs cells slots mc ms (F0 m pc ls st0) rest (va_Qi post (cB G L) (wA L H.size) a9) (wA L H.size))
    (kk : ∀ (r : Int32) (F' : Nat → va_E) (H1 : Heap) (locs1 : List Loc), H.size ≤ H1.size → wD G L F' s H1 locs1 → post r F' → W p l e R s m args below meth c H1 locs1 (cells + mc) (slots + ms) Q (F0 m (pc + 3) ls (.int r :: rest))) : W p l e R s m args below meth c H locs cells slots Q (F0 m pc ls st0) :=
  va_calli hr hw.2.2 (fun q _ h => wA.mono hw.2.2.1 q h) (wA.mono hw.2.2.1) (fun r u t H1 locs1 ht _ hp hB hz _ hS => kk r u H1 locs1 hz (hw.back ht hB hS) hp)
/-- a row of seven zeros -/
theorem k_row7 (C0 : Cx p s m args c cc nL own G L) (hw : wD G L F s H locs) (hcells : cells + 1 ≤ R.cells) (hslots : slots + 7 ≤ R.slots) (hdg : decode cc pc = .ok (.newarray .int, 2))
    (kk : ∀ (L1 : List Nat) (F1 : Nat → va_E) (a : Nat) (H1 : Heap), Gw L L1 F F1 a H.size (rw7 G (fun _ => 0)) → wD G L1 F1 s H1 locs → W p l e R s m args below meth c H1 locs (cells + 1) (slots + 7) Q (F0 m (pc + 2) ls (.ref a :: rest))) : W p l e R s m args below meth c H locs cells slots Q (F0 m pc ls (.int (nI 7) :: rest)) :=
  k_newi C0 hw (by decide) (by decide) hcells hslots hdg kk
theorem zi_sub {a b : Nat} (ha : a < 2 ^ 30) (hb : b < 2 ^ 30) : zi (nI a - nI b) = zc a - zc b := by
  have h : zi (nI a - nI b) + zc b = zc a := by
    refine Fin.ext ?_
    show ((zi (nI a - nI b)).val + b % 10007) % 10007 = a % 10007
    have h1 := zi_toInt (nI a - nI b)
    rw [pk_sub_toInt ha hb] at h1
    omega
  rw [← h]
  grind
theorem zi_sub2 {a b d : Nat} (ha : a < 2 ^ 29) (hb : b < 2 ^ 29) (hd : d < 2 ^ 29) : zi (nI a - nI b - nI d) = zc a - zc b - zc d := by
  have e : nI a - nI b - nI d = nI a - nI (b + d) := by
    rw [← nI_add]
    grind
  rw [e, zi_sub (by omega) (by omega), zc_add]
  grind
theorem mulk_le {a k : Nat} (ha : a < 10007) (hk : k ≤ 6) : a * k ≤ 60036 := Nat.le_trans (Nat.mul_le_mul (Nat.le_of_lt_succ ha) hk) (by decide)
end LROWS
/-! what the law's helpers reckon -/
theorem ov_ex : ∀ d : Fin 25, 1 ≤ d.val → ∀ r : Fin 25, r.val < d.val → ∃ j : Fin 25, j.val < d.val ∧ (r.val + 10007 * j.val) % d.val = 0 := by decide +kernel
theorem ov_in {z : ZP} {d : Nat} (h1 : 1 ≤ d) (h2 : d ≤ 24) : ∃ i, 0 ≤ i ∧ i < d ∧ (z.val + 10007 * i) % d = 0 := by
  have hr : z.val % d < d := Nat.mod_lt _ h1
  obtain ⟨j, hj, h⟩ := ov_ex ⟨d, by omega⟩ h1 ⟨z.val % d, by omega⟩ hr
  refine ⟨j.val, Nat.zero_le _, hj, ?_⟩
  have h9 : (z.val % d + 10007 * j.val) % d = 0 := h
  rw [Nat.add_mod, Nat.mod_mod, ← Nat.add_mod] at h9
  exact h9
theorem ov_c : ∀ d : Fin 25, 1 ≤ d.val → zc d.val * m_finv (zc d.val) = 1 := by decide +kernel
theorem ov_out {z : ZP} {d j : Nat} (h1 : 1 ≤ d) (h2 : d ≤ 24) (hj : j < d) (h : (z.val + 10007 * j) % d = 0) : nI ((z.val + 10007 * j) / d) = nI (z * m_finv (zc d)).val := by
  have hz := z.isLt
  have hm : d * ((z.val + 10007 * j) / d) = z.val + 10007 * j := Nat.mul_div_cancel' (Nat.dvd_of_mod_eq_zero h)
  have hlt : (z.val + 10007 * j) / d < 10007 := by
    refine Nat.div_lt_of_lt_mul ?_
    have : 10007 * (j + 1) ≤ 10007 * d := Nat.mul_le_mul_left _ hj
    rw [Nat.mul_comm d 10007]
    omega
  have e : zc ((z.val + 10007 * j) / d) = z * m_finv (zc d) := by
    have a1 : zc d * zc ((z.val + 10007 * j) / d) = z := by
      rw [← zc_mul, hm, zc_add, zc_mul, zc_z, show zc 10007 = 0 from rfl]
      grind
    have a2 : zc d * m_finv (zc d) = 1 := ov_c ⟨d, by omega⟩ h1
    exact zp_div a1 a2
  rw [← e, zc_val, Nat.mod_eq_of_lt hlt]
theorem tm_s (u v X : Nat → ZP) (k i : Nat) : va_up (va_up X k (m_mulS u v k i)) k (zc ((va_up X k (m_mulS u v k i) k).val + (u i).val * (v (k - i)).val)) = va_up X k (m_mulS u v k (i + 1)) := by
  rw [bx_uu, va_up_self, zc_add, zc_mul, zc_z, zc_z, zc_z]
  rfl
theorem tm_0 (u v f : Nat → ZP) (k : Nat) : m_upto f (fun _ => 0) k = va_up (m_upto f (fun _ => 0) k) k (m_mulS u v k 0) := by
  funext j
  by_cases e : j = k
  · subst e
    rw [va_up_self, m_upto_at]
    rfl
  · rw [va_up_ne _ _ e]
theorem tm_e (u v : Nat → ZP) (c : Nat) : m_upto (m_mulc u v) (fun _ => 0) (c + 1) = m_mulT u v c := by
  funext j
  have h : (j < c + 1) = (j ≤ c) := by simp only [eq_iff_iff]; omega
  simp only [m_upto, m_mulT, h]
theorem sl_s (u : Nat → ZP) {k : Nat} (h1 : 1 ≤ k) (h7 : k < 7) : va_up (m_upto (m_der u) (fun _ => 0) (k - 1)) (k - 1) (zc ((u k).val * k)) = m_upto (m_der u) (fun _ => 0) (k + 1 - 1) := by
  obtain ⟨j, rfl⟩ : ∃ j, k = j + 1 := ⟨k - 1, by omega⟩
  rw [Nat.add_sub_cancel, Nat.add_sub_cancel]
  refine m_upto_s _ _ j ?_
  unfold m_der
  rw [if_pos (by omega), zc_mul, zc_z]
theorem sl_e (u : Nat → ZP) : m_upto (m_der u) (fun _ => 0) (7 - 1) = m_der u := by
  funext j
  unfold m_upto m_der
  by_cases h : j < 6
  · simp [h]
  · simp [h]
theorem pl_z (u v : Nat → ZP) (b : ZP) (k : Nat) : zc ((u k).val + (v k).val * b.val) = m_am u v b k := by
  rw [zc_add, zc_mul, zc_z, zc_z, zc_z]
  rfl
theorem zi_m1 : zi (-1) = zc 10006 := by decide +kernel
theorem wi_r (u v : Nat → ZP) (cu r : Nat) (hr : r + 1 ≤ cu + 1) (hc : cu ≤ 6) : va_up (m_mulT (m_hn u v cu (cu + 1 - (r + 1))) u cu) 0 (zc ((m_mulT (m_hn u v cu (cu + 1 - (r + 1))) u cu 0).val + (v r).val)) = m_hn u v cu (cu + 1 - r) := by
  rw [show cu + 1 - r = (cu + 1 - (r + 1)) + 1 by omega]
  funext j
  simp only [m_hn]
  by_cases h0 : j = 0
  · subst h0
    rw [va_up_self, if_pos (Nat.zero_le _), if_pos rfl, zc_add, zc_z, zc_z, show cu - (cu + 1 - (r + 1)) = r by omega]
    unfold m_mulT
    rw [if_pos (Nat.zero_le _)]
  · rw [va_up_ne _ _ h0]
    unfold m_mulT
    by_cases hj : j ≤ cu
    · rw [if_pos hj, if_pos hj, if_neg h0, Fin.add_zero]
    · rw [if_neg hj, if_neg hj]
theorem wi_0 (u v : Nat → ZP) (cu : Nat) : (fun _ => (0 : ZP)) = m_hn u v cu (cu + 1 - (cu + 1)) := by
  rw [Nat.sub_self]
  rfl
