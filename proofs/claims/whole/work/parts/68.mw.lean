/-! the model's whole world -/
def zof (st : Sta) (k : Nat) : Int32 := if k = 0 then nI st.1 else if k = 1 then nI st.2.1 else if k = 2 then nI st.2.2.1 else if k = 3 then nI st.2.2.2.1 else if k = 4 then nI st.2.2.2.2.1 else nI (st.2.2.2.2.2 ((k - 5) / 7) ((k - 5) % 7)).val
def zA (zf : Nat → Int32) (st : Sta) : Prop := ∀ k, k < 89 → zf k = zof st k
theorem zof_row (st : Sta) {i k : Nat} (hk : k < 7) : zof st (5 + 7 * i + k) = nI (st.2.2.2.2.2 i k).val := by
  unfold zof
  rw [if_neg (by omega), if_neg (by omega), if_neg (by omega), if_neg (by omega), if_neg (by omega), show (5 + 7 * i + k - 5) / 7 = i by omega, show (5 + 7 * i + k - 5) % 7 = k by omega]
theorem zof_hi (st : Sta) {k : Nat} (h : 5 ≤ k) : zof st k = nI (st.2.2.2.2.2 ((k - 5) / 7) ((k - 5) % 7)).val := by
  unfold zof
  rw [if_neg (by omega), if_neg (by omega), if_neg (by omega), if_neg (by omega), if_neg (by omega)]
theorem zA.row {zf : Nat → Int32} {st : Sta} (h : zA zf st) : ∀ i k, i < 12 → k < 7 → zf (5 + 7 * i + k) = nI (st.2.2.2.2.2 i k).val := fun i k hi hk => (h _ (by omega)).trans (zof_row st hk)
/-- the row of numbers after a paid result is laid -/
def pyM (zf : Nat → Int32) (a b c : Nat) (pp : Nat) (u : Nat → ZP) (n : Nat) : Nat → Int32 := fun i => if pp ≤ i ∧ i < pp + n then nI (u (i - pp)).val else if i = 3 then nI c else if i = 2 then nI b else if i = 1 then nI a else zf i
theorem pyM_0 (zf : Nat → Int32) (a b c pp : Nat) (u : Nat → ZP) : upd (upd (upd zf 1 (nI a)) 2 (nI b)) 3 (nI c) = pyM zf a b c pp u 0 := by
  funext i
  have h : ¬ (pp ≤ i ∧ i < pp + 0) := by omega
  simp only [pyM, h, if_false, upd]
theorem pyM_s (zf : Nat → Int32) (a b c pp : Nat) (u : Nat → ZP) (n : Nat) : upd (pyM zf a b c pp u n) (pp + n) (nI (u n).val) = pyM zf a b c pp u (n + 1) := by
  funext i
  by_cases e : i = pp + n
  · subst e
    simp only [upd, pyM, if_true]
    rw [if_pos (by omega), show pp + n - pp = n by omega]
  · simp only [upd, pyM, e, if_false]
    by_cases e2 : pp ≤ i ∧ i < pp + n
    · rw [if_pos e2, if_pos (by omega)]
    · rw [if_neg e2, if_neg (show ¬ (pp ≤ i ∧ i < pp + (n + 1)) by omega)]
theorem pyM_c (zf : Nat → Int32) (a b c pp : Nat) (u : Nat → ZP) (n : Nat) (h : 5 ≤ pp) : pyM zf a b c pp u n 0 = zf 0 := by
  unfold pyM
  rw [if_neg (by omega)]
  rfl
theorem pyM_ok {zf : Nat → Int32} {st : Sta} {bk un t : Nat} {u : Nat → ZP} (hz : zA zf (st.1, st.2.1, st.2.2.1, st.2.2.2.1, bk, st.2.2.2.2.2)) (ht : t < 12) : zA (pyM zf (st.2.1 - st.1 * un) (st.2.2.1 + st.1 * un) (st.2.2.2.1 + 1) (5 + 7 * t) u 7) (st.1, st.2.1 - un * st.1, st.2.2.1 + un * st.1, st.2.2.2.1 + 1, bk, va_up st.2.2.2.2.2 t u) := by
  intro k hk
  have h9 := hz k hk
  unfold pyM
  by_cases e : 5 + 7 * t ≤ k ∧ k < 5 + 7 * t + 7
  · rw [if_pos e, zof_hi _ (by omega), show (k - 5) / 7 = t by omega, show (k - 5) % 7 = k - (5 + 7 * t) by omega]
    show _ = nI (va_up st.2.2.2.2.2 t u t (k - (5 + 7 * t))).val
    rw [va_up_self]
  · rw [if_neg e]
    by_cases e5 : 5 ≤ k
    · rw [if_neg (by omega), if_neg (by omega), if_neg (by omega), h9, zof_hi _ e5, zof_hi _ e5]
      show nI (st.2.2.2.2.2 _ _).val = nI (va_up st.2.2.2.2.2 t u ((k - 5) / 7) _).val
      rw [va_up_ne _ _ (by omega)]
    · rcases (show k = 0 ∨ k = 1 ∨ k = 2 ∨ k = 3 ∨ k = 4 by omega) with rfl | rfl | rfl | rfl | rfl
      · exact h9
      · show nI (st.2.1 - st.1 * un) = nI (st.2.1 - un * st.1)
        rw [Nat.mul_comm]
      · show nI (st.2.2.1 + st.1 * un) = nI (st.2.2.1 + un * st.1)
        rw [Nat.mul_comm]
      · rfl
      · exact h9
theorem bk_ok {zf : Nat → Int32} {st : Sta} (hz : zA zf st) : zA (upd zf 4 (nI (st.2.2.2.2.1 + 1))) (st.1, st.2.1, st.2.2.1, st.2.2.2.1, st.2.2.2.2.1 + 1, st.2.2.2.2.2) := by
  intro k hk
  have h9 := hz k hk
  by_cases e : k = 4
  · subst e
    rfl
  · simp only [upd, e, if_false]
    rw [h9]
    unfold zof
    simp only [e, if_false]
theorem bk_okn {zf : Nat → Int32} {st : Sta} (n : Nat) (hz : zA zf st) : zA (upd zf 4 (nI (st.2.2.2.2.1 + n))) (st.1, st.2.1, st.2.2.1, st.2.2.2.1, st.2.2.2.2.1 + n, st.2.2.2.2.2) := by
  intro k hk
  have h9 := hz k hk
  by_cases e : k = 4
  · subst e
    rfl
  · simp only [upd, e, if_false]
    rw [h9]
    unfold zof
    simp only [e, if_false]
theorem row_ok {zf : Nat → Int32} {st : Sta} {i p : Nat} {z : ZP} (hz : zA zf st) (hp : p < 7) : zA (upd zf (5 + 7 * i + p) (nI z.val)) (rowS i (va_up (st.2.2.2.2.2 i) p z) st) := by
  intro k hk
  have h9 := hz k hk
  by_cases e : k = 5 + 7 * i + p
  · subst e
    rw [zof_row _ hp]
    show (if 5 + 7 * i + p = 5 + 7 * i + p then _ else _) = nI (va_up st.2.2.2.2.2 i _ i p).val
    rw [if_pos rfl, va_up_self, va_up_self]
  · simp only [upd, e, if_false]
    rw [h9]
    by_cases e5 : 5 ≤ k
    · rw [zof_hi _ e5, zof_hi _ e5]
      show _ = nI (va_up st.2.2.2.2.2 i _ ((k - 5) / 7) ((k - 5) % 7)).val
      by_cases e6 : (k - 5) / 7 = i
      · rw [e6, va_up_self, va_up_ne _ _ (by omega)]
      · rw [va_up_ne _ _ e6]
    · unfold zof
      rcases (show k = 0 ∨ k = 1 ∨ k = 2 ∨ k = 3 ∨ k = 4 by omega) with rfl | rfl | rfl | rfl | rfl <;> rfl
theorem cut_ok {zf : Nat → Int32} {st : Sta} {c : Nat} (hz : zA zf st) : zA (ctM zf c 84) (cutS c st) := by
  intro k hk
  have h9 := hz k hk
  by_cases e5 : 5 ≤ k
  · rw [zof_hi _ e5]
    show (if k = 0 then _ else if 5 ≤ k ∧ k < 5 + 84 ∧ c < (k - 5) % 7 then _ else _) = nI (if c < (k - 5) % 7 then (0 : ZP) else st.2.2.2.2.2 ((k - 5) / 7) ((k - 5) % 7)).val
    rw [if_neg (by omega)]
    by_cases e6 : c < (k - 5) % 7
    · rw [if_pos ⟨e5, by omega, e6⟩, if_pos e6]
      rfl
    · rw [if_neg (fun h => e6 h.2.2), if_neg e6, h9, zof_hi _ e5]
  · rcases (show k = 0 ∨ k = 1 ∨ k = 2 ∨ k = 3 ∨ k = 4 by omega) with rfl | rfl | rfl | rfl | rfl
    · rfl
    all_goals exact h9
theorem earn_ok {zf : Nat → Int32} {st : Sta} {m : Nat} (hz : zA zf st) : zA (upd zf 1 (nI (st.2.1 + m))) (earnS m st) := by
  intro k hk
  have h9 := hz k hk
  by_cases e : k = 1
  · subst e
    rfl
  · simp only [upd, e, if_false]
    rw [h9]
    unfold zof
    simp only [e, if_false]
    rfl
def hA_ (hf : Nat → Int32) (h : Nat × (Nat → Sta)) : Prop := ∀ i, i < h.1 → ∀ k, k < 89 → hf (89 * i + k) = zof (h.2 i) k
theorem sv_n {hf zf : Nat → Int32} {h : Nat × (Nat → Sta)} {st : Sta} (h6 : h.1 ≤ 6) : (svM h.1 hf zf).1 = (saveH h st).1 := by
  unfold svM saveH
  by_cases e : h.1 = 6
  · rw [if_pos e, if_neg (by omega)]
  · rw [if_neg e, if_pos (by omega)]
theorem sv_h {hf zf : Nat → Int32} {h : Nat × (Nat → Sta)} {st : Sta} (h6 : h.1 ≤ 6) (hz : zA zf st) (hh : hA_ hf h) : hA_ (svM h.1 hf zf).2 (saveH h st) := by
  intro i hi k hk
  by_cases e : h.1 = 6
  · have e1 : svM h.1 hf zf = (6, cpM (shM hf 534) zf 5 89) := if_pos e
    have e2 : saveH h st = (6, fun i => if i = 5 then st else h.2 (i + 1)) := if_neg (by omega)
    rw [e2] at hi ⊢
    rw [e1]
    show cpM (shM hf 534) zf 5 89 (89 * i + k) = zof (if i = 5 then st else h.2 (i + 1)) k
    have hi6 : i < 6 := hi
    unfold cpM
    by_cases e5 : i = 5
    · subst e5
      rw [if_pos (by omega), if_pos rfl, show 89 * 5 + k - 89 * 5 = k by omega]
      exact hz k hk
    · rw [if_neg (by omega), if_neg e5]
      unfold shM
      rw [if_pos (by omega), show 89 * i + k + 89 = 89 * (i + 1) + k by omega]
      exact hh (i + 1) (by omega) k hk
  · have e1 : svM h.1 hf zf = (h.1 + 1, cpM hf zf h.1 89) := if_neg e
    have e2 : saveH h st = (h.1 + 1, fun i => if i = h.1 then st else h.2 i) := if_pos (by omega)
    rw [e2] at hi ⊢
    rw [e1]
    show cpM hf zf h.1 89 (89 * i + k) = zof (if i = h.1 then st else h.2 i) k
    have hi6 : i < h.1 + 1 := hi
    unfold cpM
    by_cases e5 : i = h.1
    · rw [if_pos (by omega), if_pos e5, show 89 * i + k - 89 * h.1 = k by rw [e5]; omega]
      exact hz k hk
    · rw [if_neg (by omega), if_neg e5]
      exact hh i (by omega) k hk
def sA_ (sf : Nat → Int32) (sn : Nat → Bool × Nat × Rws) : Prop := ∀ j, j < 2 → (sn j).1 = true → ∀ k, k < 89 → (k = 0 ∨ 5 ≤ k) → sf (89 * j + k) = zof ((sn j).2.1, 0, 0, 0, 0, (sn j).2.2) k
def kA_ (kf : Nat → Int32) (sn : Nat → Bool × Nat × Rws) : Prop := ∀ j, j < 2 → kf j = if (sn j).1 then nI 1 else nI 0
def tA_ (tf : Nat → Int32) (t : Nat × (Nat → Nat)) : Prop := ∀ i, i < t.1 → tf i = nI (t.2 i)
def MW (G : Gl) (F : Nat → va_E) (b : Nat) (ma : Nat → Nat) (A : AB) (th : Nat) : Prop := ∃ (mi : Nat → Int32) (hh : Int64) (zf hf sf kf tf pf : Nat → Int32) (pl : Nat → Nat → ZP),
  F b = mO ma mi hh ∧ (mi 0 = nI A.2.1.1 ∧ mi 1 = nI A.2.2.2.1 ∧ mi 2 = nI th) ∧ (F (ma 0) = .inl (G.2 0, 89, .inl zf) ∧ zA zf A.1) ∧ (F (ma 1) = .inl (G.2 0, 534, .inl hf) ∧ hA_ hf A.2.1) ∧
  (F (ma 2) = .inl (G.2 0, 178, .inl sf) ∧ sA_ sf A.2.2.1) ∧ (F (ma 3) = .inl (G.2 0, 2, .inl kf) ∧ kA_ kf A.2.2.1) ∧ F (ma 4) = pcE G pl ∧ (F (ma 5) = .inl (G.2 0, 60, .inl tf) ∧ tA_ tf A.2.2.2) ∧ F (ma 6) = .inl (G.2 0, 52, .inl pf)
theorem MW.keep {G : Gl} {F F1 : Nat → va_E} {b : Nat} {ma : Nat → Nat} {A : AB} {th : Nat} (h : MW G F b ma A th) (kb : F1 b = F b) (k : ∀ i, i < 7 → F1 (ma i) = F (ma i)) : MW G F1 b ma A th := by
  obtain ⟨mi, hh, zf, hf, sf, kf, tf, pf, pl, h0, h1, h2, h3, h4, h5, h6, h7, h8⟩ := h
  exact ⟨mi, hh, zf, hf, sf, kf, tf, pf, pl, kb.trans h0, h1, ⟨(k 0 (by omega)).trans h2.1, h2.2⟩, ⟨(k 1 (by omega)).trans h3.1, h3.2⟩, ⟨(k 2 (by omega)).trans h4.1, h4.2⟩, ⟨(k 3 (by omega)).trans h5.1, h5.2⟩, (k 4 (by omega)).trans h6, ⟨(k 5 (by omega)).trans h7.1, h7.2⟩, (k 6 (by omega)).trans h8⟩
theorem Met_imp {l : Launch} {y : MethodName} {ws : List Cond} {rm : Room} {Pc : Array Value → State → Prop} {Qc Qd : Array Value → State → Outcome → State → Prop} {mc ms : Nat} {free : Nat → Prop} (h : ∀ a st o t, Qc a st o t → Qd a st o t) (hM : Met l y ws rm Pc Qc mc ms free) : Met l y ws rm Pc Qd mc ms free := by
  intro p e h1 h2 h3 s m args below h4 h5 h6 h7
  obtain ⟨n, o, a1, a2, a3, a4, a5⟩ := hM p e h1 h2 h3 s m args below h4 h5 h6 h7
  exact ⟨n, o, a1, a2, a3, h _ _ _ _ a4, a5⟩
theorem CI_imp {l : Launch} {y : MethodName} {cc : ByteArray} {nL : Nat} {rt : Option FieldType} {rm : Room} {G : Gl} {L : List Nat} {F : Nat → va_E} {vals : List Value} {post post2 : Int32 → (Nat → va_E) → Prop} (h : ∀ r F1, post r F1 → post2 r F1) (hM : CI l y cc nL rt rm G L F vals post) : CI l y cc nL rt rm G L F vals post2 := fun sz =>
  Met_imp (fun a st o t hq => ⟨(fun ⟨r, u, e, hp, hb⟩ => ⟨r, u, e, h r u hp, hb⟩) hq.1, hq.2⟩) (hM sz)
theorem ne_z (zf : Nat → Int32) {st : Sta} (hz : zA zf st) : zf 0 = nI st.1 ∧ zf 1 = nI st.2.1 ∧ zf 2 = nI st.2.2.1 ∧ zf 3 = nI st.2.2.2.1 ∧ zf 4 = nI st.2.2.2.2.1 := ⟨hz 0 (by decide), hz 1 (by decide), hz 2 (by decide), hz 3 (by decide), hz 4 (by decide)⟩
/-- a frame: all but the model's own cells -/
abbrev mFr (F F1 : Nat → va_E) (b : Nat) (ma : Nat → Nat) : Prop := ∀ q, q ≠ b → (∀ i, i < 7 → q ≠ ma i) → F1 q = F q
