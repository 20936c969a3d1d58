section MROWS
variable {p : Program} {l : Launch} {e : Env} {R : Room} {s : State} {m : MethodId} {args : Array Value} {below : List Frame} {meth : Method} {c : Code} {H : Heap} {locs : List Loc} {cells slots : Nat} {Q : State → Prop}
variable {cc : ByteArray} {nL : Nat} {own : String} {pc : Nat} {ls : Array Slot} {rest : List Value} {G : Gl} {L L1 : List Nat} {F F1 : Nat → va_E} {a : Nat}
theorem rng_at {k i y : Nat} (h : (List.range k)[i]? = some y) : y = i ∧ i < k := by
  obtain ⟨h1, h2⟩ := List.getElem?_eq_some_iff.mp h
  rw [List.getElem_range] at h2
  rw [List.length_range] at h1
  exact ⟨h2.symm, h1⟩
theorem wD.growL {H1 : Heap} {k : Nat} {E : Nat → va_E} (hw : wD G L F s H locs) (hz : H.size + k ≤ H1.size) (ho : ∀ q : Nat, q < H.size → H1[q]? = H[q]?) (he : ∀ j, j < k → va_at G.1 vwCl (H.size + j, E j) H1) : gr L (L ++ (List.range k).map (fun j => H.size + j)) H.size ∧ wD G (L ++ (List.range k).map (fun j => H.size + j)) (fun q => if q < H.size then F q else E (q - H.size)) s H1 locs := by
  have hgr : gr L (L ++ (List.range k).map (fun j => H.size + j)) H.size := ⟨fun q hq => List.mem_append_left _ hq, fun q hq => (List.mem_append.mp hq).elim Or.inl (fun z => by obtain ⟨j, -, rfl⟩ := List.mem_map.mp z; exact Or.inr (Nat.le_add_right _ _))⟩
  have hlt : ∀ a ∈ L, a < H.size := fun a ha => hw.lt ha
  have hA : wA (L ++ (List.range k).map (fun j => H.size + j)) s.heap.size = wA L s.heap.size := hgr.wA hw.2.2.1
  have e1 : va_pl (L ++ (List.range k).map (fun j => H.size + j)) (fun q => if q < H.size then F q else E (q - H.size)) = va_pl L F ++ (List.range k).map (fun j => (H.size + j, E j)) := by
    unfold va_pl
    rw [List.map_append, List.map_map]
    congr 1
    · exact List.map_congr_left (fun a ha => by show (a, if a < H.size then F a else E (a - H.size)) = _; rw [if_pos (hlt a ha)])
    · exact List.map_congr_left (fun j _ => by show (H.size + j, if H.size + j < H.size then F (H.size + j) else E (H.size + j - H.size)) = _; rw [if_neg (by omega), Nat.add_sub_cancel_left])
  refine ⟨hgr, ?_⟩
  unfold wD
  rw [hA, e1]
  have lenL : (va_pl L F).length = L.length := List.length_map _
  have new : ∀ (i : Nat) (x : Nat × va_E), ((List.range k).map (fun j => (H.size + j, E j)))[i]? = some x → i < k ∧ x = (H.size + i, E i) := by
    intro i x hx
    rw [List.getElem?_map] at hx
    obtain ⟨y, hy, rfl⟩ := Option.map_eq_some_iff.mp hx
    obtain ⟨rfl, h2⟩ := rng_at hy
    exact ⟨h2, rfl⟩
  have at' : ∀ (i : Nat) (x : Nat × va_E), (va_pl L F ++ (List.range k).map (fun j => (H.size + j, E j)))[i]? = some x → (i < L.length ∧ (va_pl L F)[i]? = some x ∧ x.1 < H.size) ∨ (L.length ≤ i ∧ i - L.length < k ∧ x = (H.size + (i - L.length), E (i - L.length))) := by
    intro i x hx
    rcases Nat.lt_or_ge i L.length with h | h
    · rw [List.getElem?_append_left (by rw [lenL]; exact h)] at hx
      exact Or.inl ⟨h, hx, (hw.1 i x hx).lt⟩
    · rw [List.getElem?_append_right (by rw [lenL]; exact h), lenL] at hx
      exact Or.inr ⟨h, new _ _ hx⟩
  refine ⟨(hw.1.kept (fun k x hx => ho x.1 ((hw.1 k x hx).lt))).app (fun i x hx => ?_), ⟨fun i j p q hp hq hpq => ?_, fun i x hx => ?_⟩, Nat.le_trans hw.2.2.1 (by omega), fun x h1 h2 => (ho x (Nat.lt_of_lt_of_le h1 hw.2.2.1)).trans (hw.2.2.2.1 x h1 h2), hw.2.2.2.2⟩
  · obtain ⟨h1, rfl⟩ := new i x hx
    exact he i h1
  · rcases at' i p hp with ⟨h1, h2, h3⟩ | ⟨h1, h2, rfl⟩ <;> rcases at' j q hq with ⟨g1, g2, g3⟩ | ⟨g1, g2, rfl⟩
    · exact hw.2.1.1 i j p q h2 g2 hpq
    · exfalso
      have h9 : p.1 = H.size + (j - L.length) := hpq
      omega
    · exfalso
      have h9 : H.size + (i - L.length) = q.1 := hpq
      omega
    · have h9 : H.size + (i - L.length) = H.size + (j - L.length) := hpq
      omega
  · rcases at' i x hx with ⟨h1, h2, h3⟩ | ⟨h1, h2, rfl⟩
    · exact hw.2.1.2 i x h2
    · exact Or.inr (Nat.le_trans hw.2.2.1 (Nat.le_add_right _ _))
/-! six rows of seven numbers, made at once (the section 'new T[n][m]' wants a row that the narrow library lacks: this one is our own) -/
def mgO (cO : ClassId) (h i : Nat) : Cell := arrV cO 6 (fun j => if j < i then .ref (h + 1 + j) else .null)
abbrev mgI (cI : ClassId) : Cell := arrV cI 7 (fun _ => .int 0)
def mgS (T : State) (cO cI : ClassId) : Nat → State
  | 0 => T.pushCell (mgO cO T.heap.size 0)
  | i + 1 => ((mgS T cO cI i).pushCell (mgI cI)).setCell T.heap.size (mgO cO T.heap.size (i + 1))
theorem mgO_step (cO : ClassId) (h i : Nat) : (mgO cO h i).setSlot i (.ref (h + 1 + i)) = mgO cO h (i + 1) := by
  unfold mgO
  rw [arrV_store]
  congr 1
  funext j
  unfold updV
  by_cases e : j = i
  · rw [if_pos e, if_pos (by omega), e]
  · rw [if_neg e]
    show (if j < i then Value.ref (h + 1 + j) else Value.null) = _
    by_cases e2 : j < i
    · rw [if_pos e2, if_pos (by omega)]
    · rw [if_neg e2, if_neg (by omega)]
theorem mgS_facts (T : State) (cO cI : ClassId) : ∀ i, (mgS T cO cI i).heap.size = T.heap.size + 1 + i ∧ (mgS T cO cI i).heap[T.heap.size]? = some (mgO cO T.heap.size i) ∧ (mgS T cO cI i).vm = T.vm ∧ (mgS T cO cI i).slotsUsed = T.slotsUsed + 6 + i * 7 ∧ (∀ q : Nat, q < T.heap.size → (mgS T cO cI i).heap[q]? = T.heap[q]?) ∧ ∀ j, j < i → (mgS T cO cI i).heap[T.heap.size + 1 + j]? = some (mgI cI) := by
  intro i
  induction i with
  | zero => exact ⟨by simp [mgS], by simp [mgS], rfl, by simp [mgS, mgO, arrV_size], fun q hq => State.heap_pushCell_of_lt _ _ hq, fun j hj => absurd hj (Nat.not_lt_zero j)⟩
  | succ i ih =>
    obtain ⟨g1, g2, g3, g4, g5, g6⟩ := ih
    have hlt : T.heap.size < (mgS T cO cI i).heap.size := by omega
    have hh : ((mgS T cO cI i).pushCell (mgI cI)).heap[T.heap.size]? = some (mgO cO T.heap.size i) := by rw [State.heap_pushCell_of_lt (h := hlt)]; exact g2
    refine ⟨?_, State.heap_setCell_self hh, by simp [mgS, g3], ?_, fun q hq => ?_, fun j hj => ?_⟩
    · simp [mgS, State.setCell, g1]
      omega
    · simp [mgS, g4, arrV_size]
      omega
    · show (((mgS T cO cI i).pushCell (mgI cI)).setCell T.heap.size _).heap[q]? = _
      rw [State.heap_setCell_other (Nat.ne_of_gt hq), State.heap_pushCell_of_lt (h := Nat.lt_trans hq hlt)]
      exact g5 q hq
    · show (((mgS T cO cI i).pushCell (mgI cI)).setCell T.heap.size _).heap[T.heap.size + 1 + j]? = _
      rw [State.heap_setCell_other (show T.heap.size ≠ T.heap.size + 1 + j by omega)]
      rcases Nat.lt_or_ge j i with h | h
      · have hlj : T.heap.size + 1 + j < (mgS T cO cI i).heap.size := by omega
        rw [State.heap_pushCell_of_lt (h := hlj)]
        exact g6 j h
      · have e : j = i := by omega
        subst e
        rw [show T.heap.size + 1 + j = (mgS T cO cI j).heap.size by omega]
        simp
theorem mgS_top (T : State) (f : JFrame) (cO cI : ClassId) : ∀ i, mgS (T.setTop f) cO cI i = (mgS T cO cI i).setTop f := by
  intro i
  induction i with
  | zero => rfl
  | succ i ih =>
    show ((mgS (T.setTop f) cO cI i).pushCell (mgI cI)).setCell (T.setTop f).heap.size (mgO cO (T.setTop f).heap.size (i + 1)) = _
    rw [ih, State.heap_setTop, State.pushCell_setTop, State.setCell_setTop]
    rfl
theorem mgS_stand {T : State} (X : Stand p l e R s m args below meth c T locs cells slots) (cO cI : ClassId) : ∀ i, Stand p l e R s m args below meth c (mgS T cO cI i) (locs ++ (List.range i).map (fun j => (⟨T.heap.size, j⟩ : Loc))) (cells + 1 + i) (slots + 6 + i * 7) := by
  intro i
  induction i with
  | zero =>
    have h := X.pushed (mgO cO T.heap.size 0)
    rw [show (mgO cO T.heap.size 0).slots.size = 6 from arrV_size _ _ _] at h
    rw [List.range_zero, List.map_nil, List.append_nil, Nat.zero_mul]
    exact h
  | succ i ih =>
    obtain ⟨g1, g2, -⟩ := mgS_facts T cO cI i
    have hlt : T.heap.size < (mgS T cO cI i).heap.size := by omega
    have h := (ih.pushed (mgI cI)).stored (a := T.heap.size) (cell := mgO cO T.heap.size i) (by rw [State.heap_pushCell_of_lt (h := hlt)]; exact g2) i (.ref (T.heap.size + 1 + i))
    rw [mgO_step, show (mgI cI).slots.size = 7 from arrV_size _ _ _] at h
    rw [List.range_succ, List.map_append, ← List.append_assoc, show slots + 6 + (i + 1) * 7 = slots + 6 + i * 7 + 7 by omega]
    exact h
section WPM
variable {E : CtlPost} {d : Bool} {acts : List Action}
theorem mg_new {T : State} {cA comp : ClassId} {k : Class} {ty : FieldType} {n : Nat} {v : Value} (hk : T.vm.classes[cA]? = some k) (hkind : k.kind = .array comp ty) (h1 : ¬ n > e.platform.arrayLengthLimit) (h2 : ¬ n * componentBytes ty > e.platform.maxHeapBytes) (h3 : fits ty v = true) (h4 : v.isDefault = true) (h5 : T.heap.size < e.platform.maxCells) (h6 : T.slotsUsed + n ≤ e.platform.maxSlots) {Q9 : Addr → Pre}
    (hq : Q9 T.heap.size d acts (T.pushCell (arrV cA n (fun _ => v)))) : wp (Jvm.newArray cA n v) Q9 E e d acts T := by
  rw [← arrV_new] at hq
  have a1 : allocActs (Array.replicate n v) T.heap.size acts = acts := by
    unfold allocActs
    rw [if_pos]
    rw [Array.all_replicate]
    split <;> simp [h4]
  have a2 : ∀ (i : Nat) (x : Value), (Array.replicate n v)[i]? = some x → T.fitsSlot cA .none i x = true := by
    intro i x hx
    rw [Array.getElem?_replicate] at hx
    split at hx
    · cases hx
      simp [State.fitsSlot, State.slotType?, hk, hkind, h3]
    · cases hx
  simp only [Jvm.newArray, Jvm.arrayFits, wp_bind', W.ask, W.ite, h1, if_false, wp_pure', W.theClass, hk, hkind, h2, W.alloc, W.stop, Option.some.injEq, exists_eq_left', Array.size_replicate, a1]
  rw [if_neg (by omega)]
  exact ⟨h5, h6, a2, hq⟩
end WPM
end MROWS
