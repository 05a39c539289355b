/-! THE WORLD: all cells of the class and of the reference, by their places; a state of it: what its ints and longs hold -/
abbrev xM : Type := (Nat → Nat → Int32) × (Nat → Nat → Int64)
abbrev xFK : Type := Nat ⊕ Bool
abbrev xSC : Type := (Nat × Nat) ⊕ (Nat × List xFK)
def xSH : List xSC := [
  .inr (6, [.inl 1, .inl 8, .inl 18, .inl 20, .inl 22, .inl 25, .inl 31, .inr false]),
  .inr (5, [.inl 2, .inl 3, .inl 4, .inl 5, .inl 6, .inl 7]), .inl (0, 6), .inl (0, 6), .inl (0, 6), .inl (0, 6), .inl (0, 6), .inl (0, 6),
  .inr (1, [.inl 9, .inl 10, .inl 11, .inl 12, .inl 13, .inl 14, .inl 15, .inl 16, .inl 17, .inr false]), .inl (0, 10), .inl (0, 10), .inl (0, 10), .inl (0, 10), .inl (0, 10), .inl (0, 10), .inl (0, 10), .inl (0, 60), .inl (1, 60),
  .inr (4, [.inl 19, .inr false]), .inl (1, 61),
  .inr (3, [.inl 21, .inr false, .inr false, .inr true]), .inl (0, 396),
  .inr (2, [.inl 23, .inl 24, .inr false]), .inl (0, 6), .inl (0, 6),
  .inr (0, [.inl 26, .inl 27, .inl 28, .inl 29, .inl 30, .inr false, .inr false]), .inl (0, 10), .inl (0, 10), .inl (0, 10), .inl (0, 10), .inl (0, 3),
  .inl (0, 4),
  .inr (7, [.inl 33, .inl 34, .inl 35, .inl 36, .inl 37, .inl 38, .inr false, .inl 39, .inl 40, .inl 41, .inl 42, .inl 43, .inl 44, .inl 45, .inl 46, .inl 47, .inl 48, .inr false, .inr false, .inl 49, .inl 50, .inl 51, .inl 52, .inr false, .inl 53, .inl 54, .inl 55, .inl 56]),
  .inl (0, 6), .inl (0, 6), .inl (0, 6), .inl (0, 6), .inl (0, 6), .inl (0, 6), .inl (0, 10), .inl (0, 10), .inl (0, 10), .inl (0, 10), .inl (0, 60), .inl (1, 60), .inl (0, 10), .inl (0, 10), .inl (0, 10), .inl (1, 61), .inl (0, 6), .inl (0, 6), .inl (0, 4), .inl (0, 3960), .inl (0, 10), .inl (0, 10), .inl (0, 10), .inl (0, 3)]
theorem xSH_len : xSH.length = 57 := by decide +kernel
/-- a reference is a place; the cell's address comes by ad -/
def xv (ad : Nat → Nat) : Value → Value
  | .ref k => .ref (ad k)
  | v => v
def xfv (M : xM) (p k : Nat) : xFK → Value
  | .inl r => .ref r
  | .inr false => .int (M.1 p k)
  | .inr true => .long (M.2 p k)
def xcell (cA : Nat → ClassId) (ad : Nat → Nat) (M : xM) (p : Nat) : xSC → va_E
  | .inl (t, n) => .inl (cA t, n, .inl (M.1 p))
  | .inr (ci, ks) => .inr (ci, ks.mapIdx (fun k f => xv ad (xfv M p k f)))
def xW (cA : Nat → ClassId) (ad : Nat → Nat) (M : xM) : va_W := xSH.mapIdx (fun p sc => (ad p, xcell cA ad M p sc))
def xtys (cA : Nat → ClassId) : List (ClassId × FieldType) := [(cA 0, .int), (cA 1, .boolean)]
def xup (M : xM) (p k : Nat) (x : Int32) : xM := (fun q => if q = p then upd (M.1 p) k x else M.1 q, M.2)
def xupL (M : xM) (p k : Nat) (x : Int64) : xM := (M.1, fun q j => if q = p ∧ j = k then x else M.2 q j)
def xupA (M : xM) (p : Nat) (f : Nat → Int32) : xM := (fun q => if q = p then f else M.1 q, M.2)
theorem xup_1 (M : xM) (p k q j : Nat) (x : Int32) : (xup M p k x).1 q j = if q = p ∧ j = k then x else M.1 q j := by
  unfold xup upd
  by_cases h : q = p
  · subst h
    by_cases h2 : j = k <;> simp [h2]
  · simp [h]
theorem xup_2 (M : xM) (p k : Nat) (x : Int32) : (xup M p k x).2 = M.2 := rfl
theorem xupL_1 (M : xM) (p k : Nat) (x : Int64) : (xupL M p k x).1 = M.1 := rfl
theorem xupL_2 (M : xM) (p k q j : Nat) (x : Int64) : (xupL M p k x).2 q j = if q = p ∧ j = k then x else M.2 q j := rfl
theorem xupA_1 (M : xM) (p : Nat) (f : Nat → Int32) (q : Nat) : (xupA M p f).1 q = if q = p then f else M.1 q := rfl
theorem xupA_2 (M : xM) (p : Nat) (f : Nat → Int32) : (xupA M p f).2 = M.2 := rfl
theorem xW_get {cA : Nat → ClassId} {ad : Nat → Nat} {M : xM} {p : Nat} {sc : xSC} (h : xSH[p]? = some sc) : (xW cA ad M)[p]? = some (ad p, xcell cA ad M p sc) := by
  simp [xW, List.getElem?_mapIdx, h]
theorem xW_at {cA : Nat → ClassId} {ad : Nat → Nat} {M : xM} {p : Nat} {q : Nat × va_E} (h : (xW cA ad M)[p]? = some q) : ∃ sc, xSH[p]? = some sc ∧ q = (ad p, xcell cA ad M p sc) := by
  simp only [xW, List.getElem?_mapIdx, Option.map_eq_some_iff] at h
  obtain ⟨sc, h1, h2⟩ := h
  exact ⟨sc, h1, h2.symm⟩
theorem xSH_lt {p : Nat} {sc : xSC} (h : xSH[p]? = some sc) : p < 57 := by
  have := (List.getElem?_eq_some_iff.mp h).1
  rw [xSH_len] at this
  exact this
theorem xcell_ne {cA : Nat → ClassId} {ad : Nat → Nat} {M M' : xM} {p : Nat} (h1 : M'.1 p = M.1 p) (h2 : M'.2 p = M.2 p) (sc : xSC) : xcell cA ad M' p sc = xcell cA ad M p sc := by
  have e : ∀ k f, xfv M' p k f = xfv M p k f := by
    intro k f
    rcases f with r | b
    · rfl
    · cases b <;> simp [xfv, h1, h2]
  rcases sc with ⟨t, n⟩ | ⟨ci, ks⟩
  · simp [xcell, h1]
  · simp [xcell, e]
/-- one cell changed -/
theorem xW_set {cA : Nat → ClassId} {ad : Nat → Nat} {M M' : xM} {p : Nat} {sc : xSC} {e : va_E} (h : xSH[p]? = some sc) (h1 : ∀ q, q ≠ p → M'.1 q = M.1 q) (h2 : ∀ q, q ≠ p → M'.2 q = M.2 q) (he : e = xcell cA ad M' p sc) : (xW cA ad M).set p (ad p, e) = xW cA ad M' := by
  subst he
  apply List.ext_getElem?
  intro k
  by_cases hk : k = p
  · subst hk
    have hl : k < (xW cA ad M).length := (List.getElem?_eq_some_iff.mp (xW_get h)).1
    rw [List.getElem?_set_self hl, xW_get h]
  · rw [List.getElem?_set_ne (fun q => hk q.symm)]
    simp only [xW, List.getElem?_mapIdx]
    cases hs : xSH[k]? with
    | none => rfl
    | some s2 => simp [xcell_ne (h1 k hk) (h2 k hk) s2]
theorem xW_seti {cA : Nat → ClassId} {ad : Nat → Nat} {M : xM} {p t n i : Nat} {x : Int32} (h : xSH[p]? = some (.inl (t, n))) : (xW cA ad M).set p (ad p, .inl (cA t, n, .inl (upd (M.1 p) i x))) = xW cA ad (xup M p i x) :=
  xW_set h (fun q hq => by simp [xup, hq]) (fun _ _ => rfl) (by simp [xcell, xup])
theorem xW_setA {cA : Nat → ClassId} {ad : Nat → Nat} {M : xM} {p t n : Nat} {f : Nat → Int32} (h : xSH[p]? = some (.inl (t, n))) : (xW cA ad M).set p (ad p, .inl (cA t, n, .inl f)) = xW cA ad (xupA M p f) :=
  xW_set h (fun q hq => by simp [xupA, hq]) (fun _ _ => rfl) (by simp [xcell, xupA])
theorem x_setIdx {α β : Type} {ks : List α} {k : Nat} {f g : Nat → α → β} {v : β} {a : α} (hk : ks[k]? = some a) (hv : g k a = v) (ho : ∀ j b, j ≠ k → g j b = f j b) : (ks.mapIdx f).set k v = ks.mapIdx g := by
  apply List.ext_getElem?
  intro j
  by_cases hj : j = k
  · subst hj
    have hl : j < (ks.mapIdx f).length := by rw [List.length_mapIdx]; exact (List.getElem?_eq_some_iff.mp hk).1
    rw [List.getElem?_set_self hl, List.getElem?_mapIdx, hk]
    simp [hv]
  · rw [List.getElem?_set_ne (fun q => hj q.symm)]
    simp only [List.getElem?_mapIdx]
    cases ks[j]? with
    | none => rfl
    | some b => simp [ho j b hj]
theorem xW_setf {cA : Nat → ClassId} {ad : Nat → Nat} {M : xM} {p ci k : Nat} {ks : List xFK} {x : Int32} (h : xSH[p]? = some (.inr (ci, ks))) (hk : ks[k]? = some (.inr false)) : (xW cA ad M).set p (ad p, .inr (ci, (ks.mapIdx (fun k f => xv ad (xfv M p k f))).set k (.int x))) = xW cA ad (xup M p k x) := by
  refine xW_set h (fun q hq => by simp [xup, hq]) (fun _ _ => rfl) ?_
  simp only [xcell]
  congr 2
  refine x_setIdx hk (by simp [xfv, xv, xup, upd]) (fun j b hj => ?_)
  rcases b with r | b
  · rfl
  · cases b <;> simp [xfv, xup, upd, hj]
theorem xW_setfL {cA : Nat → ClassId} {ad : Nat → Nat} {M : xM} {p ci k : Nat} {ks : List xFK} {x : Int64} (h : xSH[p]? = some (.inr (ci, ks))) (hk : ks[k]? = some (.inr true)) : (xW cA ad M).set p (ad p, .inr (ci, (ks.mapIdx (fun k f => xv ad (xfv M p k f))).set k (.long x))) = xW cA ad (xupL M p k x) := by
  refine xW_set h (fun _ _ => rfl) (fun q hq => by funext j; simp [xupL, hq]) ?_
  simp only [xcell]
  congr 2
  refine x_setIdx hk (by simp [xfv, xv, xupL]) (fun j b hj => ?_)
  rcases b with r | b
  · rfl
  · cases b <;> simp [xfv, xupL, hj]
/-! THE LOCALS: a list in which the first value of a place counts -/
def xlk (ad : Nat → Nat) (ls : Array Slot) (nL : Nat) (L : List (Nat × Value)) : Prop := ls.size = nL ∧ lv_wf ls ∧ ∀ i v, L.lookup i = some v → ls[i]? = some (.val (xv ad v))
theorem xv_cat (ad : Nat → Nat) (v : Value) : (xv ad v).category = v.category := by cases v <;> rfl
theorem x_lookup_mem {α : Type} : ∀ {L : List (Nat × α)} {i : Nat} {v : α}, L.lookup i = some v → (i, v) ∈ L
  | [], _, _, h => by simp at h
  | (k, w) :: L, i, v, h => by
    by_cases e : i = k
    · subst e
      simp at h
      subst h
      exact List.mem_cons_self
    · rw [List.lookup_cons] at h
      have : (i == k) = false := by simp [e]
      rw [this] at h
      exact List.mem_cons_of_mem _ (x_lookup_mem h)
def xflat (ad : Nat → Nat) (L : List (Nat × Value)) : List (Nat × Value) := (L.map Prod.fst).filterMap (fun i => (L.lookup i).map (fun v => (i, xv ad v)))
theorem xflat_mem {ad : Nat → Nat} {L : List (Nat × Value)} {i : Nat} {v : Value} (h : L.lookup i = some v) : (i, xv ad v) ∈ xflat ad L :=
  List.mem_filterMap.mpr ⟨i, List.mem_map.mpr ⟨(i, v), x_lookup_mem h, rfl⟩, by rw [h]; rfl⟩
theorem xlk_has {ad : Nat → Nat} {ls : Array Slot} {nL : Nat} {L : List (Nat × Value)} (h : xlk ad ls nL L) : lv_has ls nL (xflat ad L) := by
  refine ⟨h.1, h.2.1, fun q hq => ?_⟩
  obtain ⟨i, -, hi⟩ := List.mem_filterMap.mp hq
  obtain ⟨v, h1, h2⟩ := Option.map_eq_some_iff.mp hi
  subst h2
  exact h.2.2 i v h1
def xcat1 (L : List (Nat × Value)) (i : Nat) : Bool := match i with
  | 0 => true
  | j + 1 => match L.lookup j with
    | some w => w.category == 1
    | none => true
theorem xlk_store1 {ad : Nat → Nat} {ls' : Array Slot} {nL i : Nat} {L : List (Nat × Value)} {v : Value} (hc : xcat1 L i = true) (h : lv_has ls' nL ((i, xv ad v) :: (xflat ad L).filter (fun q => !(q.1 == i) && !(q.1 + 1 == i && q.2.category == 2)))) : xlk ad ls' nL ((i, v) :: L) := by
  refine ⟨h.1, h.2.1, fun j w hj => ?_⟩
  by_cases e : j = i
  · subst e
    simp at hj
    subst hj
    exact h.2.2 _ List.mem_cons_self
  · rw [List.lookup_cons] at hj
    have e2 : (j == i) = false := by simp [e]
    rw [e2] at hj
    refine h.2.2 (j, xv ad w) (List.mem_cons_of_mem _ (List.mem_filter.mpr ⟨xflat_mem hj, ?_⟩))
    simp only [e2, xv_cat]
    by_cases e3 : j + 1 = i
    · subst e3
      simp only [xcat1, hj] at hc
      have : w.category = 1 := by simpa using hc
      simp [this]
    · simp [e3]
theorem xlk_store2 {ad : Nat → Nat} {ls' : Array Slot} {nL i : Nat} {L : List (Nat × Value)} {v : Value} (hc : xcat1 L i = true) (hn : L.lookup (i + 1) = none) (h : lv_has ls' nL ((i, xv ad v) :: (xflat ad L).filter (fun q => !(q.1 == i) && (!(q.1 == i + 1) && !(q.1 + 1 == i && q.2.category == 2))))) : xlk ad ls' nL ((i, v) :: L) := by
  refine ⟨h.1, h.2.1, fun j w hj => ?_⟩
  by_cases e : j = i
  · subst e
    simp at hj
    subst hj
    exact h.2.2 _ List.mem_cons_self
  · rw [List.lookup_cons] at hj
    have e2 : (j == i) = false := by simp [e]
    rw [e2] at hj
    have e4 : ¬ j = i + 1 := fun q => by subst q; rw [hn] at hj; cases hj
    refine h.2.2 (j, xv ad w) (List.mem_cons_of_mem _ (List.mem_filter.mpr ⟨xflat_mem hj, ?_⟩))
    simp only [e2, xv_cat]
    by_cases e3 : j + 1 = i
    · subst e3
      simp only [xcat1, hj] at hc
      have : w.category = 1 := by simpa using hc
      simp [this, e4]
    · simp [e3, e4]
theorem xlk_sub {ad : Nat → Nat} {ls : Array Slot} {nL : Nat} {L L' : List (Nat × Value)} (h : xlk ad ls nL L) (hs : L'.map (fun q => L.lookup q.1) = L'.map (fun q => some q.2)) : xlk ad ls nL L' := by
  refine ⟨h.1, h.2.1, fun i v hi => h.2.2 i v ?_⟩
  have hm := x_lookup_mem hi
  have : ∀ q ∈ L', L.lookup q.1 = some q.2 := List.map_inj_left.mp hs
  exact this _ hm
theorem xargs_map (ad : Nat → Nat) : ∀ (vs : List Value) (i : Nat), lv_args i (vs.map (xv ad)) = (lv_args i vs).map (fun q => (q.1, xv ad q.2))
  | [], _ => rfl
  | v :: vs, i => by
    simp only [List.map_cons, lv_args, xv_cat]
    rw [xargs_map ad vs]
theorem xlk_args {ad : Nat → Nat} {ls : Array Slot} {nL : Nat} {As : List Value} (h : lv_has ls nL (lv_args 0 (As.map (xv ad)))) : xlk ad ls nL (lv_args 0 As) := by
  refine ⟨h.1, h.2.1, fun i v hi => ?_⟩
  have hm := x_lookup_mem hi
  refine h.2.2 (i, xv ad v) ?_
  rw [xargs_map]
  exact List.mem_map.mpr ⟨(i, v), hm, rfl⟩
/-! A FRAME, and what is to be shown of it -/
/-- the tables' words that go with every contract; the nest mates' links, which don't -/
def xTb : List Cond := lw_tbl.filter goodWord
def xNl : List (String × Nat × MethodName × String) := [(RX3, 32, yX6_isThing, RX6), (RX3, 42, yX6_bit, RX6)]
def xNst (U : State) : Prop := ∀ q ∈ xNl, va_Nw (.methodLinkNest q.1 q.2.1 q.2.2.1 q.2.2.2) U
theorem xNl_in : ∀ q ∈ xNl, Cond.methodLinkNest q.1 q.2.1 q.2.2.1 q.2.2.2 ∈ lw_tbl := by decide +kernel
abbrev xY : Type := Program × Launch × Env × Room × State × MethodId × Array Value × List Frame × Method × Code × Nat × Nat × (State → Prop) × va_G × (Nat → ClassId) × (Nat → Nat) × (Nat → Prop)
def xOK (cc : ByteArray) (own : String) (nL : Nat) : xY → Prop
  | (p, _, _, R, s, m, args, _, _, c, cells, slots, _, D, cA, ad, A) => p.tables.exec = Jvm.exec ∧ c.code = cc ∧ c.maxLocals = nL ∧ s.vm.findClass own = some m.cls ∧ ((∀ w ∈ xTb, w.before args s = true) ∧ xNst s) ∧ va_K D vwCl (xtys cA) s ∧ (∀ i j, i < 57 → j < 57 → ad i = ad j → i = j) ∧ (∀ i, i < 57 → A (ad i)) ∧ (∀ q, s.heap.size ≤ q → A q) ∧ cells ≤ R.cells ∧ slots ≤ R.slots
def PW (cc : ByteArray) (own : String) (nL : Nat) (Y : xY) (pc : Nat) (L : List (Nat × Value)) (S : List Value) (M : xM) : Prop := xOK cc own nL Y → match Y with
  | (p, l, e, R, s, m, args, below, meth, c, cells, slots, Q, D, cA, ad, A) => ∀ (H : Heap) (locs : List Loc) (ls : Array Slot), va_P D vwCl (xW cA ad M) H → va_S A s.heap H locs → xlk ad ls nL L → W p l e R s m args below meth c H locs cells slots Q (F0 m pc ls (S.map (xv ad)))
theorem xD_of {cA : Nat → ClassId} {ad : Nat → Nat} {A : Nat → Prop} {M : xM} (hi : ∀ i j, i < 57 → j < 57 → ad i = ad j → i = j) (hA : ∀ i, i < 57 → A (ad i)) : va_D A (xW cA ad M) := by
  refine ⟨fun i j p q hp hq e => ?_, fun k q hq => ?_⟩
  · obtain ⟨s1, h1, rfl⟩ := xW_at hp
    obtain ⟨s2, h2, rfl⟩ := xW_at hq
    exact hi i j (xSH_lt h1) (xSH_lt h2) e
  · obtain ⟨s1, h1, rfl⟩ := xW_at hq
    exact hA k (xSH_lt h1)
