/-! CALLS: a method's contract over the whole world, from one state of it -/
def xA (ad : Nat → Nat) (sz : Nat) : Nat → Prop := fun q => (∃ k, k < 57 ∧ q = ad k) ∨ sz ≤ q
def xQ (RP : Option Value → xM → Prop) (D : va_G) (cA : Nat → ClassId) (ad : Nat → Nat) (A : Nat → Prop) : Array Value → State → Outcome → State → Prop := fun _ st oc t =>
  (∃ (r : Option Value) (u : xM), oc = .returned (r.map (xv ad)) ∧ RP r u ∧ va_P D vwCl (xW cA ad u) t.heap) ∧ va_F A st t
def xU (y : MethodName) (cy : ByteArray) (n : Nat) (ret : Option FieldType) : List Cond := .code y cy n ret :: xTb
def xMet (y : MethodName) (cy : ByteArray) (n : Nat) (ret : Option FieldType) (fr lo : Nat) (As : List Value) (M : xM) (RP : Option Value → xM → Prop) : Prop :=
  ∀ (l : Launch) (D : va_G) (cA : Nat → ClassId) (ad : Nat → Nat) (sz : Nat), (∀ i j, i < 57 → j < 57 → ad i = ad j → i = j) → Met l y (xU y cy n ret) { frames := fr, cells := 0, slots := 0, locals := lo }
    (va_Pc (As.map (xv ad)) (fun U => U.heap.size = sz ∧ va_P D vwCl (xW cA ad M) U.heap ∧ va_K D vwCl (xtys cA) U ∧ xNst U)) (xQ RP D cA ad (xA ad sz)) 0 0 (xA ad sz)
def xHas (Y : xY) (fr lo : Nat) (ret : Option FieldType) (RP : Option Value → xM → Prop) : Prop := match Y with
  | (_, _, _, R, s, _, args, below, meth, _, cells, slots, Q, D, cA, ad, A) => R = { frames := fr, cells := 0, slots := 0, locals := lo } ∧ cells = 0 ∧ slots = 0 ∧ meth.sig.returnType = ret ∧ meth.locks = false ∧ A = xA ad s.heap.size ∧ Q = MQ below (xQ RP D cA ad A) args s 0 0 A
def xRm (Y : xY) (fr lo : Nat) : Prop := match Y with
  | (_, _, _, R, _, _, _, _, _, _, _, _, _, _, _, _, _) => R.frames = fr ∧ R.locals = lo
theorem xHas.rm {Y : xY} {fr lo : Nat} {ret : Option FieldType} {RP : Option Value → xM → Prop} (h : xHas Y fr lo ret RP) : xRm Y fr lo := by
  obtain ⟨p, l, e, R, s, m, args, below, meth, c, cells, slots, Q, D, cA, ad, A⟩ := Y
  obtain ⟨rfl, -⟩ := h
  exact ⟨rfl, rfl⟩
theorem x_blind {As : List Value} {M : xM} {D : va_G} {cA : Nat → ClassId} {ad : Nat → Nat} {sz : Nat} : FrameBlind (va_Pc (As.map (xv ad)) (fun U => U.heap.size = sz ∧ va_P D vwCl (xW cA ad M) U.heap ∧ va_K D vwCl (xtys cA) U ∧ xNst U)) :=
  fun a U g mk q => by obtain ⟨q0, q1, qP, qK, qN⟩ := q; exact ⟨q0, q1, qP, va_K.moved (u := U) (U := U.calling g mk a) (Vm.Alike.refl U.vm) qK, fun w hw => va_Nw.same rfl (rfl : U.vm = (U.calling g mk a).vm) (qN w hw)⟩
theorem x_entry_len {As : List Value} (ad : Nat → Nat) : (lg_sl (As.map (xv ad))).length = (lg_sl As).length := by
  induction As with
  | nil => rfl
  | cons v t ih =>
    simp only [lg_sl, List.map_cons, List.flatMap_cons, List.length_append, xv_cat] at ih ⊢
    rw [ih]
    by_cases h : v.category = 2 <;> simp [h]
set_option maxHeartbeats 4000000 in
/-- a method's contract out of its body -/
theorem xMet.of {y : MethodName} {cy : ByteArray} {n : Nat} {ret : Option FieldType} {fr lo : Nat} {As : List Value} {M : xM} {RP : Option Value → xM → Prop} {own : String} {L0 : List (Nat × Value)} (hown : y.cls = own) (hpl : plainName y.cls = true) (hlen : (lg_sl As).length ≤ n) (hL : lv_args 0 As = L0)
    (body : ∀ Y : xY, xHas Y fr lo ret RP → PW cy own n Y 0 L0 [] M) : xMet y cy n ret fr lo As M RP := by
  intro l D cA ad sz hinj
  refine Met.ofW (cc := cy) (maxL := n) (ret := ret) hpl rfl ?_
  intro p e s m args below meth c s₁ B hml hv
  obtain ⟨rfl, hsz, hP, hK, hN⟩ := hv
  have hts := atoms_spec (ws := xU y cy n ret) B.pre
  have hown2 : s.vm.findClass own = some m.cls := by rw [← hown]; exact findClass_of_methodNamed B.named
  subst hsz
  have h := body (p, l, e, { frames := fr, cells := 0, slots := 0, locals := lo }, s, m, (As.map (xv ad)).toArray, below, meth, c, 0, 0, MQ below (xQ RP D cA ad (xA ad s.heap.size)) (As.map (xv ad)).toArray s 0 0 (xA ad s.heap.size), D, cA, ad, xA ad s.heap.size)
    ⟨rfl, rfl, rfl, B.returns, B.notSynchronized, rfl, rfl⟩
    ⟨B.exec, B.bytes, hml, hown2, ⟨fun w hw => hts w (List.mem_cons_of_mem _ hw), hN⟩, hK, hinj, fun i hi => Or.inl ⟨i, hi, rfl⟩, fun q hq => Or.inr hq, Nat.le_refl _, Nat.le_refl _⟩
  have hl := lv_entry (As.map (xv ad)) (n := n) (by rw [x_entry_len]; exact hlen)
  rw [lg_entry_eq]
  subst hL
  exact h s.heap [] _ hP va_S.rf (xlk_args hl)
section XC
variable {cc : ByteArray} {own : String} {nL : Nat} {Y : xY} {pc : Nat} {L : List (Nat × Value)} {S : List Value} {M : xM} {fr lo : Nat} {RP : Option Value → xM → Prop}
theorem PW.iret {v : Int32} (hY : xHas Y fr lo (some .int) RP) (hq : RP (some (.int v)) M) (d : decode cc pc = .ok (.ireturn, 1)) : PW cc own nL Y pc L [.int v] M := by
  obtain ⟨p, l, e, R, s, m, args, below, meth, c, cells, slots, Q, D, cA, ad, A⟩ := Y
  intro hok H locs ls hP hS hl
  obtain ⟨rfl, rfl, rfl, hr, hlocks, rfl, rfl⟩ := hY
  exact W.iret (v := v) hok.1 hok.2.1 hr (fun t ht hW => ⟨⟨some (.int v), M, rfl, hq, by rw [ht]; exact hP⟩, hS.F ht⟩) hS.2.2 d hlocks
theorem x_narZ {v : Int32} (h : v = 0 ∨ v = 1) : narrow .boolean (.int v) = .int v := by rcases h with rfl | rfl <;> decide
theorem PW.zret {v : Int32} (hY : xHas Y fr lo (some .boolean) RP) (hv : v = 0 ∨ v = 1) (hq : RP (some (.int v)) M) (d : decode cc pc = .ok (.ireturn, 1)) : PW cc own nL Y pc L [.int v] M := by
  obtain ⟨p, l, e, R, s, m, args, below, meth, c, cells, slots, Q, D, cA, ad, A⟩ := Y
  intro hok H locs ls hP hS hl
  obtain ⟨rfl, rfl, rfl, hr, hlocks, rfl, rfl⟩ := hY
  exact W.zret (v := v) hok.1 hok.2.1 hr (x_narZ hv) (fun t ht hW => ⟨⟨some (.int v), M, rfl, hq, by rw [ht]; exact hP⟩, hS.F ht⟩) hS.2.2 d hlocks
theorem PW.lret {v : Int64} (hY : xHas Y fr lo (some .long) RP) (hq : RP (some (.long v)) M) (d : decode cc pc = .ok (.lreturn, 1)) : PW cc own nL Y pc L [.long v] M := by
  obtain ⟨p, l, e, R, s, m, args, below, meth, c, cells, slots, Q, D, cA, ad, A⟩ := Y
  intro hok H locs ls hP hS hl
  obtain ⟨rfl, rfl, rfl, hr, hlocks, rfl, rfl⟩ := hY
  exact W.lret (v := v) hok.1 hok.2.1 hr (fun t ht hW => ⟨⟨some (.long v), M, rfl, hq, by rw [ht]; exact hP⟩, hS.F ht⟩) hS.2.2 d hlocks
theorem PW.vret (hY : xHas Y fr lo none RP) (hq : RP none M) (d : decode cc pc = .ok (.return_, 1)) : PW cc own nL Y pc L [] M := by
  obtain ⟨p, l, e, R, s, m, args, below, meth, c, cells, slots, Q, D, cA, ad, A⟩ := Y
  intro hok H locs ls hP hS hl
  obtain ⟨rfl, rfl, rfl, hr, hlocks, rfl, rfl⟩ := hY
  exact W.vret hok.1 hok.2.1 hr (fun t ht hW => ⟨⟨none, M, rfl, hq, by rw [ht]; exact hP⟩, hS.F ht⟩) hS.2.2 d hlocks
end XC
theorem x_good : xTb.all goodWord = true := List.all_eq_true.mpr (fun w hw => (List.mem_filter.mp hw).2)
theorem x_goodU {ws : List Cond} (h : ∀ w ∈ ws, w ∈ xTb) : GoodIn xTb (ws ++ xTb) := by
  intro w hw
  have hm : w ∈ xTb := by
    rcases List.mem_append.mp hw with h1 | h1
    · exact h w h1
    · exact h1
  exact ⟨hm, good_of_word (List.all_eq_true.mp x_good w hm)⟩
theorem x_goodW {own : String} {idx : Nat} {C : String} {y : MethodName} {cy : ByteArray} {n : Nat} {ret : Option FieldType} (h : ∀ w ∈ ([.methodLink own idx y, .instanceMethod y, .selects C y y, .initialized C, .code y cy n ret] : List Cond), w ∈ xTb) : GoodIn xTb (wsV own idx C y (xU y cy n ret)) := x_goodU h
theorem x_goodS {own : String} {idx : Nat} {y : MethodName} {cy : ByteArray} {n : Nat} {ret : Option FieldType} (h : ∀ w ∈ ([.methodLink own idx y, .static y, .initialized own, .code y cy n ret] : List Cond), w ∈ xTb) : GoodIn xTb (wsS own idx y (xU y cy n ret)) := x_goodU h
theorem x_goodC {y : MethodName} {cy : ByteArray} {n : Nat} {ret : Option FieldType} (h : (.code y cy n ret : Cond) ∈ xTb) : GoodIn xTb (xU y cy n ret) := x_goodU (ws := [.code y cy n ret]) (fun w hw => by rw [List.mem_singleton.mp hw]; exact h)
/-- what a call site says of its tables: virtual; static; static of a nest mate; static of another class -/
def xCV (own : String) (idx : Nat) (C : String) (y : MethodName) (cy : ByteArray) (n : Nat) (ret : Option FieldType) (k : Nat) : Prop :=
  (∀ w ∈ ([.methodLink own idx y, .instanceMethod y, .selects C y y, .initialized C, .code y cy n ret] : List Cond), w ∈ xTb) ∧ y.cls = C ∧ y.cls ≠ "java/lang/invoke/MethodHandle" ∧ y.cls ≠ "java/lang/invoke/VarHandle" ∧ (parseMethodDescriptor y.desc).map (fun d => d.parameters.length) = some k
def xCS (own : String) (idx : Nat) (y : MethodName) (cy : ByteArray) (n : Nat) (ret : Option FieldType) (k : Nat) : Prop :=
  (∀ w ∈ ([.methodLink own idx y, .static y, .initialized y.cls, .code y cy n ret] : List Cond), w ∈ xTb) ∧ y.cls ≠ "java/lang/invoke/MethodHandle" ∧ y.cls ≠ "java/lang/invoke/VarHandle" ∧ (parseMethodDescriptor y.desc).map (fun d => d.parameters.length) = some k
def xCN (own : String) (idx : Nat) (y : MethodName) (host : String) (cy : ByteArray) (n : Nat) (ret : Option FieldType) (k : Nat) : Prop :=
  (own, idx, y, host) ∈ xNl ∧ (∀ w ∈ ([.static y, .initialized y.cls, .code y cy n ret] : List Cond), w ∈ xTb) ∧ y.cls ≠ "java/lang/invoke/MethodHandle" ∧ y.cls ≠ "java/lang/invoke/VarHandle" ∧ (parseMethodDescriptor y.desc).map (fun d => d.parameters.length) = some k
section XD
variable {p : Program} {l : Launch} {e : Env} {R : Room} {s : State} {m : MethodId} {args : Array Value} {below : List Frame} {meth : Method} {c : Code} {H : Heap} {locs : List Loc} {cells slots : Nat} {Q : State → Prop}
variable {pc : Nat} {ls : Array Slot} {rest st0 : List Value} {a : Array Value} {A0 : Nat → Prop} {H0 : Heap}
theorem x_call {RP : Option Value → xM → Prop} {D : va_G} {cA : Nat → ClassId} {ad : Nat → Nat} (hr : va_Run p l e R s m args below meth c H locs cells slots 0 0 (F0 m pc ls st0) rest (xQ RP D cA ad (xA ad H.size) a) (xA ad H.size)) (hS : va_S A0 H0 H locs) (hA : ∀ q, xA ad H.size q → A0 q)
    (kk : ∀ (r : Option Value) (u : xM) (H1 : Heap) (locs1 : List Loc), RP r u → va_P D vwCl (xW cA ad u) H1 → va_S A0 H0 H1 locs1 → W p l e R s m args below meth c H1 locs1 cells slots Q (F0 m (pc + 3) ls ((r.map (xv ad)).toList ++ rest))) : W p l e R s m args below meth c H locs cells slots Q (F0 m pc ls st0) := by
  intro T hT X
  obtain ⟨v, st₀, t, T', Ls, h0, X', hL, e1, e2, ⟨⟨r, u, hv, hp, hb⟩, hz, hk⟩, st⟩ := hr T hT X
  cases hv
  rw [h0] at hz hk
  obtain ⟨t2, a1, b1⟩ := kk r u T'.heap (locs ++ Ls) hp (by rw [e1]; exact hb)
    ⟨Nat.le_trans hS.1 (by rw [e1]; exact hz), fun q h1 h2 => by rw [e1, hk q (Nat.lt_of_lt_of_le h1 hS.1) (fun z => h2 (hA q z))]; exact hS.2.1 q h1 h2, fun q hq => by
      rcases List.mem_append.mp hq with h | h
      · exact hS.2.2 q h
      · exact hA _ (hL q h)⟩ T' rfl X'
  exact ⟨t2, st t2 a1, b1⟩
end XD
section XE
variable {cc : ByteArray} {own : String} {nL : Nat} {Y : xY} {pc : Nat} {L : List (Nat × Value)} {S : List Value} {M : xM} {fr lo : Nat} {RP : Option Value → xM → Prop}
variable {y : MethodName} {cy : ByteArray} {n : Nat} {ret : Option FieldType} {fr2 lo2 idx : Nat} {As : List Value}
theorem x_hA {s : State} {A : Nat → Prop} {ad : Nat → Nat} {H : Heap} {locs : List Loc} (h1 : ∀ i, i < 57 → A (ad i)) (h2 : ∀ q, s.heap.size ≤ q → A q) (hS : va_S A s.heap H locs) : ∀ q, xA ad H.size q → A q := by
  intro q h
  rcases h with ⟨k, hk, rfl⟩ | h
  · exact h1 k hk
  · exact h2 q (Nat.le_trans hS.1 h)
theorem x_rest {r : Option Value} {ad : Nat → Nat} {S : List Value} : (r.map (xv ad)).toList ++ S.map (xv ad) = (r.toList ++ S).map (xv ad) := by cases r <;> rfl
set_option maxHeartbeats 4000000 in
theorem PW.callV {b ci N : Nat} {ks : List xFK} {C : String} {T : u_T} (hR : xRm Y fr lo) (hM : xMet y cy n ret fr2 lo2 (.ref b :: As) M RP) (hroom : fr2 + 1 ≤ fr ∧ 8 + (n + 11) + lo2 ≤ lo) (hw : xCV own idx C y cy n ret As.length) (hb : xSH[b]? = some (.inr (ci, ks))) (hc : vwCl[ci]? = some (C, T, N)) (d : decode cc pc = .ok (.invokevirtual idx, 3)) {S' : List Value} (hst : S = As.reverse ++ .ref b :: S') (hcat : (S'.map fun v => v.category).sum ≤ 8)
    (kk : ∀ r u, RP r u → PW cc own nL Y (pc + 3) L (r.toList ++ S') u) : PW cc own nL Y pc L S M := by
  obtain ⟨p, l, e, R, s, m, args, below, meth, c, cells, slots, Q, D, cA, ad, A⟩ := Y
  intro hok H locs ls hP hS hl
  subst hst
  obtain ⟨hR1, hR2⟩ := hR
  have hK := hok.2.2.2.2.2.1
  refine x_call (ad := ad) (cA := cA) (D := D) (RP := RP) (rest := S'.map (xv ad)) (va_runV (As := As.map (xv ad)) (Ts := xTb) ⟨hok.1, hok.2.1, hok.2.2.1, hok.2.2.2.1, hok.2.2.2.2.1.1⟩ (hM l D cA ad H.size hok.2.2.2.2.2.2.1)
    (cwV (ws := xU y cy n ret) (ws' := xTb) As.length hok.2.2.2.2.1.1 (x_goodW hw.1) rfl rfl rfl hw.2 ⟨by rw [hR1]; exact hroom.1, by rw [hR2]; exact hroom.2⟩)
    ⟨x_blind, va_recv hK hP hc (xW_get hb), fun U hU hW => ⟨rfl, by rw [hU], by rw [hU]; exact hP, va_K.moved hW.alike hK, fun w hw => va_Nw.warmM hW (hok.2.2.2.2.1.2 w hw)⟩⟩ rfl (by simp) hl.1 (by simp [xv]) (by
      show 2 * 0 + _ ≤ 8
      simp only [List.map_map]
      have : ((fun v => Value.category v) ∘ xv ad) = fun v => Value.category v := by funext v; exact xv_cat ad v
      rw [this]; omega) d ⟨hok.2.2.2.2.2.2.2.2.2.1, hok.2.2.2.2.2.2.2.2.2.2⟩) hS (x_hA hok.2.2.2.2.2.2.2.1 hok.2.2.2.2.2.2.2.2.1 hS) (fun r u H1 locs1 hr hP1 hS1 => ?_)
  rw [x_rest]
  exact kk r u hr hok H1 locs1 ls hP1 hS1 hl
set_option maxHeartbeats 4000000 in
theorem PW.callS (hR : xRm Y fr lo) (hM : xMet y cy n ret fr2 lo2 As M RP) (hroom : fr2 + 1 ≤ fr ∧ 8 + (n + 11) + lo2 ≤ lo) (hw : xCS own idx y cy n ret As.length) (d : decode cc pc = .ok (.invokestatic idx, 3)) {S' : List Value} (hst : S = As.reverse ++ S') (hcat : (S'.map fun v => v.category).sum ≤ 8)
    (kk : ∀ r u, RP r u → PW cc own nL Y (pc + 3) L (r.toList ++ S') u) : PW cc own nL Y pc L S M := by
  obtain ⟨p, l, e, R, s, m, args, below, meth, c, cells, slots, Q, D, cA, ad, A⟩ := Y
  intro hok H locs ls hP hS hl
  subst hst
  obtain ⟨hR1, hR2⟩ := hR
  have hK := hok.2.2.2.2.2.1
  refine x_call (ad := ad) (cA := cA) (D := D) (RP := RP) (rest := S'.map (xv ad)) (va_runS (As := As.map (xv ad)) (Ts := xTb) ⟨hok.1, hok.2.1, hok.2.2.1, hok.2.2.2.1, hok.2.2.2.2.1.1⟩ (hM l D cA ad H.size hok.2.2.2.2.2.2.1)
    ⟨callB_of (ws := xU y cy n ret) (ws' := xTb) As.length hok.2.2.2.2.1.1 (x_goodC (hw.1 _ (by simp))) rfl rfl rfl (hok.2.2.2.2.1.1 _ (hw.1 _ (by simp))) (hok.2.2.2.2.1.1 _ (hw.1 _ (by simp))) hw.2 ⟨by rw [hR1]; exact hroom.1, by rw [hR2]; exact hroom.2⟩, hok.2.2.2.2.1.1 _ (hw.1 _ (by simp))⟩
    ⟨x_blind, fun U hU hW => ⟨rfl, by rw [hU], by rw [hU]; exact hP, va_K.moved hW.alike hK, fun w hw => va_Nw.warmM hW (hok.2.2.2.2.1.2 w hw)⟩⟩ rfl (by simp) hl.1 (by simp) (by
      show 2 * 0 + _ ≤ 8
      simp only [List.map_map]
      have : ((fun v => Value.category v) ∘ xv ad) = fun v => Value.category v := by funext v; exact xv_cat ad v
      rw [this]; omega) d ⟨hok.2.2.2.2.2.2.2.2.2.1, hok.2.2.2.2.2.2.2.2.2.2⟩) hS (x_hA hok.2.2.2.2.2.2.2.1 hok.2.2.2.2.2.2.2.2.1 hS) (fun r u H1 locs1 hr hP1 hS1 => ?_)
  rw [x_rest]
  exact kk r u hr hok H1 locs1 ls hP1 hS1 hl
set_option maxHeartbeats 4000000 in
theorem PW.callN {host : String} (hR : xRm Y fr lo) (hM : xMet y cy n ret fr2 lo2 As M RP) (hroom : fr2 + 1 ≤ fr ∧ 8 + (n + 11) + lo2 ≤ lo) (hw : xCN own idx y host cy n ret As.length) (d : decode cc pc = .ok (.invokestatic idx, 3)) {S' : List Value} (hst : S = As.reverse ++ S') (hcat : (S'.map fun v => v.category).sum ≤ 8)
    (kk : ∀ r u, RP r u → PW cc own nL Y (pc + 3) L (r.toList ++ S') u) : PW cc own nL Y pc L S M := by
  obtain ⟨p, l, e, R, s, m, args, below, meth, c, cells, slots, Q, D, cA, ad, A⟩ := Y
  intro hok H locs ls hP hS hl
  subst hst
  obtain ⟨hR1, hR2⟩ := hR
  have hK := hok.2.2.2.2.2.1
  refine x_call (ad := ad) (cA := cA) (D := D) (RP := RP) (rest := S'.map (xv ad)) (va_runSN (As := As.map (xv ad)) (Ts := xTb) ⟨hok.1, hok.2.1, hok.2.2.1, hok.2.2.2.1, hok.2.2.2.2.1.1⟩ (hM l D cA ad H.size hok.2.2.2.2.2.2.1)
    ⟨va_cnB (ws := xU y cy n ret) (ws' := xTb) (host := host) As.length hok.2.2.2.2.1.1 (x_goodC (hw.2.1 _ (by simp))) rfl rfl rfl (hok.2.2.2.2.1.2 _ hw.1) (hok.2.2.2.2.1.1 _ (hw.2.1 _ (by simp))) hw.2.2 ⟨by rw [hR1]; exact hroom.1, by rw [hR2]; exact hroom.2⟩, hok.2.2.2.2.1.1 _ (hw.2.1 _ (by simp)), trivial⟩
    ⟨x_blind, fun U hU hW => ⟨rfl, by rw [hU], by rw [hU]; exact hP, va_K.moved hW.alike hK, fun w hw => va_Nw.warmM hW (hok.2.2.2.2.1.2 w hw)⟩⟩ rfl (by simp) hl.1 (by simp) (by
      show 2 * 0 + _ ≤ 8
      simp only [List.map_map]
      have : ((fun v => Value.category v) ∘ xv ad) = fun v => Value.category v := by funext v; exact xv_cat ad v
      rw [this]; omega) d ⟨hok.2.2.2.2.2.2.2.2.2.1, hok.2.2.2.2.2.2.2.2.2.2⟩) hS (x_hA hok.2.2.2.2.2.2.2.1 hok.2.2.2.2.2.2.2.2.1 hS) (fun r u H1 locs1 hr hP1 hS1 => ?_)
  rw [x_rest]
  exact kk r u hr hok H1 locs1 ls hP1 hS1 hl
end XE
