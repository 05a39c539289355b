/-! the making of the world: constructors, over lists of cells at addresses -/
abbrev xZ : Type := Program × Launch × Env × Room × State × MethodId × Array Value × List Frame × Method × Code × (State → Prop) × va_G × (Nat → ClassId) × (Nat → Prop)
def xNi : List (String × Nat × MethodName × String) := [(RX6, 18, yX1_init, RX6), (RX6, 25, yX4_init, RX6), (RX6, 32, yX3_init, RX6), (RX6, 39, yX2_init, RX6), (RX6, 46, yX0_init, RX6)]
def xNsi (U : State) : Prop := ∀ q ∈ xNi, va_Nw (.methodLinkNest q.1 q.2.1 q.2.2.1 q.2.2.2) U
theorem xNi_in : ∀ q ∈ xNi, Cond.methodLinkNest q.1 q.2.1 q.2.2.1 q.2.2.2 ∈ lw_tbl := by decide +kernel
def iOK (cc : ByteArray) (own : String) (nL : Nat) : xZ → Prop
  | (p, _, _, _, s, m, args, _, _, c, _, D, cA, A) => p.tables.exec = Jvm.exec ∧ c.code = cc ∧ c.maxLocals = nL ∧ s.vm.findClass own = some m.cls ∧ ((∀ w ∈ xTb, w.before args s = true) ∧ xNsi s) ∧ va_K D vwCl (xtys cA) s ∧ ∀ q, s.heap.size ≤ q → A q
def PI (cc : ByteArray) (own : String) (nL : Nat) (Z : xZ) (pc : Nat) (L : List (Nat × Value)) (S : List Value) (ws : (Nat → ClassId) → va_W) (k n : Nat) : Prop := iOK cc own nL Z → match Z with
  | (p, l, e, R, s, m, args, below, meth, c, Q, D, cA, A) => ∀ (H : Heap) (locs : List Loc) (ls : Array Slot), va_P D vwCl (ws cA) H → va_D A (ws cA) → va_S A s.heap H locs → lv_has ls nL L → W p l e R s m args below meth c H locs k n Q (F0 m pc ls S)
def iRm (Z : xZ) (fr lo mc ms : Nat) : Prop := match Z with
  | (_, _, _, R, _, _, _, _, _, _, _, _, _, _) => R.frames = fr ∧ R.locals = lo ∧ R.cells = mc ∧ R.slots = ms
def iIn (Z : xZ) : Prop := match Z with
  | (_, _, _, _, _, _, _, _, meth, _, _, _, _, _) => meth.name = "<init>"
section PIR
variable {cc : ByteArray} {own : String} {nL : Nat} {Z : xZ} {pc : Nat} {L : List (Nat × Value)} {S : List Value} {ws : (Nat → ClassId) → va_W} {k n fr lo mc ms : Nat}
theorem PI.world {ws2 : (Nat → ClassId) → va_W} (h : ∀ cA, ws cA = ws2 cA) (kk : PI cc own nL Z pc L S ws2 k n) : PI cc own nL Z pc L S ws k n := by
  rw [show ws = ws2 from funext h]; exact kk
theorem PI.perm {ws2 : (Nat → ClassId) → va_W} (is : List Nat) (hn : va_nd is = true) (h : ∀ cA, is.map (fun i => (ws cA)[i]?) = (ws2 cA).map some) (kk : PI cc own nL Z pc L S ws2 k n) : PI cc own nL Z pc L S ws k n := by
  obtain ⟨p, l, e, R, s, m, args, below, meth, c, Q, D, cA, A⟩ := Z
  intro hok H locs ls hP hD hS hl
  refine kk hok H locs ls (hP.sub is ?_) (hD.sub is hn (h cA)) hS hl
  have h1 := h cA
  have h2 : is.filterMap (fun i => (ws cA)[i]?) = (is.map (fun i => (ws cA)[i]?)).filterMap id := by rw [List.filterMap_map]; rfl
  rw [h2, h1, List.filterMap_map]
  exact List.filterMap_some
theorem PI.num {k2 n2 : Nat} (h1 : k = k2) (h2 : n = n2) (kk : PI cc own nL Z pc L S ws k2 n2) : PI cc own nL Z pc L S ws k n := by
  subst h1; subst h2; exact kk
theorem PI.aload_0 {a : Nat} {L' : List (Nat × Value)} (d : decode cc pc = .ok (.aload_n 0, 1)) (kk : PI cc own nL Z (pc + 1) ((0, .ref a) :: L') (.ref a :: S) ws k n) : PI cc own nL Z pc ((0, .ref a) :: L') S ws k n := by
  obtain ⟨p, l, e, R, s, m, args, below, meth, c, Q, D, cA, A⟩ := Z
  intro hok H locs ls hP hD hS hl
  exact lv_aload_n hok.1 hok.2.1 d rfl (lv_at hl 0 rfl) (kk hok H locs ls hP hD hS hl)
theorem PI.dup {v : Value} (d : decode cc pc = .ok (.dup, 1)) (hv : v.category = 1) (kk : PI cc own nL Z (pc + 1) L (v :: v :: S) ws k n) : PI cc own nL Z pc L (v :: S) ws k n := by
  obtain ⟨p, l, e, R, s, m, args, below, meth, c, Q, D, cA, A⟩ := Z
  intro hok H locs ls hP hD hS hl
  exact lv_dup hok.1 hok.2.1 d hv (kk hok H locs ls hP hD hS hl)
theorem PI.iconst {z : Int} {v : Int32} (d : decode cc pc = .ok (.iconst z, 1)) (hv : Int32.ofInt z = v) (kk : PI cc own nL Z (pc + 1) L (.int v :: S) ws k n) : PI cc own nL Z pc L S ws k n := by
  obtain ⟨p, l, e, R, s, m, args, below, meth, c, Q, D, cA, A⟩ := Z
  intro hok H locs ls hP hD hS hl
  exact lv_iconst hok.1 hok.2.1 d hv (kk hok H locs ls hP hD hS hl)
theorem PI.bipush {z : Int} {v : Int32} (d : decode cc pc = .ok (.bipush z, 2)) (hv : (Int8.ofInt z).toInt32 = v) (kk : PI cc own nL Z (pc + 2) L (.int v :: S) ws k n) : PI cc own nL Z pc L S ws k n := by
  obtain ⟨p, l, e, R, s, m, args, below, meth, c, Q, D, cA, A⟩ := Z
  intro hok H locs ls hP hD hS hl
  exact lv_bipush hok.1 hok.2.1 d hv (kk hok H locs ls hP hD hS hl)
theorem PI.sipush {z : Int} {v : Int32} (d : decode cc pc = .ok (.sipush z, 3)) (hv : (Int16.ofInt z).toInt32 = v) (kk : PI cc own nL Z (pc + 3) L (.int v :: S) ws k n) : PI cc own nL Z pc L S ws k n := by
  obtain ⟨p, l, e, R, s, m, args, below, meth, c, Q, D, cA, A⟩ := Z
  intro hok H locs ls hP hD hS hl
  exact lv_sipush hok.1 hok.2.1 d hv (kk hok H locs ls hP hD hS hl)
theorem PI.lconst {z : Fin 2} {v : Int64} (d : decode cc pc = .ok (.lconst z, 1)) (hv : Int64.ofNat (z : Nat) = v) (kk : PI cc own nL Z (pc + 1) L (.long v :: S) ws k n) : PI cc own nL Z pc L S ws k n := by
  obtain ⟨p, l, e, R, s, m, args, below, meth, c, Q, D, cA, A⟩ := Z
  intro hok H locs ls hP hD hS hl
  exact lv_lconst hok.1 hok.2.1 d hv (kk hok H locs ls hP hD hS hl)
theorem PI.objInit {idx a : Nat} (hR : iRm Z fr lo mc ms) (hf : 1 ≤ fr) (hlo : 20 ≤ lo) (hw : ∀ w ∈ ([.methodLink own idx Lib.objectInit, .instanceMethod Lib.objectInit, .code Lib.objectInit ⟨#[0xb1]⟩ 1 none] : List Cond), w ∈ xTb) (d : decode cc pc = .ok (.invokespecial idx, 3)) (hcat : (S.map fun v => v.category).sum ≤ 8) (kk : PI cc own nL Z (pc + 3) L S ws k n) : PI cc own nL Z pc L (.ref a :: S) ws k n := by
  obtain ⟨p, l, e, R, s, m, args, below, meth, c, Q, D, cA, A⟩ := Z
  intro hok H locs ls hP hD hS hl
  obtain ⟨hR1, hR2, -, -⟩ := hR
  have hts := hok.2.2.2.2.1.1
  refine W.objInit hok.1 hok.2.1 hok.2.2.2.1 (hts _ (hw _ (by simp))) (hts _ (hw _ (by simp))) (hts _ (hw _ (by simp))) rfl (by rw [hok.2.2.1]; exact hl.1) rfl d (by rw [hR1]; exact hf) ?_ (kk hok H locs ls hP hD hS hl)
  rw [hR2]
  show 2 * 0 + _ + 12 ≤ lo
  omega
theorem PI.new {ci N idx : Nat} {C : String} {T : u_T} {fs : List Value} (hR : iRm Z fr lo mc ms) (hc : vwCl[ci]? = some (C, T, N)) (hin : ∀ w ∈ u_ws C T N, w ∈ xTb) (ty : Nat → FieldType) (hty : ∀ k, k < N → parseFieldDescriptor (T k).2.2.1 = some (ty k)) (hw : ∀ w ∈ ([.classLink own idx C, .instantiable C N, .initialized C] : List Cond), w ∈ xTb) (hfs : ∀ j, j < N → defaultValue (ty j) = vp_V fs j) (hk : k + 1 ≤ mc) (hn : n + N ≤ ms) (d : decode cc pc = .ok (.new idx, 3))
    (kk : ∀ q, PI cc own nL Z (pc + 3) L (.ref q :: S) (fun cA => ws cA ++ [(q, .inr (ci, fs))]) (k + 1) (n + N)) : PI cc own nL Z pc L S ws k n := by
  obtain ⟨p, l, e, R, s, m, args, below, meth, c, Q, D, cA, A⟩ := Z
  intro hok H locs ls hP hD hS hl
  obtain ⟨-, -, hR3, hR4⟩ := hR
  have hts := hok.2.2.2.2.1.1
  exact va_new hok.1 hok.2.1 hts hin ty hty hok.2.2.2.1 (hts _ (hw _ (by simp))) (hts _ (hw _ (by simp))) (hts _ (hw _ (by simp))) hok.2.2.2.2.2.1 hP hD hS hok.2.2.2.2.2.2 hc hfs (by rw [hR3]; exact hk) (by rw [hR4]; exact hn) d (fun q H1 hP1 hD1 hS1 => kk q hok H1 locs ls hP1 hD1 hS1 hl)
theorem PI.newi {N : Nat} {v : Int32} (hR : iRm Z fr lo mc ms) (hw : (Cond.arrayClass .int) ∈ xTb) (hv : v = nI N) (hN : N < 2 ^ 20) (hk : k + 1 ≤ mc) (hn : n + N ≤ ms) (d : decode cc pc = .ok (.newarray .int, 2))
    (kk : ∀ q, PI cc own nL Z (pc + 2) L (.ref q :: S) (fun cA => ws cA ++ [(q, .inl (cA 0, N, .inl (fun _ => 0)))]) (k + 1) (n + N)) : PI cc own nL Z pc L (.int v :: S) ws k n := by
  obtain ⟨p, l, e, R, s, m, args, below, meth, c, Q, D, cA, A⟩ := Z
  intro hok H locs ls hP hD hS hl
  obtain ⟨-, -, hR3, hR4⟩ := hR
  have hts := hok.2.2.2.2.1.1
  have hK := hok.2.2.2.2.2.1
  subst hv
  refine va_newa (atype := .int) (ty := .int) (a0 := (N, .inl (fun _ => 0))) hok.1 hok.2.1 (hts _ hw) rfl hK hP hD hS hok.2.2.2.2.2.2 (fun cA => rfl) (nI_pos (by omega)) (nI_clamp (by omega)) (by show N * 4 ≤ _; omega) (by rw [hR3]; exact hk) (by rw [hR4]; exact hn) d (fun q cA2 H1 hK1 hP1 hD1 hS1 => ?_)
  have e1 := (hK1.2 2 (cA2, .int) rfl).2
  have e2 := (hK.2 0 (cA 0, .int) rfl).2
  have e3 : cA2 = cA 0 := Option.some.inj (e1.symm.trans e2)
  subst e3
  exact kk q hok H1 locs ls hP1 hD1 hS1 hl
theorem PI.newz {N : Nat} {v : Int32} (hR : iRm Z fr lo mc ms) (hw : (Cond.arrayClass .boolean) ∈ xTb) (hv : v = nI N) (hN : N < 2 ^ 20) (hk : k + 1 ≤ mc) (hn : n + N ≤ ms) (d : decode cc pc = .ok (.newarray .boolean, 2))
    (kk : ∀ q, PI cc own nL Z (pc + 2) L (.ref q :: S) (fun cA => ws cA ++ [(q, .inl (cA 1, N, .inl (fun _ => 0)))]) (k + 1) (n + N)) : PI cc own nL Z pc L (.int v :: S) ws k n := by
  obtain ⟨p, l, e, R, s, m, args, below, meth, c, Q, D, cA, A⟩ := Z
  intro hok H locs ls hP hD hS hl
  obtain ⟨-, -, hR3, hR4⟩ := hR
  have hts := hok.2.2.2.2.1.1
  have hK := hok.2.2.2.2.2.1
  subst hv
  refine va_newa (atype := .boolean) (ty := .boolean) (a0 := (N, .inl (fun _ => 0))) hok.1 hok.2.1 (hts _ hw) rfl hK hP hD hS hok.2.2.2.2.2.2 (fun cA => rfl) (nI_pos (by omega)) (nI_clamp (by omega)) (by show N * 1 ≤ _; omega) (by rw [hR3]; exact hk) (by rw [hR4]; exact hn) d (fun q cA2 H1 hK1 hP1 hD1 hS1 => ?_)
  have e1 := (hK1.2 2 (cA2, .boolean) rfl).2
  have e2 := (hK.2 1 (cA 1, .boolean) rfl).2
  have e3 : cA2 = cA 1 := Option.some.inj (e1.symm.trans e2)
  subst e3
  exact kk q hok H1 locs ls hP1 hD1 hS1 hl
theorem PI.getf {ci j N idx a i : Nat} {C : String} {T : u_T} {fs : List Value} {v : Value} (he : ∀ cA, (ws cA)[i]? = some (a, .inr (ci, fs))) (hc : vwCl[ci]? = some (C, T, N)) (hj : j < N) (hv : fs[j]? = some v) (hin : ∀ w ∈ u_ws C T N, w ∈ xTb) (hlink : Cond.fieldLink own idx (T j).1 (T j).2.1 (T j).2.2.1 ∈ xTb) (d : decode cc pc = .ok (.getfield idx, 3)) (kk : PI cc own nL Z (pc + 3) L (v :: S) ws k n) : PI cc own nL Z pc L (.ref a :: S) ws k n := by
  obtain ⟨p, l, e, R, s, m, args, below, meth, c, Q, D, cA, A⟩ := Z
  intro hok H locs ls hP hD hS hl
  have hts := hok.2.2.2.2.1.1
  exact va_get (v := v) hok.1 hok.2.1 hts hin hok.2.2.2.1 hok.2.2.2.2.2.1 hP i (he cA) hc j hj (hts _ hlink) (fun _ h => h) hv d (kk hok H locs ls hP hD hS hl)
theorem PI.putF {ci j N idx a i r : Nat} {C : String} {T : u_T} {fs : List Value} (hI : iIn Z) (he : ∀ cA, (ws cA)[i]? = some (a, .inr (ci, fs))) (hc : vwCl[ci]? = some (C, T, N)) (hj : j < N) (hin : ∀ w ∈ u_ws C T N, w ∈ xTb) (ty0 : Nat → FieldType) (hty : ∀ k, k < N → parseFieldDescriptor (T k).2.2.1 = some (ty0 k)) (hnm : ∀ a, a < N → ∀ b, b < N → a ≠ b → (T a).2.1 ≠ (T b).2.1) (hlink : Cond.fieldLink own idx (T j).1 (T j).2.1 (T j).2.2.1 ∈ xTb) (hfin : (T j).2.2.2 = true) (hdecl : (T j).1 = own) {ty : FieldType} (hd : parseFieldDescriptor (T j).2.2.1 = some ty) (hn2 : narrow ty (.ref r) = .ref r) (hfit : fits ty (.ref r) = true) (hl2 : j < fs.length) (d : decode cc pc = .ok (.putfield idx, 3))
    (kk : PI cc own nL Z (pc + 3) L S (fun cA => (ws cA).set i (a, .inr (ci, fs.set j (.ref r)))) k n) : PI cc own nL Z pc L (.ref r :: .ref a :: S) ws k n := by
  obtain ⟨p, l, e, R, s, m, args, below, meth, c, Q, D, cA, A⟩ := Z
  intro hok H locs ls hP hD hS hl
  have hts := hok.2.2.2.2.1.1
  exact va_putF (v := .ref r) (ty := ty) hok.1 hok.2.1 hts hin ty0 hty hnm hok.2.2.2.1 hok.2.2.2.2.2.1 hP hD hS i (he cA) hc j hj (hts _ hlink) (fun _ h => h) hfin hI hdecl hd hn2 hfit hl2 d (fun H1 locs1 hP1 hD1 hS1 => kk hok H1 locs1 ls hP1 hD1 hS1 hl)
theorem PI.put {ci j N idx a i : Nat} {C : String} {T : u_T} {fs : List Value} {v : Value} (he : ∀ cA, (ws cA)[i]? = some (a, .inr (ci, fs))) (hc : vwCl[ci]? = some (C, T, N)) (hj : j < N) (hin : ∀ w ∈ u_ws C T N, w ∈ xTb) (ty0 : Nat → FieldType) (hty : ∀ k, k < N → parseFieldDescriptor (T k).2.2.1 = some (ty0 k)) (hnm : ∀ a, a < N → ∀ b, b < N → a ≠ b → (T a).2.1 ≠ (T b).2.1) (hlink : Cond.fieldLink own idx (T j).1 (T j).2.1 (T j).2.2.1 ∈ xTb) (hfin : (T j).2.2.2 = false) {ty : FieldType} (hd : parseFieldDescriptor (T j).2.2.1 = some ty) (hn2 : narrow ty v = v) (hfit : fits ty v = true) (hl2 : j < fs.length) (d : decode cc pc = .ok (.putfield idx, 3))
    (kk : PI cc own nL Z (pc + 3) L S (fun cA => (ws cA).set i (a, .inr (ci, fs.set j v))) k n) : PI cc own nL Z pc L (v :: .ref a :: S) ws k n := by
  obtain ⟨p, l, e, R, s, m, args, below, meth, c, Q, D, cA, A⟩ := Z
  intro hok H locs ls hP hD hS hl
  have hts := hok.2.2.2.2.1.1
  exact va_put (v := v) (ty := ty) hok.1 hok.2.1 hts hin ty0 hty hnm hok.2.2.2.1 hok.2.2.2.2.2.1 hP hD hS i (he cA) hc j hj (hts _ hlink) (fun _ h => h) hfin hd hn2 hfit hl2 d (fun H1 locs1 hP1 hD1 hS1 => kk hok H1 locs1 ls hP1 hD1 hS1 hl)
theorem PI.iast {a i N z : Nat} {v x : Int32} {f : Nat → Int32} (he : ∀ cA, (ws cA)[i]? = some (a, .inl (cA 0, N, .inl f))) (hv : v = nI z) (hz : z < N) (hN : N < 2 ^ 31) (d : decode cc pc = .ok (.iastore, 1))
    (kk : PI cc own nL Z (pc + 1) L S (fun cA => (ws cA).set i (a, .inl (cA 0, N, .inl (upd f z x)))) k n) : PI cc own nL Z pc L (.int x :: .int v :: .ref a :: S) ws k n := by
  obtain ⟨p, l, e, R, s, m, args, below, meth, c, Q, D, cA, A⟩ := Z
  intro hok H locs ls hP hD hS hl
  subst hv
  refine va_iast hok.1 hok.2.1 hok.2.2.2.2.2.1 hP hD hS i 0 (he cA) rfl (vp_in_nI hz hN) d (fun H1 locs1 hP1 hD1 hS1 => ?_)
  rw [nI_clamp (Nat.lt_trans hz hN)] at hP1 hD1
  exact kk hok H1 locs1 ls hP1 hD1 hS1 hl
end PIR
/-- a constructor's contract, from a world to a world with new cells -/
def iMet (y : MethodName) (cy : ByteArray) (nl : Nat) (fr lo mc ms : Nat) (As : List Value) (wi : (Nat → ClassId) → va_W) (wo : (Nat → Nat) → (Nat → ClassId) → va_W) : Prop :=
  ∀ (l : Launch) (D : va_G) (cA : Nat → ClassId) (sz : Nat), Met l y (xU y cy nl none) { frames := fr, cells := mc, slots := ms, locals := lo }
    (va_Pc As (fun U => U.heap.size = sz ∧ va_P D vwCl (wi cA) U.heap ∧ va_K D vwCl (xtys cA) U ∧ va_D (fun _ => True) (wi cA) ∧ xNsi U))
    (va_Qv (fun _ : Nat → Nat => True) (fun u t => va_P D vwCl (wo u cA) t.heap ∧ va_D (va_A (wi cA) sz) (wo u cA)) (va_A (wi cA) sz)) mc ms (va_A (wi cA) sz)
def iHas (Z : xZ) (fr lo mc ms : Nat) (wi : (Nat → ClassId) → va_W) (wo : (Nat → Nat) → (Nat → ClassId) → va_W) : Prop := match Z with
  | (_, _, _, R, s, _, args, below, meth, _, Q, D, cA, A) => R = { frames := fr, cells := mc, slots := ms, locals := lo } ∧ meth.sig.returnType = none ∧ meth.locks = false ∧ A = va_A (wi cA) s.heap.size ∧ Q = MQ below (va_Qv (fun _ : Nat → Nat => True) (fun u t => va_P D vwCl (wo u cA) t.heap ∧ va_D A (wo u cA)) A) args s mc ms A
theorem iHas.rm {Z : xZ} {fr lo mc ms : Nat} {wi : (Nat → ClassId) → va_W} {wo : (Nat → Nat) → (Nat → ClassId) → va_W} (h : iHas Z fr lo mc ms wi wo) : iRm Z fr lo mc ms := by
  obtain ⟨p, l, e, R, s, m, args, below, meth, c, Q, D, cA, A⟩ := Z
  obtain ⟨rfl, -⟩ := h
  exact ⟨rfl, rfl, rfl, rfl⟩
set_option maxHeartbeats 4000000 in
theorem iMet.of {y : MethodName} {cy : ByteArray} {nl : Nat} {fr lo mc ms : Nat} {As : List Value} {wi : (Nat → ClassId) → va_W} {wo : (Nat → Nat) → (Nat → ClassId) → va_W} {own : String} {L0 : List (Nat × Value)} (hown : y.cls = own) (hpl : plainName y.cls = true) (hlen : (lg_sl As).length ≤ nl) (hL : lv_args 0 As = L0)
    (body : ∀ Z : xZ, iHas Z fr lo mc ms wi wo → (y.name = "<init>" → iIn Z) → PI cy own nl Z 0 L0 [] wi 0 0) : iMet y cy nl fr lo mc ms As wi wo := by
  intro l D cA sz
  refine Met.ofW (cc := cy) (maxL := nl) (ret := none) hpl rfl ?_
  intro p e s m args below meth c s₁ B hml hv
  obtain ⟨rfl, hsz, hP, hK, hD0, hN⟩ := hv
  have hts := atoms_spec (ws := xU y cy nl none) B.pre
  have hown2 : s.vm.findClass own = some m.cls := by rw [← hown]; exact findClass_of_methodNamed B.named
  subst hsz
  have hD := hD0.self (sz := s.heap.size)
  have h := body (p, l, e, { frames := fr, cells := mc, slots := ms, locals := lo }, s, m, As.toArray, below, meth, c, MQ below (va_Qv (fun _ : Nat → Nat => True) (fun u t => va_P D vwCl (wo u cA) t.heap ∧ va_D (va_A (wi cA) s.heap.size) (wo u cA)) (va_A (wi cA) s.heap.size)) As.toArray s mc ms (va_A (wi cA) s.heap.size), D, cA, va_A (wi cA) s.heap.size)
    ⟨rfl, B.returns, B.notSynchronized, rfl, rfl⟩ (fun hy => (name_of_methodNamed B.named B.method).1.trans hy)
    ⟨B.exec, B.bytes, hml, hown2, ⟨fun w hw => hts w (List.mem_cons_of_mem _ hw), hN⟩, hK, fun q hq => Or.inr hq⟩
  have hl := lv_entry As (n := nl) hlen
  rw [lg_entry_eq]
  subst hL
  exact h s.heap [] _ hP hD va_S.rf hl
section PIC
variable {cc : ByteArray} {own : String} {nL : Nat} {Z : xZ} {pc : Nat} {L : List (Nat × Value)} {S : List Value} {ws : (Nat → ClassId) → va_W} {k n fr lo mc ms : Nat}
theorem PI.vret {wi : (Nat → ClassId) → va_W} {wo : (Nat → Nat) → (Nat → ClassId) → va_W} (hY : iHas Z fr lo mc ms wi wo) (u : Nat → Nat) (hw : ∀ cA, ws cA = wo u cA) (hk : k = mc) (hn : n = ms) (d : decode cc pc = .ok (.return_, 1)) : PI cc own nL Z pc L [] ws k n := by
  obtain ⟨p, l, e, R, s, m, args, below, meth, c, Q, D, cA, A⟩ := Z
  intro hok H locs ls hP hD hS hl
  obtain ⟨rfl, hr, hlocks, rfl, rfl⟩ := hY
  subst hk; subst hn
  rw [hw cA] at hP hD
  exact W.vret hok.1 hok.2.1 hr (fun t ht hW => ⟨⟨u, rfl, trivial, by rw [ht]; exact hP, hD⟩, hS.F ht⟩) hS.2.2 d hlocks
variable {y : MethodName} {cy : ByteArray} {nl fr2 lo2 mc2 ms2 idx : Nat} {As : List Value} {wc : (Nat → ClassId) → va_W} {wo : (Nat → Nat) → (Nat → ClassId) → va_W}
set_option maxHeartbeats 4000000 in
/-- a constructor's call: the callee's cells by places isC, the others isR -/
theorem PI.callI {b : Nat} (wr : (Nat → ClassId) → va_W) (isC isR : List Nat) (hR : iRm Z fr lo mc ms) (hM : iMet y cy nl fr2 lo2 mc2 ms2 (.ref b :: As) wc wo) (hroom : fr2 + 1 ≤ fr ∧ 8 + (nl + 11) + lo2 ≤ lo ∧ k + mc2 ≤ mc ∧ n + ms2 ≤ ms) (hy1 : y.name = "<init>")
    (hw : ∀ w ∈ ([.methodLink own idx y, .instanceMethod y, .initialized y.cls, .code y cy nl none] : List Cond), w ∈ xTb) (hd : y.cls ≠ "java/lang/invoke/MethodHandle" ∧ y.cls ≠ "java/lang/invoke/VarHandle" ∧ (parseMethodDescriptor y.desc).map (fun d => d.parameters.length) = some As.length)
    (hC : ∀ cA, isC.map (fun i => (ws cA)[i]?) = (wc cA).map some) (hRr : ∀ cA, isR.map (fun i => (ws cA)[i]?) = (wr cA).map some) (hnC : va_nd isC = true) (hnR : va_nd isR = true) (hdis : ∀ i ∈ isR, i ∉ isC) (d : decode cc pc = .ok (.invokespecial idx, 3)) {S' : List Value} (hst : S = As.reverse ++ .ref b :: S') (hcat : (S'.map fun v => v.category).sum ≤ 8)
    (kk : ∀ u, PI cc own nL Z (pc + 3) L S' (fun cA => wr cA ++ wo u cA) (k + mc2) (n + ms2)) : PI cc own nL Z pc L S ws k n := by
  obtain ⟨p, l, e, R, s, m, args, below, meth, c, Q, D, cA, A⟩ := Z
  intro hok H locs ls hP hD hS hl
  subst hst
  obtain ⟨hR1, hR2, hR3, hR4⟩ := hR
  have hK := hok.2.2.2.2.2.1
  have hts := hok.2.2.2.2.1.1
  have hPc : va_P D vwCl (wc cA) H := hP.sub isC (by
    have h2 : isC.filterMap (fun i => (ws cA)[i]?) = (isC.map (fun i => (ws cA)[i]?)).filterMap id := by rw [List.filterMap_map]; rfl
    rw [h2, hC cA, List.filterMap_map]; exact List.filterMap_some)
  have hDc : va_D A (wc cA) := hD.sub isC hnC (hC cA)
  have hFc := va_free (wc := wc cA) hD hS hok.2.2.2.2.2.2 isC (hC cA)
  refine va_callv (va_runI (As := As) (rest := S') (Ts := xTb) ⟨hok.1, hok.2.1, hok.2.2.1, hok.2.2.2.1, hts⟩ (hM l D cA H.size) (cwI (ws := xU y cy nl none) (ws' := xTb) As.length hts (x_goodC (hw _ (by simp))) rfl rfl rfl (hts _ (hw _ (by simp))) (hts _ (hw _ (by simp))) (hts _ (hw _ (by simp))) hy1 hd ⟨by rw [hR1]; exact hroom.1, by rw [hR2]; exact hroom.2.1⟩)
    ⟨fun a U g mk q => by obtain ⟨q0, q1, qP, qK, qD, qN⟩ := q; exact ⟨q0, q1, qP, va_K.moved (u := U) (U := U.calling g mk a) (Vm.Alike.refl U.vm) qK, qD, fun w hw => va_Nw.same rfl (rfl : U.vm = (U.calling g mk a).vm) (qN w hw)⟩, fun U hU hW => ⟨rfl, by rw [hU], by rw [hU]; exact hPc, va_K.moved hW.alike hK, hDc.weaken (fun _ _ _ _ => trivial), fun w hw => va_Nw.warmM hW (hok.2.2.2.2.1.2 w hw)⟩⟩
    rfl rfl hl.1 rfl (by show 2 * 0 + _ ≤ 8; omega) d ⟨by rw [hR3]; exact hroom.2.2.1, by rw [hR4]; exact hroom.2.2.2⟩) hS (fun q _ h => hFc q h) hFc (fun u t H1 locs1 ht hvm hp hB hz1 hk1 hS1 => ?_)
  obtain ⟨hP1, hD1⟩ := hB
  rw [ht] at hP1
  obtain ⟨hP2, hD2⟩ := va_join (wr := wr cA) (w1 := wo u cA) hP hD isC isR (hC cA) (hRr cA) hnR hdis hk1 hFc hP1 hD1
  exact kk u hok H1 locs1 ls hP2 hD2 hS1 hl
set_option maxHeartbeats 4000000 in
theorem PI.callIN {b : Nat} {host : String} (wr : (Nat → ClassId) → va_W) (isC isR : List Nat) (hR : iRm Z fr lo mc ms) (hM : iMet y cy nl fr2 lo2 mc2 ms2 (.ref b :: As) wc wo) (hroom : fr2 + 1 ≤ fr ∧ 8 + (nl + 11) + lo2 ≤ lo ∧ k + mc2 ≤ mc ∧ n + ms2 ≤ ms) (hy1 : y.name = "<init>") (hnest : (own, idx, y, host) ∈ xNi)
    (hw : ∀ w ∈ ([.instanceMethod y, .initialized y.cls, .code y cy nl none] : List Cond), w ∈ xTb) (hd : y.cls ≠ "java/lang/invoke/MethodHandle" ∧ y.cls ≠ "java/lang/invoke/VarHandle" ∧ (parseMethodDescriptor y.desc).map (fun d => d.parameters.length) = some As.length)
    (hC : ∀ cA, isC.map (fun i => (ws cA)[i]?) = (wc cA).map some) (hRr : ∀ cA, isR.map (fun i => (ws cA)[i]?) = (wr cA).map some) (hnC : va_nd isC = true) (hnR : va_nd isR = true) (hdis : ∀ i ∈ isR, i ∉ isC) (d : decode cc pc = .ok (.invokespecial idx, 3)) {S' : List Value} (hst : S = As.reverse ++ .ref b :: S') (hcat : (S'.map fun v => v.category).sum ≤ 8)
    (kk : ∀ u, PI cc own nL Z (pc + 3) L S' (fun cA => wr cA ++ wo u cA) (k + mc2) (n + ms2)) : PI cc own nL Z pc L S ws k n := by
  obtain ⟨p, l, e, R, s, m, args, below, meth, c, Q, D, cA, A⟩ := Z
  intro hok H locs ls hP hD hS hl
  subst hst
  obtain ⟨hR1, hR2, hR3, hR4⟩ := hR
  have hK := hok.2.2.2.2.2.1
  have hts := hok.2.2.2.2.1.1
  have hPc : va_P D vwCl (wc cA) H := hP.sub isC (by
    have h2 : isC.filterMap (fun i => (ws cA)[i]?) = (isC.map (fun i => (ws cA)[i]?)).filterMap id := by rw [List.filterMap_map]; rfl
    rw [h2, hC cA, List.filterMap_map]; exact List.filterMap_some)
  have hDc : va_D A (wc cA) := hD.sub isC hnC (hC cA)
  have hFc := va_free (wc := wc cA) hD hS hok.2.2.2.2.2.2 isC (hC cA)
  refine va_callv (va_runIN (As := As) (rest := S') (Ts := xTb) ⟨hok.1, hok.2.1, hok.2.2.1, hok.2.2.2.1, hts⟩ (hM l D cA H.size) ⟨va_cnB (ws := xU y cy nl none) (ws' := xTb) (host := host) As.length hts (x_goodC (hw _ (by simp))) rfl rfl rfl (hok.2.2.2.2.1.2 _ hnest) (hts _ (hw _ (by simp))) hd ⟨by rw [hR1]; exact hroom.1, by rw [hR2]; exact hroom.2.1⟩, hy1, hts _ (hw _ (by simp))⟩
    ⟨fun a U g mk q => by obtain ⟨q0, q1, qP, qK, qD, qN⟩ := q; exact ⟨q0, q1, qP, va_K.moved (u := U) (U := U.calling g mk a) (Vm.Alike.refl U.vm) qK, qD, fun w hw => va_Nw.same rfl (rfl : U.vm = (U.calling g mk a).vm) (qN w hw)⟩, fun U hU hW => ⟨rfl, by rw [hU], by rw [hU]; exact hPc, va_K.moved hW.alike hK, hDc.weaken (fun _ _ _ _ => trivial), fun w hw => va_Nw.warmM hW (hok.2.2.2.2.1.2 w hw)⟩⟩
    rfl rfl hl.1 rfl (by show 2 * 0 + _ ≤ 8; omega) d ⟨by rw [hR3]; exact hroom.2.2.1, by rw [hR4]; exact hroom.2.2.2⟩) hS (fun q _ h => hFc q h) hFc (fun u t H1 locs1 ht hvm hp hB hz1 hk1 hS1 => ?_)
  obtain ⟨hP1, hD1⟩ := hB
  rw [ht] at hP1
  obtain ⟨hP2, hD2⟩ := va_join (wr := wr cA) (w1 := wo u cA) hP hD isC isR (hC cA) (hRr cA) hnR hdis hk1 hFc hP1 hD1
  exact kk u hok H1 locs1 ls hP2 hD2 hS1 hl
set_option maxHeartbeats 4000000 in
theorem PI.callS (wr : (Nat → ClassId) → va_W) (isC isR : List Nat) (hR : iRm Z fr lo mc ms) (hM : iMet y cy nl fr2 lo2 mc2 ms2 As wc wo) (hroom : fr2 + 1 ≤ fr ∧ 8 + (nl + 11) + lo2 ≤ lo ∧ k + mc2 ≤ mc ∧ n + ms2 ≤ ms)
    (hw : ∀ w ∈ ([.methodLink own idx y, .static y, .initialized y.cls, .code y cy nl none] : List Cond), w ∈ xTb) (hd : y.cls ≠ "java/lang/invoke/MethodHandle" ∧ y.cls ≠ "java/lang/invoke/VarHandle" ∧ (parseMethodDescriptor y.desc).map (fun d => d.parameters.length) = some As.length)
    (hC : ∀ cA, isC.map (fun i => (ws cA)[i]?) = (wc cA).map some) (hRr : ∀ cA, isR.map (fun i => (ws cA)[i]?) = (wr cA).map some) (hnC : va_nd isC = true) (hnR : va_nd isR = true) (hdis : ∀ i ∈ isR, i ∉ isC) (d : decode cc pc = .ok (.invokestatic idx, 3)) {S' : List Value} (hst : S = As.reverse ++ S') (hcat : (S'.map fun v => v.category).sum ≤ 8)
    (kk : ∀ u, PI cc own nL Z (pc + 3) L S' (fun cA => wr cA ++ wo u cA) (k + mc2) (n + ms2)) : PI cc own nL Z pc L S ws k n := by
  obtain ⟨p, l, e, R, s, m, args, below, meth, c, Q, D, cA, A⟩ := Z
  intro hok H locs ls hP hD hS hl
  subst hst
  obtain ⟨hR1, hR2, hR3, hR4⟩ := hR
  have hK := hok.2.2.2.2.2.1
  have hts := hok.2.2.2.2.1.1
  have hPc : va_P D vwCl (wc cA) H := hP.sub isC (by
    have h2 : isC.filterMap (fun i => (ws cA)[i]?) = (isC.map (fun i => (ws cA)[i]?)).filterMap id := by rw [List.filterMap_map]; rfl
    rw [h2, hC cA, List.filterMap_map]; exact List.filterMap_some)
  have hDc : va_D A (wc cA) := hD.sub isC hnC (hC cA)
  have hFc := va_free (wc := wc cA) hD hS hok.2.2.2.2.2.2 isC (hC cA)
  refine va_callv (va_runS (As := As) (rest := S') (Ts := xTb) ⟨hok.1, hok.2.1, hok.2.2.1, hok.2.2.2.1, hts⟩ (hM l D cA H.size) ⟨callB_of (ws := xU y cy nl none) (ws' := xTb) As.length hts (x_goodC (hw _ (by simp))) rfl rfl rfl (hts _ (hw _ (by simp))) (hts _ (hw _ (by simp))) hd ⟨by rw [hR1]; exact hroom.1, by rw [hR2]; exact hroom.2.1⟩, hts _ (hw _ (by simp))⟩
    ⟨fun a U g mk q => by obtain ⟨q0, q1, qP, qK, qD, qN⟩ := q; exact ⟨q0, q1, qP, va_K.moved (u := U) (U := U.calling g mk a) (Vm.Alike.refl U.vm) qK, qD, fun w hw => va_Nw.same rfl (rfl : U.vm = (U.calling g mk a).vm) (qN w hw)⟩, fun U hU hW => ⟨rfl, by rw [hU], by rw [hU]; exact hPc, va_K.moved hW.alike hK, hDc.weaken (fun _ _ _ _ => trivial), fun w hw => va_Nw.warmM hW (hok.2.2.2.2.1.2 w hw)⟩⟩
    rfl rfl hl.1 rfl (by show 2 * 0 + _ ≤ 8; omega) d ⟨by rw [hR3]; exact hroom.2.2.1, by rw [hR4]; exact hroom.2.2.2⟩) hS (fun q _ h => hFc q h) hFc (fun u t H1 locs1 ht hvm hp hB hz1 hk1 hS1 => ?_)
  obtain ⟨hP1, hD1⟩ := hB
  rw [ht] at hP1
  obtain ⟨hP2, hD2⟩ := va_join (wr := wr cA) (w1 := wo u cA) hP hD isC isR (hC cA) (hRr cA) hnR hdis hk1 hFc hP1 hD1
  exact kk u hok H1 locs1 ls hP2 hD2 hS1 hl
end PIC
