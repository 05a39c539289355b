section XR
variable {cc : ByteArray} {own : String} {nL : Nat} {Y : xY} {pc : Nat} {L : List (Nat × Value)} {S : List Value} {M : xM}
theorem PW.iload_n {k : Fin 4} {x : Int32} (d : decode cc pc = .ok (.iload_n k, 1)) (h : L.lookup k.val = some (.int x)) (kk : PW cc own nL Y (pc + 1) L (.int x :: S) M) : PW cc own nL Y pc L S M := by
  obtain ⟨p, l, e, R, s, m, args, below, meth, c, cells, slots, Q, D, cA, ad, A⟩ := Y
  intro hok H locs ls hP hS hl
  exact lv_iload_n hok.1 hok.2.1 d rfl (hl.2.2 _ _ h) (kk hok H locs ls hP hS hl)
theorem PW.iload {i : Nat} {x : Int32} (d : decode cc pc = .ok (.iload i, 2)) (h : L.lookup i = some (.int x)) (kk : PW cc own nL Y (pc + 2) L (.int x :: S) M) : PW cc own nL Y pc L S M := by
  obtain ⟨p, l, e, R, s, m, args, below, meth, c, cells, slots, Q, D, cA, ad, A⟩ := Y
  intro hok H locs ls hP hS hl
  exact lv_iload hok.1 hok.2.1 d (hl.2.2 _ _ h) (kk hok H locs ls hP hS hl)
theorem PW.lload_n {k : Fin 4} {x : Int64} (d : decode cc pc = .ok (.lload_n k, 1)) (h : L.lookup k.val = some (.long x)) (kk : PW cc own nL Y (pc + 1) L (.long x :: S) M) : PW cc own nL Y pc L S M := by
  obtain ⟨p, l, e, R, s, m, args, below, meth, c, cells, slots, Q, D, cA, ad, A⟩ := Y
  intro hok H locs ls hP hS hl
  exact lv_lload_n hok.1 hok.2.1 d rfl (hl.2.2 _ _ h) (kk hok H locs ls hP hS hl)
theorem PW.lload {i : Nat} {x : Int64} (d : decode cc pc = .ok (.lload i, 2)) (h : L.lookup i = some (.long x)) (kk : PW cc own nL Y (pc + 2) L (.long x :: S) M) : PW cc own nL Y pc L S M := by
  obtain ⟨p, l, e, R, s, m, args, below, meth, c, cells, slots, Q, D, cA, ad, A⟩ := Y
  intro hok H locs ls hP hS hl
  exact lv_lload hok.1 hok.2.1 d (hl.2.2 _ _ h) (kk hok H locs ls hP hS hl)
theorem PW.aload_n {k : Fin 4} {x : Nat} (d : decode cc pc = .ok (.aload_n k, 1)) (h : L.lookup k.val = some (.ref x)) (kk : PW cc own nL Y (pc + 1) L (.ref x :: S) M) : PW cc own nL Y pc L S M := by
  obtain ⟨p, l, e, R, s, m, args, below, meth, c, cells, slots, Q, D, cA, ad, A⟩ := Y
  intro hok H locs ls hP hS hl
  exact lv_aload_n hok.1 hok.2.1 d rfl (hl.2.2 _ _ h) (kk hok H locs ls hP hS hl)
theorem PW.aload {i : Nat} {x : Nat} (d : decode cc pc = .ok (.aload i, 2)) (h : L.lookup i = some (.ref x)) (kk : PW cc own nL Y (pc + 2) L (.ref x :: S) M) : PW cc own nL Y pc L S M := by
  obtain ⟨p, l, e, R, s, m, args, below, meth, c, cells, slots, Q, D, cA, ad, A⟩ := Y
  intro hok H locs ls hP hS hl
  exact lv_aload hok.1 hok.2.1 d (hl.2.2 _ _ h) (kk hok H locs ls hP hS hl)
theorem PW.istore_n {k : Fin 4} {i : Nat} {x : Int32} (d : decode cc pc = .ok (.istore_n k, 1)) (hi : k.val = i) (hn : i < nL) (hc : xcat1 L i = true) (kk : PW cc own nL Y (pc + 1) ((i, .int x) :: L) S M) : PW cc own nL Y pc L (.int x :: S) M := by
  obtain ⟨p, l, e, R, s, m, args, below, meth, c, cells, slots, Q, D, cA, ad, A⟩ := Y
  intro hok H locs ls hP hS hl
  exact lv_istore_n hok.1 hok.2.1 d hi (xlk_has hl) hn rfl (fun ls2 h2 => kk hok H locs ls2 hP hS (xlk_store1 hc h2))
theorem PW.istore {i : Nat} {x : Int32} (d : decode cc pc = .ok (.istore i, 2)) (hn : i < nL) (hc : xcat1 L i = true) (kk : PW cc own nL Y (pc + 2) ((i, .int x) :: L) S M) : PW cc own nL Y pc L (.int x :: S) M := by
  obtain ⟨p, l, e, R, s, m, args, below, meth, c, cells, slots, Q, D, cA, ad, A⟩ := Y
  intro hok H locs ls hP hS hl
  exact lv_istore hok.1 hok.2.1 d (xlk_has hl) hn rfl (fun ls2 h2 => kk hok H locs ls2 hP hS (xlk_store1 hc h2))
theorem PW.astore_n {k : Fin 4} {i : Nat} {x : Nat} (d : decode cc pc = .ok (.astore_n k, 1)) (hi : k.val = i) (hn : i < nL) (hc : xcat1 L i = true) (kk : PW cc own nL Y (pc + 1) ((i, .ref x) :: L) S M) : PW cc own nL Y pc L (.ref x :: S) M := by
  obtain ⟨p, l, e, R, s, m, args, below, meth, c, cells, slots, Q, D, cA, ad, A⟩ := Y
  intro hok H locs ls hP hS hl
  exact lv_astore_n hok.1 hok.2.1 d hi (xlk_has hl) hn rfl (fun ls2 h2 => kk hok H locs ls2 hP hS (xlk_store1 hc h2))
theorem PW.astore {i : Nat} {x : Nat} (d : decode cc pc = .ok (.astore i, 2)) (hn : i < nL) (hc : xcat1 L i = true) (kk : PW cc own nL Y (pc + 2) ((i, .ref x) :: L) S M) : PW cc own nL Y pc L (.ref x :: S) M := by
  obtain ⟨p, l, e, R, s, m, args, below, meth, c, cells, slots, Q, D, cA, ad, A⟩ := Y
  intro hok H locs ls hP hS hl
  exact lv_astore hok.1 hok.2.1 d (xlk_has hl) hn rfl (fun ls2 h2 => kk hok H locs ls2 hP hS (xlk_store1 hc h2))
theorem PW.lstore_n {k : Fin 4} {i : Nat} {x : Int64} (d : decode cc pc = .ok (.lstore_n k, 1)) (hi : k.val = i) (hn : i + 1 < nL) (hc : xcat1 L i = true) (ho : L.lookup (i + 1) = none) (kk : PW cc own nL Y (pc + 1) ((i, .long x) :: L) S M) : PW cc own nL Y pc L (.long x :: S) M := by
  obtain ⟨p, l, e, R, s, m, args, below, meth, c, cells, slots, Q, D, cA, ad, A⟩ := Y
  intro hok H locs ls hP hS hl
  exact lv_lstore_n hok.1 hok.2.1 d hi (xlk_has hl) hn rfl (fun ls2 h2 => kk hok H locs ls2 hP hS (xlk_store2 hc ho h2))
theorem PW.lstore {i : Nat} {x : Int64} (d : decode cc pc = .ok (.lstore i, 2)) (hn : i + 1 < nL) (hc : xcat1 L i = true) (ho : L.lookup (i + 1) = none) (kk : PW cc own nL Y (pc + 2) ((i, .long x) :: L) S M) : PW cc own nL Y pc L (.long x :: S) M := by
  obtain ⟨p, l, e, R, s, m, args, below, meth, c, cells, slots, Q, D, cA, ad, A⟩ := Y
  intro hok H locs ls hP hS hl
  exact lv_lstore hok.1 hok.2.1 d (xlk_has hl) hn rfl (fun ls2 h2 => kk hok H locs ls2 hP hS (xlk_store2 hc ho h2))
theorem PW.iinc {i : Nat} {n : Int} {x v : Int32} (d : decode cc pc = .ok (.iinc i n, 3)) (h : L.lookup i = some (.int x)) (hv : x + Int32.ofInt n = v) (hn : i < nL) (hc : xcat1 L i = true) (kk : PW cc own nL Y (pc + 3) ((i, .int v) :: L) S M) : PW cc own nL Y pc L S M := by
  obtain ⟨p, l, e, R, s, m, args, below, meth, c, cells, slots, Q, D, cA, ad, A⟩ := Y
  intro hok H locs ls hP hS hl
  obtain ⟨k, hk⟩ := List.getElem?_of_mem (xflat_mem (ad := ad) h)
  exact lv_iinc hok.1 hok.2.1 d (xlk_has hl) (k := k) (x := x) hk hv hn rfl (fun ls2 h2 => kk hok H locs ls2 hP hS (xlk_store1 (v := .int v) hc h2))
theorem PW.iconst {n : Int} {v : Int32} (d : decode cc pc = .ok (.iconst n, 1)) (hv : Int32.ofInt n = v) (kk : PW cc own nL Y (pc + 1) L (.int v :: S) M) : PW cc own nL Y pc L S M := by
  obtain ⟨p, l, e, R, s, m, args, below, meth, c, cells, slots, Q, D, cA, ad, A⟩ := Y
  intro hok H locs ls hP hS hl
  exact lv_iconst hok.1 hok.2.1 d hv (kk hok H locs ls hP hS hl)
theorem PW.bipush {n : Int} {v : Int32} (d : decode cc pc = .ok (.bipush n, 2)) (hv : (Int8.ofInt n).toInt32 = v) (kk : PW cc own nL Y (pc + 2) L (.int v :: S) M) : PW cc own nL Y pc L S M := by
  obtain ⟨p, l, e, R, s, m, args, below, meth, c, cells, slots, Q, D, cA, ad, A⟩ := Y
  intro hok H locs ls hP hS hl
  exact lv_bipush hok.1 hok.2.1 d hv (kk hok H locs ls hP hS hl)
theorem PW.sipush {n : Int} {v : Int32} (d : decode cc pc = .ok (.sipush n, 3)) (hv : (Int16.ofInt n).toInt32 = v) (kk : PW cc own nL Y (pc + 3) L (.int v :: S) M) : PW cc own nL Y pc L S M := by
  obtain ⟨p, l, e, R, s, m, args, below, meth, c, cells, slots, Q, D, cA, ad, A⟩ := Y
  intro hok H locs ls hP hS hl
  exact lv_sipush hok.1 hok.2.1 d hv (kk hok H locs ls hP hS hl)
theorem PW.lconst {n : Fin 2} {v : Int64} (d : decode cc pc = .ok (.lconst n, 1)) (hv : Int64.ofNat (n : Nat) = v) (kk : PW cc own nL Y (pc + 1) L (.long v :: S) M) : PW cc own nL Y pc L S M := by
  obtain ⟨p, l, e, R, s, m, args, below, meth, c, cells, slots, Q, D, cA, ad, A⟩ := Y
  intro hok H locs ls hP hS hl
  exact lv_lconst hok.1 hok.2.1 d hv (kk hok H locs ls hP hS hl)
theorem PW.ldc {idx : Nat} {v : Int32} (hw : Cond.constant own idx v ∈ xTb) (d : decode cc pc = .ok (.ldc idx, 2)) (kk : PW cc own nL Y (pc + 2) L (.int v :: S) M) : PW cc own nL Y pc L S M := by
  obtain ⟨p, l, e, R, s, m, args, below, meth, c, cells, slots, Q, D, cA, ad, A⟩ := Y
  intro hok H locs ls hP hS hl
  exact lv_ldc hok.1 hok.2.1 hok.2.2.2.1 (hok.2.2.2.2.1.1 _ hw) d (kk hok H locs ls hP hS hl)
theorem PW.ldc_w {idx : Nat} {v : Int32} (hw : Cond.constant own idx v ∈ xTb) (d : decode cc pc = .ok (.ldc_w idx, 3)) (kk : PW cc own nL Y (pc + 3) L (.int v :: S) M) : PW cc own nL Y pc L S M := by
  obtain ⟨p, l, e, R, s, m, args, below, meth, c, cells, slots, Q, D, cA, ad, A⟩ := Y
  intro hok H locs ls hP hS hl
  exact lv_ldcw hok.1 hok.2.1 hok.2.2.2.1 (hok.2.2.2.2.1.1 _ hw) d (kk hok H locs ls hP hS hl)
theorem PW.ldc2 {idx : Nat} {v : Int64} (hw : Cond.constantLong own idx v ∈ xTb) (d : decode cc pc = .ok (.ldc2_w idx, 3)) (kk : PW cc own nL Y (pc + 3) L (.long v :: S) M) : PW cc own nL Y pc L S M := by
  obtain ⟨p, l, e, R, s, m, args, below, meth, c, cells, slots, Q, D, cA, ad, A⟩ := Y
  intro hok H locs ls hP hS hl
  exact lv_ldc2 hok.1 hok.2.1 hok.2.2.2.1 (hok.2.2.2.2.1.1 _ hw) d (kk hok H locs ls hP hS hl)
theorem PW.iadd {x y : Int32} (d : decode cc pc = .ok (.iadd, 1)) (kk : PW cc own nL Y (pc + 1) L (.int (x + y) :: S) M) : PW cc own nL Y pc L (.int y :: .int x :: S) M := by
  obtain ⟨p, l, e, R, s, m, args, below, meth, c, cells, slots, Q, D, cA, ad, A⟩ := Y
  intro hok H locs ls hP hS hl
  exact lv_iadd hok.1 hok.2.1 d (kk hok H locs ls hP hS hl)
theorem PW.isub {x y : Int32} (d : decode cc pc = .ok (.isub, 1)) (kk : PW cc own nL Y (pc + 1) L (.int (x - y) :: S) M) : PW cc own nL Y pc L (.int y :: .int x :: S) M := by
  obtain ⟨p, l, e, R, s, m, args, below, meth, c, cells, slots, Q, D, cA, ad, A⟩ := Y
  intro hok H locs ls hP hS hl
  exact lv_isub hok.1 hok.2.1 d (kk hok H locs ls hP hS hl)
theorem PW.imul {x y : Int32} (d : decode cc pc = .ok (.imul, 1)) (kk : PW cc own nL Y (pc + 1) L (.int (x * y) :: S) M) : PW cc own nL Y pc L (.int y :: .int x :: S) M := by
  obtain ⟨p, l, e, R, s, m, args, below, meth, c, cells, slots, Q, D, cA, ad, A⟩ := Y
  intro hok H locs ls hP hS hl
  exact lv_imul hok.1 hok.2.1 d (kk hok H locs ls hP hS hl)
theorem PW.iand {x y : Int32} (d : decode cc pc = .ok (.iand, 1)) (kk : PW cc own nL Y (pc + 1) L (.int (x &&& y) :: S) M) : PW cc own nL Y pc L (.int y :: .int x :: S) M := by
  obtain ⟨p, l, e, R, s, m, args, below, meth, c, cells, slots, Q, D, cA, ad, A⟩ := Y
  intro hok H locs ls hP hS hl
  exact lv_iand hok.1 hok.2.1 d (kk hok H locs ls hP hS hl)
theorem PW.ior {x y : Int32} (d : decode cc pc = .ok (.ior, 1)) (kk : PW cc own nL Y (pc + 1) L (.int (x ||| y) :: S) M) : PW cc own nL Y pc L (.int y :: .int x :: S) M := by
  obtain ⟨p, l, e, R, s, m, args, below, meth, c, cells, slots, Q, D, cA, ad, A⟩ := Y
  intro hok H locs ls hP hS hl
  exact lv_ior hok.1 hok.2.1 d (kk hok H locs ls hP hS hl)
theorem PW.ixor {x y : Int32} (d : decode cc pc = .ok (.ixor, 1)) (kk : PW cc own nL Y (pc + 1) L (.int (x ^^^ y) :: S) M) : PW cc own nL Y pc L (.int y :: .int x :: S) M := by
  obtain ⟨p, l, e, R, s, m, args, below, meth, c, cells, slots, Q, D, cA, ad, A⟩ := Y
  intro hok H locs ls hP hS hl
  exact lv_ixor hok.1 hok.2.1 d (kk hok H locs ls hP hS hl)
theorem PW.ishl {x y : Int32} (d : decode cc pc = .ok (.ishl, 1)) (kk : PW cc own nL Y (pc + 1) L (.int (x <<< (y &&& 31)) :: S) M) : PW cc own nL Y pc L (.int y :: .int x :: S) M := by
  obtain ⟨p, l, e, R, s, m, args, below, meth, c, cells, slots, Q, D, cA, ad, A⟩ := Y
  intro hok H locs ls hP hS hl
  exact lv_ishl hok.1 hok.2.1 d (kk hok H locs ls hP hS hl)
theorem PW.ishr {x y : Int32} (d : decode cc pc = .ok (.ishr, 1)) (kk : PW cc own nL Y (pc + 1) L (.int (x >>> (y &&& 31)) :: S) M) : PW cc own nL Y pc L (.int y :: .int x :: S) M := by
  obtain ⟨p, l, e, R, s, m, args, below, meth, c, cells, slots, Q, D, cA, ad, A⟩ := Y
  intro hok H locs ls hP hS hl
  exact lv_ishr hok.1 hok.2.1 d (kk hok H locs ls hP hS hl)
theorem PW.iushr {x y : Int32} (d : decode cc pc = .ok (.iushr, 1)) (kk : PW cc own nL Y (pc + 1) L (.int (x.toUInt32 >>> (y.toUInt32 &&& Int32.toUInt32 31)).toInt32 :: S) M) : PW cc own nL Y pc L (.int y :: .int x :: S) M := by
  obtain ⟨p, l, e, R, s, m, args, below, meth, c, cells, slots, Q, D, cA, ad, A⟩ := Y
  intro hok H locs ls hP hS hl
  exact lv_iushr hok.1 hok.2.1 d rfl (kk hok H locs ls hP hS hl)
theorem PW.idiv {x y : Int32} (d : decode cc pc = .ok (.idiv, 1)) (hne : ¬ y = 0) (kk : PW cc own nL Y (pc + 1) L (.int (x / y) :: S) M) : PW cc own nL Y pc L (.int y :: .int x :: S) M := by
  obtain ⟨p, l, e, R, s, m, args, below, meth, c, cells, slots, Q, D, cA, ad, A⟩ := Y
  intro hok H locs ls hP hS hl
  exact lv_idiv hok.1 hok.2.1 d hne (kk hok H locs ls hP hS hl)
theorem PW.irem {x y : Int32} (d : decode cc pc = .ok (.irem, 1)) (hne : ¬ y = 0) (kk : PW cc own nL Y (pc + 1) L (.int (x - x / y * y) :: S) M) : PW cc own nL Y pc L (.int y :: .int x :: S) M := by
  obtain ⟨p, l, e, R, s, m, args, below, meth, c, cells, slots, Q, D, cA, ad, A⟩ := Y
  intro hok H locs ls hP hS hl
  exact lv_irem hok.1 hok.2.1 d hne (kk hok H locs ls hP hS hl)
theorem PW.ladd {x y : Int64} (d : decode cc pc = .ok (.ladd, 1)) (kk : PW cc own nL Y (pc + 1) L (.long (x + y) :: S) M) : PW cc own nL Y pc L (.long y :: .long x :: S) M := by
  obtain ⟨p, l, e, R, s, m, args, below, meth, c, cells, slots, Q, D, cA, ad, A⟩ := Y
  intro hok H locs ls hP hS hl
  exact lv_ladd hok.1 hok.2.1 d (kk hok H locs ls hP hS hl)
theorem PW.lsub {x y : Int64} (d : decode cc pc = .ok (.lsub, 1)) (kk : PW cc own nL Y (pc + 1) L (.long (x - y) :: S) M) : PW cc own nL Y pc L (.long y :: .long x :: S) M := by
  obtain ⟨p, l, e, R, s, m, args, below, meth, c, cells, slots, Q, D, cA, ad, A⟩ := Y
  intro hok H locs ls hP hS hl
  exact lv_lsub hok.1 hok.2.1 d (kk hok H locs ls hP hS hl)
theorem PW.lmul {x y : Int64} (d : decode cc pc = .ok (.lmul, 1)) (kk : PW cc own nL Y (pc + 1) L (.long (x * y) :: S) M) : PW cc own nL Y pc L (.long y :: .long x :: S) M := by
  obtain ⟨p, l, e, R, s, m, args, below, meth, c, cells, slots, Q, D, cA, ad, A⟩ := Y
  intro hok H locs ls hP hS hl
  exact lv_lmul hok.1 hok.2.1 d (kk hok H locs ls hP hS hl)
theorem PW.i2l {x : Int32} (d : decode cc pc = .ok (.i2l, 1)) (kk : PW cc own nL Y (pc + 1) L (.long x.toInt64 :: S) M) : PW cc own nL Y pc L (.int x :: S) M := by
  obtain ⟨p, l, e, R, s, m, args, below, meth, c, cells, slots, Q, D, cA, ad, A⟩ := Y
  intro hok H locs ls hP hS hl
  exact lv_i2l hok.1 hok.2.1 d rfl (kk hok H locs ls hP hS hl)
theorem PW.l2i {x : Int64} (d : decode cc pc = .ok (.l2i, 1)) (kk : PW cc own nL Y (pc + 1) L (.int x.toInt32 :: S) M) : PW cc own nL Y pc L (.long x :: S) M := by
  obtain ⟨p, l, e, R, s, m, args, below, meth, c, cells, slots, Q, D, cA, ad, A⟩ := Y
  intro hok H locs ls hP hS hl
  exact lv_l2i hok.1 hok.2.1 d rfl (kk hok H locs ls hP hS hl)
theorem PW.lcmp {x y : Int64} (d : decode cc pc = .ok (.lcmp, 1)) (kk : PW cc own nL Y (pc + 1) L (.int (lg_cmp x y) :: S) M) : PW cc own nL Y pc L (.long y :: .long x :: S) M := by
  obtain ⟨p, l, e, R, s, m, args, below, meth, c, cells, slots, Q, D, cA, ad, A⟩ := Y
  intro hok H locs ls hP hS hl
  exact W.lcmp hok.1 hok.2.1 d (kk hok H locs ls hP hS hl)
theorem PW.dup {v : Value} (d : decode cc pc = .ok (.dup, 1)) (hv : v.category = 1) (kk : PW cc own nL Y (pc + 1) L (v :: v :: S) M) : PW cc own nL Y pc L (v :: S) M := by
  obtain ⟨p, l, e, R, s, m, args, below, meth, c, cells, slots, Q, D, cA, ad, A⟩ := Y
  intro hok H locs ls hP hS hl
  exact lv_dup hok.1 hok.2.1 d ((xv_cat ad v).trans hv) (kk hok H locs ls hP hS hl)
theorem PW.dup2 {v w : Value} (d : decode cc pc = .ok (.dup2, 1)) (hv : v.category = 1) (hw : w.category = 1) (kk : PW cc own nL Y (pc + 1) L (v :: w :: v :: w :: S) M) : PW cc own nL Y pc L (v :: w :: S) M := by
  obtain ⟨p, l, e, R, s, m, args, below, meth, c, cells, slots, Q, D, cA, ad, A⟩ := Y
  intro hok H locs ls hP hS hl
  exact lv_dup2_11 hok.1 hok.2.1 d ((xv_cat ad v).trans hv) ((xv_cat ad w).trans hw) (kk hok H locs ls hP hS hl)
theorem PW.dup_x1 {v w : Value} (d : decode cc pc = .ok (.dup_x1, 1)) (hv : v.category = 1) (hw : w.category = 1) (kk : PW cc own nL Y (pc + 1) L (v :: w :: v :: S) M) : PW cc own nL Y pc L (v :: w :: S) M := by
  obtain ⟨p, l, e, R, s, m, args, below, meth, c, cells, slots, Q, D, cA, ad, A⟩ := Y
  intro hok H locs ls hP hS hl
  exact lv_dup_x1 hok.1 hok.2.1 d ((xv_cat ad v).trans hv) ((xv_cat ad w).trans hw) (kk hok H locs ls hP hS hl)
theorem PW.pop {v : Value} (d : decode cc pc = .ok (.pop, 1)) (hv : v.category = 1) (kk : PW cc own nL Y (pc + 1) L S M) : PW cc own nL Y pc L (v :: S) M := by
  obtain ⟨p, l, e, R, s, m, args, below, meth, c, cells, slots, Q, D, cA, ad, A⟩ := Y
  intro hok H locs ls hP hS hl
  exact lv_pop hok.1 hok.2.1 d ((xv_cat ad v).trans hv) (kk hok H locs ls hP hS hl)
theorem PW.if_eq {x : Int32} {off : Int} {tgt : Nat} (d : decode cc pc = .ok (.ifCond .eq off, 3)) (ht : (pc : Int) + off = (tgt : Int)) (kt : x = 0 → PW cc own nL Y tgt L S M) (kf : ¬ x = 0 → PW cc own nL Y (pc + 3) L S M) : PW cc own nL Y pc L (.int x :: S) M := by
  obtain ⟨p, l, e, R, s, m, args, below, meth, c, cells, slots, Q, D, cA, ad, A⟩ := Y
  intro hok H locs ls hP hS hl
  exact lv_if_eq hok.1 hok.2.1 d ht (fun h => kt h hok H locs ls hP hS hl) (fun h => kf h hok H locs ls hP hS hl)
theorem PW.icmp_eq {x y : Int32} {off : Int} {tgt : Nat} (d : decode cc pc = .ok (.if_icmp .eq off, 3)) (ht : (pc : Int) + off = (tgt : Int)) (kt : x = y → PW cc own nL Y tgt L S M) (kf : ¬ x = y → PW cc own nL Y (pc + 3) L S M) : PW cc own nL Y pc L (.int y :: .int x :: S) M := by
  obtain ⟨p, l, e, R, s, m, args, below, meth, c, cells, slots, Q, D, cA, ad, A⟩ := Y
  intro hok H locs ls hP hS hl
  exact lv_icmp_eq hok.1 hok.2.1 d ht (fun h => kt h hok H locs ls hP hS hl) (fun h => kf h hok H locs ls hP hS hl)
theorem PW.if_ne {x : Int32} {off : Int} {tgt : Nat} (d : decode cc pc = .ok (.ifCond .ne off, 3)) (ht : (pc : Int) + off = (tgt : Int)) (kt : ¬ x = 0 → PW cc own nL Y tgt L S M) (kf : x = 0 → PW cc own nL Y (pc + 3) L S M) : PW cc own nL Y pc L (.int x :: S) M := by
  obtain ⟨p, l, e, R, s, m, args, below, meth, c, cells, slots, Q, D, cA, ad, A⟩ := Y
  intro hok H locs ls hP hS hl
  exact lv_if_ne hok.1 hok.2.1 d ht (fun h => kt h hok H locs ls hP hS hl) (fun h => kf h hok H locs ls hP hS hl)
theorem PW.icmp_ne {x y : Int32} {off : Int} {tgt : Nat} (d : decode cc pc = .ok (.if_icmp .ne off, 3)) (ht : (pc : Int) + off = (tgt : Int)) (kt : ¬ x = y → PW cc own nL Y tgt L S M) (kf : x = y → PW cc own nL Y (pc + 3) L S M) : PW cc own nL Y pc L (.int y :: .int x :: S) M := by
  obtain ⟨p, l, e, R, s, m, args, below, meth, c, cells, slots, Q, D, cA, ad, A⟩ := Y
  intro hok H locs ls hP hS hl
  exact lv_icmp_ne hok.1 hok.2.1 d ht (fun h => kt h hok H locs ls hP hS hl) (fun h => kf h hok H locs ls hP hS hl)
theorem PW.if_lt {x : Int32} {off : Int} {tgt : Nat} (d : decode cc pc = .ok (.ifCond .lt off, 3)) (ht : (pc : Int) + off = (tgt : Int)) (kt : x < 0 → PW cc own nL Y tgt L S M) (kf : ¬ x < 0 → PW cc own nL Y (pc + 3) L S M) : PW cc own nL Y pc L (.int x :: S) M := by
  obtain ⟨p, l, e, R, s, m, args, below, meth, c, cells, slots, Q, D, cA, ad, A⟩ := Y
  intro hok H locs ls hP hS hl
  exact lv_if_lt hok.1 hok.2.1 d ht (fun h => kt h hok H locs ls hP hS hl) (fun h => kf h hok H locs ls hP hS hl)
theorem PW.icmp_lt {x y : Int32} {off : Int} {tgt : Nat} (d : decode cc pc = .ok (.if_icmp .lt off, 3)) (ht : (pc : Int) + off = (tgt : Int)) (kt : x < y → PW cc own nL Y tgt L S M) (kf : ¬ x < y → PW cc own nL Y (pc + 3) L S M) : PW cc own nL Y pc L (.int y :: .int x :: S) M := by
  obtain ⟨p, l, e, R, s, m, args, below, meth, c, cells, slots, Q, D, cA, ad, A⟩ := Y
  intro hok H locs ls hP hS hl
  exact lv_icmp_lt hok.1 hok.2.1 d ht (fun h => kt h hok H locs ls hP hS hl) (fun h => kf h hok H locs ls hP hS hl)
theorem PW.if_ge {x : Int32} {off : Int} {tgt : Nat} (d : decode cc pc = .ok (.ifCond .ge off, 3)) (ht : (pc : Int) + off = (tgt : Int)) (kt : 0 ≤ x → PW cc own nL Y tgt L S M) (kf : ¬ 0 ≤ x → PW cc own nL Y (pc + 3) L S M) : PW cc own nL Y pc L (.int x :: S) M := by
  obtain ⟨p, l, e, R, s, m, args, below, meth, c, cells, slots, Q, D, cA, ad, A⟩ := Y
  intro hok H locs ls hP hS hl
  exact lv_if_ge hok.1 hok.2.1 d ht (fun h => kt h hok H locs ls hP hS hl) (fun h => kf h hok H locs ls hP hS hl)
theorem PW.icmp_ge {x y : Int32} {off : Int} {tgt : Nat} (d : decode cc pc = .ok (.if_icmp .ge off, 3)) (ht : (pc : Int) + off = (tgt : Int)) (kt : y ≤ x → PW cc own nL Y tgt L S M) (kf : ¬ y ≤ x → PW cc own nL Y (pc + 3) L S M) : PW cc own nL Y pc L (.int y :: .int x :: S) M := by
  obtain ⟨p, l, e, R, s, m, args, below, meth, c, cells, slots, Q, D, cA, ad, A⟩ := Y
  intro hok H locs ls hP hS hl
  exact lv_icmp_ge hok.1 hok.2.1 d ht (fun h => kt h hok H locs ls hP hS hl) (fun h => kf h hok H locs ls hP hS hl)
theorem PW.if_gt {x : Int32} {off : Int} {tgt : Nat} (d : decode cc pc = .ok (.ifCond .gt off, 3)) (ht : (pc : Int) + off = (tgt : Int)) (kt : 0 < x → PW cc own nL Y tgt L S M) (kf : ¬ 0 < x → PW cc own nL Y (pc + 3) L S M) : PW cc own nL Y pc L (.int x :: S) M := by
  obtain ⟨p, l, e, R, s, m, args, below, meth, c, cells, slots, Q, D, cA, ad, A⟩ := Y
  intro hok H locs ls hP hS hl
  exact lv_if_gt hok.1 hok.2.1 d ht (fun h => kt h hok H locs ls hP hS hl) (fun h => kf h hok H locs ls hP hS hl)
theorem PW.icmp_gt {x y : Int32} {off : Int} {tgt : Nat} (d : decode cc pc = .ok (.if_icmp .gt off, 3)) (ht : (pc : Int) + off = (tgt : Int)) (kt : y < x → PW cc own nL Y tgt L S M) (kf : ¬ y < x → PW cc own nL Y (pc + 3) L S M) : PW cc own nL Y pc L (.int y :: .int x :: S) M := by
  obtain ⟨p, l, e, R, s, m, args, below, meth, c, cells, slots, Q, D, cA, ad, A⟩ := Y
  intro hok H locs ls hP hS hl
  exact lv_icmp_gt hok.1 hok.2.1 d ht (fun h => kt h hok H locs ls hP hS hl) (fun h => kf h hok H locs ls hP hS hl)
theorem PW.if_le {x : Int32} {off : Int} {tgt : Nat} (d : decode cc pc = .ok (.ifCond .le off, 3)) (ht : (pc : Int) + off = (tgt : Int)) (kt : x ≤ 0 → PW cc own nL Y tgt L S M) (kf : ¬ x ≤ 0 → PW cc own nL Y (pc + 3) L S M) : PW cc own nL Y pc L (.int x :: S) M := by
  obtain ⟨p, l, e, R, s, m, args, below, meth, c, cells, slots, Q, D, cA, ad, A⟩ := Y
  intro hok H locs ls hP hS hl
  exact lv_if_le hok.1 hok.2.1 d ht (fun h => kt h hok H locs ls hP hS hl) (fun h => kf h hok H locs ls hP hS hl)
theorem PW.icmp_le {x y : Int32} {off : Int} {tgt : Nat} (d : decode cc pc = .ok (.if_icmp .le off, 3)) (ht : (pc : Int) + off = (tgt : Int)) (kt : x ≤ y → PW cc own nL Y tgt L S M) (kf : ¬ x ≤ y → PW cc own nL Y (pc + 3) L S M) : PW cc own nL Y pc L (.int y :: .int x :: S) M := by
  obtain ⟨p, l, e, R, s, m, args, below, meth, c, cells, slots, Q, D, cA, ad, A⟩ := Y
  intro hok H locs ls hP hS hl
  exact lv_icmp_le hok.1 hok.2.1 d ht (fun h => kt h hok H locs ls hP hS hl) (fun h => kf h hok H locs ls hP hS hl)
theorem PW.goto {off : Int} {tgt : Nat} (d : decode cc pc = .ok (.goto off, 3)) (ht : (pc : Int) + off = (tgt : Int)) (kk : PW cc own nL Y tgt L S M) : PW cc own nL Y pc L S M := by
  obtain ⟨p, l, e, R, s, m, args, below, meth, c, cells, slots, Q, D, cA, ad, A⟩ := Y
  intro hok H locs ls hP hS hl
  exact lv_goto hok.1 hok.2.1 d ht (kk hok H locs ls hP hS hl)
theorem PW.tswOut {dflt lo hi : Int} {offs : Array Int} {len : Nat} {x : Int32} {tgt : Nat} (d : decode cc pc = .ok (.tableswitch dflt lo hi offs, len)) (h : x.toInt < lo ∨ hi < x.toInt) (ht : (pc : Int) + dflt = (tgt : Int)) (kk : PW cc own nL Y tgt L S M) : PW cc own nL Y pc L (.int x :: S) M := by
  obtain ⟨p, l, e, R, s, m, args, below, meth, c, cells, slots, Q, D, cA, ad, A⟩ := Y
  intro hok H locs ls hP hS hl
  exact lv_tableOut hok.1 hok.2.1 d h ht (kk hok H locs ls hP hS hl)
theorem PW.tswIn {dflt lo hi : Int} {offs : Array Int} {len : Nat} {x : Int32} {off : Int} {tgt : Nat} (d : decode cc pc = .ok (.tableswitch dflt lo hi offs, len)) (h1 : ¬ x.toInt < lo) (h2 : ¬ hi < x.toInt) (ho : offs[(x.toInt - lo).toNat]? = some off) (ht : (pc : Int) + off = (tgt : Int)) (kk : PW cc own nL Y tgt L S M) : PW cc own nL Y pc L (.int x :: S) M := by
  obtain ⟨p, l, e, R, s, m, args, below, meth, c, cells, slots, Q, D, cA, ad, A⟩ := Y
  intro hok H locs ls hP hS hl
  exact lv_tableIn hok.1 hok.2.1 d h1 h2 ho ht (kk hok H locs ls hP hS hl)
theorem PW.locs {L2 : List (Nat × Value)} (hs : L2.map (fun q => L.lookup q.1) = L2.map (fun q => some q.2)) (kk : PW cc own nL Y pc L2 S M) : PW cc own nL Y pc L S M := by
  obtain ⟨p, l, e, R, s, m, args, below, meth, c, cells, slots, Q, D, cA, ad, A⟩ := Y
  intro hok H locs ls hP hS hl
  exact kk hok H locs ls hP hS (xlk_sub hl hs)
theorem PW.st {L2 : List (Nat × Value)} {S2 : List Value} {M2 : xM} (hM : M = M2) (hS2 : S = S2) (hs : L2.map (fun q => L.lookup q.1) = L2.map (fun q => some q.2)) (kk : PW cc own nL Y pc L2 S2 M2) : PW cc own nL Y pc L S M := by
  subst hM; subst hS2
  exact PW.locs hs kk
theorem PW.iald {b n : Nat} {i : Int32} (hb : xSH[b]? = some (.inl (0, n))) (hin : vp_in i n) (d : decode cc pc = .ok (.iaload, 1)) (kk : PW cc own nL Y (pc + 1) L (.int (M.1 b i.toNatClampNeg) :: S) M) : PW cc own nL Y pc L (.int i :: .ref b :: S) M := by
  obtain ⟨p, l, e, R, s, m, args, below, meth, c, cells, slots, Q, D, cA, ad, A⟩ := Y
  intro hok H locs ls hP hS hl
  exact va_iald hok.1 hok.2.1 hok.2.2.2.2.2.1 hP b 0 (xW_get hb) rfl hin d (kk hok H locs ls hP hS hl)
theorem PW.zald {b n : Nat} {i : Int32} (hb : xSH[b]? = some (.inl (1, n))) (hin : vp_in i n) (d : decode cc pc = .ok (.baload, 1)) (kk : PW cc own nL Y (pc + 1) L (.int (M.1 b i.toNatClampNeg) :: S) M) : PW cc own nL Y pc L (.int i :: .ref b :: S) M := by
  obtain ⟨p, l, e, R, s, m, args, below, meth, c, cells, slots, Q, D, cA, ad, A⟩ := Y
  intro hok H locs ls hP hS hl
  exact va_zald hok.1 hok.2.1 hok.2.2.2.2.2.1 hP b 1 (xW_get hb) rfl hin d (kk hok H locs ls hP hS hl)
theorem PW.iast {b n : Nat} {i x : Int32} (hb : xSH[b]? = some (.inl (0, n))) (hin : vp_in i n) (d : decode cc pc = .ok (.iastore, 1)) (kk : PW cc own nL Y (pc + 1) L S (xup M b i.toNatClampNeg x)) : PW cc own nL Y pc L (.int x :: .int i :: .ref b :: S) M := by
  obtain ⟨p, l, e, R, s, m, args, below, meth, c, cells, slots, Q, D, cA, ad, A⟩ := Y
  intro hok H locs ls hP hS hl
  have hD := xD_of (cA := cA) (M := M) hok.2.2.2.2.2.2.1 hok.2.2.2.2.2.2.2.1
  exact va_iast hok.1 hok.2.1 hok.2.2.2.2.2.1 hP hD hS b 0 (xW_get hb) rfl hin d (fun H1 locs1 hP1 hD1 hS1 => kk hok H1 locs1 ls (by rw [xW_seti hb] at hP1; exact hP1) hS1 hl)
theorem x_narz {x : Int32} (h : x = 0 ∨ x = 1) : vp_nar .boolean x = x := by rcases h with rfl | rfl <;> decide
theorem PW.zast {b n : Nat} {i x : Int32} (hb : xSH[b]? = some (.inl (1, n))) (hin : vp_in i n) (hx : x = 0 ∨ x = 1) (d : decode cc pc = .ok (.bastore, 1)) (kk : PW cc own nL Y (pc + 1) L S (xup M b i.toNatClampNeg x)) : PW cc own nL Y pc L (.int x :: .int i :: .ref b :: S) M := by
  obtain ⟨p, l, e, R, s, m, args, below, meth, c, cells, slots, Q, D, cA, ad, A⟩ := Y
  intro hok H locs ls hP hS hl
  have hD := xD_of (cA := cA) (M := M) hok.2.2.2.2.2.2.1 hok.2.2.2.2.2.2.2.1
  exact va_zast hok.1 hok.2.1 hok.2.2.2.2.2.1 hP hD hS b 1 (xW_get hb) rfl hin d (fun H1 locs1 hP1 hD1 hS1 => kk hok H1 locs1 ls (by rw [xW_seti hb, x_narz hx] at hP1; exact hP1) hS1 hl)
theorem PW.alen {b t n : Nat} (hb : xSH[b]? = some (.inl (t, n))) (ht : t < 2) (d : decode cc pc = .ok (.arraylength, 1)) (kk : PW cc own nL Y (pc + 1) L (.int (nI n) :: S) M) : PW cc own nL Y pc L (.ref b :: S) M := by
  obtain ⟨p, l, e, R, s, m, args, below, meth, c, cells, slots, Q, D, cA, ad, A⟩ := Y
  intro hok H locs ls hP hS hl
  rcases (show t = 0 ∨ t = 1 by omega) with rfl | rfl
  · exact va_alen (ty := .int) hok.1 hok.2.1 hok.2.2.2.2.2.1 hP b 0 (xW_get hb) rfl rfl d (kk hok H locs ls hP hS hl)
  · exact va_alen (ty := .boolean) hok.1 hok.2.1 hok.2.2.2.2.2.1 hP b 1 (xW_get hb) rfl rfl d (kk hok H locs ls hP hS hl)
theorem PW.getf {b ci k N idx : Nat} {ks : List xFK} {C : String} {T : u_T} {fk : xFK} (hb : xSH[b]? = some (.inr (ci, ks))) (hc : vwCl[ci]? = some (C, T, N)) (hk : ks[k]? = some fk) (hkN : k < N) (hin : ∀ w ∈ u_ws C T N, w ∈ xTb) (hlink : Cond.fieldLink own idx (T k).1 (T k).2.1 (T k).2.2.1 ∈ xTb) (d : decode cc pc = .ok (.getfield idx, 3)) (kk : PW cc own nL Y (pc + 3) L (xfv M b k fk :: S) M) : PW cc own nL Y pc L (.ref b :: S) M := by
  obtain ⟨p, l, e, R, s, m, args, below, meth, c, cells, slots, Q, D, cA, ad, A⟩ := Y
  intro hok H locs ls hP hS hl
  exact va_get (v := xv ad (xfv M b k fk)) hok.1 hok.2.1 hok.2.2.2.2.1.1 hin hok.2.2.2.1 hok.2.2.2.2.2.1 hP b (xW_get hb) hc k hkN (hok.2.2.2.2.1.1 _ hlink) (fun _ h => h) (by rw [List.getElem?_mapIdx, hk]; rfl) d (kk hok H locs ls hP hS hl)
theorem PW.putI {b ci k N idx : Nat} {ks : List xFK} {C : String} {T : u_T} {x : Int32} (hb : xSH[b]? = some (.inr (ci, ks))) (hc : vwCl[ci]? = some (C, T, N)) (hk : ks[k]? = some (.inr false)) (hkN : k < N) (hin : ∀ w ∈ u_ws C T N, w ∈ xTb) (ty0 : Nat → FieldType) (hty : ∀ k, k < N → parseFieldDescriptor (T k).2.2.1 = some (ty0 k)) (hnm : ∀ a, a < N → ∀ b, b < N → a ≠ b → (T a).2.1 ≠ (T b).2.1) (hlink : Cond.fieldLink own idx (T k).1 (T k).2.1 (T k).2.2.1 ∈ xTb) (hfin : (T k).2.2.2 = false) (hd : parseFieldDescriptor (T k).2.2.1 = some .int) (d : decode cc pc = .ok (.putfield idx, 3)) (kk : PW cc own nL Y (pc + 3) L S (xup M b k x)) : PW cc own nL Y pc L (.int x :: .ref b :: S) M := by
  obtain ⟨p, l, e, R, s, m, args, below, meth, c, cells, slots, Q, D, cA, ad, A⟩ := Y
  intro hok H locs ls hP hS hl
  have hD := xD_of (cA := cA) (M := M) hok.2.2.2.2.2.2.1 hok.2.2.2.2.2.2.2.1
  exact va_put (v := .int x) (ty := .int) hok.1 hok.2.1 hok.2.2.2.2.1.1 hin ty0 hty hnm hok.2.2.2.1 hok.2.2.2.2.2.1 hP hD hS b (xW_get hb) hc k hkN (hok.2.2.2.2.1.1 _ hlink) (fun _ h => h) hfin hd rfl rfl (by rw [List.length_mapIdx]; exact (List.getElem?_eq_some_iff.mp hk).1) d (fun H1 locs1 hP1 hD1 hS1 => kk hok H1 locs1 ls (by rw [xW_setf hb hk] at hP1; exact hP1) hS1 hl)
theorem PW.putL {b ci k N idx : Nat} {ks : List xFK} {C : String} {T : u_T} {x : Int64} (hb : xSH[b]? = some (.inr (ci, ks))) (hc : vwCl[ci]? = some (C, T, N)) (hk : ks[k]? = some (.inr true)) (hkN : k < N) (hin : ∀ w ∈ u_ws C T N, w ∈ xTb) (ty0 : Nat → FieldType) (hty : ∀ k, k < N → parseFieldDescriptor (T k).2.2.1 = some (ty0 k)) (hnm : ∀ a, a < N → ∀ b, b < N → a ≠ b → (T a).2.1 ≠ (T b).2.1) (hlink : Cond.fieldLink own idx (T k).1 (T k).2.1 (T k).2.2.1 ∈ xTb) (hfin : (T k).2.2.2 = false) (hd : parseFieldDescriptor (T k).2.2.1 = some .long) (d : decode cc pc = .ok (.putfield idx, 3)) (kk : PW cc own nL Y (pc + 3) L S (xupL M b k x)) : PW cc own nL Y pc L (.long x :: .ref b :: S) M := by
  obtain ⟨p, l, e, R, s, m, args, below, meth, c, cells, slots, Q, D, cA, ad, A⟩ := Y
  intro hok H locs ls hP hS hl
  have hD := xD_of (cA := cA) (M := M) hok.2.2.2.2.2.2.1 hok.2.2.2.2.2.2.2.1
  exact va_put (v := .long x) (ty := .long) hok.1 hok.2.1 hok.2.2.2.2.1.1 hin ty0 hty hnm hok.2.2.2.1 hok.2.2.2.2.2.1 hP hD hS b (xW_get hb) hc k hkN (hok.2.2.2.2.1.1 _ hlink) (fun _ h => h) hfin hd rfl rfl (by rw [List.length_mapIdx]; exact (List.getElem?_eq_some_iff.mp hk).1) d (fun H1 locs1 hP1 hD1 hS1 => kk hok H1 locs1 ls (by rw [xW_setfL hb hk] at hP1; exact hP1) hS1 hl)
end XR
