/-! class and reference answer alike, call by call, and the invariant goes on -/
def eM (M u : xM) : Prop := ∀ p, 32 ≤ p → u.1 p = M.1 p
theorem eM.rf {M : xM} : eM M M := fun _ _ => rfl
theorem eM.r {M u : xM} (h : xFr M u) : eM M u := fun p hp => h p (by omega) (by omega)
theorem eM.c {M u : xM} (h : xFc M u) : eM M u := fun p hp => h p (by omega) (by omega) (by omega) (by omega) (by omega) (by omega)
theorem xup_o {M : xM} {p k q : Nat} {x : Int32} (h : q ≠ p) : (xup M p k x).1 q = M.1 q := by simp [xup, h]
theorem xup_s {M : xM} {p k : Nat} {x : Int32} : (xup M p k x).1 p = upd (M.1 p) k x := by simp [xup]
theorem eM.up {M u : xM} {p k : Nat} {x : Int32} (h : eM M u) (hp : p < 32) : eM M (xup u p k x) := fun q hq => by rw [xup_o (by omega)]; exact h q hq
theorem eM.tr {M u v : xM} (h1 : eM M u) (h2 : eM u v) : eM M v := fun p hp => (h2 p hp).trans (h1 p hp)
theorem CI.md {j n k : Nat} {M u : xM} (h : CI j n k M) (e : eM M u) : u.1 32 6 = nI n ∧ u.1 32 18 = nI k ∧ TB (mv u) n ∧ TC (mv u) ∧ bE (mv u) M := by
  have m : (mv u).1 = (mv M).1 := mv_fr (fun q hq => e q (by simp only [List.mem_cons, List.mem_nil_iff, or_false] at hq; omega))
  have b : bE (mv u) M := by
    intro p hp
    rw [m]
    exact h.bEq p hp
  refine ⟨by rw [e 32 (by decide)]; exact h.n32, by rw [e 32 (by decide)]; exact h.k32, TB_1 m h.mB, ?_, b⟩
  unfold TC
  rw [m]
  exact h.mC
theorem CI.eqs {j n k : Nat} {M u : xM} (h : CI j n k M) (e : eM M u) : u.1 33 = M.1 2 ∧ u.1 34 = M.1 3 ∧ u.1 35 = M.1 4 ∧ u.1 36 = M.1 5 ∧ u.1 37 = M.1 6 ∧ u.1 38 = M.1 7 ∧ u.1 39 = M.1 9 ∧ u.1 40 = M.1 10 ∧ u.1 41 = M.1 11 ∧ u.1 42 = M.1 12 ∧ u.1 43 = M.1 16 ∧ u.1 44 = M.1 17 ∧ u.1 45 = M.1 13 ∧ u.1 46 = M.1 14 ∧ u.1 47 = M.1 15 ∧ u.1 48 = M.1 19 ∧ u.1 49 = M.1 23 ∧ u.1 50 = M.1 24 ∧ u.1 51 = M.1 31 := by
  rw [e 33 (by decide), e 34 (by decide), e 35 (by decide), e 36 (by decide), e 37 (by decide), e 38 (by decide), e 39 (by decide), e 40 (by decide), e 41 (by decide), e 42 (by decide), e 43 (by decide), e 44 (by decide), e 45 (by decide), e 46 (by decide), e 47 (by decide), e 48 (by decide), e 49 (by decide), e 50 (by decide), e 51 (by decide)]
  exact h.1
set_option maxHeartbeats 4000000 in
theorem tell_eq {u M : xM} (h : ∀ p, p ∈ [2, 3, 4, 5, 6, 7, 9, 10, 11, 12, 13, 14, 15, 16, 17, 19, 23, 24, 31] → u.1 p = M.1 p) : tellv u = tellv M := by
  funext f w
  unfold tellv
  rw [h 12 (by decide), h 9 (by decide), h 10 (by decide), h 11 (by decide), h 13 (by decide), h 14 (by decide), h 15 (by decide)]
theorem tot_eq {j n k : Nat} {M : xM} (h : CI j n k M) : totm M n = totv M n := by
  obtain ⟨e33, e34, e35, e36, e37, e38, e39, e40, e41, e42, e43, e44, e45, e46, e47, e48, e49, e50, e51⟩ := h.1
  obtain ⟨c1, c2, c3, c4, c5, c6⟩ := h.2.1
  funext w
  unfold totm totv
  rw [bE_TK h.bEq, c1, c2, c3, c4, c6, h.n8, e48, e38]
  rcases w with _ | _ | _ | _ | _ | w <;> rfl
theorem ir {v : Int32} {a b : Nat} (h : inr v (nI a) (nI b)) (ha : a < 2 ^ 31) (hb : b < 2 ^ 31) : rng v b := by
  have h0 : 0 ≤ v := Int32.le_trans ((nI_leI (a := 0) (by omega) ha).mpr (Nat.zero_le _)) h.1
  exact ⟨x_pos h0, na_le h0 h.2 hb⟩
/-- what may be written where -/
def okR (p i : Nat) (x : Int32) (j n : Nat) : Prop := (p ≠ 8 ∧ p ≠ 9 ∧ p ≠ 10) ∧ (p = 11 → rng x 100000) ∧ (p = 16 → rng x 500) ∧ (p = 2 → rng x 1000) ∧ (p = 3 → rng x 5) ∧ (p = 5 → rng x 1000) ∧ (p = 7 → rng x (500 * j)) ∧ (p = 19 → x = 0 ∨ x = 1) ∧ (p = 13 → rng x 3) ∧ (p = 14 → rng x 99) ∧ (p = 15 → rng x 999) ∧ (p = 31 → rng x 1000) ∧ (p = 12 → i < n)
theorem rng_up {M : xM} {p i q t b : Nat} {x : Int32} (h : rng (M.1 q t) b) (hx : p = q → rng x b) : rng ((xup M p i x).1 q t) b := by
  rw [xup_1]
  split
  · next e => exact hx e.1.symm
  · exact h
theorem CX.mono {M : xM} {j j' n : Nat} (h : CX M j n) (hj : j ≤ j') : CX M j' n := ⟨h.1, h.2.1, fun t ht => (h.2.2.1 t ht).mono (by omega), h.2.2.2⟩
theorem CX.up {M : xM} {p i j n : Nat} {x : Int32} (h : CX M j n) (hj : j ≤ 512) (r : okR p i x j n) : CX (xup M p i x) j n := by
  obtain ⟨⟨a1, a2, a3⟩, r11, r16, r2, r3, r5, r7, r19, r13, r14, r15, r31, r12⟩ := r
  obtain ⟨hB, hC, hG, hS⟩ := h
  obtain ⟨b1, b2, b3, b4, b5⟩ := hB
  refine ⟨⟨by rw [xup_o (by omega)]; exact b1, b2, fun f hf => ?_, fun t ht => ?_, fun d hd => ?_⟩, ⟨fun f hf => ?_, fun s hs => ?_⟩, fun t ht => ?_, fun f hf => ?_⟩
  · obtain ⟨f1, f2, f3, f4, f5⟩ := b3 f hf
    unfold FB
    rw [xup_o (by omega), xup_o (by omega)]
    exact ⟨f1, f2, f3, rng_up f4 r11, fun t ht => rng_up (f5 t ht) r16⟩
  · obtain ⟨t1, t2, t3, t4⟩ := b4 t ht
    exact ⟨rng_up t1 r2, rng_up t2 r3, rng_up t3 r5, rng_up t4 (fun e => (r7 e).mono (by omega))⟩
  · rw [xup_1]
    split
    · next e => exact r19 e.1.symm
    · exact b5 d hd
  · obtain ⟨c1, c2, c3⟩ := hC.1 f hf
    exact ⟨rng_up c1 r13, rng_up c2 r14, rng_up c3 r15⟩
  · exact rng_up (hC.2 s hs) r31
  · exact rng_up (hG t ht) r7
  · rw [xup_1]
    split
    · next e => have := r12 e.1.symm; omega
    · exact hS f hf
theorem okR.no {p i j n : Nat} {x : Int32} (h : p ∉ [8, 9, 10, 11, 16, 2, 3, 5, 7, 19, 13, 14, 15, 31, 12]) : okR p i x j n := by
  simp only [List.mem_cons, List.mem_nil_iff, or_false, not_or] at h
  refine ⟨⟨by omega, by omega, by omega⟩, ?_, ?_, ?_, ?_, ?_, ?_, ?_, ?_, ?_, ?_, ?_, ?_⟩ <;> (intro e; omega)
theorem CX.no {M : xM} {p i j n : Nat} {x : Int32} (h : CX M j n) (hj : j ≤ 512) (hp : p ∉ [8, 9, 10, 11, 16, 2, 3, 5, 7, 19, 13, 14, 15, 31, 12]) : CX (xup M p i x) j n := h.up hj (okR.no hp)

theorem okR.r11 {i j n : Nat} {x : Int32} (r : rng x 100000) : okR 11 i x j n := by
  refine ⟨⟨by decide, by decide, by decide⟩, ?_, ?_, ?_, ?_, ?_, ?_, ?_, ?_, ?_, ?_, ?_, ?_⟩ <;> (intro e; first | exact r | exact absurd e (by decide))
theorem okR.r16 {i j n : Nat} {x : Int32} (r : rng x 500) : okR 16 i x j n := by
  refine ⟨⟨by decide, by decide, by decide⟩, ?_, ?_, ?_, ?_, ?_, ?_, ?_, ?_, ?_, ?_, ?_, ?_⟩ <;> (intro e; first | exact r | exact absurd e (by decide))
theorem okR.r2 {i j n : Nat} {x : Int32} (r : rng x 1000) : okR 2 i x j n := by
  refine ⟨⟨by decide, by decide, by decide⟩, ?_, ?_, ?_, ?_, ?_, ?_, ?_, ?_, ?_, ?_, ?_, ?_⟩ <;> (intro e; first | exact r | exact absurd e (by decide))
theorem okR.r3 {i j n : Nat} {x : Int32} (r : rng x 5) : okR 3 i x j n := by
  refine ⟨⟨by decide, by decide, by decide⟩, ?_, ?_, ?_, ?_, ?_, ?_, ?_, ?_, ?_, ?_, ?_, ?_⟩ <;> (intro e; first | exact r | exact absurd e (by decide))
theorem okR.r5 {i j n : Nat} {x : Int32} (r : rng x 1000) : okR 5 i x j n := by
  refine ⟨⟨by decide, by decide, by decide⟩, ?_, ?_, ?_, ?_, ?_, ?_, ?_, ?_, ?_, ?_, ?_, ?_⟩ <;> (intro e; first | exact r | exact absurd e (by decide))
theorem okR.r7 {i j n : Nat} {x : Int32} (r : rng x (500 * j)) : okR 7 i x j n := by
  refine ⟨⟨by decide, by decide, by decide⟩, ?_, ?_, ?_, ?_, ?_, ?_, ?_, ?_, ?_, ?_, ?_, ?_⟩ <;> (intro e; first | exact r | exact absurd e (by decide))
theorem okR.r19 {i j n : Nat} {x : Int32} (r : x = 0 ∨ x = 1) : okR 19 i x j n := by
  refine ⟨⟨by decide, by decide, by decide⟩, ?_, ?_, ?_, ?_, ?_, ?_, ?_, ?_, ?_, ?_, ?_, ?_⟩ <;> (intro e; first | exact r | exact absurd e (by decide))
theorem okR.r13 {i j n : Nat} {x : Int32} (r : rng x 3) : okR 13 i x j n := by
  refine ⟨⟨by decide, by decide, by decide⟩, ?_, ?_, ?_, ?_, ?_, ?_, ?_, ?_, ?_, ?_, ?_, ?_⟩ <;> (intro e; first | exact r | exact absurd e (by decide))
theorem okR.r14 {i j n : Nat} {x : Int32} (r : rng x 99) : okR 14 i x j n := by
  refine ⟨⟨by decide, by decide, by decide⟩, ?_, ?_, ?_, ?_, ?_, ?_, ?_, ?_, ?_, ?_, ?_, ?_⟩ <;> (intro e; first | exact r | exact absurd e (by decide))
theorem okR.r15 {i j n : Nat} {x : Int32} (r : rng x 999) : okR 15 i x j n := by
  refine ⟨⟨by decide, by decide, by decide⟩, ?_, ?_, ?_, ?_, ?_, ?_, ?_, ?_, ?_, ?_, ?_, ?_⟩ <;> (intro e; first | exact r | exact absurd e (by decide))
theorem okR.r31 {i j n : Nat} {x : Int32} (r : rng x 1000) : okR 31 i x j n := by
  refine ⟨⟨by decide, by decide, by decide⟩, ?_, ?_, ?_, ?_, ?_, ?_, ?_, ?_, ?_, ?_, ?_, ?_⟩ <;> (intro e; first | exact r | exact absurd e (by decide))
theorem okR.r12 {i j n : Nat} {x : Int32} (r : i < n) : okR 12 i x j n := by
  refine ⟨⟨by decide, by decide, by decide⟩, ?_, ?_, ?_, ?_, ?_, ?_, ?_, ?_, ?_, ?_, ?_, ?_⟩ <;> (intro e; first | exact r | exact absurd e (by decide))
theorem CI.st {j n k i : Nat} {M : xM} {x : Int32} (h : CI j n k M) (hj : j < 512) (hi : i < n) : CI (j + 1) n k (xup (xup M 12 i x) 42 i x) := by
  obtain ⟨e33, e34, e35, e36, e37, e38, e39, e40, e41, e42, e43, e44, e45, e46, e47, e48, e49, e50, e51⟩ := h.1
  refine ⟨?_, ?_, ((h.2.2.mono (Nat.le_succ _)).up hj (okR.r12 hi)).no hj (by decide)⟩
  · unfold CE
    simp [xup_o, xup_s, e33, e34, e35, e36, e37, e38, e39, e40, e41, e42, e43, e44, e45, e46, e47, e48, e49, e50, e51]
  · simpa [CN, xup_o, xup_s, upd] using h.2.1
theorem CI.nd {j n k i : Nat} {M : xM} {x : Int32} (h : CI j n k M) (hj : j < 512) (hx : rng x 500) : CI (j + 1) n k (xup (xup M 16 i x) 43 i x) := by
  obtain ⟨e33, e34, e35, e36, e37, e38, e39, e40, e41, e42, e43, e44, e45, e46, e47, e48, e49, e50, e51⟩ := h.1
  refine ⟨?_, ?_, ((h.2.2.mono (Nat.le_succ _)).up hj (okR.r16 hx)).no hj (by decide)⟩
  · unfold CE
    simp [xup_o, xup_s, e33, e34, e35, e36, e37, e38, e39, e40, e41, e42, e43, e44, e45, e46, e47, e48, e49, e50, e51]
  · simpa [CN, xup_o, xup_s, upd] using h.2.1
theorem rng_add {x y : Int32} {a b : Nat} (h1 : rng x a) (h2 : rng y b) (h : a + b < 2 ^ 31) : rng (x + y) (a + b) := by
  obtain ⟨q1, r1⟩ := h1
  obtain ⟨q2, r2⟩ := h2
  have e : x + y = nI (na x + na y) := by rw [← nI_add, ← q1, ← q2]
  have e2 : na (x + y) = na x + na y := by rw [e]; exact na_nI (by omega)
  exact ⟨by rw [e2]; exact e, by omega⟩
theorem rng_sub {x y : Int32} {a : Nat} (h1 : rng x a) (h2 : 0 ≤ y) (h : y ≤ x) (ha : a < 2 ^ 31) : rng (x - y) a := by
  obtain ⟨q1, r1⟩ := h1
  have hy : y ≤ nI (na x) := by rw [← q1]; exact h
  have r2 := na_le h2 hy (by omega)
  have q2 := x_pos h2
  have e : x - y = nI (na x - na y) := by
    have : x = nI (na x - na y) + y := by
      rw [q2, nI_add, show na x - na (nI (na y)) + na y = na x by rw [na_nI (by omega)]; omega]
      exact q1
    rw [this, Int32.add_sub_cancel]
    rw [← this]
  have e2 : na (x - y) = na x - na y := by rw [e]; exact na_nI (by omega)
  exact ⟨by rw [e2]; exact e, by omega⟩
theorem isT_6 {k : Int32} (h : isT k) : na k < 6 := na_lt h.1 h.2 (by omega)
theorem rdy_upd {r : Nat → Int32} {d : Nat} {b : Int32} : ∀ k, d < k → rdy (upd r d b) k + (if r d = 0 then 0 else 1) = rdy r k + (if b = 0 then 0 else 1) := by
  have lo : ∀ k, k ≤ d → rdy (upd r d b) k = rdy r k := by
    intro k
    induction k with
    | zero => intro _; rfl
    | succ k ih => intro h; rw [rdy, rdy, ih (by omega), show upd r d b k = r k by simp [upd, show ¬ k = d by omega]]
  intro k
  induction k with
  | zero => intro h; omega
  | succ k ih =>
    intro h
    rw [rdy, rdy]
    rcases Nat.lt_or_ge d k with q | q
    · have := ih q
      rw [show upd r d b k = r k by simp [upd, show ¬ k = d by omega]]
      omega
    · have : k = d := by omega
      subst this
      rw [lo k (Nat.le_refl _), show upd r k b k = b by simp [upd]]
      omega
theorem nI_dec (c : Nat) : nI (c + 1) + (-1) = nI c := by
  rw [← nI_add, Int32.add_assoc, show nI 1 + (-1) = 0 from by decide, Int32.add_zero]
theorem upd_id {r : Nat → Int32} {i : Nat} {x : Int32} (h : r i = x) : upd r i x = r := by
  funext j
  unfold upd
  split
  · next e => rw [e, h]
  · rfl
theorem CX.fld {j n : Nat} {M : xM} {a b v : Int32} (h : CX M j n) (hn : n < 10) (ha : inr a (nI 0) (nI 60)) (hb : inr b a (nI 60)) (hv : inr v (nI 0) (nI 100000)) : CX (xup (xup (xup (xup M 9 n a) 10 n b) 11 n v) 8 9 (nI (n + 1))) j (n + 1) := by
  obtain ⟨hB, hC, hG, hS⟩ := h
  obtain ⟨b1, b2, b3, b4, b5⟩ := hB
  have ra := ir ha (by omega) (by omega)
  have rv := ir hv (by omega) (by omega)
  have hb0 : 0 ≤ b := Int32.le_trans ha.1 hb.1
  have rb : rng b 60 := ⟨x_pos hb0, na_le hb0 hb.2 (by omega)⟩
  have hab : na a ≤ na b := by
    have q := hb.1
    rw [ra.1, rb.1] at q
    exact (nI_leI (by have := ra.2; omega) (by have := rb.2; omega)).mp q
  have o : ∀ q, q ≠ 8 → q ≠ 9 → q ≠ 10 → q ≠ 11 → (xup (xup (xup (xup M 9 n a) 10 n b) 11 n v) 8 9 (nI (n + 1))).1 q = M.1 q := by
    intro q h1 h2 h3 h4
    rw [xup_o h1, xup_o h4, xup_o h3, xup_o h2]
  refine ⟨⟨by simp [xup_o, xup_s, upd], by omega, fun f hf => ?_, fun t ht => ?_, fun d hd => ?_⟩, ?_, fun t ht => ?_, fun f hf => ?_⟩
  · obtain ⟨f1, f2, f3, f4, f5⟩ := b3 f hf
    unfold FB
    rw [o 16 (by decide) (by decide) (by decide) (by decide)]
    simp only [xup_1]
    by_cases e : f = n
    · subst e
      simp
      exact ⟨ra, rb, hab, rv, f5⟩
    · simp [e]
      exact ⟨f1, f2, f3, f4, f5⟩
  · unfold ThB
    rw [o 2 (by decide) (by decide) (by decide) (by decide), o 3 (by decide) (by decide) (by decide) (by decide), o 5 (by decide) (by decide) (by decide) (by decide), o 7 (by decide) (by decide) (by decide) (by decide)]
    exact b4 t ht
  · rw [o 19 (by decide) (by decide) (by decide) (by decide)]
    exact b5 d hd
  · unfold TC
    rw [o 13 (by decide) (by decide) (by decide) (by decide), o 14 (by decide) (by decide) (by decide) (by decide), o 15 (by decide) (by decide) (by decide) (by decide), o 31 (by decide) (by decide) (by decide) (by decide)]
    exact hC
  · rw [o 7 (by decide) (by decide) (by decide) (by decide)]
    exact hG t ht
  · rw [o 12 (by decide) (by decide) (by decide) (by decide)]
    exact hS f (by omega)
set_option maxHeartbeats 4000000 in
theorem q_about {jj n kk : Nat} {M u1 u2 : xM} {x1 x2 : Int32} {f w : Int32} (hI : CI jj n kk M) (hj : jj < 512) (p1 : (x1 = if okF f n ∧ inr w (nI 0) (nI 6) then tellv M (na f) (na w) else (-2)) ∧ u1 = M) (p2 : (x2 = if okF f n ∧ inr w (nI 0) (nI 6) then tellv (mv u1) (na f) (na w) else (-2)) ∧ u2 = u1) : x1 = x2 ∧ ∃ n' k', CI (jj + 1) n' k' u2 := by
  obtain ⟨rfl, rfl⟩ := p1
  obtain ⟨rfl, rfl⟩ := p2
  refine ⟨?_, n, kk, hI.nx eS.rf⟩
  rw [tell_eq hI.mvp]
set_option maxHeartbeats 4000000 in
theorem q_bays {jj n kk : Nat} {M u1 u2 : xM} {x1 x2 : Int32} {g s : Int32} (hI : CI jj n kk M) (hj : jj < 512) (p1 : (x1 = if inr g (nI 1) (nI 5000) ∧ inr s (nI 4) (nI 60) then (g + s - nI 1) / s else (-2)) ∧ u1 = M) (p2 : (x2 = if inr g (nI 1) (nI 5000) ∧ inr s (nI 4) (nI 60) then (g + s - nI 1) / s else (-2)) ∧ u2 = u1) : x1 = x2 ∧ ∃ n' k', CI (jj + 1) n' k' u2 := by
  obtain ⟨rfl, rfl⟩ := p1
  obtain ⟨rfl, rfl⟩ := p2
  exact ⟨rfl, n, kk, hI.nx eS.rf⟩
set_option maxHeartbeats 4000000 in
theorem q_doors {jj n kk : Nat} {M u1 u2 : xM} {x1 x2 : Int32} {g : Int32} (hI : CI jj n kk M) (hj : jj < 512) (p1 : (x1 = if inr g (nI 1) (nI 5000) then dfor (M.1 23) (M.1 24) g kk else (-2)) ∧ u1 = M) (p2 : (x2 = if inr g (nI 1) (nI 5000) then dfor (u1.1 49) (u1.1 50) g kk else (-2)) ∧ u2 = u1) : x1 = x2 ∧ ∃ n' k', CI (jj + 1) n' k' u2 := by
  obtain ⟨rfl, rfl⟩ := p1
  obtain ⟨rfl, rfl⟩ := p2
  obtain ⟨e33, e34, e35, e36, e37, e38, e39, e40, e41, e42, e43, e44, e45, e46, e47, e48, e49, e50, e51⟩ := hI.1
  refine ⟨?_, n, kk, hI.nx eS.rf⟩
  rw [e49, e50]
set_option maxHeartbeats 4000000 in
theorem q_keeps {jj n kk : Nat} {M u1 u2 : xM} {x1 x2 : Int32} {g b : Int32} (hI : CI jj n kk M) (hj : jj < 512) (p1 : (x1 = if inr g (nI 1) (nI 5000) ∧ inr b (nI 1) (nI 2000) then xB (dfor (M.1 23) (M.1 24) g kk ≤ nI 2 * b + nI 2) else (-2)) ∧ u1 = M) (p2 : (x2 = if inr g (nI 1) (nI 5000) ∧ inr b (nI 1) (nI 2000) then xB (dfor (u1.1 49) (u1.1 50) g kk ≤ nI 2 * b + nI 2) else (-2)) ∧ u2 = u1) : x1 = x2 ∧ ∃ n' k', CI (jj + 1) n' k' u2 := by
  obtain ⟨rfl, rfl⟩ := p1
  obtain ⟨rfl, rfl⟩ := p2
  obtain ⟨e33, e34, e35, e36, e37, e38, e39, e40, e41, e42, e43, e44, e45, e46, e47, e48, e49, e50, e51⟩ := hI.1
  refine ⟨?_, n, kk, hI.nx eS.rf⟩
  rw [e49, e50]
set_option maxHeartbeats 4000000 in
theorem q_bears {jj n kk : Nat} {M u1 u2 : xM} {x1 x2 : Int32} {f : Int32} (hI : CI jj n kk M) (hj : jj < 512) (p1 : (x1 = if okF f n then nI (topF (fun v => decide (stP (M.1 14) (M.1 31) (M.1 13) (M.1 15) (na f) (nI v))) 60) else (-2)) ∧ u1 = M) (p2 : (x2 = if okF f n then nI (topF (fun v => decide (stP (u1.1 46) (u1.1 51) (u1.1 45) (u1.1 47) (na f) (nI v))) 60) else (-2)) ∧ u2 = u1) : x1 = x2 ∧ ∃ n' k', CI (jj + 1) n' k' u2 := by
  obtain ⟨rfl, rfl⟩ := p1
  obtain ⟨rfl, rfl⟩ := p2
  obtain ⟨e33, e34, e35, e36, e37, e38, e39, e40, e41, e42, e43, e44, e45, e46, e47, e48, e49, e50, e51⟩ := hI.1
  refine ⟨?_, n, kk, hI.nx eS.rf⟩
  rw [e46, e51, e45, e47]
set_option maxHeartbeats 4000000 in
theorem q_gust {jj n kk : Nat} {M u1 u2 : xM} {x1 x2 : Int32} {d v : Int32} (hI : CI jj n kk M) (hj : jj < 512) (p1 : (x1 = if inr d (nI 0) (nI 60) ∧ inr v (nI 0) (nI 60) then nI (bset (guP (M.1 12) (M.1 9) (M.1 10) (M.1 14) (M.1 31) (M.1 13) (M.1 15) d v) n) else (-2)) ∧ u1 = M) (p2 : (x2 = if inr d (nI 0) (nI 60) ∧ inr v (nI 0) (nI 60) then nI (bset (guP (u1.1 42) (u1.1 39) (u1.1 40) (u1.1 46) (u1.1 51) (u1.1 45) (u1.1 47) d v) n) else (-2)) ∧ u2 = u1) : x1 = x2 ∧ ∃ n' k', CI (jj + 1) n' k' u2 := by
  obtain ⟨rfl, rfl⟩ := p1
  obtain ⟨rfl, rfl⟩ := p2
  obtain ⟨e33, e34, e35, e36, e37, e38, e39, e40, e41, e42, e43, e44, e45, e46, e47, e48, e49, e50, e51⟩ := hI.1
  refine ⟨?_, n, kk, hI.nx eS.rf⟩
  rw [e42, e39, e40, e46, e51, e45, e47]
set_option maxHeartbeats 4000000 in
theorem q_loads {jj n kk : Nat} {M u1 u2 : xM} {x1 x2 : Int32} {d r : Int32} (hI : CI jj n kk M) (hj : jj < 512) (p1 : (x1 = if inr d (nI 0) (nI 60) ∧ inr r (nI 1) (nI 100000) then (lds (M.1 12) (M.1 9) (M.1 10) (M.1 16) (M.1 4) d n + r - nI 1) / r else (-2)) ∧ u1 = M) (p2 : (x2 = if inr d (nI 0) (nI 60) ∧ inr r (nI 1) (nI 100000) then (lds (u1.1 42) (u1.1 39) (u1.1 40) (u1.1 43) (u1.1 35) d n + r - nI 1) / r else (-2)) ∧ u2 = u1) : x1 = x2 ∧ ∃ n' k', CI (jj + 1) n' k' u2 := by
  obtain ⟨rfl, rfl⟩ := p1
  obtain ⟨rfl, rfl⟩ := p2
  obtain ⟨e33, e34, e35, e36, e37, e38, e39, e40, e41, e42, e43, e44, e45, e46, e47, e48, e49, e50, e51⟩ := hI.1
  refine ⟨?_, n, kk, hI.nx eS.rf⟩
  rw [e42, e39, e40, e43, e35]
set_option maxHeartbeats 4000000 in
theorem q_count {jj n kk : Nat} {M u1 u2 : xM} {x1 x2 : Int32} {w : Int32} (hI : CI jj n kk M) (hj : jj < 512) (p1 : (x1 = if inr w (nI 0) (nI 5) then totv M n (na w) else (-2)) ∧ u1 = M) (p2 : (x2 = if inr w (nI 0) (nI 5) then totm u1 n (na w) else (-2)) ∧ u2 = u1) : x1 = x2 ∧ ∃ n' k', CI (jj + 1) n' k' u2 := by
  obtain ⟨rfl, rfl⟩ := p1
  obtain ⟨rfl, rfl⟩ := p2
  refine ⟨?_, n, kk, hI.nx eS.rf⟩
  rw [tot_eq hI]
set_option maxHeartbeats 4000000 in
theorem q_digest {jj n kk : Nat} {M u1 u2 : xM} {x1 x2 : Int64} (hI : CI jj n kk M) (hj : jj < 512) (p1 : x1 = dg n kk (totv M n) (tellv M) (fun f t => M.1 16 (f * 6 + t)) (M.1 2) (M.1 7) (M.1 23) (M.1 24) (M.1 31) ∧ u1 = M) (p2 : x2 = dg n kk (totm u1 n) (tellv (mv u1)) (fun f t => u1.1 43 (f * 6 + t)) (u1.1 33) (u1.1 38) (u1.1 49) (u1.1 50) (u1.1 51) ∧ u2 = u1) : x1 = x2 ∧ ∃ n' k', CI (jj + 1) n' k' u2 := by
  obtain ⟨rfl, rfl⟩ := p1
  obtain ⟨rfl, rfl⟩ := p2
  obtain ⟨e33, e34, e35, e36, e37, e38, e39, e40, e41, e42, e43, e44, e45, e46, e47, e48, e49, e50, e51⟩ := hI.1
  refine ⟨?_, n, kk, hI.nx eS.rf⟩
  rw [tot_eq hI, tell_eq hI.mvp, e43, e33, e38, e49, e50, e51]
set_option maxHeartbeats 4000000 in
theorem q_lack {jj n kk : Nat} {M u1 u2 : xM} {x1 x2 : Int32} {k d : Int32} (hI : CI jj n kk M) (hj : jj < 512) (p1 : (x1 = if isT k ∧ inr d (nI 0) (nI 65) then nI (SU M n (TK M n) (na k) (na d) - hh M (na k)) else (-2)) ∧ xFr M u1) (p2 : (x2 = if isT k ∧ inr d (nI 0) (nI 65) then nI (SU (mv u1) n (TK (mv u1) n) (na k) (na d) - hh (mv u1) (na k)) else (-2)) ∧ xFu u1 u2) : x1 = x2 ∧ ∃ n' k', CI (jj + 1) n' k' u2 := by
  obtain ⟨rfl, f1⟩ := p1
  obtain ⟨rfl, f2⟩ := p2
  obtain ⟨m6, m18, mB, mC, bb⟩ := hI.md (eM.r f1)
  refine ⟨?_, n, kk, hI.nx ((eS.r f1).tr (eS.u f2))⟩
  rw [bE_SU bb, bE_TK bb, bE_hh bb]
set_option maxHeartbeats 4000000 in
theorem q_fits {jj n kk : Nat} {M u1 u2 : xM} {x1 x2 : Int32} {s : Int32} (hI : CI jj n kk M) (hj : jj < 512) (p1 : (x1 = if okS s n then xB (LKn M n (na s) = 0) else (-2)) ∧ xFr M u1) (p2 : (x2 = if okS s n then xB (LKn (mv u1) n (na s) = 0) else (-2)) ∧ xFu u1 u2) : x1 = x2 ∧ ∃ n' k', CI (jj + 1) n' k' u2 := by
  obtain ⟨rfl, f1⟩ := p1
  obtain ⟨rfl, f2⟩ := p2
  obtain ⟨m6, m18, mB, mC, bb⟩ := hI.md (eM.r f1)
  refine ⟨?_, n, kk, hI.nx ((eS.r f1).tr (eS.u f2))⟩
  rw [bE_LK bb]
set_option maxHeartbeats 4000000 in
theorem q_hired {jj n kk : Nat} {M u1 u2 : xM} {x1 x2 : Int64} {s : Int32} (hI : CI jj n kk M) (hj : jj < 512) (p1 : (x1 = if okS s n then lN (HSn M n (na s)) else (-2)) ∧ xFr M u1) (p2 : (x2 = if okS s n then lN (HSn (mv u1) n (na s)) else (-2)) ∧ xFu u1 u2) : x1 = x2 ∧ ∃ n' k', CI (jj + 1) n' k' u2 := by
  obtain ⟨rfl, f1⟩ := p1
  obtain ⟨rfl, f2⟩ := p2
  obtain ⟨m6, m18, mB, mC, bb⟩ := hI.md (eM.r f1)
  refine ⟨?_, n, kk, hI.nx ((eS.r f1).tr (eS.u f2))⟩
  rw [bE_HS bb]
set_option maxHeartbeats 4000000 in
theorem q_best {jj n kk : Nat} {M u1 u2 : xM} {x1 x2 : Int32} (hI : CI jj n kk M) (hj : jj < 512) (p1 : (if LKn M n (TK M n) = 0 then x1 = nI (bestT M n) else x1 = (-3)) ∧ xFr M u1) (p2 : (if LKn (mv u1) n (TK (mv u1) n) = 0 then x2 = nI (bestM (mv u1) n) else x2 = (-3)) ∧ xFu u1 u2) : x1 = x2 ∧ ∃ n' k', CI (jj + 1) n' k' u2 := by
  obtain ⟨q1, f1⟩ := p1
  obtain ⟨q2, f2⟩ := p2
  obtain ⟨m6, m18, mB, mC, bb⟩ := hI.md (eM.r f1)
  refine ⟨?_, n, kk, hI.nx ((eS.r f1).tr (eS.u f2))⟩
  rw [bE_LK bb, bE_TK bb, bE_best bb, best_eq hI.hB] at q2
  split at q1
  · next e => rw [if_pos e] at q2; rw [q1, q2]
  · next e => rw [if_neg e] at q2; rw [q1, q2]
set_option maxHeartbeats 4000000 in
theorem q_dearest {jj n kk : Nat} {M u1 u2 : xM} {x1 x2 : Int32} (hI : CI jj n kk M) (hj : jj < 512) (p1 : x1 = nI (dearT M n (AS M n + 1)).1 ∧ xFr M u1) (p2 : x2 = nI (dearT (mv u1) n (2 ^ n)).1 ∧ xFu u1 u2) : x1 = x2 ∧ ∃ n' k', CI (jj + 1) n' k' u2 := by
  obtain ⟨rfl, f1⟩ := p1
  obtain ⟨rfl, f2⟩ := p2
  obtain ⟨m6, m18, mB, mC, bb⟩ := hI.md (eM.r f1)
  refine ⟨?_, n, kk, hI.nx ((eS.r f1).tr (eS.u f2))⟩
  rw [bE_dear bb, dear_eq]
set_option maxHeartbeats 4000000 in
theorem q_fewest {jj n kk : Nat} {M u1 u2 : xM} {x1 x2 : Int32} (hI : CI jj n kk M) (hj : jj < 512) (p1 : x1 = nI (if LKn M n (TK M n) = 0 then 0 else fewT M n (TK M n - 1)) ∧ xFr M u1) (p2 : x2 = nI (fewM (mv u1) n (2 ^ n)) ∧ xFu u1 u2) : x1 = x2 ∧ ∃ n' k', CI (jj + 1) n' k' u2 := by
  obtain ⟨rfl, f1⟩ := p1
  obtain ⟨rfl, f2⟩ := p2
  obtain ⟨m6, m18, mB, mC, bb⟩ := hI.md (eM.r f1)
  refine ⟨?_, n, kk, hI.nx ((eS.r f1).tr (eS.u f2))⟩
  rw [bE_few bb, few_eq hI.hB]
set_option maxHeartbeats 4000000 in
theorem q_hours {jj n kk : Nat} {M u1 u2 : xM} {x1 x2 : Int32} {d k : Int32} (hI : CI jj n kk M) (hj : jj < 512) (p1 : (x1 = if inr d (nI 0) (nI 60) ∧ inr k (nI 1) (nI 3) then nI (crv (na k) (wrk (wkB (M.1 12) (M.1 9) (M.1 10) d) n).1 (wkh (M.1 14) (wrk (wkB (M.1 12) (M.1 9) (M.1 10) d) n).2) (bco (na k) (wrk (wkB (M.1 12) (M.1 9) (M.1 10) d) n).1 (wkh (M.1 14) (wrk (wkB (M.1 12) (M.1 9) (M.1 10) d) n).2))) else (-2)) ∧ xFc M u1) (p2 : (x2 = if inr d (nI 0) (nI 60) ∧ inr k (nI 1) (nI 3) then nI (crv (na k) (mW u1 d n) (wkh (u1.1 46) (mF u1 d n)) (mnF (crv (na k) (mW u1 d n) (wkh (u1.1 46) (mF u1 d n))) (na k ^ mW u1 d n - 1))) else (-2)) ∧ xFd u1 u2) : x1 = x2 ∧ ∃ n' k', CI (jj + 1) n' k' u2 := by
  obtain ⟨rfl, f1⟩ := p1
  obtain ⟨rfl, f2⟩ := p2
  obtain ⟨e33, e34, e35, e36, e37, e38, e39, e40, e41, e42, e43, e44, e45, e46, e47, e48, e49, e50, e51⟩ := hI.eqs (eM.c f1)
  refine ⟨?_, n, kk, hI.nx ((eS.c f1).tr (eS.d f2))⟩
  unfold mF mW mP
  rw [e42, e39, e40, e46]
  split
  · next g =>
    have r := ir (a := 1) (b := 3) g.2 (by omega) (by omega)
    have r0 : 0 < na k := by
      rcases Nat.eq_zero_or_pos (na k) with z | z
      · have q := g.2.1
        rw [r.1, z] at q
        exact absurd ((nI_leI (by omega) (by omega)).mp q) (by omega)
      · exact z
    unfold bco
    rw [crews_first r0 r.2]
  · rfl
set_option maxHeartbeats 4000000 in
theorem q_crew {jj n kk : Nat} {M u1 u2 : xM} {x1 x2 : Int32} {d k f : Int32} (hI : CI jj n kk M) (hj : jj < 512) (p1 : (x1 = if inr d (nI 0) (nI 60) ∧ inr k (nI 1) (nI 3) ∧ okF f n then fnd (fun i => decide ((wrk (wkB (M.1 12) (M.1 9) (M.1 10) d) n).2 i = na f)) (fun i => nI (dgt (na k) (wrk (wkB (M.1 12) (M.1 9) (M.1 10) d) n).1 (bco (na k) (wrk (wkB (M.1 12) (M.1 9) (M.1 10) d) n).1 (wkh (M.1 14) (wrk (wkB (M.1 12) (M.1 9) (M.1 10) d) n).2)) i)) (wrk (wkB (M.1 12) (M.1 9) (M.1 10) d) n).1 0 else (-2)) ∧ xFc M u1) (p2 : (x2 = if inr d (nI 0) (nI 60) ∧ inr k (nI 1) (nI 3) ∧ okF f n then fnd (fun i => decide (mF u1 d n i = na f)) (fun i => nI (dgt (na k) (mW u1 d n) (mnF (crv (na k) (mW u1 d n) (wkh (u1.1 46) (mF u1 d n))) (na k ^ mW u1 d n - 1)) i)) (mW u1 d n) 0 else (-2)) ∧ xFd u1 u2) : x1 = x2 ∧ ∃ n' k', CI (jj + 1) n' k' u2 := by
  obtain ⟨rfl, f1⟩ := p1
  obtain ⟨rfl, f2⟩ := p2
  obtain ⟨e33, e34, e35, e36, e37, e38, e39, e40, e41, e42, e43, e44, e45, e46, e47, e48, e49, e50, e51⟩ := hI.eqs (eM.c f1)
  refine ⟨?_, n, kk, hI.nx ((eS.c f1).tr (eS.d f2))⟩
  unfold mF mW mP
  rw [e42, e39, e40, e46]
  split
  · next g =>
    have r := ir (a := 1) (b := 3) g.2.1 (by omega) (by omega)
    have r0 : 0 < na k := by
      rcases Nat.eq_zero_or_pos (na k) with z | z
      · have q := g.2.1.1
        rw [r.1, z] at q
        exact absurd ((nI_leI (by omega) (by omega)).mp q) (by omega)
      · exact z
    unfold bco
    rw [crews_first r0 r.2]
  · rfl
set_option maxHeartbeats 4000000 in
theorem q_thing {jj n kk : Nat} {M u1 u2 : xM} {x1 x2 : Int32} {k ow dr we hi co : Int32} (hI : CI jj n kk M) (hj : jj < 512) (p1 : if isT k ∧ inr ow (nI 0) (nI 1000) ∧ inr dr (nI 0) (nI 5) ∧ inr we (nI 1) (nI 100) ∧ inr hi (nI 0) (nI 1000) ∧ inr co (nI 0) (nI 10000) then x1 = nI 1 ∧ u1 = xup (xup (xup (xup (xup M 2 (na k) ow) 3 (na k) dr) 4 (na k) we) 5 (na k) hi) 6 (na k) co else x1 = (-2) ∧ u1 = M) (p2 : if isT k ∧ inr ow (nI 0) (nI 1000) ∧ inr dr (nI 0) (nI 5) ∧ inr we (nI 1) (nI 100) ∧ inr hi (nI 0) (nI 1000) ∧ inr co (nI 0) (nI 10000) then x2 = nI 1 ∧ u2 = xup (xup (xup (xup (xup u1 33 (na k) ow) 34 (na k) dr) 35 (na k) we) 36 (na k) hi) 37 (na k) co else x2 = (-2) ∧ u2 = u1) : x1 = x2 ∧ ∃ n' k', CI (jj + 1) n' k' u2 := by
  obtain ⟨e33, e34, e35, e36, e37, e38, e39, e40, e41, e42, e43, e44, e45, e46, e47, e48, e49, e50, e51⟩ := hI.1
  by_cases G : isT k ∧ inr ow (nI 0) (nI 1000) ∧ inr dr (nI 0) (nI 5) ∧ inr we (nI 1) (nI 100) ∧ inr hi (nI 0) (nI 1000) ∧ inr co (nI 0) (nI 10000)
  · rw [if_pos G] at p1 p2
    obtain ⟨rfl, rfl⟩ := p1
    obtain ⟨rfl, rfl⟩ := p2
    refine ⟨rfl, n, kk, ?_, ?_, ?_⟩
    · unfold CE
      simp [xup_o, xup_s, e33, e34, e35, e36, e37, e38, e39, e40, e41, e42, e43, e44, e45, e46, e47, e48, e49, e50, e51]
    · simpa [CN, xup_o, xup_s, upd] using hI.2.1
    · have c := hI.2.2.mono (Nat.le_succ jj)
      exact (((((((((c.up hj (okR.r2 (ir G.2.1 (by omega) (by omega)))).up hj (okR.r3 (ir G.2.2.1 (by omega) (by omega)))).no hj (by decide)).up hj (okR.r5 (ir G.2.2.2.2.1 (by omega) (by omega)))).no hj (by decide)).no hj (by decide)).no hj (by decide)).no hj (by decide)).no hj (by decide)).no hj (by decide)
  · rw [if_neg G] at p1
    obtain ⟨rfl, rfl⟩ := p1
    rw [if_neg G] at p2
    obtain ⟨rfl, rfl⟩ := p2
    exact ⟨rfl, n, kk, hI.nx eS.rf⟩
set_option maxHeartbeats 4000000 in
theorem q_field {jj n kk : Nat} {M u1 u2 : xM} {x1 x2 : Int32} {a b v : Int32} (hI : CI jj n kk M) (hj : jj < 512) (p1 : if inr a (nI 0) (nI 60) ∧ inr b a (nI 60) ∧ inr v (nI 0) (nI 100000) then (if n < 10 then x1 = nI n ∧ u1 = xup (xup (xup (xup M 9 n a) 10 n b) 11 n v) 8 9 (nI (n + 1)) else x1 = (-4) ∧ u1 = M) else x1 = (-2) ∧ u1 = M) (p2 : if inr a (nI 0) (nI 60) ∧ inr b a (nI 60) ∧ inr v (nI 0) (nI 100000) then (if n < 10 then x2 = nI n ∧ u2 = xup (xup (xup (xup (xup u1 39 n a) 40 n b) 41 n v) 42 n (nI 0)) 32 6 (nI (n + 1)) else x2 = (-4) ∧ u2 = u1) else x2 = (-2) ∧ u2 = u1) : x1 = x2 ∧ ∃ n' k', CI (jj + 1) n' k' u2 := by
  obtain ⟨e33, e34, e35, e36, e37, e38, e39, e40, e41, e42, e43, e44, e45, e46, e47, e48, e49, e50, e51⟩ := hI.1
  by_cases G : inr a (nI 0) (nI 60) ∧ inr b a (nI 60) ∧ inr v (nI 0) (nI 100000)
  · rw [if_pos G] at p1 p2
    by_cases G2 : n < 10
    · rw [if_pos G2] at p1 p2
      obtain ⟨rfl, rfl⟩ := p1
      obtain ⟨rfl, rfl⟩ := p2
      have z : upd (M.1 12) n (nI 0) = M.1 12 := upd_id (hI.2.2.2.2.2 n (Nat.le_refl _))
      obtain ⟨c1, c2, c3, c4, c5, c6⟩ := hI.2.1
      refine ⟨rfl, n + 1, kk, ?_, ?_, ?_⟩
      · unfold CE
        simp [xup_o, xup_s, e33, e34, e35, e36, e37, e38, e39, e40, e41, e42, e43, e44, e45, e46, e47, e48, e49, e50, e51]
        exact z
      · refine ⟨by simp [xup_o, xup_s, upd], ?_, ?_, ?_, c5, ?_⟩
        · simpa [xup_o, xup_s, upd] using c2
        · simpa [xup_o, xup_s, upd] using c3
        · simpa [xup_o, xup_s, upd] using c4
        · simpa [xup_o, xup_s, upd] using c6
      · exact ((((((hI.2.2.mono (Nat.le_succ jj)).fld G2 G.1 G.2.1 G.2.2).no hj (by decide)).no hj (by decide)).no hj (by decide)).no hj (by decide)).no hj (by decide)
    · rw [if_neg G2] at p1 p2
      obtain ⟨rfl, rfl⟩ := p1
      obtain ⟨rfl, rfl⟩ := p2
      exact ⟨rfl, n, kk, hI.nx eS.rf⟩
  · rw [if_neg G] at p1
    obtain ⟨rfl, rfl⟩ := p1
    rw [if_neg G] at p2
    obtain ⟨rfl, rfl⟩ := p2
    exact ⟨rfl, n, kk, hI.nx eS.rf⟩
set_option maxHeartbeats 4000000 in
theorem q_need {jj n kk : Nat} {M u1 u2 : xM} {x1 x2 : Int32} {f k v : Int32} (hI : CI jj n kk M) (hj : jj < 512) (p1 : if okF f n ∧ isT k ∧ inr v (nI 0) (nI 500) then (if M.1 12 (na f) = 0 then x1 = M.1 16 (na f * 6 + na k) ∧ u1 = xup M 16 (na f * 6 + na k) v else x1 = (-3) ∧ u1 = M) else x1 = (-2) ∧ u1 = M) (p2 : if okF f n ∧ isT k ∧ inr v (nI 0) (nI 500) then (if u1.1 42 (na f) = 0 then x2 = u1.1 43 (na f * 6 + na k) ∧ u2 = xup u1 43 (na f * 6 + na k) v else x2 = (-3) ∧ u2 = u1) else x2 = (-2) ∧ u2 = u1) : x1 = x2 ∧ ∃ n' k', CI (jj + 1) n' k' u2 := by
  by_cases G : okF f n ∧ isT k ∧ inr v (nI 0) (nI 500)
  · rw [if_pos G] at p1
    by_cases G2 : M.1 12 (na f) = 0
    · rw [if_pos G2] at p1
      obtain ⟨rfl, hu⟩ := p1
      have em : eM M u1 := by rw [hu]; exact eM.rf.up (by decide)
      obtain ⟨e33, e34, e35, e36, e37, e38, e39, e40, e41, e42, e43, e44, e45, e46, e47, e48, e49, e50, e51⟩ := hI.eqs em
      rw [if_pos G, e42, e43, if_pos G2] at p2
      obtain ⟨rfl, rfl⟩ := p2
      subst hu
      exact ⟨rfl, n, kk, hI.nd hj (ir G.2.2 (by omega) (by omega))⟩
    · rw [if_neg G2] at p1
      obtain ⟨rfl, rfl⟩ := p1
      obtain ⟨e33, e34, e35, e36, e37, e38, e39, e40, e41, e42, e43, e44, e45, e46, e47, e48, e49, e50, e51⟩ := hI.1
      rw [if_pos G, e42, if_neg G2] at p2
      obtain ⟨rfl, rfl⟩ := p2
      exact ⟨rfl, n, kk, hI.nx eS.rf⟩
  · rw [if_neg G] at p1
    obtain ⟨rfl, rfl⟩ := p1
    rw [if_neg G] at p2
    obtain ⟨rfl, rfl⟩ := p2
    exact ⟨rfl, n, kk, hI.nx eS.rf⟩
set_option maxHeartbeats 4000000 in
theorem q_giveUp {jj n kk : Nat} {M u1 u2 : xM} {x1 x2 : Int32} {f : Int32} (hI : CI jj n kk M) (hj : jj < 512) (p1 : if okF f n then (if M.1 12 (na f) = 0 ∨ M.1 12 (na f) = nI 1 then x1 = nI 1 ∧ u1 = xup M 12 (na f) (nI 2) else x1 = (-3) ∧ u1 = M) else x1 = (-2) ∧ u1 = M) (p2 : if okF f n then (if u1.1 42 (na f) = 0 ∨ u1.1 42 (na f) = nI 1 then x2 = nI 1 ∧ u2 = xup u1 42 (na f) (nI 2) else x2 = (-3) ∧ u2 = u1) else x2 = (-2) ∧ u2 = u1) : x1 = x2 ∧ ∃ n' k', CI (jj + 1) n' k' u2 := by
  by_cases G : okF f n
  · rw [if_pos G] at p1
    by_cases G2 : M.1 12 (na f) = 0 ∨ M.1 12 (na f) = nI 1
    · rw [if_pos G2] at p1
      obtain ⟨rfl, hu⟩ := p1
      have em : eM M u1 := by rw [hu]; exact eM.rf.up (by decide)
      obtain ⟨e33, e34, e35, e36, e37, e38, e39, e40, e41, e42, e43, e44, e45, e46, e47, e48, e49, e50, e51⟩ := hI.eqs em
      rw [if_pos G, e42, if_pos G2] at p2
      obtain ⟨rfl, rfl⟩ := p2
      subst hu
      exact ⟨rfl, n, kk, hI.st hj (okF_nat G hI.n10).2⟩
    · rw [if_neg G2] at p1
      obtain ⟨rfl, rfl⟩ := p1
      obtain ⟨e33, e34, e35, e36, e37, e38, e39, e40, e41, e42, e43, e44, e45, e46, e47, e48, e49, e50, e51⟩ := hI.1
      rw [if_pos G, e42, if_neg G2] at p2
      obtain ⟨rfl, rfl⟩ := p2
      exact ⟨rfl, n, kk, hI.nx eS.rf⟩
  · rw [if_neg G] at p1
    obtain ⟨rfl, rfl⟩ := p1
    rw [if_neg G] at p2
    obtain ⟨rfl, rfl⟩ := p2
    exact ⟨rfl, n, kk, hI.nx eS.rf⟩
set_option maxHeartbeats 4000000 in
theorem q_back {jj n kk : Nat} {M u1 u2 : xM} {x1 x2 : Int32} {f : Int32} (hI : CI jj n kk M) (hj : jj < 512) (p1 : if okF f n then (if M.1 12 (na f) = nI 1 then x1 = nI 1 ∧ u1 = xup M 12 (na f) (nI 3) else x1 = (-3) ∧ u1 = M) else x1 = (-2) ∧ u1 = M) (p2 : if okF f n then (if u1.1 42 (na f) = nI 1 then x2 = nI 1 ∧ u2 = xup u1 42 (na f) (nI 3) else x2 = (-3) ∧ u2 = u1) else x2 = (-2) ∧ u2 = u1) : x1 = x2 ∧ ∃ n' k', CI (jj + 1) n' k' u2 := by
  by_cases G : okF f n
  · rw [if_pos G] at p1
    by_cases G2 : M.1 12 (na f) = nI 1
    · rw [if_pos G2] at p1
      obtain ⟨rfl, hu⟩ := p1
      have em : eM M u1 := by rw [hu]; exact eM.rf.up (by decide)
      obtain ⟨e33, e34, e35, e36, e37, e38, e39, e40, e41, e42, e43, e44, e45, e46, e47, e48, e49, e50, e51⟩ := hI.eqs em
      rw [if_pos G, e42, if_pos G2] at p2
      obtain ⟨rfl, rfl⟩ := p2
      subst hu
      exact ⟨rfl, n, kk, hI.st hj (okF_nat G hI.n10).2⟩
    · rw [if_neg G2] at p1
      obtain ⟨rfl, rfl⟩ := p1
      obtain ⟨e33, e34, e35, e36, e37, e38, e39, e40, e41, e42, e43, e44, e45, e46, e47, e48, e49, e50, e51⟩ := hI.1
      rw [if_pos G, e42, if_neg G2] at p2
      obtain ⟨rfl, rfl⟩ := p2
      exact ⟨rfl, n, kk, hI.nx eS.rf⟩
  · rw [if_neg G] at p1
    obtain ⟨rfl, rfl⟩ := p1
    rw [if_neg G] at p2
    obtain ⟨rfl, rfl⟩ := p2
    exact ⟨rfl, n, kk, hI.nx eS.rf⟩
set_option maxHeartbeats 4000000 in
theorem q_rain {jj n kk : Nat} {M u1 u2 : xM} {x1 x2 : Int32} {d b : Int32} (hI : CI jj n kk M) (hj : jj < 512) (hb : b = 0 ∨ b = 1) (p1 : if inr d (nI 0) (nI 60) then x1 = nI 1 ∧ u1 = (if M.1 19 (na d) = b then M else xup (xup M 19 (na d) b) 18 1 (M.1 18 1 + (if b = 0 then (-1) else nI 1))) else x1 = (-2) ∧ u1 = M) (p2 : if inr d (nI 0) (nI 60) then x2 = nI 1 ∧ u2 = xup u1 48 (na d) b else x2 = (-2) ∧ u2 = u1) : x1 = x2 ∧ ∃ n' k', CI (jj + 1) n' k' u2 := by
  obtain ⟨e33, e34, e35, e36, e37, e38, e39, e40, e41, e42, e43, e44, e45, e46, e47, e48, e49, e50, e51⟩ := hI.1
  by_cases G : inr d (nI 0) (nI 60)
  · rw [if_pos G] at p1 p2
    obtain ⟨rfl, hu⟩ := p1
    obtain ⟨rfl, rfl⟩ := p2
    have rd := ir G (by omega) (by omega)
    obtain ⟨c1, c2, c3, c4, c5, c6⟩ := hI.2.1
    have c := hI.2.2.mono (Nat.le_succ jj)
    by_cases G2 : M.1 19 (na d) = b
    · rw [if_pos G2] at hu
      have z : upd (M.1 19) (na d) b = M.1 19 := upd_id G2
      subst hu
      refine ⟨rfl, n, kk, ?_, ?_, c.no hj (by decide)⟩
      · unfold CE
        simp [xup_o, xup_s, e33, e34, e35, e36, e37, e38, e39, e40, e41, e42, e43, e44, e45, e46, e47, e48, e49, e50, e51]
        exact z
      · simpa [CN, xup_o, xup_s, upd] using hI.2.1
    · rw [if_neg G2] at hu
      subst hu
      refine ⟨rfl, n, kk, ?_, ?_, ((c.up hj (okR.r19 hb)).no hj (by decide)).no hj (by decide)⟩
      · unfold CE
        simp [xup_o, xup_s, e33, e34, e35, e36, e37, e38, e39, e40, e41, e42, e43, e44, e45, e46, e47, e48, e49, e50, e51]
      · have hr := rdy_upd (r := M.1 19) (d := na d) (b := b) 61 (by have := rd.2; omega)
        have h0 := hI.2.2.1.2.2.2.2 (na d) (by have := rd.2; omega)
        refine ⟨by simpa [xup_o, xup_s] using c1, by simpa [xup_o, xup_s] using c2, by simpa [xup_o, xup_s] using c3, by simpa [xup_o, xup_s] using c4, c5, ?_⟩
        have e1 : (xup (xup (xup M 19 (na d) b) 18 1 (M.1 18 1 + (if b = 0 then (-1) else nI 1))) 48 (na d) b).1 18 1 = M.1 18 1 + (if b = 0 then (-1) else nI 1) := by simp [xup_o, xup_s, upd]
        have e2 : (xup (xup (xup M 19 (na d) b) 18 1 (M.1 18 1 + (if b = 0 then (-1) else nI 1))) 48 (na d) b).1 19 = upd (M.1 19) (na d) b := by simp [xup_o, xup_s]
        rw [e1, e2, c6]
        rcases hb with rfl | rfl
        · rcases h0 with h0 | h0
          · exact absurd h0 G2
          · rw [if_pos rfl]
            rw [h0, if_neg (by decide), if_pos rfl] at hr
            rw [← show rdy (upd (M.1 19) (na d) 0) 61 + 1 = rdy (M.1 19) 61 by omega]
            exact nI_dec _
        · rcases h0 with h0 | h0
          · rw [if_neg (by decide)]
            rw [h0, if_pos rfl, if_neg (by decide)] at hr
            rw [nI_add, show rdy (upd (M.1 19) (na d) 1) 61 = rdy (M.1 19) 61 + 1 by omega]
          · exact absurd h0 G2
  · rw [if_neg G] at p1
    obtain ⟨rfl, rfl⟩ := p1
    rw [if_neg G] at p2
    obtain ⟨rfl, rfl⟩ := p2
    exact ⟨rfl, n, kk, hI.nx eS.rf⟩
set_option maxHeartbeats 4000000 in
theorem q_missing {jj n kk : Nat} {M u1 u2 : xM} {x1 x2 : Int32} {f k v : Int32} (hI : CI jj n kk M) (hj : jj < 512) (p1 : if okF f n ∧ isT k ∧ inr v (nI 0) (M.1 16 (na f * 6 + na k)) then (if M.1 12 (na f) = nI 3 ∧ M.1 17 (na f * 6 + na k) = 0 then x1 = M.1 6 (na k) * v ∧ u1 = xup (xup (xup M 17 (na f * 6 + na k) (nI 1)) 7 (na k) (M.1 7 (na k) + v)) 0 7 (M.1 0 7 + M.1 6 (na k) * v) else x1 = (-3) ∧ u1 = M) else x1 = (-2) ∧ u1 = M) (p2 : if okF f n ∧ isT k ∧ inr v (nI 0) (u1.1 43 (na f * 6 + na k)) then (if u1.1 42 (na f) = nI 3 ∧ u1.1 44 (na f * 6 + na k) = 0 then x2 = u1.1 37 (na k) * v ∧ u2 = xup (xup (xup u1 44 (na f * 6 + na k) (nI 1)) 38 (na k) (u1.1 38 (na k) + v)) 32 17 (u1.1 32 17 + u1.1 37 (na k) * v) else x2 = (-3) ∧ u2 = u1) else x2 = (-2) ∧ u2 = u1) : x1 = x2 ∧ ∃ n' k', CI (jj + 1) n' k' u2 := by
  obtain ⟨c1, c2, c3, c4, c5, c6⟩ := hI.2.1
  by_cases G : okF f n ∧ isT k ∧ inr v (nI 0) (M.1 16 (na f * 6 + na k))
  · rw [if_pos G] at p1
    by_cases G2 : M.1 12 (na f) = nI 3 ∧ M.1 17 (na f * 6 + na k) = 0
    · rw [if_pos G2] at p1
      obtain ⟨rfl, hu⟩ := p1
      have em : eM M u1 := by rw [hu]; exact ((eM.rf.up (by decide)).up (by decide)).up (by decide)
      obtain ⟨e33, e34, e35, e36, e37, e38, e39, e40, e41, e42, e43, e44, e45, e46, e47, e48, e49, e50, e51⟩ := hI.eqs em
      rw [e43, if_pos G, e42, e44, if_pos G2, e37, e38, em 32 (by decide), c3] at p2
      obtain ⟨rfl, rfl⟩ := p2
      subst hu
      obtain ⟨e33, e34, e35, e36, e37, e38, e39, e40, e41, e42, e43, e44, e45, e46, e47, e48, e49, e50, e51⟩ := hI.1
      have hk := isT_6 G.2.1
      have hf := (okF_nat G.1 hI.n10).2
      have h10 := hI.n10
      have rn := (hI.2.2.1.2.2.1 (na f) (by omega)).2.2.2.2 (na k) hk
      have rv : rng v 500 := by
        have q := G.2.2.2
        rw [rn.1] at q
        have r2 := rn.2
        exact ⟨x_pos G.2.2.1, Nat.le_trans (na_le G.2.2.1 q (by omega)) r2⟩
      have rg := rng_add (hI.2.2.2.2.1 (na k) hk) rv (by omega)
      have c := hI.2.2.mono (Nat.le_succ jj)
      refine ⟨rfl, n, kk, ?_, ?_, (((((c.no hj (by decide)).up hj (okR.r7 rg)).no hj (by decide)).no hj (by decide)).no hj (by decide)).no hj (by decide)⟩
      · unfold CE
        simp [xup_o, xup_s, e33, e34, e35, e36, e37, e38, e39, e40, e41, e42, e43, e44, e45, e46, e47, e48, e49, e50, e51]
      · refine ⟨by simpa [xup_o, xup_s, upd] using c1, by simpa [xup_o, xup_s, upd] using c2, by simp [xup_o, xup_s, upd], by simpa [xup_o, xup_s] using c4, c5, by simpa [xup_o, xup_s] using c6⟩
    · rw [if_neg G2] at p1
      obtain ⟨rfl, rfl⟩ := p1
      obtain ⟨e33, e34, e35, e36, e37, e38, e39, e40, e41, e42, e43, e44, e45, e46, e47, e48, e49, e50, e51⟩ := hI.1
      rw [e43, if_pos G, e42, e44, if_neg G2] at p2
      obtain ⟨rfl, rfl⟩ := p2
      exact ⟨rfl, n, kk, hI.nx eS.rf⟩
  · rw [if_neg G] at p1
    obtain ⟨rfl, rfl⟩ := p1
    obtain ⟨e33, e34, e35, e36, e37, e38, e39, e40, e41, e42, e43, e44, e45, e46, e47, e48, e49, e50, e51⟩ := hI.1
    rw [e43, if_neg G] at p2
    obtain ⟨rfl, rfl⟩ := p2
    exact ⟨rfl, n, kk, hI.nx eS.rf⟩
set_option maxHeartbeats 4000000 in
theorem q_mend {jj n kk : Nat} {M u1 u2 : xM} {x1 x2 : Int32} {k v : Int32} (hI : CI jj n kk M) (hj : jj < 512) (p1 : if isT k ∧ inr v (nI 0) (nI 1000) then (if v ≤ M.1 7 (na k) then x1 = M.1 7 (na k) - v ∧ u1 = xup M 7 (na k) (M.1 7 (na k) - v) else x1 = (-3) ∧ u1 = M) else x1 = (-2) ∧ u1 = M) (p2 : if isT k ∧ inr v (nI 0) (nI 1000) then (if v ≤ u1.1 38 (na k) then x2 = u1.1 38 (na k) - v ∧ u2 = xup u1 38 (na k) (u1.1 38 (na k) - v) else x2 = (-3) ∧ u2 = u1) else x2 = (-2) ∧ u2 = u1) : x1 = x2 ∧ ∃ n' k', CI (jj + 1) n' k' u2 := by
  by_cases G : isT k ∧ inr v (nI 0) (nI 1000)
  · rw [if_pos G] at p1
    by_cases G2 : v ≤ M.1 7 (na k)
    · rw [if_pos G2] at p1
      obtain ⟨rfl, hu⟩ := p1
      have em : eM M u1 := by rw [hu]; exact eM.rf.up (by decide)
      obtain ⟨e33, e34, e35, e36, e37, e38, e39, e40, e41, e42, e43, e44, e45, e46, e47, e48, e49, e50, e51⟩ := hI.eqs em
      rw [if_pos G, e38, if_pos G2] at p2
      obtain ⟨rfl, rfl⟩ := p2
      subst hu
      obtain ⟨e33, e34, e35, e36, e37, e38, e39, e40, e41, e42, e43, e44, e45, e46, e47, e48, e49, e50, e51⟩ := hI.1
      have c := hI.2.2.mono (Nat.le_succ jj)
      refine ⟨rfl, n, kk, ?_, ?_, (c.up hj (okR.r7 ((rng_sub (hI.2.2.2.2.1 (na k) (isT_6 G.1)) G.2.1 G2 (by omega)).mono (by omega)))).no hj (by decide)⟩
      · unfold CE
        simp [xup_o, xup_s, e33, e34, e35, e36, e37, e38, e39, e40, e41, e42, e43, e44, e45, e46, e47, e48, e49, e50, e51]
      · simpa [CN, xup_o, xup_s, upd] using hI.2.1
    · rw [if_neg G2] at p1
      obtain ⟨rfl, rfl⟩ := p1
      obtain ⟨e33, e34, e35, e36, e37, e38, e39, e40, e41, e42, e43, e44, e45, e46, e47, e48, e49, e50, e51⟩ := hI.1
      rw [if_pos G, e38, if_neg G2] at p2
      obtain ⟨rfl, rfl⟩ := p2
      exact ⟨rfl, n, kk, hI.nx eS.rf⟩
  · rw [if_neg G] at p1
    obtain ⟨rfl, rfl⟩ := p1
    rw [if_neg G] at p2
    obtain ⟨rfl, rfl⟩ := p2
    exact ⟨rfl, n, kk, hI.nx eS.rf⟩
set_option maxHeartbeats 4000000 in
theorem q_law {jj n kk : Nat} {M u1 u2 : xM} {x1 x2 : Int32} {g d : Int32} (hI : CI jj n kk M) (hj : jj < 512) (p1 : if inr g (nI 1) (nI 5000) ∧ inr d (nI 1) (nI 200) then (if 0 < kk ∧ (g ≤ M.1 23 (kk - 1) ∨ d ≤ M.1 24 (kk - 1)) then x1 = (-3) ∧ u1 = M else if kk < 6 then x1 = nI (kk + 1) ∧ u1 = xup (xup (xup M 23 kk g) 24 kk d) 22 2 (nI (kk + 1)) else x1 = (-4) ∧ u1 = M) else x1 = (-2) ∧ u1 = M) (p2 : if inr g (nI 1) (nI 5000) ∧ inr d (nI 1) (nI 200) then (if 0 < kk ∧ (g ≤ u1.1 49 (kk - 1) ∨ d ≤ u1.1 50 (kk - 1)) then x2 = (-3) ∧ u2 = u1 else if kk < 6 then x2 = nI (kk + 1) ∧ u2 = xup (xup (xup u1 49 kk g) 50 kk d) 32 18 (nI (kk + 1)) else x2 = (-4) ∧ u2 = u1) else x2 = (-2) ∧ u2 = u1) : x1 = x2 ∧ ∃ n' k', CI (jj + 1) n' k' u2 := by
  obtain ⟨c1, c2, c3, c4, c5, c6⟩ := hI.2.1
  obtain ⟨e33, e34, e35, e36, e37, e38, e39, e40, e41, e42, e43, e44, e45, e46, e47, e48, e49, e50, e51⟩ := hI.1
  by_cases G : inr g (nI 1) (nI 5000) ∧ inr d (nI 1) (nI 200)
  · rw [if_pos G] at p1 p2
    by_cases G2 : 0 < kk ∧ (g ≤ M.1 23 (kk - 1) ∨ d ≤ M.1 24 (kk - 1))
    · rw [if_pos G2] at p1
      obtain ⟨rfl, rfl⟩ := p1
      rw [e49, e50, if_pos G2] at p2
      obtain ⟨rfl, rfl⟩ := p2
      exact ⟨rfl, n, kk, hI.nx eS.rf⟩
    · rw [if_neg G2] at p1
      by_cases G3 : kk < 6
      · rw [if_pos G3] at p1
        obtain ⟨rfl, hu⟩ := p1
        have em : eM M u1 := by rw [hu]; exact ((eM.rf.up (by decide)).up (by decide)).up (by decide)
        have w := hI.eqs em
        rw [w.2.2.2.2.2.2.2.2.2.2.2.2.2.2.2.2.1, w.2.2.2.2.2.2.2.2.2.2.2.2.2.2.2.2.2.1, if_neg G2, if_pos G3] at p2
        obtain ⟨rfl, rfl⟩ := p2
        subst hu
        have c := hI.2.2.mono (Nat.le_succ jj)
        refine ⟨rfl, n, kk + 1, ?_, ?_, (((((c.no hj (by decide)).no hj (by decide)).no hj (by decide)).no hj (by decide)).no hj (by decide)).no hj (by decide)⟩
        · unfold CE
          simp [xup_o, xup_s, e33, e34, e35, e36, e37, e38, e39, e40, e41, e42, e43, e44, e45, e46, e47, e48, e49, e50, e51]
        · refine ⟨by simpa [xup_o, xup_s, upd] using c1, by simp [xup_o, xup_s, upd], by simpa [xup_o, xup_s, upd] using c3, by simp [xup_o, xup_s, upd], by omega, by simpa [xup_o, xup_s] using c6⟩
      · rw [if_neg G3] at p1
        obtain ⟨rfl, rfl⟩ := p1
        rw [e49, e50, if_neg G2, if_neg G3] at p2
        obtain ⟨rfl, rfl⟩ := p2
        exact ⟨rfl, n, kk, hI.nx eS.rf⟩
  · rw [if_neg G] at p1
    obtain ⟨rfl, rfl⟩ := p1
    rw [if_neg G] at p2
    obtain ⟨rfl, rfl⟩ := p2
    exact ⟨rfl, n, kk, hI.nx eS.rf⟩
set_option maxHeartbeats 4000000 in
theorem q_unlaw {jj n kk : Nat} {M u1 u2 : xM} {x1 x2 : Int32} (hI : CI jj n kk M) (hj : jj < 512) (p1 : x1 = M.1 22 2 ∧ u1 = xup M 22 2 (nI 0)) (p2 : x2 = u1.1 32 18 ∧ u2 = xup u1 32 18 (nI 0)) : x1 = x2 ∧ ∃ n' k', CI (jj + 1) n' k' u2 := by
  obtain ⟨c1, c2, c3, c4, c5, c6⟩ := hI.2.1
  obtain ⟨e33, e34, e35, e36, e37, e38, e39, e40, e41, e42, e43, e44, e45, e46, e47, e48, e49, e50, e51⟩ := hI.1
  obtain ⟨rfl, rfl⟩ := p1
  obtain ⟨rfl, rfl⟩ := p2
  have c := hI.2.2.mono (Nat.le_succ jj)
  refine ⟨?_, n, 0, ?_, ?_, (c.no hj (by decide)).no hj (by decide)⟩
  · rw [xup_o (by decide), c2, c4]
  · unfold CE
    simp [xup_o, xup_s, e33, e34, e35, e36, e37, e38, e39, e40, e41, e42, e43, e44, e45, e46, e47, e48, e49, e50, e51]
  · refine ⟨by simpa [xup_o, xup_s, upd] using c1, by simp [xup_o, xup_s, upd], by simpa [xup_o, xup_s, upd] using c3, by simp [xup_o, xup_s, upd], by omega, by simpa [xup_o, xup_s] using c6⟩
set_option maxHeartbeats 4000000 in
theorem q_soil {jj n kk : Nat} {M u1 u2 : xM} {x1 x2 : Int32} {s h : Int32} (hI : CI jj n kk M) (hj : jj < 512) (p1 : if inr s (nI 0) (nI 3) ∧ inr h (nI 1) (nI 1000) then x1 = M.1 31 (na s) ∧ u1 = xup M 31 (na s) h else x1 = (-2) ∧ u1 = M) (p2 : if inr s (nI 0) (nI 3) ∧ inr h (nI 1) (nI 1000) then x2 = u1.1 51 (na s) ∧ u2 = xup u1 51 (na s) h else x2 = (-2) ∧ u2 = u1) : x1 = x2 ∧ ∃ n' k', CI (jj + 1) n' k' u2 := by
  obtain ⟨e33, e34, e35, e36, e37, e38, e39, e40, e41, e42, e43, e44, e45, e46, e47, e48, e49, e50, e51⟩ := hI.1
  by_cases G : inr s (nI 0) (nI 3) ∧ inr h (nI 1) (nI 1000)
  · rw [if_pos G] at p1 p2
    obtain ⟨rfl, rfl⟩ := p1
    obtain ⟨rfl, rfl⟩ := p2
    have c := hI.2.2.mono (Nat.le_succ jj)
    refine ⟨?_, n, kk, ?_, ?_, (c.up hj (okR.r31 (ir G.2 (by omega) (by omega)))).no hj (by decide)⟩
    · rw [xup_o (by decide), e51]
    · unfold CE
      simp [xup_o, xup_s, e33, e34, e35, e36, e37, e38, e39, e40, e41, e42, e43, e44, e45, e46, e47, e48, e49, e50, e51]
    · simpa [CN, xup_o, xup_s, upd] using hI.2.1
  · rw [if_neg G] at p1
    obtain ⟨rfl, rfl⟩ := p1
    rw [if_neg G] at p2
    obtain ⟨rfl, rfl⟩ := p2
    exact ⟨rfl, n, kk, hI.nx eS.rf⟩
set_option maxHeartbeats 4000000 in
theorem q_pitch {jj n kk : Nat} {M u1 u2 : xM} {x1 x2 : Int32} {f s b k : Int32} (hI : CI jj n kk M) (hj : jj < 512) (p1 : if okF f n ∧ inr s (nI 0) (nI 3) ∧ inr b (nI 0) (nI 99) ∧ inr k (nI 0) (nI 999) then x1 = nI 1 ∧ u1 = xup (xup (xup M 13 (na f) s) 14 (na f) b) 15 (na f) k else x1 = (-2) ∧ u1 = M) (p2 : if okF f n ∧ inr s (nI 0) (nI 3) ∧ inr b (nI 0) (nI 99) ∧ inr k (nI 0) (nI 999) then x2 = nI 1 ∧ u2 = xup (xup (xup u1 45 (na f) s) 46 (na f) b) 47 (na f) k else x2 = (-2) ∧ u2 = u1) : x1 = x2 ∧ ∃ n' k', CI (jj + 1) n' k' u2 := by
  obtain ⟨e33, e34, e35, e36, e37, e38, e39, e40, e41, e42, e43, e44, e45, e46, e47, e48, e49, e50, e51⟩ := hI.1
  by_cases G : okF f n ∧ inr s (nI 0) (nI 3) ∧ inr b (nI 0) (nI 99) ∧ inr k (nI 0) (nI 999)
  · rw [if_pos G] at p1 p2
    obtain ⟨rfl, rfl⟩ := p1
    obtain ⟨rfl, rfl⟩ := p2
    have c := hI.2.2.mono (Nat.le_succ jj)
    refine ⟨rfl, n, kk, ?_, ?_, (((((c.up hj (okR.r13 (ir G.2.1 (by omega) (by omega)))).up hj (okR.r14 (ir G.2.2.1 (by omega) (by omega)))).up hj (okR.r15 (ir G.2.2.2 (by omega) (by omega)))).no hj (by decide)).no hj (by decide)).no hj (by decide)⟩
    · unfold CE
      simp [xup_o, xup_s, e33, e34, e35, e36, e37, e38, e39, e40, e41, e42, e43, e44, e45, e46, e47, e48, e49, e50, e51]
    · simpa [CN, xup_o, xup_s, upd] using hI.2.1
  · rw [if_neg G] at p1
    obtain ⟨rfl, rfl⟩ := p1
    rw [if_neg G] at p2
    obtain ⟨rfl, rfl⟩ := p2
    exact ⟨rfl, n, kk, hI.nx eS.rf⟩
set_option maxHeartbeats 4000000 in
theorem q_take {jj n kk : Nat} {M u1 u2 : xM} {x1 x2 : Int32} {f : Int32} (hI : CI jj n kk M) (hj : jj < 512) (p1 : if okF f n then (if M.1 12 (na f) = 0 ∧ LKn M n (TK M n ||| 2 ^ na f) = 0 then x1 = nI 1 ∧ ∃ v, xFr M v ∧ u1 = xup v 12 (na f) (nI 1) else x1 = (-3) ∧ xFr M u1) else x1 = (-2) ∧ xFr M u1) (p2 : if okF f n then (if u1.1 42 (na f) = 0 ∧ LKn (mv u1) n (TK (mv u1) n ||| 2 ^ na f) = 0 then x2 = nI 1 ∧ ∃ v, xFu u1 v ∧ u2 = xup v 42 (na f) (nI 1) else x2 = (-3) ∧ xFu u1 u2) else x2 = (-2) ∧ xFu u1 u2) : x1 = x2 ∧ ∃ n' k', CI (jj + 1) n' k' u2 := by
  by_cases G : okF f n
  · rw [if_pos G] at p1 p2
    by_cases G2 : M.1 12 (na f) = 0 ∧ LKn M n (TK M n ||| 2 ^ na f) = 0
    · rw [if_pos G2] at p1
      obtain ⟨rfl, w1, f1, rfl⟩ := p1
      have em : eM M (xup w1 12 (na f) (nI 1)) := (eM.r f1).up (by decide)
      obtain ⟨e33, e34, e35, e36, e37, e38, e39, e40, e41, e42, e43, e44, e45, e46, e47, e48, e49, e50, e51⟩ := hI.eqs em
      obtain ⟨m6, m18, mB, mC, bb⟩ := hI.md em
      rw [e42, bE_TK bb, bE_LK bb, if_pos G2] at p2
      obtain ⟨rfl, w2, f2, rfl⟩ := p2
      refine ⟨rfl, n, kk, (hI.st (x := nI 1) hj (okF_nat G hI.n10).2).fr ?_⟩
      exact (((eS.r f1).up (fun e => absurd e (by decide))).up (fun e => absurd e (by decide))).tr ((eS.u f2).up (fun e => absurd e (by decide)))
    · rw [if_neg G2] at p1
      obtain ⟨rfl, f1⟩ := p1
      obtain ⟨e33, e34, e35, e36, e37, e38, e39, e40, e41, e42, e43, e44, e45, e46, e47, e48, e49, e50, e51⟩ := hI.eqs (eM.r f1)
      obtain ⟨m6, m18, mB, mC, bb⟩ := hI.md (eM.r f1)
      rw [e42, bE_TK bb, bE_LK bb, if_neg G2] at p2
      obtain ⟨rfl, f2⟩ := p2
      exact ⟨rfl, n, kk, hI.nx ((eS.r f1).tr (eS.u f2))⟩
  · rw [if_neg G] at p1 p2
    exact ⟨p1.1.trans p2.1.symm, n, kk, hI.nx ((eS.r p1.2).tr (eS.u p2.2))⟩
set_option maxHeartbeats 4000000 in
theorem q_hire {jj n kk : Nat} {M u1 u2 : xM} {x1 x2 : Int32} {f : Int32} (hI : CI jj n kk M) (hj : jj < 512) (p1 : if okF f n then (if M.1 12 (na f) = 0 then x1 = (lN (HSn (xup M 12 (na f) (nI 1)) n (TK (xup M 12 (na f) (nI 1)) n))).toInt32 ∧ xFr (xup M 12 (na f) (nI 1)) u1 else x1 = (-3) ∧ xFr M u1) else x1 = (-2) ∧ xFr M u1) (p2 : if okF f n then (if u1.1 42 (na f) = 0 then x2 = (lN (HSn (xup (mv u1) 12 (na f) (nI 1)) n (TK (xup (mv u1) 12 (na f) (nI 1)) n))).toInt32 ∧ xFu (xup u1 42 (na f) (nI 1)) u2 else x2 = (-3) ∧ xFu u1 u2) else x2 = (-2) ∧ xFu u1 u2) : x1 = x2 ∧ ∃ n' k', CI (jj + 1) n' k' u2 := by
  by_cases G : okF f n
  · rw [if_pos G] at p1 p2
    by_cases G2 : M.1 12 (na f) = 0
    · rw [if_pos G2] at p1
      obtain ⟨rfl, f1⟩ := p1
      have em : eM M u1 := (eM.rf.up (by decide)).tr (eM.r f1)
      obtain ⟨e33, e34, e35, e36, e37, e38, e39, e40, e41, e42, e43, e44, e45, e46, e47, e48, e49, e50, e51⟩ := hI.eqs em
      obtain ⟨m6, m18, mB, mC, bb⟩ := hI.md em
      have bu := bE.up (p := 12) (k := na f) (x := nI 1) bb
      rw [e42, bE_TK bu, bE_HS bu, if_pos G2] at p2
      obtain ⟨rfl, f2⟩ := p2
      refine ⟨rfl, n, kk, (hI.st (x := nI 1) hj (okF_nat G hI.n10).2).fr ?_⟩
      exact ((eS.r f1).up (fun e => absurd e (by decide))).tr (eS.u f2)
    · rw [if_neg G2] at p1
      obtain ⟨rfl, f1⟩ := p1
      obtain ⟨e33, e34, e35, e36, e37, e38, e39, e40, e41, e42, e43, e44, e45, e46, e47, e48, e49, e50, e51⟩ := hI.eqs (eM.r f1)
      rw [e42, if_neg G2] at p2
      obtain ⟨rfl, f2⟩ := p2
      exact ⟨rfl, n, kk, hI.nx ((eS.r f1).tr (eS.u f2))⟩
  · rw [if_neg G] at p1 p2
    exact ⟨p1.1.trans p2.1.symm, n, kk, hI.nx ((eS.r p1.2).tr (eS.u p2.2))⟩
set_option maxHeartbeats 4000000 in
theorem q_change {jj n kk : Nat} {M u1 u2 : xM} {x1 x2 : Int32} {f k v : Int32} (hI : CI jj n kk M) (hj : jj < 512) (p1 : if okF f n ∧ isT k ∧ inr v (nI 0) (nI 500) then (if M.1 12 (na f) = nI 1 then x1 = xB (LKn (xup M 16 (na f * 6 + na k) v) n (TK M n) = 0) ∧ xFr (xup M 16 (na f * 6 + na k) v) u1 else x1 = (-3) ∧ xFr M u1) else x1 = (-2) ∧ xFr M u1) (p2 : if okF f n ∧ isT k ∧ inr v (nI 0) (nI 500) then (if u1.1 42 (na f) = nI 1 then x2 = xB (LKn (xup (mv u1) 16 (na f * 6 + na k) v) n (TK (mv u1) n) = 0) ∧ xFu (xup u1 43 (na f * 6 + na k) v) u2 else x2 = (-3) ∧ xFu u1 u2) else x2 = (-2) ∧ xFu u1 u2) : x1 = x2 ∧ ∃ n' k', CI (jj + 1) n' k' u2 := by
  by_cases G : okF f n ∧ isT k ∧ inr v (nI 0) (nI 500)
  · rw [if_pos G] at p1 p2
    by_cases G2 : M.1 12 (na f) = nI 1
    · rw [if_pos G2] at p1
      obtain ⟨rfl, f1⟩ := p1
      have em : eM M u1 := (eM.rf.up (by decide)).tr (eM.r f1)
      obtain ⟨e33, e34, e35, e36, e37, e38, e39, e40, e41, e42, e43, e44, e45, e46, e47, e48, e49, e50, e51⟩ := hI.eqs em
      obtain ⟨m6, m18, mB, mC, bb⟩ := hI.md em
      have bu := bE.up (p := 16) (k := na f * 6 + na k) (x := v) bb
      rw [e42, bE_TK bb, bE_LK bu, if_pos G2] at p2
      obtain ⟨rfl, f2⟩ := p2
      refine ⟨rfl, n, kk, (hI.nd (i := na f * 6 + na k) (x := v) hj (ir G.2.2 (by omega) (by omega))).fr ?_⟩
      exact ((eS.r f1).up (fun e => absurd e (by decide))).tr (eS.u f2)
    · rw [if_neg G2] at p1
      obtain ⟨rfl, f1⟩ := p1
      obtain ⟨e33, e34, e35, e36, e37, e38, e39, e40, e41, e42, e43, e44, e45, e46, e47, e48, e49, e50, e51⟩ := hI.eqs (eM.r f1)
      rw [e42, if_neg G2] at p2
      obtain ⟨rfl, f2⟩ := p2
      exact ⟨rfl, n, kk, hI.nx ((eS.r f1).tr (eS.u f2))⟩
  · rw [if_neg G] at p1 p2
    exact ⟨p1.1.trans p2.1.symm, n, kk, hI.nx ((eS.r p1.2).tr (eS.u p2.2))⟩
