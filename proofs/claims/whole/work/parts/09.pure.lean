/-! pure words: sets of fields as numbers, sums, the law's lines -/
theorem s_l : ∀ n, n < 32 → ((nI n &&& 31).toBitVec.smod 32).toNat = n := by decide +kernel
theorem s_u : ∀ n, n < 32 → (((nI n).toUInt32 &&& Int32.toUInt32 31).toBitVec % 32).toNat = n := by decide +kernel
theorem fa_and (a b : Nat) : nI a &&& nI b = nI (a &&& b) := by
  apply Int32.toBitVec_inj.1
  show BitVec.ofNat 32 a &&& BitVec.ofNat 32 b = BitVec.ofNat 32 (a &&& b)
  apply BitVec.eq_of_getLsbD_eq
  intro i hi
  simp [hi]
theorem fa_or (a b : Nat) : nI a ||| nI b = nI (a ||| b) := by
  apply Int32.toBitVec_inj.1
  show BitVec.ofNat 32 a ||| BitVec.ofNat 32 b = BitVec.ofNat 32 (a ||| b)
  apply BitVec.eq_of_getLsbD_eq
  intro i hi
  simp [hi]
theorem fa_xor (a b : Nat) : nI a ^^^ nI b = nI (a ^^^ b) := by
  apply Int32.toBitVec_inj.1
  show BitVec.ofNat 32 a ^^^ BitVec.ofNat 32 b = BitVec.ofNat 32 (a ^^^ b)
  apply BitVec.eq_of_getLsbD_eq
  intro i hi
  simp [hi]
theorem x_down {n : Nat} {P : Nat → Prop} (h0 : P n) (hs : ∀ f, f < n → P (f + 1) → P f) : ∀ f, f ≤ n → P f := by
  intro f hf
  obtain ⟨k, rfl⟩ : ∃ k, n = f + k := ⟨n - f, by omega⟩
  induction k generalizing f with
  | zero => exact h0
  | succ k ih =>
    refine hs f (by omega) ?_
    have e : f + (k + 1) = (f + 1) + k := by omega
    rw [e] at h0 hs
    exact ih (f + 1) h0 hs (by omega)
theorem x_shl1 {f : Nat} (hf : f < 31) : nI 1 <<< (nI f &&& 31) = nI (2 ^ f) := by
  rw [pk_shlN (nI f &&& 31) f (s_l f (by omega)) (by have := Nat.pow_lt_pow_right (a := 2) (by omega) (show f < 32 by omega); omega)]
  rw [Nat.one_mul]
theorem x_bit {s f : Nat} (hs : s < 2 ^ 31) (hf : f < 31) : ((nI s >>> (nI f &&& 31)) &&& nI 1 = nI 1) ↔ s.testBit f = true := by
  rw [pk_shrN hs (nI f &&& 31) f (s_l f (by omega)), fa_and, Nat.and_one_is_mod, nI_eq (by omega) (by omega), Nat.testBit_eq_decide_div_mod_eq]
  simp
/-- the set of those under n of which P holds -/
def bset (P : Nat → Bool) : Nat → Nat
  | 0 => 0
  | n + 1 => bset P n ||| (if P n then 2 ^ n else 0)
theorem bset_bit (P : Nat → Bool) : ∀ n f, (bset P n).testBit f = (decide (f < n) && P f)
  | 0, f => by simp [bset]
  | n + 1, f => by
    rw [bset, Nat.testBit_or, bset_bit P n f]
    by_cases h : P n = true
    · rw [if_pos h, Nat.testBit_two_pow]
      by_cases e : n = f
      · subst e; simp [h]
      · have e2 : (f < n + 1) ↔ f < n := by omega
        simp [e, e2]
    · rw [if_neg h]
      by_cases e : n = f
      · subst e; simp at h; simp [h]
      · have e2 : (f < n + 1) ↔ f < n := by omega
        simp [e2]
theorem bset_lt (P : Nat → Bool) (n : Nat) : bset P n < 2 ^ n := by
  apply Nat.lt_pow_two_of_testBit
  intro i hi
  rw [bset_bit]
  simp; omega
theorem bset_congr {P Q : Nat → Bool} : ∀ {n : Nat}, (∀ f, f < n → P f = Q f) → bset P n = bset Q n
  | 0, _ => rfl
  | n + 1, h => by
    rw [bset, bset, bset_congr (fun f hf => h f (by omega)), h n (by omega)]
def xset (st : Nat → Int32) (w : Int32) (n : Nat) : Nat := bset (fun f => decide (st f = w)) n
theorem xset_lt (st : Nat → Int32) (w : Int32) {n : Nat} (h : n ≤ 10) : xset st w n < 1024 :=
  Nat.lt_of_lt_of_le (bset_lt _ n) (Nat.pow_le_pow_right (show 0 < 2 by omega) h)
theorem xset_bit (st : Nat → Int32) (w : Int32) (n f : Nat) : (xset st w n).testBit f = (decide (f < n) && decide (st f = w)) := bset_bit _ n f
/-- the prices of a set -/
def prs (p : Nat → Int32) (s : Nat) : Nat → Int32
  | 0 => nI 0
  | n + 1 => if s.testBit n = true then prs p s n + p n else prs p s n
def gsum (g : Nat → Int32) : Nat → Int32
  | 0 => nI 0
  | n + 1 => gsum g n + g n
/-- doors by the law's lines -/
def dfor (fr dd : Nat → Int32) (g : Int32) : Nat → Int32
  | 0 => nI 1
  | n + 1 => if fr n ≤ g then dd n else dfor fr dd g n
def hv (own gone : Int32) : Int32 := if nI 0 < own - gone then own - gone else nI 0
def tellv (M : xM) (f : Nat) : Nat → Int32
  | 0 => M.1 12 f
  | 1 => M.1 9 f
  | 2 => M.1 10 f
  | 3 => M.1 11 f
  | 4 => M.1 13 f
  | 5 => M.1 14 f
  | _ => M.1 15 f
/-- how many of a set -/
def pcn (s : Nat) : Nat → Nat
  | 0 => 0
  | n + 1 => pcn s n + (if s.testBit n = true then 1 else 0)
def bcI (x : Int32) : Int32 :=
  let a := x - ((x.toUInt32 >>> ((nI 1).toUInt32 &&& Int32.toUInt32 31)).toInt32 &&& nI 1431655765)
  let b := (a &&& nI 858993459) + ((a.toUInt32 >>> ((nI 2).toUInt32 &&& Int32.toUInt32 31)).toInt32 &&& nI 858993459)
  let c := (b + (b.toUInt32 >>> ((nI 4).toUInt32 &&& Int32.toUInt32 31)).toInt32) &&& nI 252645135
  let d := c + (c.toUInt32 >>> ((nI 8).toUInt32 &&& Int32.toUInt32 31)).toInt32
  let e := d + (d.toUInt32 >>> ((nI 16).toUInt32 &&& Int32.toUInt32 31)).toInt32
  e &&& nI 63
theorem bcI_pcn : ∀ s, s < 1024 → bcI (nI s) = nI (pcn s 10) := by decide +kernel
theorem x_ri {post : Int32 → xM → Prop} {x : Int32} {u : xM} (h : post x u) : xRi post (some (.int x)) u := ⟨x, rfl, h⟩
theorem x_rl {post : Int64 → xM → Prop} {x : Int64} {u : xM} (h : post x u) : xRl post (some (.long x)) u := ⟨x, rfl, h⟩
theorem x_rv {post : xM → Prop} {u : xM} (h : post u) : xRv post none u := ⟨rfl, h⟩
theorem xM_ext {u v : xM} (h1 : ∀ p j, u.1 p j = v.1 p j) (h2 : u.2 = v.2) : u = v := by
  obtain ⟨a, b⟩ := u
  obtain ⟨c, d⟩ := v
  simp only at h1 h2
  rw [h2]
  congr 1
  funext p j
  exact h1 p j
