/-! searches over sets, as numbers -/
theorem i32_subs (x y : Int32) : (x &&& (y ^^^ (-1)) = 0) ↔ (x &&& y = x) := by
  rw [← Int32.toBitVec_inj, ← Int32.toBitVec_inj]
  show x.toBitVec &&& (y.toBitVec ^^^ BitVec.allOnes 32) = 0#32 ↔ x.toBitVec &&& y.toBitVec = x.toBitVec
  constructor
  · intro h
    apply BitVec.eq_of_getLsbD_eq
    intro i hi
    have := congrArg (fun z => z.getLsbD i) h
    simp only [BitVec.getLsbD_and, BitVec.getLsbD_xor, BitVec.getLsbD_allOnes, BitVec.getLsbD_zero, hi, decide_true] at this
    simp only [BitVec.getLsbD_and]
    revert this
    cases x.toBitVec.getLsbD i <;> cases y.toBitVec.getLsbD i <;> simp
  · intro h
    apply BitVec.eq_of_getLsbD_eq
    intro i hi
    have := congrArg (fun z => z.getLsbD i) h
    simp only [BitVec.getLsbD_and] at this
    simp only [BitVec.getLsbD_and, BitVec.getLsbD_xor, BitVec.getLsbD_allOnes, BitVec.getLsbD_zero, hi, decide_true]
    revert this
    cases x.toBitVec.getLsbD i <;> cases y.toBitVec.getLsbD i <;> simp
theorem x_sub {s a : Nat} (hs : s < 2 ^ 31) : (nI s &&& (nI a ^^^ (-1)) = 0) ↔ s &&& a = s := by
  rw [i32_subs, fa_and, nI_eq (by have := Nat.and_le_left (n := s) (m := a); omega) hs]
theorem x_minus {t s : Nat} (ht : t < 1024) : nI t &&& (nI s ^^^ (-1)) = nI (t &&& (1023 ^^^ s)) := by
  apply Int32.toBitVec_inj.1
  show BitVec.ofNat 32 t &&& (BitVec.ofNat 32 s ^^^ BitVec.allOnes 32) = BitVec.ofNat 32 (t &&& (1023 ^^^ s))
  apply BitVec.eq_of_getLsbD_eq
  intro i hi
  simp only [BitVec.getLsbD_and, BitVec.getLsbD_xor, BitVec.getLsbD_ofNat, BitVec.getLsbD_allOnes, Nat.testBit_and, Nat.testBit_xor, hi, decide_true, Bool.true_and]
  by_cases h : i < 10
  · have : (1023 : Nat).testBit i = true := by
      rw [show (1023 : Nat) = 2 ^ 10 - 1 from rfl, Nat.testBit_two_pow_sub_one]; simp [h]
    rw [this]
    cases t.testBit i <;> cases s.testBit i <;> rfl
  · have : t.testBit i = false := Nat.testBit_lt_two_pow (Nat.lt_of_lt_of_le ht (show 2 ^ 10 ≤ 2 ^ i from Nat.pow_le_pow_right (by omega) (by omega)))
    rw [this]; simp
theorem sub_le {s a : Nat} (h : s &&& a = s) : s ≤ a := by rw [← h]; exact Nat.and_le_right
theorem or_lt {a b : Nat} (ha : a < 1024) (hb : b < 1024) : a ||| b < 1024 := Nat.or_lt_two_pow (n := 10) ha hb
theorem and_lt {a b : Nat} (ha : a < 1024) : a &&& b < 1024 := Nat.lt_of_le_of_lt Nat.and_le_left ha
/-- the best of the sets under k -/
def bestF (P : Nat → Bool) (pr : Nat → Int32) : Nat → Nat
  | 0 => 0
  | k + 1 => if k ≠ 0 ∧ P k = true ∧ pr (bestF P pr k) < pr k then k else bestF P pr k
theorem bestF_one (P : Nat → Bool) (pr : Nat → Int32) : bestF P pr 1 = 0 := by simp [bestF]
theorem bestF_up {P : Nat → Bool} {pr : Nat → Int32} {a : Nat} : ∀ {b : Nat}, a ≤ b → (∀ k, a ≤ k → k < b → P k = false) → bestF P pr b = bestF P pr a
  | 0, h, _ => by rw [show a = 0 by omega]
  | b + 1, h, hP => by
    by_cases e : a = b + 1
    · rw [e]
    · rw [bestF, if_neg (by rw [hP b (by omega) (by omega)]; simp), bestF_up (by omega) (fun k h1 h2 => hP k h1 (by omega))]
theorem bestF_congr {P Q : Nat → Bool} {p q : Nat → Int32} (hP : ∀ k, P k = Q k) (hp : ∀ k, p k = q k) (n : Nat) : bestF P p n = bestF Q q n := by
  rw [show P = Q from funext hP, show p = q from funext hp]
/-- the dearest of the sets under k, and its worth -/
def dearF (P : Nat → Bool) (wo : Nat → Int64) : Nat → Nat × Int64
  | 0 => (0, lN 0)
  | k + 1 => if k ≠ 0 ∧ P k = true ∧ (dearF P wo k).2 < wo k then (k, wo k) else dearF P wo k
theorem dearF_one (P : Nat → Bool) (wo : Nat → Int64) : dearF P wo 1 = (0, lN 0) := by simp [dearF]
theorem dearF_up {P : Nat → Bool} {wo : Nat → Int64} {a : Nat} : ∀ {b : Nat}, a ≤ b → (∀ k, a ≤ k → k < b → P k = false) → dearF P wo b = dearF P wo a
  | 0, h, _ => by rw [show a = 0 by omega]
  | b + 1, h, hP => by
    by_cases e : a = b + 1
    · rw [e]
    · rw [dearF, if_neg (by rw [hP b (by omega) (by omega)]; simp), dearF_up (by omega) (fun k h1 h2 => hP k h1 (by omega))]
theorem dearF_lt {P : Nat → Bool} {wo : Nat → Int64} : ∀ k, (dearF P wo k).1 < k + 1
  | 0 => by simp [dearF]
  | k + 1 => by
    rw [dearF]
    have := dearF_lt (P := P) (wo := wo) k
    split
    · show k < _; omega
    · omega
theorem bestF_lt {P : Nat → Bool} {pr : Nat → Int32} : ∀ k, bestF P pr k < k + 1
  | 0 => by simp [bestF]
  | k + 1 => by
    rw [bestF]
    have := bestF_lt (P := P) (pr := pr) k
    split <;> omega
/-- the fewest: from t on, the sets from 'a' on, k of them -/
def fewF (P : Nat → Bool) (ah : Nat → Nat → Bool) (t a : Nat) : Nat → Nat
  | 0 => t
  | k + 1 => if P (a + k) = true ∧ ah (a + k) (fewF P ah t a k) = true then a + k else fewF P ah t a k
theorem pcn_mono {s t : Nat} (h : s &&& t = s) : ∀ n, pcn s n ≤ pcn t n
  | 0 => Nat.le_refl _
  | n + 1 => by
    have h1 := pcn_mono h n
    have h2 : s.testBit n = true → t.testBit n = true := by
      intro q
      rw [← h, Nat.testBit_and] at q
      simp at q
      exact q.2
    rw [pcn, pcn]
    by_cases q : s.testBit n = true
    · rw [if_pos q, if_pos (h2 q)]; omega
    · rw [if_neg q]; split <;> omega
theorem pcn_lt {s t : Nat} (h : s &&& t = s) : ∀ {n : Nat}, (∃ i, i < n ∧ s.testBit i ≠ t.testBit i) → pcn s n < pcn t n
  | 0, ⟨i, hi, _⟩ => by omega
  | n + 1, ⟨i, hi, hne⟩ => by
    have h2 : s.testBit n = true → t.testBit n = true := by
      intro q
      rw [← h, Nat.testBit_and] at q
      simp at q
      exact q.2
    have h1 := pcn_mono h n
    rw [pcn, pcn]
    by_cases e : i = n
    · subst e
      cases q1 : s.testBit i <;> cases q2 : t.testBit i
      · exact absurd (q1.trans q2.symm) hne
      · simp; omega
      · have := h2 q1; rw [q2] at this; cases this
      · exact absurd (q1.trans q2.symm) hne
    · have h3 := pcn_lt h (n := n) ⟨i, by omega, hne⟩
      by_cases q : s.testBit n = true
      · rw [if_pos q, if_pos (h2 q)]; omega
      · rw [if_neg q]; split <;> omega
theorem pcn_slt {s t : Nat} (hs : s < 1024) (ht : t < 1024) (h : s &&& t = s) (hne : s ≠ t) : pcn s 10 < pcn t 10 := by
  refine pcn_lt h ?_
  refine Classical.byContradiction (fun hno => hne (Nat.eq_of_testBit_eq (fun i => ?_)))
  by_cases hi : i < 10
  · exact Classical.byContradiction (fun q => hno ⟨i, hi, q⟩)
  · have hb : 2 ^ 10 ≤ 2 ^ i := Nat.pow_le_pow_right (by omega) (by omega)
    rw [Nat.testBit_lt_two_pow (by omega), Nat.testBit_lt_two_pow (by omega)]
theorem pcn_0 : ∀ n, pcn 0 n = 0
  | 0 => rfl
  | n + 1 => by rw [pcn, pcn_0 n]; simp
theorem pcn_pos {s : Nat} (hs : s < 1024) (h : s ≠ 0) : 0 < pcn s 10 := by
  have := pcn_slt (s := 0) (t := s) (by omega) hs (by simp) (fun q => h q.symm)
  rw [pcn_0] at this
  exact this
theorem pcn_le (s : Nat) : ∀ n, pcn s n ≤ n
  | 0 => Nat.le_refl _
  | n + 1 => by rw [pcn]; have := pcn_le s n; split <;> omega
