/-! sums over things and days; the ledger's picture -/
def nsum (f : Nat → Nat) : Nat → Nat
  | 0 => 0
  | n + 1 => nsum f n + f n
theorem nsum_congr {f g : Nat → Nat} : ∀ {n : Nat}, (∀ j, j < n → f j = g j) → nsum f n = nsum g n
  | 0, _ => rfl
  | n + 1, h => by rw [nsum, nsum, nsum_congr (fun j hj => h j (by omega)), h n (by omega)]
theorem nsum_le {f : Nat → Nat} {c : Nat} : ∀ {n : Nat}, (∀ j, j < n → f j ≤ c) → nsum f n ≤ n * c
  | 0, _ => by simp [nsum]
  | n + 1, h => by
    have h1 := nsum_le (n := n) (fun j hj => h j (by omega))
    have h2 := h n (by omega)
    rw [nsum, Nat.add_mul]
    omega
theorem nsum_mono {f g : Nat → Nat} : ∀ {n : Nat}, (∀ j, j < n → f j ≤ g j) → nsum f n ≤ nsum g n
  | 0, _ => Nat.le_refl _
  | n + 1, h => by
    have h1 := nsum_mono (n := n) (fun j hj => h j (by omega))
    have h2 := h n (by omega)
    rw [nsum, nsum]
    omega
theorem nsum_upd {f g : Nat → Nat} {k : Nat} : ∀ {n : Nat}, k < n → (∀ j, j ≠ k → g j = f j) → nsum g n + f k = nsum f n + g k
  | 0, h, _ => by omega
  | n + 1, h, hg => by
    rw [nsum, nsum]
    by_cases e : k = n
    · subst e
      rw [nsum_congr (n := k) (f := g) (g := f) (fun j hj => hg j (by omega))]
      omega
    · have h1 := nsum_upd (n := n) (f := f) (g := g) (k := k) (by omega) hg
      rw [hg n (fun q => e q.symm)]
      omega
theorem nsum_add (f g : Nat → Nat) : ∀ n, nsum (fun j => f j + g j) n = nsum f n + nsum g n
  | 0 => rfl
  | n + 1 => by rw [nsum, nsum, nsum, nsum_add f g n]; omega
theorem nsum_zero : ∀ n, nsum (fun _ => 0) n = 0
  | 0 => rfl
  | n + 1 => by rw [nsum, nsum_zero n]
theorem nsum_swap (F : Nat → Nat → Nat) (m : Nat) : ∀ n, nsum (fun i => nsum (fun j => F i j) m) n = nsum (fun j => nsum (fun i => F i j) n) m
  | 0 => (nsum_zero m).symm
  | n + 1 => by rw [nsum, nsum_swap F m n, ← nsum_add]; rfl
theorem nsum_eq0 {f : Nat → Nat} : ∀ {n : Nat}, nsum f n = 0 ↔ ∀ j, j < n → f j = 0
  | 0 => by simp [nsum]
  | n + 1 => by
    rw [nsum]
    constructor
    · intro h j hj
      by_cases e : j = n
      · subst e; omega
      · exact (nsum_eq0 (n := n)).mp (by omega) j (by omega)
    · intro h
      have h1 := (nsum_eq0 (f := f) (n := n)).mpr (fun j hj => h j (by omega))
      have h2 := h n (by omega)
      omega
def dsum (F : Nat → Nat → Nat) : Nat := nsum (fun t => nsum (F t) 66) 6
theorem dsum_congr {F G : Nat → Nat → Nat} (h : ∀ t d, t < 6 → d < 66 → F t d = G t d) : dsum F = dsum G := nsum_congr (fun t ht => nsum_congr (fun d hd => h t d ht hd))
theorem dsum_upd {F G : Nat → Nat → Nat} {t d : Nat} (ht : t < 6) (hd : d < 66) (h : ∀ t' d', ¬ (t' = t ∧ d' = d) → G t' d' = F t' d') : dsum G + F t d = dsum F + G t d := by
  have h1 : nsum (G t) 66 + F t d = nsum (F t) 66 + G t d := nsum_upd hd (fun j hj => h t j (fun q => hj q.2))
  have h2 := nsum_upd (f := fun t => nsum (F t) 66) (g := fun t => nsum (G t) 66) ht (fun j hj => nsum_congr (fun d' _ => h j d' (fun q => hj q.1)))
  unfold dsum
  omega
theorem dsum_eq0 {F : Nat → Nat → Nat} : dsum F = 0 ↔ ∀ t d, t < 6 → d < 66 → F t d = 0 := by
  unfold dsum
  rw [nsum_eq0]
  constructor
  · intro h t d ht hd
    exact nsum_eq0.mp (h t ht) d hd
  · intro h t ht
    exact nsum_eq0.mpr (fun d hd => h t d ht hd)
theorem dsum_le {F : Nat → Nat → Nat} {c : Nat} (h : ∀ t d, t < 6 → d < 66 → F t d ≤ c) : dsum F ≤ 396 * c := by
  have h1 := nsum_le (f := fun t => nsum (F t) 66) (n := 6) (c := 66 * c) (fun t ht => nsum_le (fun d hd => h t d ht hd))
  unfold dsum
  omega
theorem dsum_mono {F G : Nat → Nat → Nat} (h : ∀ t d, t < 6 → d < 66 → F t d ≤ G t d) : dsum F ≤ dsum G := nsum_mono (fun t ht => nsum_mono (fun d hd => h t d ht hd))
/-- how many things on how many days are lacking; what they cost -/
def LKs (h : Nat → Nat) (U : Nat → Nat → Nat) : Nat := dsum (fun t d => if h t < U t d then 1 else 0)
def HSs (h p : Nat → Nat) (U : Nat → Nat → Nat) : Nat := dsum (fun t d => p t * (U t d - h t))
def LR (M : xM) (h p : Nat → Nat) (U : Nat → Nat → Nat) : Prop := (∀ t d, t < 6 → d < 66 → M.1 21 (t * 66 + d) = nI (U t d)) ∧ M.1 20 2 = nI (LKs h U) ∧ M.2 20 3 = lN (HSs h p U)
def xFr (M u : xM) : Prop := ∀ q, q ≠ 20 → q ≠ 21 → u.1 q = M.1 q
theorem xFr.rf {M : xM} : xFr M M := fun _ _ _ => rfl
theorem xFr.tr {M u v : xM} (h1 : xFr M u) (h2 : xFr u v) : xFr M v := fun q a b => (h2 q a b).trans (h1 q a b)
theorem i64_sub {a b c d : Int64} (h : a + b = d + c) : a + (b - c) = d := by
  have h1 := congrArg (fun z => z - c) h
  simp only [Int64.add_sub_cancel] at h1
  rw [← h1, Int64.sub_eq_add_neg, Int64.sub_eq_add_neg, Int64.add_assoc]
theorem i32_sub {a b c d : Int32} (h : a + b = d + c) : a + (b - c) = d := by
  have h1 := congrArg (fun z => z - c) h
  simp only [Int32.add_sub_cancel] at h1
  rw [← h1, Int32.sub_eq_add_neg, Int32.sub_eq_add_neg, Int32.add_assoc]
theorem i32_aft {x y v : Int32} : x - y + v = x + v - y := by
  rw [Int32.sub_eq_add_neg, Int32.sub_eq_add_neg, Int32.add_assoc, Int32.add_assoc, Int32.add_comm (-y) v]
theorem x_subI {a b : Nat} (ha : a < 2 ^ 30) (hb : b < 2 ^ 30) : (0 < nI a - nI b) ↔ b < a := by
  rw [Int32.lt_iff_toInt_lt, pk_sub_toInt ha hb]
  show (0 : Int) < _ ↔ _
  omega
theorem x_max0 {a b : Nat} (ha : a < 2 ^ 30) (hb : b < 2 ^ 30) : (if nI 0 < nI a - nI b then nI a - nI b else nI 0) = nI (a - b) := by
  by_cases h : b < a
  · rw [if_pos (show nI 0 < nI a - nI b from (x_subI ha hb).mpr h), pk_sub (by omega)]
  · rw [if_neg (show ¬ nI 0 < nI a - nI b from fun q => h ((x_subI ha hb).mp q)), show a - b = 0 by omega]
theorem x_dif {a b : Nat} (ha : a < 2 ^ 30) (hb : b < 2 ^ 30) : (nI a - nI b).toInt64 = lN a - lN b := by
  rcases Nat.lt_or_ge a b with h | h
  · have e : nI a - nI b = -(nI (b - a)) := by
      rw [← pk_sub (by omega)]
      rw [Int32.neg_sub]
    apply Int64.toInt_inj.mp
    rw [Int32.toInt_toInt64, pk_sub_toInt ha hb, Int64.toInt_sub, pk_lT (by omega), pk_lT (by omega)]
    rw [Int.bmod_eq_of_le] <;> omega
  · rw [pk_sub h, nI_l (by omega), lN_sub h]
theorem LKs_le {h : Nat → Nat} {U : Nat → Nat → Nat} : LKs h U ≤ 396 := by
  have := dsum_le (F := fun t d => if h t < U t d then 1 else 0) (c := 1) (fun t d _ _ => by by_cases q : h t < U t d <;> simp [q])
  unfold LKs
  omega
