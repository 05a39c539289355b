/-! crews, as numbers: digits of a code, sums, the first least -/
def dgt (n w c i : Nat) : Nat := (c / n ^ (w - 1 - i)) % n
def crS (D wk : Nat → Nat) (w s : Nat) : Nat := nsum (fun i => if D i = s then wk i else 0) w
def crG (D wk : Nat → Nat) (w : Nat) : Nat := max (max (max 0 (crS D wk w 0)) (crS D wk w 1)) (crS D wk w 2)
def mnF (G : Nat → Nat) : Nat → Nat
  | 0 => 0
  | k + 1 => if G (k + 1) < G (mnF G k) then k + 1 else mnF G k
theorem mnF_le (G : Nat → Nat) : ∀ k, mnF G k ≤ k
  | 0 => Nat.le_refl _
  | k + 1 => by rw [mnF]; have := mnF_le G k; split <;> omega
theorem mnF_min (G : Nat → Nat) : ∀ k j, j ≤ k → G (mnF G k) ≤ G j
  | 0, j, h => by rw [show j = 0 by omega]; exact Nat.le_refl _
  | k + 1, j, h => by
    rw [mnF]
    by_cases e : j = k + 1
    · subst e
      split <;> omega
    · have := mnF_min G k j (by omega)
      split <;> omega
theorem mnF_up {G : Nat → Nat} {a : Nat} : ∀ {b : Nat}, a ≤ b → (∀ j, j ≤ b → ∃ i, i ≤ a ∧ G i ≤ G j) → mnF G b = mnF G a
  | 0, h, _ => by rw [show a = 0 by omega]
  | b + 1, h, hj => by
    by_cases e : a = b + 1
    · rw [e]
    · have ih := mnF_up (b := b) (by omega) (fun j hb => hj j (by omega))
      rw [mnF, ih]
      obtain ⟨i, h1, h2⟩ := hj (b + 1) (Nat.le_refl _)
      have := mnF_min G a i h1
      rw [if_neg (by omega)]
theorem crS_le {D wk : Nat → Nat} {w : Nat} (hw : w ≤ 10) (hk : ∀ i, i < w → wk i ≤ 1000) (s : Nat) : crS D wk w s ≤ 10000 := by
  have := nsum_le (f := fun i => if D i = s then wk i else 0) (n := w) (c := 1000) (fun j hj => by
    have := hk j hj
    split <;> omega)
  unfold crS
  omega
theorem crG_le {D wk : Nat → Nat} {w : Nat} (hw : w ≤ 10) (hk : ∀ i, i < w → wk i ≤ 1000) : crG D wk w ≤ 10000 := by
  have h0 := crS_le (D := D) hw hk 0
  have h1 := crS_le (D := D) hw hk 1
  have h2 := crS_le (D := D) hw hk 2
  unfold crG
  omega
theorem crS_congr {D E wk : Nat → Nat} {w s : Nat} (h : ∀ i, i < w → D i = E i) : crS D wk w s = crS E wk w s := nsum_congr (fun i hi => by rw [h i hi])
theorem crG_congr {D E wk : Nat → Nat} {w : Nat} (h : ∀ i, i < w → D i = E i) : crG D wk w = crG E wk w := by
  unfold crG
  rw [crS_congr h, crS_congr h, crS_congr h]
theorem dgt_lt {n w c i : Nat} (hn : 0 < n) : dgt n w c i < n := Nat.mod_lt _ hn
/-- the number after c: its digits -/
theorem div_step {a c : Nat} (ha : 0 < a) (h : (c + 1) % a = 0) : (c + 1) / a = c / a + 1 := by
  rw [Nat.succ_div, if_pos (Nat.dvd_of_mod_eq_zero h)]
theorem div_stay {a c : Nat} (h : (c + 1) % a ≠ 0) : (c + 1) / a = c / a := by
  rw [Nat.succ_div, if_neg (fun q => h (Nat.mod_eq_zero_of_dvd q)), Nat.add_zero]
theorem pow_mod_up {n c m : Nat} (hn : 0 < n) (h : (c + 1) % n ^ m = 0) (h2 : (c / n ^ m) % n + 1 = n) : (c + 1) % n ^ (m + 1) = 0 := by
  have hd := div_step (Nat.pow_pos (n := m) hn) h
  rw [Nat.pow_succ, Nat.mod_mul, h, hd]
  have : (c / n ^ m + 1) % n = 0 := by
    rw [Nat.add_mod, ]
    rcases Nat.lt_or_ge 1 n with h1 | h1
    · rw [Nat.mod_eq_of_lt h1, h2, Nat.mod_self]
    · rw [show n = 1 by omega, Nat.mod_one]
  rw [this, Nat.mul_zero]
theorem dig_new {n c m : Nat} (hn : 0 < n) (h : (c + 1) % n ^ m = 0) : ((c + 1) / n ^ m) % n = if (c / n ^ m) % n + 1 = n then 0 else (c / n ^ m) % n + 1 := by
  rw [div_step (Nat.pow_pos hn) h]
  have hlt := Nat.mod_lt (c / n ^ m) hn
  by_cases q : (c / n ^ m) % n + 1 = n
  · rw [if_pos q, Nat.add_mod]
    rcases Nat.lt_or_ge 1 n with h1 | h1
    · rw [Nat.mod_eq_of_lt h1, q, Nat.mod_self]
    · rw [show n = 1 by omega, Nat.mod_one]
  · rw [if_neg q, Nat.add_mod, Nat.mod_eq_of_lt (show 1 < n by omega), Nat.mod_eq_of_lt (by omega)]
theorem dig_stay {n c m k : Nat} (hn : 0 < n) (h : (c + 1) % n ^ m = 0) (h2 : (c / n ^ m) % n + 1 ≠ n) (hk : m < k) : (c + 1) / n ^ k = c / n ^ k := by
  refine div_stay (fun q => ?_)
  have hlt := Nat.mod_lt (c / n ^ m) hn
  have q2 : (c + 1) % n ^ (m + 1) = 0 := by
    refine Nat.mod_eq_zero_of_dvd (Nat.dvd_trans (Nat.pow_dvd_pow n (show m + 1 ≤ k by omega)) (Nat.dvd_of_mod_eq_zero q))
  have hd := div_step (Nat.pow_pos (n := m) hn) h
  rw [Nat.pow_succ, Nat.mod_mul, h, hd, Nat.zero_add] at q2
  have hp : 0 < n ^ m := Nat.pow_pos hn
  have q3 : (c / n ^ m + 1) % n = 0 := by
    rcases Nat.mul_eq_zero.mp q2 with h | h
    · omega
    · exact h
  rw [Nat.add_mod, Nat.mod_eq_of_lt (show 1 < n by omega), Nat.mod_eq_of_lt (by omega)] at q3
  omega
/-- a digit of a sum of digits -/
def enc (n : Nat) (D : Nat → Nat) : Nat → Nat
  | 0 => 0
  | k + 1 => enc n D k * n + D k
theorem enc_lt {n : Nat} {D : Nat → Nat} (hD : ∀ i, D i < n) : ∀ k, enc n D k < n ^ k
  | 0 => by simp [enc]
  | k + 1 => by
    have h := enc_lt hD k
    have h2 := hD k
    rw [enc, Nat.pow_succ]
    calc enc n D k * n + D k < enc n D k * n + n := by omega
      _ = (enc n D k + 1) * n := by rw [Nat.add_mul, Nat.one_mul]
      _ ≤ n ^ k * n := Nat.mul_le_mul_right _ h
theorem enc_dgt {n : Nat} {D : Nat → Nat} (hD : ∀ i, D i < n) : ∀ (w i : Nat), i < w → dgt n w (enc n D w) i = D i
  | 0, i, h => by omega
  | w + 1, i, h => by
    have hn : 0 < n := Nat.lt_of_le_of_lt (Nat.zero_le _) (hD 0)
    unfold dgt
    by_cases e : i = w
    · subst e
      rw [show i + 1 - 1 - i = 0 by omega, Nat.pow_zero, Nat.div_one, enc, Nat.mul_comm, Nat.mul_add_mod, Nat.mod_eq_of_lt (hD i)]
    · have ih := enc_dgt hD w i (by omega)
      unfold dgt at ih
      rw [show w + 1 - 1 - i = (w - 1 - i) + 1 by omega, Nat.pow_succ, Nat.mul_comm, ← Nat.div_div_eq_div_mul, enc]
      rw [show (enc n D w * n + D w) / n = enc n D w by
        rw [Nat.mul_comm, Nat.mul_add_div hn, Nat.div_eq_of_lt (hD w), Nat.add_zero]]
      exact ih
theorem enc_lt0 {n : Nat} {D : Nat → Nat} (hD : ∀ i, D i < n) (h0 : D 0 = 0) : ∀ w, 1 ≤ w → enc n D w < n ^ (w - 1)
  | 0, h => by omega
  | 1, _ => by simp [enc, h0]
  | w + 2, _ => by
    have h := enc_lt0 hD h0 (w + 1) (by omega)
    have h2 := hD (w + 1)
    rw [show w + 1 - 1 = w by omega] at h
    rw [enc, show w + 2 - 1 = w + 1 by omega, Nat.pow_succ]
    calc enc n D (w + 1) * n + D (w + 1) < enc n D (w + 1) * n + n := by omega
      _ = (enc n D (w + 1) + 1) * n := by rw [Nat.add_mul, Nat.one_mul]
      _ ≤ n ^ w * n := Nat.mul_le_mul_right _ h
/-- crews differ by number alone -/
def swp (d x : Nat) : Nat := if x = d then 0 else if x = 0 then d else x
theorem swp_swp (d x : Nat) : swp d (swp d x) = x := by unfold swp; (repeat' split) <;> omega
theorem swp_lt {n d x : Nat} (hd : d < n) (hx : x < n) : swp d x < n := by unfold swp; (repeat' split) <;> omega
theorem crS_swp {D wk : Nat → Nat} {w d s : Nat} : crS (fun i => swp d (D i)) wk w s = crS D wk w (swp d s) := by
  unfold crS
  refine nsum_congr (fun i _ => ?_)
  have : (swp d (D i) = s) ↔ (D i = swp d s) := by
    constructor
    · intro h; rw [← h, swp_swp]
    · intro h; rw [h, swp_swp]
  simp only [this]
theorem crG_swp {D wk : Nat → Nat} {w d : Nat} (hd : d < 3) : crG (fun i => swp d (D i)) wk w = crG D wk w := by
  unfold crG
  rw [crS_swp, crS_swp, crS_swp]
  rcases (show d = 0 ∨ d = 1 ∨ d = 2 by omega) with rfl | rfl | rfl
  · rw [show swp 0 0 = 0 from rfl, show swp 0 1 = 1 from rfl, show swp 0 2 = 2 from rfl]
  · rw [show swp 1 0 = 1 from rfl, show swp 1 1 = 0 from rfl, show swp 1 2 = 2 from rfl]; omega
  · rw [show swp 2 0 = 2 from rfl, show swp 2 1 = 1 from rfl, show swp 2 2 = 0 from rfl]; omega
def crv (n w : Nat) (wk : Nat → Nat) (c : Nat) : Nat := crG (dgt n w c) wk w
/-- the first block of codes holds a way as good as any -/
theorem crews_first {n w : Nat} {wk : Nat → Nat} (hn : 0 < n) (hn3 : n ≤ 3) : mnF (crv n w wk) (n ^ w - 1) = mnF (crv n w wk) (n ^ (w - 1) - 1) := by
  rcases Nat.eq_zero_or_pos w with rfl | hw
  · rfl
  have hp : 0 < n ^ (w - 1) := Nat.pow_pos hn
  have hle : n ^ (w - 1) ≤ n ^ w := Nat.pow_le_pow_right hn (by omega)
  refine mnF_up (by omega) (fun j hj => ?_)
  have hD : ∀ i, swp (dgt n w j 0) (dgt n w j i) < n := fun i => swp_lt (dgt_lt hn) (dgt_lt hn)
  refine ⟨enc n (fun i => swp (dgt n w j 0) (dgt n w j i)) w, ?_, ?_⟩
  · have := enc_lt0 (D := fun i => swp (dgt n w j 0) (dgt n w j i)) hD (by simp [swp]) w hw
    omega
  · unfold crv
    rw [crG_congr (fun i hi => enc_dgt hD w i hi), crG_swp (Nat.lt_of_lt_of_le (dgt_lt hn) hn3)]
    exact Nat.le_refl _
/-- the i-th of those of which P holds -/
def wrk (P : Nat → Bool) : Nat → Nat × (Nat → Nat)
  | 0 => (0, fun _ => 0)
  | k + 1 => if P k = true then ((wrk P k).1 + 1, fun i => if i = (wrk P k).1 then k else (wrk P k).2 i) else wrk P k
theorem wrk_le (P : Nat → Bool) : ∀ k, (wrk P k).1 ≤ k
  | 0 => Nat.le_refl _
  | k + 1 => by
    rw [wrk]; have := wrk_le P k
    split
    · show (wrk P k).1 + 1 ≤ k + 1; omega
    · omega
theorem wrk_lt (P : Nat → Bool) : ∀ k i, i < (wrk P k).1 → (wrk P k).2 i < k
  | 0, i, h => by simp [wrk] at h
  | k + 1, i, h => by
    rw [wrk] at h ⊢
    split
    · rename_i hp
      rw [if_pos hp] at h
      show (if i = (wrk P k).1 then k else (wrk P k).2 i) < k + 1
      split
      · omega
      · have := wrk_lt P k i (by simp at h; omega); omega
    · rename_i hp
      rw [if_neg hp] at h
      have := wrk_lt P k i h; omega
def fnd (p : Nat → Bool) (v : Nat → Int32) : Nat → Nat → Int32
  | 0, _ => (-1)
  | k + 1, i => if p i = true then v i else fnd p v k (i + 1)
theorem x_max {a b : Nat} (ha : a < 2 ^ 31) (hb : b < 2 ^ 31) : (if nI a < nI b then nI b else nI a) = nI (max a b) := by
  by_cases h : a < b
  · rw [if_pos ((nI_ltI ha hb).mpr h), Nat.max_eq_right (by omega)]
  · rw [if_neg (fun q => h ((nI_ltI ha hb).mp q)), Nat.max_eq_left (by omega)]
