/-! more rows: arrays by number, Math.max, arraycopy, the script; truth values -/
def xB (P : Prop) [Decidable P] : Int32 := if P then nI 1 else nI 0
theorem xB_t {P : Prop} [Decidable P] (h : P) : xB P = nI 1 := if_pos h
theorem xB_f {P : Prop} [Decidable P] (h : ¬ P) : xB P = nI 0 := if_neg h
theorem xB_01 {P : Prop} [Decidable P] : xB P = 0 ∨ xB P = 1 := by
  by_cases h : P
  · exact Or.inr (xB_t h)
  · exact Or.inl (xB_f h)
theorem xB_ne {P : Prop} [Decidable P] {x : Int32} (hx : x = xB P) (c : ¬ x = 0) : P := by
  by_cases h : P
  · exact h
  · exact absurd (hx.trans (xB_f h)) c
theorem xB_eq {P : Prop} [Decidable P] {x : Int32} (hx : x = xB P) (c : x = 0) : ¬ P := by
  intro h
  rw [hx, xB_t h] at c
  exact absurd c (by decide)
theorem xB_iff {P Q : Prop} [Decidable P] [Decidable Q] (h : P ↔ Q) : xB P = xB Q := by
  by_cases hp : P
  · rw [xB_t hp, xB_t (h.mp hp)]
  · rw [xB_f hp, xB_f (fun q => hp (h.mpr q))]
theorem x_inc1 (f : Nat) : nI f + Int32.ofInt 1 = nI (f + 1) := nI_1 f
theorem x_dec1 (f : Nat) : nI (f + 1) + Int32.ofInt (-1) = nI f := by
  have h : (Int32.ofInt (-1)) = -1 := by decide
  rw [h]; exact pk_m1 f
section XF
variable {cc : ByteArray} {own : String} {nL : Nat} {Y : xY} {pc : Nat} {L : List (Nat × Value)} {S : List Value} {M : xM} {fr lo : Nat}
theorem PW.ialdN {b n j : Nat} {i : Int32} (hb : xSH[b]? = some (.inl (0, n))) (hi : i = nI j) (hj : j < n) (hn : n < 2 ^ 31) (d : decode cc pc = .ok (.iaload, 1)) (kk : PW cc own nL Y (pc + 1) L (.int (M.1 b j) :: S) M) : PW cc own nL Y pc L (.int i :: .ref b :: S) M := by
  subst hi
  exact PW.iald hb (vp_in_nI hj hn) d (by rw [nI_clamp (Nat.lt_trans hj hn)]; exact kk)
theorem PW.zaldN {b n j : Nat} {i : Int32} (hb : xSH[b]? = some (.inl (1, n))) (hi : i = nI j) (hj : j < n) (hn : n < 2 ^ 31) (d : decode cc pc = .ok (.baload, 1)) (kk : PW cc own nL Y (pc + 1) L (.int (M.1 b j) :: S) M) : PW cc own nL Y pc L (.int i :: .ref b :: S) M := by
  subst hi
  exact PW.zald hb (vp_in_nI hj hn) d (by rw [nI_clamp (Nat.lt_trans hj hn)]; exact kk)
theorem PW.iastN {b n j : Nat} {i x : Int32} (hb : xSH[b]? = some (.inl (0, n))) (hi : i = nI j) (hj : j < n) (hn : n < 2 ^ 31) (d : decode cc pc = .ok (.iastore, 1)) (kk : PW cc own nL Y (pc + 1) L S (xup M b j x)) : PW cc own nL Y pc L (.int x :: .int i :: .ref b :: S) M := by
  subst hi
  exact PW.iast hb (vp_in_nI hj hn) d (by rw [nI_clamp (Nat.lt_trans hj hn)]; exact kk)
theorem PW.zastN {b n j : Nat} {i x : Int32} (hb : xSH[b]? = some (.inl (1, n))) (hi : i = nI j) (hj : j < n) (hn : n < 2 ^ 31) (hx : x = 0 ∨ x = 1) (d : decode cc pc = .ok (.bastore, 1)) (kk : PW cc own nL Y (pc + 1) L S (xup M b j x)) : PW cc own nL Y pc L (.int x :: .int i :: .ref b :: S) M := by
  subst hi
  exact PW.zast hb (vp_in_nI hj hn) hx d (by rw [nI_clamp (Nat.lt_trans hj hn)]; exact kk)
theorem PW.mmax {idx : Nat} {x y : Int32} (hR : xRm Y fr lo) (hfr : 1 ≤ fr) (hlo : 21 ≤ lo) (hw : ∀ w ∈ ([.methodLink own idx Lib.Math.max.name, .static Lib.Math.max.name, .initialized "java/lang/Math", .code Lib.Math.max.name Lib.Math.max.code 2 (some .int)] : List Cond), w ∈ xTb) (d : decode cc pc = .ok (.invokestatic idx, 3)) (hcat : (S.map fun v => v.category).sum ≤ 8)
    (kk : PW cc own nL Y (pc + 3) L (.int (if x < y then y else x) :: S) M) : PW cc own nL Y pc L (.int y :: .int x :: S) M := by
  obtain ⟨p, l, e, R, s, m, args, below, meth, c, cells, slots, Q, D, cA, ad, A⟩ := Y
  intro hok H locs ls hP hS hl
  obtain ⟨hR1, hR2⟩ := hR
  have hts := hok.2.2.2.2.1.1
  refine va_mmax hok.1 hok.2.1 (by rw [hok.2.2.1, hl.1]) hok.2.2.2.1 (hts _ (hw _ (by simp))) (hts _ (hw _ (by simp))) (hts _ (hw _ (by simp))) (hts _ (hw _ (by simp))) (by rw [hR1]; exact hfr) ?_ hok.2.2.2.2.2.2.2.2.2.1 hok.2.2.2.2.2.2.2.2.2.2 d (kk hok H locs ls hP hS hl)
  rw [hR2]
  show ((S.map (xv ad)).map _).sum + 13 ≤ lo
  rw [List.map_map]
  have : ((fun v => Value.category v) ∘ xv ad) = fun v => Value.category v := by funext v; exact xv_cat ad v
  rw [this]; omega
theorem PW.copyi {idx b0 b1 n0 n1 k : Nat} {sp dp n : Int32} (hR : xRm Y fr lo) (hfr : 1 ≤ fr) (hlo : nativeFrameWords "java/lang/System" "arraycopy" 5 + 19 ≤ lo) (hw : ∀ w ∈ ([.methodLink own idx arraycopyName, .native arraycopyName, .static arraycopyName, .initialized "java/lang/System"] : List Cond), w ∈ xTb)
    (hb0 : xSH[b0]? = some (.inl (0, n0))) (hb1 : xSH[b1]? = some (.inl (0, n1))) (h1 : sp = nI 0) (h2 : dp = nI 0) (h3 : n = nI k) (h4 : k ≤ n0) (h5 : k ≤ n1) (h6 : k < 2 ^ 31) (d : decode cc pc = .ok (.invokestatic idx, 3)) (hcat : (S.map fun v => v.category).sum ≤ 8)
    (kk : PW cc own nL Y (pc + 3) L S (xupA M b1 (va_cpy (M.1 b0) (M.1 b1) 0 0 k))) : PW cc own nL Y pc L (.int n :: .int dp :: .ref b1 :: .int sp :: .ref b0 :: S) M := by
  obtain ⟨p, l, e, R, s, m, args, below, meth, c, cells, slots, Q, D, cA, ad, A⟩ := Y
  intro hok H locs ls hP hS hl
  obtain ⟨hR1, hR2⟩ := hR
  have hts := hok.2.2.2.2.1.1
  have hD := xD_of (cA := cA) (M := M) hok.2.2.2.2.2.2.1 hok.2.2.2.2.2.2.2.1
  subst h1; subst h2; subst h3
  have e0 : (nI 0).toNatClampNeg = 0 := rfl
  have ek : (nI k).toNatClampNeg = k := nI_clamp h6
  refine va_copyi (ty := .int) hok.1 hok.2.1 (by rw [hok.2.2.1, hl.1]) hok.2.2.2.1 (hts _ (hw _ (by simp))) (hts _ (hw _ (by simp))) (hts _ (hw _ (by simp))) (hts _ (hw _ (by simp))) hok.2.2.2.2.2.1 hP hD hS b0 b1 0 0 (xW_get hb0) (xW_get hb1) rfl rfl rfl (by decide) (by decide) (nI_pos h6) (by rw [e0, ek]; omega) (by rw [e0, ek]; omega) (fun _ _ => rfl) (by rw [hR1]; exact hfr) ?_ d (fun H1 locs1 hP1 hD1 hS1 => kk hok H1 locs1 ls (by rw [xW_setA hb1, e0, ek] at hP1; exact hP1) hS1 hl)
  rw [hR2]
  show ((S.map (xv ad)).map _).sum + _ ≤ lo
  rw [List.map_map]
  have : ((fun v => Value.category v) ∘ xv ad) = fun v => Value.category v := by funext v; exact xv_cat ad v
  rw [this]; omega
end XF
