/-! the reference's crews -/
def sufS (D wk : Nat → Nat) (w s j : Nat) : Nat := nsum (fun i => if j ≤ i ∧ D i = s then wk i else 0) w
theorem sufS_0 (D wk : Nat → Nat) (w s : Nat) : sufS D wk w s 0 = crS D wk w s := nsum_congr (fun i _ => by simp)
theorem sufS_w (D wk : Nat → Nat) (w s : Nat) : sufS D wk w s w = 0 := by
  unfold sufS
  rw [nsum_congr (g := fun _ => 0) (fun i hi => by rw [if_neg (by omega)]), nsum_zero]
theorem sufS_s {D wk : Nat → Nat} {w s j : Nat} (hj : j < w) : sufS D wk w s j = sufS D wk w s (j + 1) + (if D j = s then wk j else 0) := by
  have h := nsum_upd (f := fun i => if j + 1 ≤ i ∧ D i = s then wk i else 0) (g := fun i => if j ≤ i ∧ D i = s then wk i else 0) hj (fun i hi => by
    have : (j ≤ i ∧ D i = s) ↔ (j + 1 ≤ i ∧ D i = s) := by omega
    simp only [this])
  rw [if_neg (show ¬ (j + 1 ≤ j ∧ D j = s) by omega)] at h
  unfold sufS
  rw [Nat.add_zero] at h
  rw [h]
  by_cases q : D j = s
  · rw [if_pos q, if_pos ⟨Nat.le_refl _, q⟩]
  · rw [if_neg q, if_neg (fun z => q z.2)]
theorem x_ltm {j : Nat} (hj : j < 2 ^ 30) : (nI j - nI 1 < 0) ↔ j = 0 := by
  rw [Int32.lt_iff_toInt_lt, pk_sub_toInt hj (by omega)]
  show _ < (0 : Int) ↔ _
  omega
set_option maxHeartbeats 4000000 in
set_option maxRecDepth 20000 in
theorem c_X7_greatest {n w c : Nat} {wf wk : Nat → Nat} {M : xM} (hn : 1 ≤ n) (hn3 : n ≤ 3) (hw : w ≤ 10) (hc : c < 2 ^ 31) (hs : M.1 32 23 = nI w) (h53 : ∀ i, i < w → M.1 53 i = nI (wf i) ∧ wf i < 10) (hb : ∀ i, i < w → nI 2 * M.1 46 (wf i) + nI 1 = nI (wk i)) (hk : ∀ i, i < w → wk i ≤ 1000) : K_X7_greatest [.ref 32, .int (nI c), .int (nI n)] M (xRi (fun x u => x = nI (crv n w wk c) ∧ (∀ q, q ≠ 54 → q ≠ 56 → u.1 q = M.1 q) ∧ ∀ i, i < w → u.1 54 i = nI (dgt n w c i))) := by
  refine xMet.of (own := RX7) rfl (by decide) (Nat.le_of_ble_eq_true rfl) rfl (fun Y hY => ?_)
  have h3 : ∀ (M' : xM), (∀ q, q ≠ 54 → q ≠ 56 → M'.1 q = M.1 q) → (∀ i, i < w → M'.1 54 i = nI (dgt n w c i)) → (∀ s, s < 3 → M'.1 56 s = nI (crS (dgt n w c) wk w s)) → P_X7_greatest Y 89 [(0, .ref 32)] [] M' := by
    intro M' g1 g2 g3
    have b0 := crS_le (D := dgt n w c) hw hk 0
    have b1 := crS_le (D := dgt n w c) hw hk 1
    have b2 := crS_le (D := dgt n w c) hw hk 2
    have step : ∀ (s g : Nat), s < 3 → g ≤ 10000 → crS (dgt n w c) wk w s ≤ 10000 → P_X7_greatest Y 95 [(0, .ref 32), (4, .int (nI (max g (crS (dgt n w c) wk w s)))), (5, .int (nI (s + 1)))] [] M' → P_X7_greatest Y 95 [(0, .ref 32), (4, .int (nI g)), (5, .int (nI s))] [] M' := by
      intro s g hs3 hg hb ih
      refine PW.iload (pc := 95) dX7_greatest_95 rfl ?_
      refine PW.iconst (pc := 97) (v := nI 3) dX7_greatest_97 (by decide) ?_
      refine PW.icmp_ge (pc := 98) (tgt := 133) dX7_greatest_98 (by decide) (fun c => absurd c ((nI_ge hs3 (by omega)))) (fun _ => ?_)
      refine PW.aload_n (pc := 101) dX7_greatest_101 rfl ?_
      refine gf_X7_80 (pc := 102) dX7_greatest_102 ?_
      refine PW.iload (pc := 105) dX7_greatest_105 rfl ?_
      refine PW.ialdN (pc := 107) rfl rfl (by omega) (by decide) dX7_greatest_107 ?_
      refine PW.iload (pc := 108) dX7_greatest_108 rfl ?_
      rw [g3 s hs3]
      refine PW.icmp_le (pc := 110) (tgt := 123) dX7_greatest_110 (by decide) (fun c_110 => ?_) (fun c_110 => ?_)
      · rw [nI_leI (by omega) (by omega)] at c_110
        refine PW.iload (pc := 123) dX7_greatest_123 rfl ?_
        refine PW.istore (pc := 125) dX7_greatest_125 (by decide) rfl ?_
        refine PW.iinc (pc := 127) dX7_greatest_127 rfl (x_inc1 _) (by decide) rfl ?_
        refine PW.goto (pc := 130) (tgt := 95) dX7_greatest_130 (by decide) ?_
        refine PW.st rfl rfl ?_ ih
        rw [Nat.max_eq_left c_110]; rfl
      · rw [nI_leI (by omega) (by omega)] at c_110
        refine PW.aload_n (pc := 113) dX7_greatest_113 rfl ?_
        refine gf_X7_80 (pc := 114) dX7_greatest_114 ?_
        refine PW.iload (pc := 117) dX7_greatest_117 rfl ?_
        refine PW.ialdN (pc := 119) rfl rfl (by omega) (by decide) dX7_greatest_119 ?_
        refine PW.goto (pc := 120) (tgt := 125) dX7_greatest_120 (by decide) ?_
        rw [g3 s hs3]
        refine PW.istore (pc := 125) dX7_greatest_125 (by decide) rfl ?_
        refine PW.iinc (pc := 127) dX7_greatest_127 rfl (x_inc1 _) (by decide) rfl ?_
        refine PW.goto (pc := 130) (tgt := 95) dX7_greatest_130 (by decide) ?_
        refine PW.st rfl rfl ?_ ih
        rw [Nat.max_eq_right (by omega)]; rfl
    refine PW.iconst (pc := 89) (v := nI 0) dX7_greatest_89 (by decide) ?_
    refine PW.istore (pc := 90) dX7_greatest_90 (by decide) rfl ?_
    refine PW.iconst (pc := 92) (v := nI 0) dX7_greatest_92 (by decide) ?_
    refine PW.istore (pc := 93) dX7_greatest_93 (by decide) rfl ?_
    refine PW.st rfl rfl rfl (step 0 0 (by omega) (by omega) b0 (step 1 _ (by omega) (by omega) b1 (step 2 _ (by omega) (by omega) b2 ?_)))
    refine PW.iload (pc := 95) dX7_greatest_95 rfl ?_
    refine PW.iconst (pc := 97) (v := nI 3) dX7_greatest_97 (by decide) ?_
    refine PW.icmp_ge (pc := 98) (tgt := 133) dX7_greatest_98 (by decide) (fun _ => ?_) (fun c => absurd ((nI_le (Nat.le_refl _) (by omega))) c)
    refine PW.iload (pc := 133) dX7_greatest_133 rfl ?_
    refine PW.iret (pc := 135) hY ?_ dX7_greatest_135
    exact x_ri ⟨rfl, g1, g2⟩
  refine x_loop (n := 3) (P := fun s => ∀ M', (∀ q, q ≠ 54 → q ≠ 56 → M'.1 q = M.1 q) → (∀ s', s' < s → M'.1 56 s' = nI 0) → P_X7_greatest Y 5 [(0, .ref 32), (1, .int (nI c)), (2, .int (nI n)), (3, .int (nI c)), (4, .int (nI s))] [] M') (fun h => ?_) ?_ (fun s hs3 ih => ?_)
  · refine PW.iload_n (pc := 0) dX7_greatest_0 rfl ?_
    refine PW.istore_n (pc := 1) (i := 3) dX7_greatest_1 rfl (by decide) rfl ?_
    refine PW.iconst (pc := 2) (v := nI 0) dX7_greatest_2 (by decide) ?_
    refine PW.istore (pc := 3) dX7_greatest_3 (by decide) rfl ?_
    exact PW.st rfl rfl rfl (h M (fun _ _ _ => rfl) (fun _ h => by omega))
  · intro M' g1 g2
    refine PW.iload (pc := 5) dX7_greatest_5 rfl ?_
    refine PW.iconst (pc := 7) (v := nI 3) dX7_greatest_7 (by decide) ?_
    refine PW.icmp_ge (pc := 8) (tgt := 25) dX7_greatest_8 (by decide) (fun _ => ?_) (fun c => absurd ((nI_le (Nat.le_refl _) (by omega))) c)
    refine PW.aload_n (pc := 25) dX7_greatest_25 rfl ?_
    refine gf_X7_151 (pc := 26) dX7_greatest_26 ?_
    refine PW.iconst (pc := 29) (v := nI 1) dX7_greatest_29 (by decide) ?_
    rw [g1 32 (by decide) (by decide), hs]
    refine PW.isub (pc := 30) dX7_greatest_30 ?_
    refine PW.istore (pc := 31) dX7_greatest_31 (by decide) rfl ?_
    have loop : ∀ (j : Nat) (M' : xM), j ≤ w → (∀ q, q ≠ 54 → q ≠ 56 → M'.1 q = M.1 q) → (∀ i, j ≤ i → i < w → M'.1 54 i = nI (dgt n w c i)) → (∀ s, s < 3 → M'.1 56 s = nI (sufS (dgt n w c) wk w s j)) → P_X7_greatest Y 33 [(0, .ref 32), (1, .int (nI c)), (2, .int (nI n)), (3, .int (nI (c / n ^ (w - j)))), (4, .int (nI j - nI 1))] [] M' := by
      intro j
      induction j with
      | zero =>
        intro M' _ g1 g2 g3
        refine PW.iload (pc := 33) dX7_greatest_33 rfl ?_
        refine PW.if_lt (pc := 35) (tgt := 89) dX7_greatest_35 (by decide) (fun _ => ?_) (fun c => absurd (((x_ltm (by omega)).mpr rfl)) c)
        exact PW.st rfl rfl rfl (h3 M' g1 (fun i hi => g2 i (Nat.zero_le _) hi) (fun s hs3 => by rw [g3 s hs3, sufS_0]))
      | succ j ih =>
        intro M' hj g1 g2 g3
        rw [pk_sub (show 1 ≤ j + 1 by omega), show j + 1 - 1 = j by omega]
        have hD : dgt n w c j = (c / n ^ (w - (j + 1))) % n := by
          unfold dgt
          rw [show w - 1 - j = w - (j + 1) by omega]
        have hDn : dgt n w c j < n := dgt_lt hn
        have hleft : c / n ^ (w - (j + 1)) ≤ c := Nat.div_le_self _ _
        have hdiv : c / n ^ (w - (j + 1)) / n = c / n ^ (w - j) := by
          rw [Nat.div_div_eq_div_mul, ← Nat.pow_succ, show (w - (j + 1)).succ = w - j by omega]
        have hne : ¬ nI n = 0 := nI_ne0 (by omega) (by omega)
        refine PW.iload (pc := 33) dX7_greatest_33 rfl ?_
        refine PW.if_lt (pc := 35) (tgt := 89) dX7_greatest_35 (by decide) (fun c => absurd c ((nI_pos (by omega)))) (fun _ => ?_)
        refine PW.aload_n (pc := 38) dX7_greatest_38 rfl ?_
        refine gf_X7_74 (pc := 39) dX7_greatest_39 ?_
        refine PW.iload (pc := 42) dX7_greatest_42 rfl ?_
        refine PW.iload_n (pc := 44) dX7_greatest_44 rfl ?_
        refine PW.iload_n (pc := 45) dX7_greatest_45 rfl ?_
        refine PW.irem (pc := 46) dX7_greatest_46 hne ?_
        rw [pk_rem (by omega) (by omega) (by omega), ← hD]
        refine PW.iastN (pc := 47) rfl rfl (by omega) (by decide) dX7_greatest_47 ?_
        refine PW.iload_n (pc := 48) dX7_greatest_48 rfl ?_
        refine PW.iload_n (pc := 49) dX7_greatest_49 rfl ?_
        refine PW.idiv (pc := 50) dX7_greatest_50 hne ?_
        rw [pk_div (by omega) (by omega) (by omega), hdiv]
        have e54 : (xup M' 54 j (nI (dgt n w c j))).1 54 j = nI (dgt n w c j) := by rw [xup_1, if_pos ⟨rfl, rfl⟩]
        have e53 : (xup M' 54 j (nI (dgt n w c j))).1 53 j = nI (wf j) := by
          rw [xup_1, if_neg (by omega), g1 53 (by decide) (by decide)]; exact (h53 j (by omega)).1
        have hwf := (h53 j (by omega)).2
        refine PW.istore_n (pc := 51) (i := 3) dX7_greatest_51 rfl (by decide) rfl ?_
        refine PW.aload_n (pc := 52) dX7_greatest_52 rfl ?_
        refine gf_X7_80 (pc := 53) dX7_greatest_53 ?_
        refine PW.aload_n (pc := 56) dX7_greatest_56 rfl ?_
        refine gf_X7_74 (pc := 57) dX7_greatest_57 ?_
        refine PW.iload (pc := 60) dX7_greatest_60 rfl ?_
        refine PW.ialdN (pc := 62) rfl rfl (by omega) (by decide) dX7_greatest_62 ?_
        refine PW.dup2 (pc := 63) dX7_greatest_63 rfl rfl ?_
        refine PW.ialdN (pc := 64) rfl e54 (by omega) (by decide) dX7_greatest_64 ?_
        refine PW.iconst (pc := 65) (v := nI 2) dX7_greatest_65 (by decide) ?_
        refine PW.aload_n (pc := 66) dX7_greatest_66 rfl ?_
        refine gf_X7_50 (pc := 67) dX7_greatest_67 ?_
        refine PW.aload_n (pc := 70) dX7_greatest_70 rfl ?_
        refine gf_X7_71 (pc := 71) dX7_greatest_71 ?_
        refine PW.iload (pc := 74) dX7_greatest_74 rfl ?_
        refine PW.ialdN (pc := 76) rfl rfl (by omega) (by decide) dX7_greatest_76 ?_
        refine PW.ialdN (pc := 77) rfl e53 (by omega) (by decide) dX7_greatest_77 ?_
        refine PW.imul (pc := 78) dX7_greatest_78 ?_
        refine PW.iconst (pc := 79) (v := nI 1) dX7_greatest_79 (by decide) ?_
        refine PW.iadd (pc := 80) dX7_greatest_80 ?_
        refine PW.iadd (pc := 81) dX7_greatest_81 ?_
        refine PW.iastN (pc := 82) rfl e54 (by omega) (by decide) dX7_greatest_82 ?_
        refine PW.iinc (pc := 83) dX7_greatest_83 rfl rfl (by decide) rfl ?_
        refine PW.goto (pc := 86) (tgt := 33) dX7_greatest_86 (by decide) ?_
        refine PW.st rfl rfl ?_ (ih _ (by omega) ?_ ?_ ?_)
        · rw [show nI j + Int32.ofInt (-1) = nI j - nI 1 by rw [Int32.sub_eq_add_neg]; rfl]
          rfl
        · intro q a b
          funext i
          simp only [xup_1, a, b, false_and, if_false]
          rw [g1 q a b]
        · intro i h1 h2
          simp only [xup_1]
          rw [if_neg (by omega)]
          by_cases e : i = j
          · subst e; rw [if_pos (by simp)]
          · rw [if_neg (fun z => e z.2)]
            exact g2 i (by omega) h2
        · intro s hs3
          rw [sufS_s (show j < w by omega)]
          simp only [xup_1]
          rw [g1 46 (by decide) (by decide)]
          by_cases e : s = dgt n w c j
          · subst e
            rw [if_pos (by simp), if_pos rfl, if_neg (by omega), if_neg (by omega), hb j (by omega), g3 _ hs3, nI_add]
          · rw [if_neg (fun z => e z.2), if_neg (by omega), if_neg (fun z => e z.symm), Nat.add_zero, g3 s hs3]
    refine PW.st rfl rfl ?_ (loop w M' (Nat.le_refl _) g1 (fun i h1 h2 => by omega) (fun s hs3 => by rw [sufS_w]; exact g2 s hs3))
    rw [Nat.sub_self, Nat.pow_zero, Nat.div_one]
    rfl
  · intro M' g1 g2
    refine PW.iload (pc := 5) dX7_greatest_5 rfl ?_
    refine PW.iconst (pc := 7) (v := nI 3) dX7_greatest_7 (by decide) ?_
    refine PW.icmp_ge (pc := 8) (tgt := 25) dX7_greatest_8 (by decide) (fun c => absurd c ((nI_ge hs3 (by omega)))) (fun _ => ?_)
    refine PW.aload_n (pc := 11) dX7_greatest_11 rfl ?_
    refine gf_X7_80 (pc := 12) dX7_greatest_12 ?_
    refine PW.iload (pc := 15) dX7_greatest_15 rfl ?_
    refine PW.iconst (pc := 17) (v := nI 0) dX7_greatest_17 (by decide) ?_
    refine PW.iastN (pc := 18) rfl rfl (by omega) (by decide) dX7_greatest_18 ?_
    refine PW.iinc (pc := 19) dX7_greatest_19 rfl (x_inc1 _) (by decide) rfl ?_
    refine PW.goto (pc := 22) (tgt := 5) dX7_greatest_22 (by decide) ?_
    refine PW.st rfl rfl rfl (ih _ ?_ ?_)
    · intro q a b
      funext i
      simp only [xup_1, b, false_and, if_false]
      rw [g1 q a b]
    · intro s' h
      rw [xup_1]
      by_cases e : s' = s
      · rw [if_pos ⟨rfl, e⟩]
      · rw [if_neg (fun z => e z.2)]; exact g2 s' (by omega)
def xFd (M u : xM) : Prop := (∀ q, q ≠ 32 → q ≠ 53 → q ≠ 54 → q ≠ 55 → q ≠ 56 → u.1 q = M.1 q) ∧ ∀ k, k ≠ 23 → u.1 32 k = M.1 32 k
abbrev mP (M : xM) (d : Int32) : Nat → Bool := wkB (M.1 42) (M.1 39) (M.1 40) d
abbrev mW (M : xM) (d : Int32) (n : Nat) : Nat := (wrk (mP M d) n).1
abbrev mF (M : xM) (d : Int32) (n : Nat) : Nat → Nat := (wrk (mP M d) n).2
def lst (n w : Nat) (wk : Nat → Nat) (c : Nat) : Int32 := if c = 0 then (-1) else nI (crv n w wk (mnF (crv n w wk) (c - 1)))
set_option maxHeartbeats 4000000 in
set_option maxRecDepth 20000 in
theorem c_X7_deals {d : Int32} {k n : Nat} {M : xM} (hn : M.1 32 6 = nI n) (h10 : n ≤ 10) (hC : TC (mv M)) (hk1 : 1 ≤ k) (hk3 : k ≤ 3) : K_X7_deals [.ref 32, .int d, .int (nI k)] M (xRi (fun x u => x = nI (crv k (mW M d n) (wkh (M.1 46) (mF M d n)) (mnF (crv k (mW M d n) (wkh (M.1 46) (mF M d n))) (k ^ mW M d n - 1))) ∧ xFd M u ∧ u.1 32 23 = nI (mW M d n) ∧ (∀ i, i < mW M d n → u.1 53 i = nI (mF M d n i)) ∧ ∀ i, i < mW M d n → u.1 55 i = nI (dgt k (mW M d n) (mnF (crv k (mW M d n) (wkh (M.1 46) (mF M d n))) (k ^ mW M d n - 1)) i))) := by
  refine xMet.of (own := RX7) rfl (by decide) (Nat.le_of_ble_eq_true rfl) rfl (fun Y hY => ?_)
  refine x_loop (n := n) (P := fun g => ∀ M', xFd M M' → M'.1 32 23 = nI (mW M d g) → (∀ i, i < mW M d g → M'.1 53 i = nI (mF M d g i)) → P_X7_deals Y 10 [(0, .ref 32), (1, .int d), (2, .int (nI k)), (3, .int (nI (k ^ mW M d g))), (4, .int (nI g))] [] M') (fun h => ?_) ?_ (fun g hg ih => ?_)
  · refine PW.aload_n (pc := 0) dX7_deals_0 rfl ?_
    refine PW.iconst (pc := 1) (v := nI 0) dX7_deals_1 (by decide) ?_
    refine pf_X7_151 (pc := 2) dX7_deals_2 ?_
    refine PW.iconst (pc := 5) (v := nI 1) dX7_deals_5 (by decide) ?_
    refine PW.istore_n (pc := 6) (i := 3) dX7_deals_6 rfl (by decide) rfl ?_
    refine PW.iconst (pc := 7) (v := nI 0) dX7_deals_7 (by decide) ?_
    refine PW.istore (pc := 8) dX7_deals_8 (by decide) rfl ?_
    refine PW.st rfl rfl ?_ (h _ ⟨?_, ?_⟩ ?_ ?_)
    · rw [show mW M d 0 = 0 from rfl, Nat.pow_zero]; rfl
    · intro q a _ _ _ _
      funext i
      simp only [xup_1, a, false_and, if_false]
    · intro i hi
      rw [xup_1, if_neg (fun z => hi z.2)]
    · rw [xup_1, if_pos ⟨rfl, rfl⟩]; rfl
    · intro i hi; exact absurd hi (Nat.not_lt_zero _)
  · intro M' g1 g2 g3
    have hwl := wrk_le (mP M d) n
    have hwi := wrk_lt (mP M d) n
    have hwk : ∀ i, i < mW M d n → wkh (M.1 46) (mF M d n) i ≤ 1000 := by
      intro i hi
      have h1 := hwi i hi
      have h2 : na (M.1 46 ((wrk (mP M d) n).2 i)) ≤ 99 := (hC.1 ((wrk (mP M d) n).2 i) (by omega)).2.1.2
      unfold wkh
      show 2 * na (M.1 46 ((wrk (mP M d) n).2 i)) + 1 ≤ 1000
      omega
    have hbay : ∀ i, i < mW M d n → nI 2 * M.1 46 (mF M d n i) + nI 1 = nI (wkh (M.1 46) (mF M d n) i) := by
      intro i hi
      have h1 := hwi i hi
      have h2 : M.1 46 ((wrk (mP M d) n).2 i) = nI (na (M.1 46 ((wrk (mP M d) n).2 i))) := (hC.1 ((wrk (mP M d) n).2 i) (by omega)).2.1.1
      show nI 2 * M.1 46 ((wrk (mP M d) n).2 i) + nI 1 = nI (2 * na (M.1 46 ((wrk (mP M d) n).2 i)) + 1)
      rw [h2, pk_mul, nI_add, ← h2]
    generalize hW : mW M d n = w at *
    generalize hFf : mF M d n = wf at *
    generalize hWk : wkh (M.1 46) wf = wk at *
    have hw10 : w ≤ 10 := by have : mW M d n = (wrk (mP M d) n).1 := rfl; omega
    have hwf : ∀ i, i < w → wf i < 10 := by
      intro i hi
      have h1 := hwi i (by have : mW M d n = (wrk (mP M d) n).1 := rfl; omega)
      have : mF M d n i = wf i := by rw [hFf]
      have h2 : mF M d n i = (wrk (mP M d) n).2 i := rfl
      omega
    have hpow : k ^ w ≤ 3 ^ 10 := Nat.le_trans (Nat.pow_le_pow_left hk3 _) (Nat.pow_le_pow_right (by omega) hw10)
    have hp1 : 0 < k ^ w := Nat.pow_pos hk1
    have loop : ∀ c, c ≤ k ^ w → ∀ M', xFd M M' → M'.1 32 23 = nI w → (∀ i, i < w → M'.1 53 i = nI (wf i)) → (0 < c → ∀ i, i < w → M'.1 55 i = nI (dgt k w (mnF (crv k w wk) (c - 1)) i)) → P_X7_deals Y 66 [(0, .ref 32), (1, .int d), (2, .int (nI k)), (3, .int (nI (k ^ w))), (4, .int (lst k w wk c)), (5, .int (nI c))] [] M' := by
      refine x_down ?_ ?_
      · intro M' g1 g2 g3 g4
        refine PW.iload (pc := 66) dX7_deals_66 rfl ?_
        refine PW.iload_n (pc := 68) dX7_deals_68 rfl ?_
        refine PW.icmp_ge (pc := 69) (tgt := 136) dX7_deals_69 (by decide) (fun _ => ?_) (fun c => absurd ((nI_le (Nat.le_refl _) (by omega))) c)
        refine PW.iload (pc := 136) dX7_deals_136 rfl ?_
        refine PW.iret (pc := 138) hY ?_ dX7_deals_138
        refine x_ri ⟨?_, g1, g2, g3, g4 hp1⟩
        rw [lst, if_neg (by omega)]
      · intro c hc ih M' g1 g2 g3 g4
        have e46 : M'.1 46 = M.1 46 := g1.1 46 (by decide) (by decide) (by decide) (by decide) (by decide)
        refine PW.iload (pc := 66) dX7_deals_66 rfl ?_
        refine PW.iload_n (pc := 68) dX7_deals_68 rfl ?_
        refine PW.icmp_ge (pc := 69) (tgt := 136) dX7_deals_69 (by decide) (fun c => absurd c ((nI_ge hc (by omega)))) (fun _ => ?_)
        refine PW.aload_n (pc := 72) dX7_deals_72 rfl ?_
        refine PW.iload (pc := 73) dX7_deals_73 rfl ?_
        refine PW.iload_n (pc := 75) dX7_deals_75 rfl ?_
        refine cs_X7_157 (pc := 76) hY.rm (c_X7_greatest (c := c) (w := w) (wf := wf) (wk := wk) hk1 hk3 hw10 (by omega) g2 (fun i hi => ⟨g3 i hi, hwf i hi⟩) (fun i hi => by rw [e46]; exact hbay i hi) hwk) ⟨Nat.le_of_ble_eq_true rfl, Nat.le_of_ble_eq_true rfl⟩ dX7_deals_76 (Nat.le_of_ble_eq_true rfl) (fun x_76 u_76 h_76 => ?_)
        obtain ⟨rfl, k1, k2⟩ := h_76
        have hGle : ∀ z, crv k w wk z ≤ 10000 := fun z => crG_le hw10 hwk
        have gd : xFd M u_76 := ⟨fun q a b c d e => by rw [k1 q c e]; exact g1.1 q a b c d e, fun i hi => by rw [k1 32 (by decide) (by decide)]; exact g1.2 i hi⟩
        have s23 : u_76.1 32 23 = nI w := by rw [k1 32 (by decide) (by decide)]; exact g2
        have s53 : ∀ i, i < w → u_76.1 53 i = nI (wf i) := fun i hi => by rw [k1 53 (by decide) (by decide)]; exact g3 i hi
        have next : ∀ M2 l, xFd M M2 → M2.1 32 23 = nI w → (∀ i, i < w → M2.1 53 i = nI (wf i)) → (∀ i, i < w → M2.1 55 i = nI (dgt k w (mnF (crv k w wk) c) i)) → l = nI (crv k w wk (mnF (crv k w wk) c)) → P_X7_deals Y 130 [(0, .ref 32), (1, .int d), (2, .int (nI k)), (3, .int (nI (k ^ w))), (4, .int l), (5, .int (nI c))] [] M2 := by
          intro M2 l q1 q2 q3 q4 q5
          refine PW.iinc (pc := 130) dX7_deals_130 rfl (x_inc1 _) (by decide) rfl ?_
          refine PW.goto (pc := 133) (tgt := 66) dX7_deals_133 (by decide) ?_
          refine PW.st rfl rfl ?_ (ih M2 q1 q2 q3 (fun _ => q4))
          rw [q5, lst, if_neg (by omega), show c + 1 - 1 = c by omega]; rfl
        have take : (c = 0 ∨ crv k w wk c < crv k w wk (mnF (crv k w wk) (c - 1))) → P_X7_deals Y 94 [(0, .ref 32), (1, .int d), (2, .int (nI k)), (3, .int (nI (k ^ w))), (4, .int (lst k w wk c)), (5, .int (nI c)), (6, .int (nI (crv k w wk c)))] [] u_76 := by
          intro hb
          have hmn : mnF (crv k w wk) c = c := by
            rcases hb with rfl | hb
            · rfl
            · rcases Nat.eq_zero_or_pos c with rfl | h
              · rfl
              · obtain ⟨c', rfl⟩ : ∃ c', c = c' + 1 := ⟨c - 1, by omega⟩
                rw [show c' + 1 - 1 = c' by omega] at hb
                rw [mnF, if_pos hb]
          refine x_loop (n := w) (P := fun i => ∀ M2, xFd M M2 → M2.1 32 23 = nI w → (∀ i, i < w → M2.1 53 i = nI (wf i)) → (∀ j, j < w → M2.1 54 j = nI (dgt k w c j)) → (∀ j, j < i → M2.1 55 j = nI (dgt k w c j)) → P_X7_deals Y 101 [(0, .ref 32), (1, .int d), (2, .int (nI k)), (3, .int (nI (k ^ w))), (4, .int (nI (crv k w wk c))), (5, .int (nI c)), (7, .int (nI i))] [] M2) (fun h => ?_) ?_ (fun i hi ih2 => ?_)
          · refine PW.iload (pc := 94) dX7_deals_94 rfl ?_
            refine PW.istore (pc := 96) dX7_deals_96 (by decide) rfl ?_
            refine PW.iconst (pc := 98) (v := nI 0) dX7_deals_98 (by decide) ?_
            refine PW.istore (pc := 99) dX7_deals_99 (by decide) rfl ?_
            exact PW.st rfl rfl rfl (h u_76 gd s23 s53 k2 (fun _ h => by omega))
          · intro M2 q1 q2 q3 q4 q5
            refine PW.iload (pc := 101) dX7_deals_101 rfl ?_
            refine PW.aload_n (pc := 103) dX7_deals_103 rfl ?_
            refine gf_X7_151 (pc := 104) dX7_deals_104 ?_
            refine PW.icmp_ge (pc := 107) (tgt := 130) dX7_deals_107 (by decide) (fun _ => ?_) (fun c => absurd ((by rw [q2]; exact nI_le (Nat.le_refl _) (by omega))) c)
            exact PW.st rfl rfl rfl (next M2 _ q1 q2 q3 (by rw [hmn]; exact q5) (by rw [hmn]))
          · intro M2 q1 q2 q3 q4 q5
            refine PW.iload (pc := 101) dX7_deals_101 rfl ?_
            refine PW.aload_n (pc := 103) dX7_deals_103 rfl ?_
            refine gf_X7_151 (pc := 104) dX7_deals_104 ?_
            refine PW.icmp_ge (pc := 107) (tgt := 130) dX7_deals_107 (by decide) (fun c => absurd c ((by rw [q2]; exact nI_ge hi (by omega)))) (fun _ => ?_)
            refine PW.aload_n (pc := 110) dX7_deals_110 rfl ?_
            refine gf_X7_77 (pc := 111) dX7_deals_111 ?_
            refine PW.iload (pc := 114) dX7_deals_114 rfl ?_
            refine PW.aload_n (pc := 116) dX7_deals_116 rfl ?_
            refine gf_X7_74 (pc := 117) dX7_deals_117 ?_
            refine PW.iload (pc := 120) dX7_deals_120 rfl ?_
            refine PW.ialdN (pc := 122) rfl rfl (by omega) (by decide) dX7_deals_122 ?_
            refine PW.iastN (pc := 123) rfl rfl (by omega) (by decide) dX7_deals_123 ?_
            refine PW.iinc (pc := 124) dX7_deals_124 rfl (x_inc1 _) (by decide) rfl ?_
            refine PW.goto (pc := 127) (tgt := 101) dX7_deals_127 (by decide) ?_
            refine PW.st rfl rfl rfl (ih2 _ ⟨?_, ?_⟩ ?_ ?_ ?_ ?_)
            · intro q a b c d e
              funext z
              simp only [xup_1, d, false_and, if_false]
              rw [q1.1 q a b c d e]
            · intro z hz
              rw [xup_1, if_neg (by omega)]; exact q1.2 z hz
            · rw [xup_1, if_neg (by omega)]; exact q2
            · intro z hz
              rw [xup_1, if_neg (by omega)]; exact q3 z hz
            · intro z hz
              rw [xup_1, if_neg (by omega)]; exact q4 z hz
            · intro z hz
              rw [xup_1]
              by_cases e : z = i
              · rw [if_pos ⟨rfl, e⟩, e]; exact q4 i hi
              · rw [if_neg (fun y => e y.2)]; exact q5 z (by omega)
        rcases Nat.eq_zero_or_pos c with hc0 | hc0
        · refine PW.istore (pc := 79) dX7_deals_79 (by decide) rfl ?_
          refine PW.iload (pc := 81) dX7_deals_81 rfl ?_
          refine PW.iconst (pc := 83) (v := (-1)) dX7_deals_83 (by decide) ?_
          refine PW.icmp_eq (pc := 84) (tgt := 94) dX7_deals_84 (by decide) (fun _ => ?_) (fun c => absurd ((by rw [lst, if_pos hc0])) c)
          exact PW.st rfl rfl rfl (take (Or.inl hc0))
        · have hl : lst k w wk c = nI (crv k w wk (mnF (crv k w wk) (c - 1))) := by rw [lst, if_neg (by omega)]
          have hg1 := hGle c
          have hg2 := hGle (mnF (crv k w wk) (c - 1))
          refine PW.istore (pc := 79) dX7_deals_79 (by decide) rfl ?_
          refine PW.iload (pc := 81) dX7_deals_81 rfl ?_
          refine PW.iconst (pc := 83) (v := (-1)) dX7_deals_83 (by decide) ?_
          refine PW.icmp_eq (pc := 84) (tgt := 94) dX7_deals_84 (by decide) (fun c => absurd c ((by rw [hl]; intro q; have q2 := congrArg Int32.toInt q; rw [nI_toInt (by omega)] at q2; have : ((-1 : Int32)).toInt = -1 := rfl; omega))) (fun _ => ?_)
          refine PW.iload (pc := 87) dX7_deals_87 rfl ?_
          refine PW.iload (pc := 89) dX7_deals_89 rfl ?_
          refine PW.icmp_ge (pc := 91) (tgt := 130) dX7_deals_91 (by decide) (fun c_91 => ?_) (fun c_91 => ?_)
          · rw [hl, nI_leI (by omega) (by omega)] at c_91
            have hmn : mnF (crv k w wk) c = mnF (crv k w wk) (c - 1) := by
              obtain ⟨c', rfl⟩ : ∃ c', c = c' + 1 := ⟨c - 1, by omega⟩
              rw [show c' + 1 - 1 = c' by omega] at c_91 ⊢
              rw [mnF, if_neg (by omega)]
            refine PW.st rfl rfl rfl (next u_76 _ gd s23 s53 ?_ ?_)
            · intro i hi
              rw [k1 55 (by decide) (by decide), hmn]
              exact g4 hc0 i hi
            · rw [hl, hmn]
          · rw [hl, nI_leI (by omega) (by omega)] at c_91
            exact PW.st rfl rfl rfl (take (Or.inr (by omega)))
    refine PW.iload (pc := 10) dX7_deals_10 rfl ?_
    refine PW.aload_n (pc := 12) dX7_deals_12 rfl ?_
    refine gf_X7_87 (pc := 13) dX7_deals_13 ?_
    refine PW.icmp_ge (pc := 16) (tgt := 60) dX7_deals_16 (by decide) (fun _ => ?_) (fun c => absurd ((by rw [g1.2 6 (by decide), hn]; exact nI_le (Nat.le_refl _) (by omega))) c)
    refine PW.iconst (pc := 60) (v := (-1)) dX7_deals_60 (by decide) ?_
    refine PW.istore (pc := 61) dX7_deals_61 (by decide) rfl ?_
    refine PW.iconst (pc := 63) (v := nI 0) dX7_deals_63 (by decide) ?_
    refine PW.istore (pc := 64) dX7_deals_64 (by decide) rfl ?_
    refine PW.st rfl rfl ?_ (loop 0 (Nat.zero_le _) M' g1 g2 g3 (fun h => by omega))
    rw [lst, if_pos rfl]; rfl
  · intro M' g1 g2 g3
    have hwl := wrk_le (mP M d) g
    have e42 := g1.1 42 (by decide) (by decide) (by decide) (by decide) (by decide)
    have e39 := g1.1 39 (by decide) (by decide) (by decide) (by decide) (by decide)
    have e40 := g1.1 40 (by decide) (by decide) (by decide) (by decide) (by decide)
    refine PW.iload (pc := 10) dX7_deals_10 rfl ?_
    refine PW.aload_n (pc := 12) dX7_deals_12 rfl ?_
    refine gf_X7_87 (pc := 13) dX7_deals_13 ?_
    refine PW.icmp_ge (pc := 16) (tgt := 60) dX7_deals_16 (by decide) (fun c => absurd c ((by rw [g1.2 6 (by decide), hn]; exact nI_ge hg (by omega)))) (fun _ => ?_)
    refine PW.aload_n (pc := 19) dX7_deals_19 rfl ?_
    refine PW.iload (pc := 20) dX7_deals_20 rfl ?_
    refine PW.iload_n (pc := 22) dX7_deals_22 rfl ?_
    refine cs_X7_154 (pc := 23) hY.rm (c_X7_isOfDay (show g < 10 by omega)) ⟨Nat.le_of_ble_eq_true rfl, Nat.le_of_ble_eq_true rfl⟩ dX7_deals_23 (Nat.le_of_ble_eq_true rfl) (fun x_23 u_23 h_23 => ?_)
    obtain ⟨rfl, hu_23⟩ := h_23
    replace hu_23 := hu_23.symm
    subst hu_23
    rw [e42, e39, e40]
    refine PW.if_eq (pc := 26) (tgt := 54) dX7_deals_26 (by decide) (fun c_26 => ?_) (fun c_26 => ?_)
    · have hp := bool_f c_26
      have hp : mP M d g = false := by simp only [mP, wkB, decide_eq_false_iff_not]; exact hp
      have e : wrk (mP M d) (g + 1) = wrk (mP M d) g := by rw [wrk, if_neg (by rw [hp]; simp)]
      refine PW.iinc (pc := 54) dX7_deals_54 rfl (x_inc1 _) (by decide) rfl ?_
      refine PW.goto (pc := 57) (tgt := 10) dX7_deals_57 (by decide) ?_
      refine PW.st rfl rfl ?_ (ih M' g1 ?_ ?_)
      · rw [show mW M d (g + 1) = mW M d g by show (wrk (mP M d) (g + 1)).1 = _; rw [e]]; rfl
      · show M'.1 32 23 = nI (wrk (mP M d) (g + 1)).1
        rw [e]; exact g2
      · show ∀ i, i < (wrk (mP M d) (g + 1)).1 → M'.1 53 i = nI ((wrk (mP M d) (g + 1)).2 i)
        rw [e]; exact g3
    · have hp := bool_t c_26
      have hp : mP M d g = true := by simp only [mP, wkB, decide_eq_true_eq]; exact hp
      have e : wrk (mP M d) (g + 1) = ((wrk (mP M d) g).1 + 1, fun i => if i = (wrk (mP M d) g).1 then g else (wrk (mP M d) g).2 i) := by rw [wrk, if_pos hp]
      have g2' : M'.1 32 23 = nI (wrk (mP M d) g).1 := g2
      refine PW.aload_n (pc := 29) dX7_deals_29 rfl ?_
      refine gf_X7_71 (pc := 30) dX7_deals_30 ?_
      refine PW.aload_n (pc := 33) dX7_deals_33 rfl ?_
      refine gf_X7_151 (pc := 34) dX7_deals_34 ?_
      refine PW.iload (pc := 37) dX7_deals_37 rfl ?_
      refine PW.iastN (pc := 39) rfl g2' (by omega) (by decide) dX7_deals_39 ?_
      refine PW.aload_n (pc := 40) dX7_deals_40 rfl ?_
      refine PW.dup (pc := 41) dX7_deals_41 rfl ?_
      refine gf_X7_151 (pc := 42) dX7_deals_42 ?_
      refine PW.iconst (pc := 45) (v := nI 1) dX7_deals_45 (by decide) ?_
      refine PW.iadd (pc := 46) dX7_deals_46 ?_
      refine pf_X7_151 (pc := 47) dX7_deals_47 ?_
      refine PW.iload_n (pc := 50) dX7_deals_50 rfl ?_
      refine PW.iload_n (pc := 51) dX7_deals_51 rfl ?_
      refine PW.imul (pc := 52) dX7_deals_52 ?_
      rw [pk_mul, ← Nat.pow_succ]
      refine PW.istore_n (pc := 53) (i := 3) dX7_deals_53 rfl (by decide) rfl ?_
      refine PW.iinc (pc := 54) dX7_deals_54 rfl (x_inc1 _) (by decide) rfl ?_
      refine PW.goto (pc := 57) (tgt := 10) dX7_deals_57 (by decide) ?_
      refine PW.st rfl rfl ?_ (ih _ ⟨?_, ?_⟩ ?_ ?_)
      · rw [show mW M d (g + 1) = mW M d g + 1 by show (wrk (mP M d) (g + 1)).1 = _; rw [e]]; rfl
      · intro q a b c d e
        funext z
        simp only [xup_1, a, b, false_and, if_false]
        rw [g1.1 q a b c d e]
      · intro z hz
        simp only [xup_1]
        rw [if_neg (fun y => hz y.2), if_neg (by omega)]
        exact g1.2 z hz
      · show _ = nI (wrk (mP M d) (g + 1)).1
        rw [e]
        simp [xup_1, g2', nI_add]
      · show ∀ i, i < (wrk (mP M d) (g + 1)).1 → _ = nI ((wrk (mP M d) (g + 1)).2 i)
        rw [e]
        intro i hi
        simp only [xup_1]
        rw [if_neg (by omega)]
        by_cases z : i = (wrk (mP M d) g).1
        · rw [if_pos (by simp [z]), if_pos z]
        · rw [if_neg (fun y => z y.2), if_neg z]
          exact g3 i (by simp at hi; show i < (wrk (mP M d) g).1; omega)
set_option maxHeartbeats 4000000 in
set_option maxRecDepth 20000 in
theorem c_X7_hours {d k : Int32} {n : Nat} {M : xM} (hn : M.1 32 6 = nI n) (h10 : n ≤ 10) (hC : TC (mv M)) : K_X7_hours [.ref 32, .int d, .int k] M (xRi (fun x u => (x = if inr d (nI 0) (nI 60) ∧ inr k (nI 1) (nI 3) then nI (crv (na k) (mW M d n) (wkh (M.1 46) (mF M d n)) (mnF (crv (na k) (mW M d n) (wkh (M.1 46) (mF M d n))) (na k ^ mW M d n - 1))) else (-2)) ∧ xFd M u)) := by
  refine xMet.of (own := RX7) rfl (by decide) (Nat.le_of_ble_eq_true rfl) rfl (fun Y hY => ?_)
  have bad : ¬ (inr d (nI 0) (nI 60) ∧ inr k (nI 1) (nI 3)) → P_X7_hours Y 25 [] [] M := by
    intro h
    refine PW.bipush (pc := 25) (v := (-2)) dX7_hours_25 (by decide) ?_
    refine PW.iret (pc := 27) hY ?_ dX7_hours_27
    refine x_ri ?_
    rw [if_neg h]; exact ⟨rfl, fun _ _ _ _ _ _ => rfl, fun _ _ => rfl⟩
  refine PW.iload_n (pc := 0) dX7_hours_0 rfl ?_
  refine cs_X7_95 (pc := 1) hY.rm (c_X7_isDay) ⟨Nat.le_of_ble_eq_true rfl, Nat.le_of_ble_eq_true rfl⟩ dX7_hours_1 (Nat.le_of_ble_eq_true rfl) (fun x_1 u_1 h_1 => ?_)
  obtain ⟨rfl, hu_1⟩ := h_1
  replace hu_1 := hu_1.symm
  subst hu_1
  refine PW.if_eq (pc := 4) (tgt := 25) dX7_hours_4 (by decide) (fun c_4 => PW.st rfl rfl rfl (bad (fun h => bool_f c_4 h.1))) (fun c_4 => ?_)
  refine PW.iload_n (pc := 7) dX7_hours_7 rfl ?_
  refine PW.iconst (pc := 8) (v := nI 1) dX7_hours_8 (by decide) ?_
  refine PW.iconst (pc := 9) (v := nI 3) dX7_hours_9 (by decide) ?_
  refine cs_X7_83 (pc := 10) hY.rm (c_X7_in) ⟨Nat.le_of_ble_eq_true rfl, Nat.le_of_ble_eq_true rfl⟩ dX7_hours_10 (Nat.le_of_ble_eq_true rfl) (fun x_10 u_10 h_10 => ?_)
  obtain ⟨rfl, hu_10⟩ := h_10
  replace hu_10 := hu_10.symm
  subst hu_10
  refine PW.if_eq (pc := 13) (tgt := 25) dX7_hours_13 (by decide) (fun c_13 => PW.st rfl rfl rfl (bad (fun h => bool_f c_13 h.2))) (fun c_13 => ?_)
  have hk := bool_t c_13
  have k0 : 0 ≤ k := Int32.le_trans (by decide) hk.1
  have k1 := x_pos k0
  have k3 := na_le k0 hk.2 (by omega)
  have G : inr d (nI 0) (nI 60) ∧ inr k (nI 1) (nI 3) := ⟨bool_t c_4, hk⟩
  have kl : nI 1 ≤ nI (na k) := by rw [← k1]; exact hk.1
  have k2 : 1 ≤ na k := (nI_leI (by omega) (by omega)).mp kl
  clear bad c_4 c_13 kl
  revert k1 k2 k3
  generalize na k = kN at *
  intro k1 k3 k2
  subst k1
  refine PW.aload_n (pc := 16) dX7_hours_16 rfl ?_
  refine PW.iload_n (pc := 17) dX7_hours_17 rfl ?_
  refine PW.iload_n (pc := 18) dX7_hours_18 rfl ?_
  refine cs_X7_160 (pc := 19) hY.rm (c_X7_deals hn h10 hC k2 k3) ⟨Nat.le_of_ble_eq_true rfl, Nat.le_of_ble_eq_true rfl⟩ dX7_hours_19 (Nat.le_of_ble_eq_true rfl) (fun x_19 u_19 h_19 => ?_)
  refine PW.goto (pc := 22) (tgt := 27) dX7_hours_22 (by decide) ?_
  obtain ⟨f1, f2, f3, f4, f5⟩ := h_19
  refine PW.iret (pc := 27) hY ?_ dX7_hours_27
  refine x_ri ?_
  rw [if_pos G]
  exact ⟨f1, f2⟩
set_option maxHeartbeats 4000000 in
set_option maxRecDepth 20000 in
theorem c_X7_crew {d k f : Int32} {n : Nat} {M : xM} (hn : M.1 32 6 = nI n) (h10 : n ≤ 10) (hC : TC (mv M)) : K_X7_crew [.ref 32, .int d, .int k, .int f] M (xRi (fun x u => (x = if inr d (nI 0) (nI 60) ∧ inr k (nI 1) (nI 3) ∧ okF f n then fnd (fun i => decide (mF M d n i = na f)) (fun i => nI (dgt (na k) (mW M d n) (mnF (crv (na k) (mW M d n) (wkh (M.1 46) (mF M d n))) (na k ^ mW M d n - 1)) i)) (mW M d n) 0 else (-2)) ∧ xFd M u)) := by
  refine xMet.of (own := RX7) rfl (by decide) (Nat.le_of_ble_eq_true rfl) rfl (fun Y hY => ?_)
  have bad : ¬ (inr d (nI 0) (nI 60) ∧ inr k (nI 1) (nI 3) ∧ okF f n) → P_X7_crew Y 24 [] [] M := by
    intro h
    refine PW.bipush (pc := 24) (v := (-2)) dX7_crew_24 (by decide) ?_
    refine PW.iret (pc := 26) hY ?_ dX7_crew_26
    refine x_ri ?_
    rw [if_neg h]; exact ⟨rfl, fun _ _ _ _ _ _ => rfl, fun _ _ => rfl⟩
  refine PW.iload_n (pc := 0) dX7_crew_0 rfl ?_
  refine cs_X7_95 (pc := 1) hY.rm (c_X7_isDay) ⟨Nat.le_of_ble_eq_true rfl, Nat.le_of_ble_eq_true rfl⟩ dX7_crew_1 (Nat.le_of_ble_eq_true rfl) (fun x_1 u_1 h_1 => ?_)
  obtain ⟨rfl, hu_1⟩ := h_1
  replace hu_1 := hu_1.symm
  subst hu_1
  refine PW.if_eq (pc := 4) (tgt := 24) dX7_crew_4 (by decide) (fun c_4 => PW.st rfl rfl rfl (bad (fun h => bool_f c_4 h.1))) (fun c_4 => ?_)
  refine PW.iload_n (pc := 7) dX7_crew_7 rfl ?_
  refine PW.iconst (pc := 8) (v := nI 1) dX7_crew_8 (by decide) ?_
  refine PW.iconst (pc := 9) (v := nI 3) dX7_crew_9 (by decide) ?_
  refine cs_X7_83 (pc := 10) hY.rm (c_X7_in) ⟨Nat.le_of_ble_eq_true rfl, Nat.le_of_ble_eq_true rfl⟩ dX7_crew_10 (Nat.le_of_ble_eq_true rfl) (fun x_10 u_10 h_10 => ?_)
  obtain ⟨rfl, hu_10⟩ := h_10
  replace hu_10 := hu_10.symm
  subst hu_10
  refine PW.if_eq (pc := 13) (tgt := 24) dX7_crew_13 (by decide) (fun c_13 => PW.st rfl rfl rfl (bad (fun h => bool_f c_13 h.2.1))) (fun c_13 => ?_)
  refine PW.aload_n (pc := 16) dX7_crew_16 rfl ?_
  refine PW.iload_n (pc := 17) dX7_crew_17 rfl ?_
  refine cs_X7_99 (pc := 18) hY.rm (c_X7_isField hn h10) ⟨Nat.le_of_ble_eq_true rfl, Nat.le_of_ble_eq_true rfl⟩ dX7_crew_18 (Nat.le_of_ble_eq_true rfl) (fun x_18 u_18 h_18 => ?_)
  obtain ⟨rfl, hu_18⟩ := h_18
  replace hu_18 := hu_18.symm
  subst hu_18
  refine PW.if_ne (pc := 21) (tgt := 27) dX7_crew_21 (by decide) (fun c_21 => ?_) (fun c_21 => PW.st rfl rfl rfl (bad (fun h => bool_f c_21 h.2.2)))
  have hk := bool_t c_13
  have hf := bool_t c_21
  obtain ⟨f1, f2⟩ := okF_nat hf h10
  have k0 : 0 ≤ k := Int32.le_trans (by decide) hk.1
  have k1 := x_pos k0
  have k3 := na_le k0 hk.2 (by omega)
  have G : inr d (nI 0) (nI 60) ∧ inr k (nI 1) (nI 3) ∧ okF f n := ⟨bool_t c_4, hk, hf⟩
  have kl : nI 1 ≤ nI (na k) := by rw [← k1]; exact hk.1
  have k2 : 1 ≤ na k := (nI_leI (by omega) (by omega)).mp kl
  clear bad c_4 c_13 kl c_21
  revert k1 k2 k3 f1 f2
  generalize na k = kN at *
  generalize na f = fN at *
  intro f1 f2 k1 k3 k2
  subst k1
  subst f1
  have hwl := wrk_le (mP M d) n
  have hwi := wrk_lt (mP M d) n
  refine PW.aload_n (pc := 27) dX7_crew_27 rfl ?_
  refine PW.iload_n (pc := 28) dX7_crew_28 rfl ?_
  refine PW.iload_n (pc := 29) dX7_crew_29 rfl ?_
  refine cs_X7_160 (pc := 30) hY.rm (c_X7_deals hn h10 hC k2 k3) ⟨Nat.le_of_ble_eq_true rfl, Nat.le_of_ble_eq_true rfl⟩ dX7_crew_30 (Nat.le_of_ble_eq_true rfl) (fun x_30 u_30 h_30 => ?_)
  refine PW.pop (pc := 33) dX7_crew_33 rfl ?_
  refine PW.iconst (pc := 34) (v := nI 0) dX7_crew_34 (by decide) ?_
  refine PW.istore (pc := 35) dX7_crew_35 (by decide) rfl ?_
  obtain ⟨g0, g1, g2, g3, g4⟩ := h_30
  refine x_loop (n := mW M d n) (P := fun i => fnd (fun i => decide (mF M d n i = fN)) (u_30.1 55) (mW M d n) 0 = fnd (fun i => decide (mF M d n i = fN)) (u_30.1 55) (mW M d n - i) i → P_X7_crew Y 37 [(0, .ref 32), (1, .int d), (2, .int (nI kN)), (3, .int (nI fN)), (4, .int (nI i))] [] u_30) (fun h => ?_) ?_ (fun i hi ih => ?_)
  · exact PW.st rfl rfl rfl (h rfl)
  · intro e
    refine PW.iload (pc := 37) dX7_crew_37 rfl ?_
    refine PW.aload_n (pc := 39) dX7_crew_39 rfl ?_
    refine gf_X7_151 (pc := 40) dX7_crew_40 ?_
    refine PW.icmp_ge (pc := 43) (tgt := 71) dX7_crew_43 (by decide) (fun _ => ?_) (fun c => absurd ((by rw [g2]; exact nI_le (Nat.le_refl _) (show (wrk (mP M d) n).1 < 2 ^ 31 by omega))) c)
    refine PW.iconst (pc := 71) (v := (-1)) dX7_crew_71 (by decide) ?_
    refine PW.iret (pc := 72) hY ?_ dX7_crew_72
    refine x_ri ?_
    rw [if_pos G]
    refine ⟨?_, g1⟩
    have fc : ∀ (p : Nat → Bool) (v v' : Nat → Int32) (W k i : Nat), k + i ≤ W → (∀ j, j < W → v j = v' j) → fnd p v k i = fnd p v' k i := by
      intro p v v' W k
      induction k with
      | zero => intro i _ _; rfl
      | succ k ih =>
        intro i h1 h2
        rw [fnd, fnd, h2 i (by omega), ih (i + 1) (by omega) h2]
    rw [← fc _ _ _ _ _ 0 (Nat.le_refl _) g4, e, Nat.sub_self]
    rfl
  · intro e
    have hi' : i < (wrk (mP M d) n).1 := hi
    have h1 := hwi i hi'
    rw [show mW M d n - i = (mW M d n - (i + 1)) + 1 by omega, fnd] at e
    refine PW.iload (pc := 37) dX7_crew_37 rfl ?_
    refine PW.aload_n (pc := 39) dX7_crew_39 rfl ?_
    refine gf_X7_151 (pc := 40) dX7_crew_40 ?_
    refine PW.icmp_ge (pc := 43) (tgt := 71) dX7_crew_43 (by decide) (fun c => absurd c ((by rw [g2]; exact nI_ge hi (show (wrk (mP M d) n).1 < 2 ^ 31 by omega)))) (fun _ => ?_)
    refine PW.aload_n (pc := 46) dX7_crew_46 rfl ?_
    refine gf_X7_71 (pc := 47) dX7_crew_47 ?_
    refine PW.iload (pc := 50) dX7_crew_50 rfl ?_
    refine PW.ialdN (pc := 52) rfl rfl (by omega) (by decide) dX7_crew_52 ?_
    refine PW.iload_n (pc := 53) dX7_crew_53 rfl ?_
    rw [g3 i hi]
    have hlt : mF M d n i < 10 := by show (wrk (mP M d) n).2 i < 10; omega
    refine PW.icmp_ne (pc := 54) (tgt := 65) dX7_crew_54 (by decide) (fun c_54 => ?_) (fun c_54 => ?_)
    · rw [nI_eq (by omega) (by omega)] at c_54
      rw [if_neg (by simp only [decide_eq_true_eq]; exact c_54)] at e
      refine PW.iinc (pc := 65) dX7_crew_65 rfl (x_inc1 _) (by decide) rfl ?_
      refine PW.goto (pc := 68) (tgt := 37) dX7_crew_68 (by decide) ?_
      exact PW.st rfl rfl rfl (ih e)
    · rw [nI_eq (by omega) (by omega)] at c_54
      rw [if_pos (by simp only [decide_eq_true_eq]; exact c_54)] at e
      refine PW.aload_n (pc := 57) dX7_crew_57 rfl ?_
      refine gf_X7_77 (pc := 58) dX7_crew_58 ?_
      refine PW.iload (pc := 61) dX7_crew_61 rfl ?_
      refine PW.ialdN (pc := 63) rfl rfl (by omega) (by decide) dX7_crew_63 ?_
      refine PW.iret (pc := 64) hY ?_ dX7_crew_64
      refine x_ri ?_
      rw [if_pos G]
      refine ⟨?_, g1⟩
      have fc : ∀ (p : Nat → Bool) (v v' : Nat → Int32) (W k i : Nat), k + i ≤ W → (∀ j, j < W → v j = v' j) → fnd p v k i = fnd p v' k i := by
        intro p v v' W k
        induction k with
        | zero => intro i _ _; rfl
        | succ k ih =>
          intro i h1 h2
          rw [fnd, fnd, h2 i (by omega), ih (i + 1) (by omega) h2]
      rw [← fc _ _ _ _ _ 0 (Nat.le_refl _) g4, e]
