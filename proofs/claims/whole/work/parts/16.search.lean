/-! the class's searches -/
theorem TB.has {M : xM} {n : Nat} (h : TB M n) : M.1 8 9 = nI n := h.1
theorem TB.n10 {M : xM} {n : Nat} (h : TB M n) : n ≤ 10 := h.2.1
def TK (M : xM) (n : Nat) : Nat := xset (M.1 12) (nI 1) n
def AS (M : xM) (n : Nat) : Nat := xset (M.1 12) (nI 0) n
def LKn (M : xM) (n s : Nat) : Nat := LKs (hh M) (SU M n s)
def HSn (M : xM) (n s : Nat) : Nat := HSs (hh M) (pp M) (SU M n s)
def bestP (M : xM) (n : Nat) (s : Nat) : Bool := decide (s &&& AS M n = s) && decide (LKn M n (TK M n ||| s) = 0)
def prM (M : xM) (n : Nat) (s : Nat) : Int32 := prs (M.1 11) s n
def bestT (M : xM) (n : Nat) : Nat := bestF (bestP M n) (prM M n) (AS M n + 1)
theorem TK_lt {M : xM} {n : Nat} (h : TB M n) : TK M n < 1024 := xset_lt _ _ h.n10
theorem AS_lt {M : xM} {n : Nat} (h : TB M n) : AS M n < 1024 := xset_lt _ _ h.n10
theorem LRS.fit2 {u M : xM} {n s : Nat} (h : LRS u M n s) : u.1 20 2 = 0 ↔ LKn M n s = 0 := h.fit
theorem prs_0 (p : Nat → Int32) : ∀ n, prs p 0 n = nI 0
  | 0 => rfl
  | n + 1 => by rw [prs, if_neg (by simp), prs_0 p n]
set_option maxHeartbeats 4000000 in
set_option maxRecDepth 20000 in
theorem c_X6_best {n : Nat} {M : xM} (hB : TB M n) : K_X6_best [.ref 0] M (xRi (fun x u => (if LKn M n (TK M n) = 0 then x = nI (bestT M n) else x = (-3)) ∧ xFr M u)) := by
  refine xMet.of (own := RX6) rfl (by decide) (Nat.le_of_ble_eq_true rfl) rfl (fun Y hY => ?_)
  have hn := hB.has
  have h10 := hB.n10
  have ht := TK_lt hB
  have ha := AS_lt hB
  refine PW.aload_n (pc := 0) dX6_best_0 rfl ?_
  refine gf_X6_19 (pc := 1) dX6_best_1 ?_
  refine PW.iconst (pc := 4) (v := nI 1) dX6_best_4 (by decide) ?_
  refine cs_X6_110 (pc := 5) hY.rm (c_X1_setOf hn h10) ⟨Nat.le_of_ble_eq_true rfl, Nat.le_of_ble_eq_true rfl⟩ dX6_best_5 (Nat.le_of_ble_eq_true rfl) (fun x_5 u_5 h_5 => ?_)
  obtain ⟨rfl, hu_5⟩ := h_5
  replace hu_5 := hu_5.symm
  subst hu_5
  refine PW.istore_n (pc := 8) (i := 1) dX6_best_8 rfl (by decide) rfl ?_
  refine PW.aload_n (pc := 9) dX6_best_9 rfl ?_
  refine gf_X6_19 (pc := 10) dX6_best_10 ?_
  refine PW.iconst (pc := 13) (v := nI 0) dX6_best_13 (by decide) ?_
  refine cs_X6_110 (pc := 14) hY.rm (c_X1_setOf hn h10) ⟨Nat.le_of_ble_eq_true rfl, Nat.le_of_ble_eq_true rfl⟩ dX6_best_14 (Nat.le_of_ble_eq_true rfl) (fun x_14 u_14 h_14 => ?_)
  obtain ⟨rfl, hu_14⟩ := h_14
  replace hu_14 := hu_14.symm
  subst hu_14
  rw [show xset (M.1 12) (nI 1) n = TK M n from rfl, show xset (M.1 12) (nI 0) n = AS M n from rfl]
  refine PW.istore_n (pc := 17) (i := 2) dX6_best_17 rfl (by decide) rfl ?_
  refine PW.aload_n (pc := 18) dX6_best_18 rfl ?_
  refine PW.iload_n (pc := 19) dX6_best_19 rfl ?_
  refine cs_X6_114 (pc := 20) hY.rm (c_X6_goTogether hB ht) ⟨Nat.le_of_ble_eq_true rfl, Nat.le_of_ble_eq_true rfl⟩ dX6_best_20 (Nat.le_of_ble_eq_true rfl) (fun x_20 u_20 h_20 => ?_)
  obtain ⟨hx, hF0, hL0⟩ := h_20
  refine PW.if_ne (pc := 23) (tgt := 29) dX6_best_23 (by decide) (fun c_23 => ?_) (fun c_23 => ?_)
  · have hfit := (hL0.fit2).mp (xB_ne hx c_23)
    refine PW.iconst (pc := 29) (v := nI 0) dX6_best_29 (by decide) ?_
    refine PW.istore_n (pc := 30) (i := 3) dX6_best_30 rfl (by decide) rfl ?_
    refine PW.iconst (pc := 31) (v := nI 0) dX6_best_31 (by decide) ?_
    refine PW.istore (pc := 32) dX6_best_32 (by decide) rfl ?_
    refine PW.iconst (pc := 34) (v := nI 1) dX6_best_34 (by decide) ?_
    refine PW.istore (pc := 35) dX6_best_35 (by decide) rfl ?_
    have loop : ∀ k, k ≤ AS M n + 1 → (1 ≤ k → ∀ M', xFr M M' → (∃ s0, s0 < 1024 ∧ LRS M' M n s0) → P_X6_best Y 37 [(0, .ref 0), (1, .int (nI (TK M n))), (2, .int (nI (AS M n))), (3, .int (nI (bestF (bestP M n) (prM M n) k))), (4, .int (prM M n (bestF (bestP M n) (prM M n) k))), (5, .int (nI k))] [] M') := by
      refine x_down ?_ ?_
      · intro _ M' hF _
        refine PW.iload (pc := 37) dX6_best_37 rfl ?_
        refine PW.iload_n (pc := 39) dX6_best_39 rfl ?_
        refine PW.icmp_gt (pc := 40) (tgt := 104) dX6_best_40 (by decide) (fun _ => ?_) (fun c => absurd ((nI_lt (by omega) (by omega))) c)
        refine PW.iload_n (pc := 104) dX6_best_104 rfl ?_
        refine PW.iret (pc := 105) hY ?_ dX6_best_105
        refine x_ri ⟨?_, hF⟩
        rw [if_pos hfit]; rfl
      · intro k hk ih hk1 M' hF hL
        obtain ⟨s0, hs0, hL⟩ := hL
        have hB' := hB.fr hF
        have next : ∀ M2 fd, xFr M M2 → (∃ s0, s0 < 1024 ∧ LRS M2 M n s0) → fd = bestF (bestP M n) (prM M n) (k + 1) → P_X6_best Y 98 [(0, .ref 0), (1, .int (nI (TK M n))), (2, .int (nI (AS M n))), (3, .int (nI fd)), (4, .int (prM M n fd)), (5, .int (nI k))] [] M2 := by
          intro M2 fd g1 g2 g3
          refine PW.iinc (pc := 98) dX6_best_98 rfl (x_inc1 _) (by decide) rfl ?_
          refine PW.goto (pc := 101) (tgt := 37) dX6_best_101 (by decide) ?_
          rw [g3]
          exact PW.st rfl rfl rfl (ih (by omega) M2 g1 g2)
        refine PW.iload (pc := 37) dX6_best_37 rfl ?_
        refine PW.iload_n (pc := 39) dX6_best_39 rfl ?_
        refine PW.icmp_gt (pc := 40) (tgt := 104) dX6_best_40 (by decide) (fun c => absurd c ((nI_nlt (by omega) (by omega)))) (fun _ => ?_)
        refine PW.aload_n (pc := 43) dX6_best_43 rfl ?_
        refine gf_X6_19 (pc := 44) dX6_best_44 ?_
        refine PW.iload (pc := 47) dX6_best_47 rfl ?_
        refine cs_X6_152 (pc := 49) hY.rm (c_X1_priceOf hB'.has h10 (by omega)) ⟨Nat.le_of_ble_eq_true rfl, Nat.le_of_ble_eq_true rfl⟩ dX6_best_49 (Nat.le_of_ble_eq_true rfl) (fun x_49 u_49 h_49 => ?_)
        obtain ⟨rfl, hu_49⟩ := h_49
        replace hu_49 := hu_49.symm
        subst hu_49
        rw [show prs (M'.1 11) k n = prM M n k by rw [hF 11 (by decide) (by decide)]; rfl]
        refine PW.istore (pc := 52) dX6_best_52 (by decide) rfl ?_
        refine PW.iload (pc := 54) dX6_best_54 rfl ?_
        refine PW.iload_n (pc := 56) dX6_best_56 rfl ?_
        refine PW.iconst (pc := 57) (v := (-1)) dX6_best_57 (by decide) ?_
        refine PW.ixor (pc := 58) dX6_best_58 ?_
        refine PW.iand (pc := 59) dX6_best_59 ?_
        refine PW.if_ne (pc := 60) (tgt := 98) dX6_best_60 (by decide) (fun c_60 => ?_) (fun c_60 => ?_)
        · rw [x_sub (by omega)] at c_60
          refine PW.st rfl rfl rfl (next M' (bestF (bestP M n) (prM M n) k) hF ⟨s0, hs0, hL⟩ ?_)
          rw [bestF, if_neg]
          rintro ⟨-, q, -⟩
          simp [bestP, c_60] at q
        · rw [x_sub (by omega)] at c_60
          refine PW.iload (pc := 63) dX6_best_63 rfl ?_
          refine PW.iload (pc := 65) dX6_best_65 rfl ?_
          refine PW.icmp_gt (pc := 67) (tgt := 73) dX6_best_67 (by decide) (fun c_67 => ?_) (fun c_67 => ?_)
          · refine PW.aload_n (pc := 73) dX6_best_73 rfl ?_
            refine PW.iload_n (pc := 74) dX6_best_74 rfl ?_
            refine PW.iload (pc := 75) dX6_best_75 rfl ?_
            refine PW.ior (pc := 77) dX6_best_77 ?_
            rw [fa_or]
            refine cs_X6_155 (pc := 78) hY.rm (c_X6_countOn hB' (or_lt ht (by omega)) hs0 ((LRS.fr hF).mpr hL)) ⟨Nat.le_of_ble_eq_true rfl, Nat.le_of_ble_eq_true rfl⟩ dX6_best_78 (Nat.le_of_ble_eq_true rfl) (fun u_78 h_78 => ?_)
            obtain ⟨g1, g2⟩ := h_78
            have g2 := (LRS.fr hF).mp g2
            refine PW.aload_n (pc := 81) dX6_best_81 rfl ?_
            refine gf_X6_33 (pc := 82) dX6_best_82 ?_
            refine gf_X6_158 (pc := 85) dX6_best_85 ?_
            refine PW.if_ne (pc := 88) (tgt := 98) dX6_best_88 (by decide) (fun c_88 => ?_) (fun c_88 => ?_)
            · rw [g2.fit2] at c_88
              refine PW.st rfl rfl rfl (next u_78 (bestF (bestP M n) (prM M n) k) (hF.tr g1) ⟨_, or_lt ht (by omega), g2⟩ ?_)
              rw [bestF, if_neg]
              rintro ⟨-, q, -⟩
              simp [bestP, c_88] at q
            · rw [g2.fit2] at c_88
              refine PW.iload (pc := 91) dX6_best_91 rfl ?_
              refine PW.istore_n (pc := 93) (i := 3) dX6_best_93 rfl (by decide) rfl ?_
              refine PW.iload (pc := 94) dX6_best_94 rfl ?_
              refine PW.istore (pc := 96) dX6_best_96 (by decide) rfl ?_
              refine PW.st rfl rfl rfl (next u_78 k (hF.tr g1) ⟨_, or_lt ht (by omega), g2⟩ ?_)
              rw [bestF, if_pos ⟨by omega, by simp [bestP, c_88, c_60], c_67⟩]
          · refine PW.goto (pc := 70) (tgt := 98) dX6_best_70 (by decide) ?_
            refine PW.st rfl rfl rfl (next M' (bestF (bestP M n) (prM M n) k) hF ⟨s0, hs0, hL⟩ ?_)
            rw [bestF, if_neg]
            rintro ⟨-, -, q⟩
            exact c_67 q
    have h1 := loop 1 (by omega) (Nat.le_refl _) u_20 hF0 ⟨_, ht, hL0⟩
    rw [bestF_one] at h1
    refine PW.st rfl rfl ?_ h1
    rw [show prM M n 0 = nI 0 from prs_0 _ _]
    rfl
  · have hfit := xB_eq hx c_23
    rw [hL0.fit2] at hfit
    refine PW.bipush (pc := 26) (v := (-3)) dX6_best_26 (by decide) ?_
    refine PW.iret (pc := 28) hY ?_ dX6_best_28
    refine x_ri ⟨?_, hF0⟩
    rw [if_neg hfit]
/-! the dearest -/
def prN (M : xM) (n s : Nat) : Nat := nsum (fun g => if s.testBit g = true then na (M.1 11 g) else 0) n
theorem prN_le {M : xM} {n : Nat} (h : TB M n) (s : Nat) : prN M n s ≤ 1000000 := by
  have h10 := h.n10
  have := nsum_le (f := fun g => if s.testBit g = true then na (M.1 11 g) else 0) (n := n) (c := 100000) (fun j hj => by
    have := (h.2.2.1 j (by omega)).2.2.2.1.2
    split
    · exact this
    · omega)
  unfold prN
  omega
theorem prM_N {M : xM} {n : Nat} (h : TB M n) (s : Nat) : prM M n s = nI (prN M n s) := by
  have h10 := h.n10
  have : ∀ k, k ≤ n → prs (M.1 11) s k = nI (nsum (fun g => if s.testBit g = true then na (M.1 11 g) else 0) k) := by
    intro k
    induction k with
    | zero => intro _; rfl
    | succ k ih =>
      intro hk
      have hp := (h.2.2.1 k (by omega)).2.2.2.1.1
      rw [prs, nsum, ih (by omega)]
      by_cases q : s.testBit k = true
      · rw [if_pos q, if_pos q, ← nI_add, ← hp]
      · rw [if_neg q, if_neg q, Nat.add_zero]
  exact this n (Nat.le_refl _)
theorem HSn_le {M : xM} {n : Nat} (h : TB M n) (s : Nat) : HSn M n s ≤ 396 * 5000000 := by
  refine dsum_le (fun t d ht hd => ?_)
  have h1 := pp_le h ht
  have h2 := psum_le (d := d) h (fun g => s.testBit g) ht
  calc pp M t * (SU M n s t d - hh M t) ≤ 1000 * 5000 := Nat.mul_le_mul h1 (Nat.le_trans (Nat.sub_le _ _) h2)
    _ = 5000000 := rfl
theorem SU_mono {M : xM} {n s s' : Nat} (h : ∀ g, s.testBit g = true → s'.testBit g = true) (t d : Nat) : SU M n s t d ≤ SU M n s' t d := by
  refine nsum_mono (fun g _ => ?_)
  by_cases q : s.testBit g = true
  · rw [if_pos q, if_pos (h g q)]; exact Nat.le_refl _
  · rw [if_neg q]; omega
theorem HSn_mono {M : xM} {n s s' : Nat} (h : ∀ g, s.testBit g = true → s'.testBit g = true) : HSn M n s ≤ HSn M n s' :=
  dsum_mono (fun t d _ _ => Nat.mul_le_mul_left _ (Nat.sub_le_sub_right (SU_mono h t d) _))
def woM (M : xM) (n s : Nat) : Int64 := (prM M n s).toInt64 - (lN (HSn M n (TK M n ||| s)) - lN (HSn M n (TK M n)))
theorem woM_le {M : xM} {n : Nat} (h : TB M n) (s : Nat) : woM M n s ≤ (prM M n s).toInt64 := by
  have h1 := prN_le h s
  have h2 := HSn_le h (TK M n ||| s)
  have h3 : HSn M n (TK M n) ≤ HSn M n (TK M n ||| s) := HSn_mono (fun g q => by rw [Nat.testBit_or, q]; rfl)
  unfold woM
  rw [prM_N h, nI_l (by omega), lN_sub h3, Int64.le_iff_toInt_le, Int64.toInt_sub, pk_lT (by omega), pk_lT (by omega), Int.bmod_eq_of_le] <;> omega
theorem lg_gt (x y : Int64) : 0 < lg_cmp x y ↔ y < x := by
  unfold lg_cmp
  by_cases h : x > y
  · rw [if_pos h]
    exact ⟨fun _ => h, fun _ => by decide⟩
  · rw [if_neg h]
    constructor
    · intro q
      split at q <;> exact absurd q (by decide)
    · intro q; exact absurd q h
theorem i64_trans {a b c : Int64} (h1 : ¬ a < b) (h2 : c ≤ b) : ¬ a < c := by
  rw [Int64.lt_iff_toInt_lt] at *
  rw [Int64.le_iff_toInt_le] at h2
  omega
def dearP (M : xM) (n s : Nat) : Bool := decide (s &&& AS M n = s)
def dearT (M : xM) (n k : Nat) : Nat × Int64 := dearF (dearP M n) (woM M n) k
set_option maxHeartbeats 4000000 in
set_option maxRecDepth 20000 in
theorem c_X6_dearest {n : Nat} {M : xM} (hB : TB M n) : K_X6_dearest [.ref 0] M (xRi (fun x u => x = nI (dearT M n (AS M n + 1)).1 ∧ xFr M u)) := by
  refine xMet.of (own := RX6) rfl (by decide) (Nat.le_of_ble_eq_true rfl) rfl (fun Y hY => ?_)
  have hn := hB.has
  have h10 := hB.n10
  have ht := TK_lt hB
  have ha := AS_lt hB
  refine PW.aload_n (pc := 0) dX6_dearest_0 rfl ?_
  refine gf_X6_19 (pc := 1) dX6_dearest_1 ?_
  refine PW.iconst (pc := 4) (v := nI 1) dX6_dearest_4 (by decide) ?_
  refine cs_X6_110 (pc := 5) hY.rm (c_X1_setOf hn h10) ⟨Nat.le_of_ble_eq_true rfl, Nat.le_of_ble_eq_true rfl⟩ dX6_dearest_5 (Nat.le_of_ble_eq_true rfl) (fun x_5 u_5 h_5 => ?_)
  obtain ⟨rfl, hu_5⟩ := h_5
  replace hu_5 := hu_5.symm
  subst hu_5
  refine PW.istore_n (pc := 8) (i := 1) dX6_dearest_8 rfl (by decide) rfl ?_
  refine PW.aload_n (pc := 9) dX6_dearest_9 rfl ?_
  refine gf_X6_19 (pc := 10) dX6_dearest_10 ?_
  refine PW.iconst (pc := 13) (v := nI 0) dX6_dearest_13 (by decide) ?_
  refine cs_X6_110 (pc := 14) hY.rm (c_X1_setOf hn h10) ⟨Nat.le_of_ble_eq_true rfl, Nat.le_of_ble_eq_true rfl⟩ dX6_dearest_14 (Nat.le_of_ble_eq_true rfl) (fun x_14 u_14 h_14 => ?_)
  obtain ⟨rfl, hu_14⟩ := h_14
  replace hu_14 := hu_14.symm
  subst hu_14
  rw [show xset (M.1 12) (nI 1) n = TK M n from rfl, show xset (M.1 12) (nI 0) n = AS M n from rfl]
  refine PW.istore_n (pc := 17) (i := 2) dX6_dearest_17 rfl (by decide) rfl ?_
  refine PW.aload_n (pc := 18) dX6_dearest_18 rfl ?_
  refine PW.iload_n (pc := 19) dX6_dearest_19 rfl ?_
  refine cs_X6_117 (pc := 20) hY.rm (c_X6_countAnew hB ht) ⟨Nat.le_of_ble_eq_true rfl, Nat.le_of_ble_eq_true rfl⟩ dX6_dearest_20 (Nat.le_of_ble_eq_true rfl) (fun u_20 h_20 => ?_)
  refine PW.aload_n (pc := 23) dX6_dearest_23 rfl ?_
  refine gf_X6_33 (pc := 24) dX6_dearest_24 ?_
  refine gf_X6_121 (pc := 27) dX6_dearest_27 ?_
  obtain ⟨hF0, hL0⟩ := h_20
  rw [show u_20.2 20 3 = lN (HSn M n (TK M n)) from hL0.2.2.2]
  refine PW.lstore_n (pc := 30) (i := 3) dX6_dearest_30 rfl (by decide) rfl rfl ?_
  refine PW.lconst (pc := 31) (v := lN 0) dX6_dearest_31 rfl ?_
  refine PW.lstore (pc := 32) dX6_dearest_32 (by decide) rfl rfl ?_
  refine PW.iconst (pc := 34) (v := nI 0) dX6_dearest_34 (by decide) ?_
  refine PW.istore (pc := 35) dX6_dearest_35 (by decide) rfl ?_
  refine PW.iconst (pc := 37) (v := nI 1) dX6_dearest_37 (by decide) ?_
  refine PW.istore (pc := 38) dX6_dearest_38 (by decide) rfl ?_
  have loop : ∀ k, k ≤ AS M n + 1 → (1 ≤ k → ∀ M', xFr M M' → (∃ s0, s0 < 1024 ∧ LRS M' M n s0) → P_X6_dearest Y 40 [(0, .ref 0), (1, .int (nI (TK M n))), (2, .int (nI (AS M n))), (3, .long (lN (HSn M n (TK M n)))), (5, .long (dearT M n k).2), (7, .int (nI (dearT M n k).1)), (8, .int (nI k))] [] M') := by
    refine x_down ?_ ?_
    · intro _ M' hF _
      refine PW.iload (pc := 40) dX6_dearest_40 rfl ?_
      refine PW.iload_n (pc := 42) dX6_dearest_42 rfl ?_
      refine PW.icmp_gt (pc := 43) (tgt := 123) dX6_dearest_43 (by decide) (fun _ => ?_) (fun c => absurd ((nI_lt (by omega) (by omega))) c)
      refine PW.iload (pc := 123) dX6_dearest_123 rfl ?_
      refine PW.iret (pc := 125) hY ?_ dX6_dearest_125
      exact x_ri ⟨rfl, hF⟩
    · intro k hk ih hk1 M' hF hL
      obtain ⟨s0, hs0, hL⟩ := hL
      have hB' := hB.fr hF
      have next : ∀ M2 fd, xFr M M2 → (∃ s0, s0 < 1024 ∧ LRS M2 M n s0) → fd = dearT M n (k + 1) → P_X6_dearest Y 117 [(0, .ref 0), (1, .int (nI (TK M n))), (2, .int (nI (AS M n))), (3, .long (lN (HSn M n (TK M n)))), (5, .long fd.2), (7, .int (nI fd.1)), (8, .int (nI k))] [] M2 := by
        intro M2 fd g1 g2 g3
        refine PW.iinc (pc := 117) dX6_dearest_117 rfl (x_inc1 _) (by decide) rfl ?_
        refine PW.goto (pc := 120) (tgt := 40) dX6_dearest_120 (by decide) ?_
        rw [g3]
        exact PW.st rfl rfl rfl (ih (by omega) M2 g1 g2)
      refine PW.iload (pc := 40) dX6_dearest_40 rfl ?_
      refine PW.iload_n (pc := 42) dX6_dearest_42 rfl ?_
      refine PW.icmp_gt (pc := 43) (tgt := 123) dX6_dearest_43 (by decide) (fun c => absurd c ((nI_nlt (by omega) (by omega)))) (fun _ => ?_)
      refine PW.aload_n (pc := 46) dX6_dearest_46 rfl ?_
      refine gf_X6_19 (pc := 47) dX6_dearest_47 ?_
      refine PW.iload (pc := 50) dX6_dearest_50 rfl ?_
      refine cs_X6_152 (pc := 52) hY.rm (c_X1_priceOf hB'.has h10 (by omega)) ⟨Nat.le_of_ble_eq_true rfl, Nat.le_of_ble_eq_true rfl⟩ dX6_dearest_52 (Nat.le_of_ble_eq_true rfl) (fun x_52 u_52 h_52 => ?_)
      obtain ⟨rfl, hu_52⟩ := h_52
      replace hu_52 := hu_52.symm
      subst hu_52
      rw [show prs (M'.1 11) k n = prM M n k by rw [hF 11 (by decide) (by decide)]; rfl]
      refine PW.istore (pc := 55) dX6_dearest_55 (by decide) rfl ?_
      refine PW.iload (pc := 57) dX6_dearest_57 rfl ?_
      refine PW.iload_n (pc := 59) dX6_dearest_59 rfl ?_
      refine PW.iconst (pc := 60) (v := (-1)) dX6_dearest_60 (by decide) ?_
      refine PW.ixor (pc := 61) dX6_dearest_61 ?_
      refine PW.iand (pc := 62) dX6_dearest_62 ?_
      refine PW.if_ne (pc := 63) (tgt := 117) dX6_dearest_63 (by decide) (fun c_63 => ?_) (fun c_63 => ?_)
      · rw [x_sub (by omega)] at c_63
        refine PW.st rfl rfl rfl (next M' (dearT M n k) hF ⟨s0, hs0, hL⟩ ?_)
        unfold dearT
        rw [dearF, if_neg]
        rintro ⟨-, q, -⟩
        simp [dearP, c_63] at q
      · rw [x_sub (by omega)] at c_63
        refine PW.iload (pc := 66) dX6_dearest_66 rfl ?_
        refine PW.i2l (pc := 68) dX6_dearest_68 ?_
        refine PW.lload (pc := 69) dX6_dearest_69 rfl ?_
        refine PW.lcmp (pc := 71) dX6_dearest_71 ?_
        refine PW.if_gt (pc := 72) (tgt := 78) dX6_dearest_72 (by decide) (fun c_72 => ?_) (fun c_72 => ?_)
        · refine PW.aload_n (pc := 78) dX6_dearest_78 rfl ?_
          refine PW.iload_n (pc := 79) dX6_dearest_79 rfl ?_
          refine PW.iload (pc := 80) dX6_dearest_80 rfl ?_
          refine PW.ior (pc := 82) dX6_dearest_82 ?_
          rw [fa_or]
          refine cs_X6_155 (pc := 83) hY.rm (c_X6_countOn hB' (or_lt ht (by omega)) hs0 ((LRS.fr hF).mpr hL)) ⟨Nat.le_of_ble_eq_true rfl, Nat.le_of_ble_eq_true rfl⟩ dX6_dearest_83 (Nat.le_of_ble_eq_true rfl) (fun u_83 h_83 => ?_)
          refine PW.iload (pc := 86) dX6_dearest_86 rfl ?_
          refine PW.i2l (pc := 88) dX6_dearest_88 ?_
          refine PW.aload_n (pc := 89) dX6_dearest_89 rfl ?_
          refine gf_X6_33 (pc := 90) dX6_dearest_90 ?_
          refine gf_X6_121 (pc := 93) dX6_dearest_93 ?_
          obtain ⟨g1, g2⟩ := h_83
          have g2 := (LRS.fr hF).mp g2
          rw [show u_83.2 20 3 = lN (HSn M n (TK M n ||| k)) from g2.2.2.2]
          refine PW.lload_n (pc := 96) dX6_dearest_96 rfl ?_
          refine PW.lsub (pc := 97) dX6_dearest_97 ?_
          refine PW.lsub (pc := 98) dX6_dearest_98 ?_
          rw [show (prM M n k).toInt64 - (lN (HSn M n (TK M n ||| k)) - lN (HSn M n (TK M n))) = woM M n k from rfl]
          refine PW.lstore (pc := 99) dX6_dearest_99 (by decide) rfl rfl ?_
          refine PW.lload (pc := 101) dX6_dearest_101 rfl ?_
          refine PW.lload (pc := 103) dX6_dearest_103 rfl ?_
          refine PW.lcmp (pc := 105) dX6_dearest_105 ?_
          refine PW.if_le (pc := 106) (tgt := 117) dX6_dearest_106 (by decide) (fun c_106 => ?_) (fun c_106 => ?_)
          · refine PW.st rfl rfl rfl (next u_83 (dearT M n k) (hF.tr g1) ⟨_, or_lt ht (by omega), g2⟩ ?_)
            unfold dearT at c_106 ⊢
            rw [dearF, if_neg]
            rintro ⟨-, -, q⟩
            exact x_ng c_106 ((lg_gt _ _).mpr q)
          · refine PW.iload (pc := 109) dX6_dearest_109 rfl ?_
            refine PW.istore (pc := 111) dX6_dearest_111 (by decide) rfl ?_
            refine PW.lload (pc := 113) dX6_dearest_113 rfl ?_
            refine PW.lstore (pc := 115) dX6_dearest_115 (by decide) rfl rfl ?_
            refine PW.st rfl rfl rfl (next u_83 (k, woM M n k) (hF.tr g1) ⟨_, or_lt ht (by omega), g2⟩ ?_)
            unfold dearT at c_106 ⊢
            rw [dearF, if_pos ⟨by omega, by simp [dearP, c_63], (lg_gt _ _).mp (x_gt c_106)⟩]
        · refine PW.goto (pc := 75) (tgt := 117) dX6_dearest_75 (by decide) ?_
          refine PW.st rfl rfl rfl (next M' (dearT M n k) hF ⟨s0, hs0, hL⟩ ?_)
          rw [lg_gt] at c_72
          unfold dearT at c_72 ⊢
          rw [dearF, if_neg]
          rintro ⟨-, -, q⟩
          exact i64_trans c_72 (woM_le hB k) q
  have h1 := loop 1 (by omega) (Nat.le_refl _) u_20 hF0 ⟨_, ht, hL0⟩
  unfold dearT at h1
  rw [dearF_one] at h1
  exact PW.st rfl rfl rfl h1
