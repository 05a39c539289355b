/-! what the class counts on: ranges; what a set of fields uses -/
abbrev na (x : Int32) : Nat := x.toNatClampNeg
theorem na_nI {n : Nat} (h : n < 2 ^ 31) : na (nI n) = n := nI_clamp h
def rng (x : Int32) (b : Nat) : Prop := x = nI (na x) ∧ na x ≤ b
def FB (M : xM) (f : Nat) : Prop := rng (M.1 9 f) 60 ∧ rng (M.1 10 f) 60 ∧ na (M.1 9 f) ≤ na (M.1 10 f) ∧ rng (M.1 11 f) 100000 ∧ ∀ t, t < 6 → rng (M.1 16 (f * 6 + t)) 500
def ThB (M : xM) (t : Nat) : Prop := rng (M.1 2 t) 1000 ∧ rng (M.1 3 t) 5 ∧ rng (M.1 5 t) 1000 ∧ rng (M.1 7 t) 1000000
def TB (M : xM) (n : Nat) : Prop := M.1 8 9 = nI n ∧ n ≤ 10 ∧ (∀ f, f < 10 → FB M f) ∧ (∀ t, t < 6 → ThB M t) ∧ ∀ d, d < 61 → M.1 19 d = 0 ∨ M.1 19 d = 1
theorem TB.fr {M u : xM} {n : Nat} (h : TB M n) (hF : xFr M u) : TB u n := by
  unfold TB FB ThB at *
  rw [hF 8 (by decide) (by decide), hF 9 (by decide) (by decide), hF 10 (by decide) (by decide), hF 11 (by decide) (by decide), hF 16 (by decide) (by decide), hF 2 (by decide) (by decide), hF 3 (by decide) (by decide), hF 5 (by decide) (by decide), hF 7 (by decide) (by decide), hF 19 (by decide) (by decide)]
  exact h
def fi (M : xM) (f : Nat) : Nat := na (M.1 9 f)
def la (M : xM) (f : Nat) : Nat := na (M.1 10 f)
def ne (M : xM) (f t : Nat) : Nat := na (M.1 16 (f * 6 + t))
def un (M : xM) (f t : Nat) : Nat := la M f + (if M.1 19 (la M f) = 0 then 0 else na (M.1 3 t))
def us (M : xM) (f t d : Nat) : Nat := if fi M f ≤ d ∧ d ≤ un M f t then ne M f t else 0
def hh (M : xM) (t : Nat) : Nat := na (M.1 2 t) - na (M.1 7 t)
def pp (M : xM) (t : Nat) : Nat := na (M.1 5 t)
def SU (M : xM) (n s : Nat) (t d : Nat) : Nat := nsum (fun g => if s.testBit g = true then us M g t d else 0) n
theorem us_le {M : xM} {n f t d : Nat} (h : TB M n) (hf : f < 10) (ht : t < 6) : us M f t d ≤ 500 := by
  unfold us
  split
  · exact ((h.2.2.1 f hf).2.2.2.2 t ht).2
  · omega
theorem un_lt {M : xM} {n f t : Nat} (h : TB M n) (hf : f < 10) (ht : t < 6) : un M f t < 66 := by
  have h1 := (h.2.2.1 f hf).2.1.2
  have h2 := (h.2.2.2.1 t ht).2.1.2
  unfold un la
  split <;> omega
theorem fi_un {M : xM} {n f t : Nat} (h : TB M n) (hf : f < 10) : fi M f ≤ un M f t := by
  have h1 := (h.2.2.1 f hf).2.2.1
  unfold un la fi
  omega
theorem psum_le {M : xM} {n : Nat} (h : TB M n) (P : Nat → Bool) {t d : Nat} (ht : t < 6) : nsum (fun g => if P g = true then us M g t d else 0) n ≤ 5000 := by
  have h10 := h.2.1
  have := nsum_le (f := fun g => if P g = true then us M g t d else 0) (n := n) (c := 500) (fun j hj => by
    split
    · exact us_le h (by omega) ht
    · omega)
  omega
theorem LR.cg {M : xM} {h p : Nat → Nat} {U V : Nat → Nat → Nat} (hL : LR M h p U) (e : ∀ t d, t < 6 → d < 66 → U t d = V t d) : LR M h p V := by
  obtain ⟨a, b, c⟩ := hL
  refine ⟨fun t d ht hd => by rw [a t d ht hd, e t d ht hd], ?_, ?_⟩
  · rw [b]
    unfold LKs
    rw [dsum_congr (fun t d ht hd => by rw [e t d ht hd])]
  · rw [c]
    unfold HSs
    rw [dsum_congr (fun t d ht hd => by rw [e t d ht hd])]
theorem hh_le {M : xM} {n t : Nat} (h : TB M n) (ht : t < 6) : hh M t ≤ 1000 := by
  have := (h.2.2.2.1 t ht).1.2
  unfold hh; omega
theorem pp_le {M : xM} {n t : Nat} (h : TB M n) (ht : t < 6) : pp M t ≤ 1000 := (h.2.2.2.1 t ht).2.2.1.2
theorem hv_hh {M : xM} {n t : Nat} (h : TB M n) (ht : t < 6) : hv (M.1 2 t) (M.1 7 t) = nI (hh M t) := by
  obtain ⟨⟨a1, a2⟩, -, -, ⟨b1, b2⟩⟩ := h.2.2.2.1 t ht
  unfold hv hh
  rw [a1, b1, x_max0 (by omega) (by omega)]
  rw [na_nI (by omega), na_nI (by omega)]
theorem nI_pp {M : xM} {n t : Nat} (h : TB M n) (ht : t < 6) : M.1 5 t = nI (pp M t) := (h.2.2.2.1 t ht).2.2.1.1
theorem i32_m1 (b : Int32) : (-1 : Int32) * b = -b := by
  rw [Int32.neg_mul, Int32.one_mul]
theorem i32_addm1 {a b c : Nat} (h : b + c = a) : nI a + (-1) * nI c = nI b := by
  rw [i32_m1, ← h, ← nI_add, Int32.add_assoc, Int32.add_right_neg, Int32.add_zero]
theorem nI_inj {a b : Nat} (ha : a < 2 ^ 31) (hb : b < 2 ^ 31) (h : nI a = nI b) : a = b := (nI_eq ha hb).mp h
set_option maxHeartbeats 4000000 in
set_option maxRecDepth 20000 in
theorem c_X6_enter {f n : Nat} {sg : Int32} {U U' : Nat → Nat → Nat} {M : xM} (hB : TB M n) (hf : f < n) (hU : ∀ t d, t < 6 → U t d ≤ 5000) (hU' : ∀ t d, t < 6 → d < 66 → U' t d ≤ 5000 ∧ nI (U t d) + sg * nI (us M f t d) = nI (U' t d)) (hL : LR M (hh M) (pp M) U) : K_X6_enter [.ref 0, .int (nI f), .int sg] M (xRv (fun u => xFr M u ∧ u.1 20 1 = M.1 20 1 ∧ LR u (hh M) (pp M) U')) := by
  refine xMet.of (own := RX6) rfl (by decide) (Nat.le_of_ble_eq_true rfl) rfl (fun Y hY => ?_)
  have h10 := hB.2.1
  have hFf := hB.2.2.1 f (by omega)
  have hla : M.1 10 f = nI (la M f) := hFf.2.1.1
  have hla60 : la M f ≤ 60 := hFf.2.1.2
  have hst : ∀ t M', t ≤ 6 → xFr M M' → M'.1 20 1 = M.1 20 1 → LR M' (hh M) (pp M) (fun t' d' => if t' < t then U' t' d' else U t' d') → P_X6_enter Y 20 [(0, .ref 0), (1, .int (nI f)), (2, .int sg), (3, .int (xB (¬ M.1 19 (la M f) = 0))), (4, .int (nI t))] [] M' := by
    intro t M' ht6
    refine x_down (n := 6) (P := fun t => ∀ M', xFr M M' → M'.1 20 1 = M.1 20 1 → LR M' (hh M) (pp M) (fun t' d' => if t' < t then U' t' d' else U t' d') → P_X6_enter Y 20 [(0, .ref 0), (1, .int (nI f)), (2, .int sg), (3, .int (xB (¬ M.1 19 (la M f) = 0))), (4, .int (nI t))] [] M') ?_ ?_ t ht6 M'
    · intro M' hF hs hL'
      refine PW.iload (pc := 20) dX6_enter_20 rfl ?_
      refine PW.bipush (pc := 22) (v := nI 6) dX6_enter_22 (by decide) ?_
      refine PW.icmp_ge (pc := 24) (tgt := 127) dX6_enter_24 (by decide) (fun _ => ?_) (fun c => absurd ((nI_le (Nat.le_refl _) (by omega))) c)
      refine PW.vret (pc := 127) hY ?_ dX6_enter_127
      refine x_rv ⟨hF, hs, hL'.cg (fun t d ht hd => if_pos ht)⟩
    · intro t ht ih M' hF hs hL'
      have e16 := hF 16 (by decide) (by decide)
      have e10 := hF 10 (by decide) (by decide)
      have e9 := hF 9 (by decide) (by decide)
      have e3 := hF 3 (by decide) (by decide)
      have e5 := hF 5 (by decide) (by decide)
      have hne : M'.1 16 (f * 6 + t) = nI (ne M f t) := by rw [e16]; exact (hFf.2.2.2.2 t ht).1
      have hB' := hB.fr hF
      have hhM : hh M' t = hh M t := by unfold hh; rw [hF 2 (by decide) (by decide), hF 7 (by decide) (by decide)]
      have at70 : P_X6_enter Y 70 ((5, .int (nI (ne M f t))) :: [(0, .ref 0), (1, .int (nI f)), (2, .int sg), (3, .int (xB (¬ M.1 19 (la M f) = 0))), (4, .int (nI t))]) [.int (nI (if M.1 19 (la M f) = 0 then 0 else na (M.1 3 t))), .int (nI (la M f))] M' := by
        refine PW.iadd (pc := 70) dX6_enter_70 ?_
        rw [nI_add]
        refine PW.istore (pc := 71) dX6_enter_71 (by decide) rfl ?_
        refine PW.iload (pc := 73) dX6_enter_73 rfl ?_
        refine PW.if_le (pc := 75) (tgt := 121) dX6_enter_75 (by decide) (fun c_75 => ?_) (fun c_75 => ?_)
        · have k : ne M f t = 0 := by
            rcases Nat.eq_zero_or_pos (ne M f t) with h | h
            · exact h
            · exact absurd c_75 (nI_nle h (by have := (hFf.2.2.2.2 t ht).2; unfold ne; omega))
          refine PW.iinc (pc := 121) dX6_enter_121 rfl (x_inc1 _) (by decide) rfl ?_
          refine PW.goto (pc := 124) (tgt := 20) dX6_enter_124 (by decide) ?_
          refine PW.st rfl rfl rfl (ih M' hF hs (hL'.cg (fun t' d ht' hd => ?_)))
          by_cases e : t' = t
          · subst e
            rw [if_neg (by omega), if_pos (by omega)]
            obtain ⟨q1, q2⟩ := hU' t' d ht' hd
            have z : us M f t' d = 0 := by unfold us; rw [k]; split <;> rfl
            rw [z, show nI 0 = 0 from rfl, Int32.mul_zero, Int32.add_zero] at q2
            exact nI_inj (by have := hU t' d ht'; omega) (by omega) q2
          · have : (t' < t) ↔ (t' < t + 1) := by omega
            simp only [this]
        · refine PW.aload_n (pc := 78) dX6_enter_78 rfl ?_
          refine gf_X6_33 (pc := 79) dX6_enter_79 ?_
          refine PW.iload (pc := 82) dX6_enter_82 rfl ?_
          refine PW.aload_n (pc := 84) dX6_enter_84 rfl ?_
          refine gf_X6_19 (pc := 85) dX6_enter_85 ?_
          refine gf_X6_194 (pc := 88) dX6_enter_88 ?_
          refine PW.iload_n (pc := 91) dX6_enter_91 rfl ?_
          refine PW.ialdN (pc := 92) rfl rfl (by omega) (by decide) dX6_enter_92 ?_
          refine PW.iload (pc := 93) dX6_enter_93 rfl ?_
          refine PW.iload_n (pc := 95) dX6_enter_95 rfl ?_
          refine PW.iload (pc := 96) dX6_enter_96 rfl ?_
          refine PW.imul (pc := 98) dX6_enter_98 ?_
          refine PW.aload_n (pc := 99) dX6_enter_99 rfl ?_
          refine gf_X6_12 (pc := 100) dX6_enter_100 ?_
          refine PW.iload (pc := 103) dX6_enter_103 rfl ?_
          refine cs_X6_141 (pc := 105) hY.rm (c_X5_have ht) ⟨Nat.le_of_ble_eq_true rfl, Nat.le_of_ble_eq_true rfl⟩ dX6_enter_105 (Nat.le_of_ble_eq_true rfl) (fun x_105 u_105 h_105 => ?_)
          obtain ⟨rfl, hu_105⟩ := h_105
          replace hu_105 := hu_105.symm
          subst hu_105
          rw [hv_hh hB' ht, hhM]
          refine PW.aload_n (pc := 108) dX6_enter_108 rfl ?_
          refine gf_X6_12 (pc := 109) dX6_enter_109 ?_
          refine gf_X6_82 (pc := 112) dX6_enter_112 ?_
          refine PW.iload (pc := 115) dX6_enter_115 rfl ?_
          refine PW.ialdN (pc := 117) rfl rfl (by omega) (by decide) dX6_enter_117 ?_
          rw [show M'.1 5 t = nI (pp M t) by rw [e5]; exact nI_pp hB ht, show M'.1 9 f = nI (fi M f) by rw [e9]; exact hFf.1.1]
          have hLt : ∀ d, (if t < t then U' t d else U t d) = U t d := fun d => if_neg (by omega)
          refine cs_X6_241 (pc := 118) hY.rm (c_X3_enter (W := U' t) ht (fi_un (t := t) hB (by omega)) (un_lt hB (by omega) ht) (hh_le hB ht) (pp_le hB ht) (fun d => by rw [hLt d]; exact hU t d ht) (fun d h1 h2 => by rw [hLt d]; have q := hU' t d ht (Nat.lt_of_le_of_lt h2 (un_lt hB (by omega) ht)); rw [show us M f t d = ne M f t from if_pos ⟨h1, h2⟩] at q; exact q) hL') ⟨Nat.le_of_ble_eq_true rfl, Nat.le_of_ble_eq_true rfl⟩ dX6_enter_118 (Nat.le_of_ble_eq_true rfl) (fun u_118 h_118 => ?_)
          obtain ⟨g1, g2, g3⟩ := h_118
          refine PW.iinc (pc := 121) dX6_enter_121 rfl (x_inc1 _) (by decide) rfl ?_
          refine PW.goto (pc := 124) (tgt := 20) dX6_enter_124 (by decide) ?_
          refine PW.st rfl rfl rfl (ih u_118 (hF.tr g1) (g2.trans hs) (g3.cg (fun t' d ht' hd => ?_)))
          by_cases e : t' = t
          · subst e
            rw [if_pos (show t' < t' + 1 by omega)]
            by_cases q : fi M f ≤ d ∧ d ≤ un M f t'
            · rw [if_pos ⟨rfl, q⟩]
            · rw [if_neg (fun z => q z.2), if_neg (by omega)]
              obtain ⟨q1, q2⟩ := hU' t' d ht' hd
              rw [show us M f t' d = 0 from if_neg q, show nI 0 = 0 from rfl, Int32.mul_zero, Int32.add_zero] at q2
              exact nI_inj (by have := hU t' d ht'; omega) (by omega) q2
          · rw [if_neg (fun z => e z.1)]
            have : (t' < t) ↔ (t' < t + 1) := by omega
            simp only [this]
      refine PW.iload (pc := 20) dX6_enter_20 rfl ?_
      refine PW.bipush (pc := 22) (v := nI 6) dX6_enter_22 (by decide) ?_
      refine PW.icmp_ge (pc := 24) (tgt := 127) dX6_enter_24 (by decide) (fun c => absurd c ((nI_ge ht (by omega)))) (fun _ => ?_)
      refine PW.aload_n (pc := 27) dX6_enter_27 rfl ?_
      refine gf_X6_19 (pc := 28) dX6_enter_28 ?_
      refine gf_X6_99 (pc := 31) dX6_enter_31 ?_
      refine PW.iload_n (pc := 34) dX6_enter_34 rfl ?_
      refine PW.iload (pc := 35) dX6_enter_35 rfl ?_
      refine cs_X6_102 (pc := 37) hY.rm (c_X6_cell) ⟨Nat.le_of_ble_eq_true rfl, Nat.le_of_ble_eq_true rfl⟩ dX6_enter_37 (Nat.le_of_ble_eq_true rfl) (fun x_37 u_37 h_37 => ?_)
      obtain ⟨rfl, hu_37⟩ := h_37
      replace hu_37 := hu_37.symm
      subst hu_37
      refine PW.ialdN (pc := 40) rfl rfl (by omega) (by decide) dX6_enter_40 ?_
      refine PW.istore (pc := 41) dX6_enter_41 (by decide) rfl ?_
      refine PW.aload_n (pc := 43) dX6_enter_43 rfl ?_
      refine gf_X6_19 (pc := 44) dX6_enter_44 ?_
      refine gf_X6_197 (pc := 47) dX6_enter_47 ?_
      refine PW.iload_n (pc := 50) dX6_enter_50 rfl ?_
      refine PW.ialdN (pc := 51) rfl rfl (by omega) (by decide) dX6_enter_51 ?_
      refine PW.iload_n (pc := 52) dX6_enter_52 rfl ?_
      rw [hne, show M'.1 10 f = nI (la M f) by rw [e10]; exact hla]
      refine PW.if_eq (pc := 53) (tgt := 69) dX6_enter_53 (by decide) (fun c_53 => ?_) (fun c_53 => ?_)
      · have k : M.1 19 (la M f) = 0 := Classical.byContradiction (fun q => xB_eq (P := ¬ M.1 19 (la M f) = 0) rfl c_53 q)
        refine PW.iconst (pc := 69) (v := nI 0) dX6_enter_69 (by decide) ?_
        rw [if_pos k] at at70
        exact at70
      · have k : ¬ M.1 19 (la M f) = 0 := xB_ne (P := ¬ M.1 19 (la M f) = 0) rfl c_53
        refine PW.aload_n (pc := 56) dX6_enter_56 rfl ?_
        refine gf_X6_12 (pc := 57) dX6_enter_57 ?_
        refine gf_X6_76 (pc := 60) dX6_enter_60 ?_
        refine PW.iload (pc := 63) dX6_enter_63 rfl ?_
        refine PW.ialdN (pc := 65) rfl rfl (by omega) (by decide) dX6_enter_65 ?_
        refine PW.goto (pc := 66) (tgt := 70) dX6_enter_66 (by decide) ?_
        rw [if_neg k, ← e3, ← show M'.1 3 t = nI (na (M'.1 3 t)) by rw [e3]; exact (hB.2.2.2.1 t ht).2.1.1] at at70
        exact at70
  refine PW.aload_n (pc := 0) dX6_enter_0 rfl ?_
  refine gf_X6_26 (pc := 1) dX6_enter_1 ?_
  refine PW.aload_n (pc := 4) dX6_enter_4 rfl ?_
  refine gf_X6_19 (pc := 5) dX6_enter_5 ?_
  refine gf_X6_197 (pc := 8) dX6_enter_8 ?_
  refine PW.iload_n (pc := 11) dX6_enter_11 rfl ?_
  refine PW.ialdN (pc := 12) rfl rfl (by omega) (by decide) dX6_enter_12 ?_
  rw [hla]
  refine cs_X6_238 (pc := 13) hY.rm (c_X4_on hla60) ⟨Nat.le_of_ble_eq_true rfl, Nat.le_of_ble_eq_true rfl⟩ dX6_enter_13 (Nat.le_of_ble_eq_true rfl) (fun x_13 u_13 h_13 => ?_)
  refine PW.istore_n (pc := 16) (i := 3) dX6_enter_16 rfl (by decide) rfl ?_
  refine PW.iconst (pc := 17) (v := nI 0) dX6_enter_17 (by decide) ?_
  refine PW.istore (pc := 18) dX6_enter_18 (by decide) rfl ?_
  obtain ⟨rfl, hu_13⟩ := h_13
  replace hu_13 := hu_13.symm
  subst hu_13
  exact PW.st rfl rfl rfl (hst 0 _ (by omega) xFr.rf rfl (hL.cg (fun t d _ _ => (if_neg (by omega)).symm)))
