/-! the fewest -/
def fewP (M : xM) (n s : Nat) : Bool := decide (s &&& TK M n = s) && decide (LKn M n (TK M n &&& (1023 ^^^ s)) = 0)
def fewA (M : xM) (n s b : Nat) : Bool := decide (pcn s 10 < pcn b 10) || (decide (pcn s 10 = pcn b 10) && decide (prM M n s < prM M n b))
def fewT (M : xM) (n k : Nat) : Nat := fewF (fewP M n) (fewA M n) (TK M n) 1 k
theorem fewT_lt {M : xM} {n : Nat} (hB : TB M n) : ∀ k, 1 + k ≤ 1024 → fewT M n k < 1024
  | 0, _ => TK_lt hB
  | k + 1, h => by
    have := fewT_lt hB k (by omega)
    unfold fewT at this ⊢
    rw [fewF]
    split <;> omega
set_option maxHeartbeats 4000000 in
set_option maxRecDepth 20000 in
theorem c_X6_fewest {n : Nat} {M : xM} (hB : TB M n) : K_X6_fewest [.ref 0] M (xRi (fun x u => x = nI (if LKn M n (TK M n) = 0 then 0 else fewT M n (TK M n - 1)) ∧ xFr M u)) := by
  refine xMet.of (own := RX6) rfl (by decide) (Nat.le_of_ble_eq_true rfl) rfl (fun Y hY => ?_)
  have hn := hB.has
  have h10 := hB.n10
  have ht := TK_lt hB
  refine PW.aload_n (pc := 0) dX6_fewest_0 rfl ?_
  refine gf_X6_19 (pc := 1) dX6_fewest_1 ?_
  refine PW.iconst (pc := 4) (v := nI 1) dX6_fewest_4 (by decide) ?_
  refine cs_X6_110 (pc := 5) hY.rm (c_X1_setOf hn h10) ⟨Nat.le_of_ble_eq_true rfl, Nat.le_of_ble_eq_true rfl⟩ dX6_fewest_5 (Nat.le_of_ble_eq_true rfl) (fun x_5 u_5 h_5 => ?_)
  obtain ⟨rfl, hu_5⟩ := h_5
  replace hu_5 := hu_5.symm
  subst hu_5
  rw [show xset (M.1 12) (nI 1) n = TK M n from rfl]
  refine PW.istore_n (pc := 8) (i := 1) dX6_fewest_8 rfl (by decide) rfl ?_
  refine PW.aload_n (pc := 9) dX6_fewest_9 rfl ?_
  refine PW.iload_n (pc := 10) dX6_fewest_10 rfl ?_
  refine cs_X6_114 (pc := 11) hY.rm (c_X6_goTogether hB ht) ⟨Nat.le_of_ble_eq_true rfl, Nat.le_of_ble_eq_true rfl⟩ dX6_fewest_11 (Nat.le_of_ble_eq_true rfl) (fun x_11 u_11 h_11 => ?_)
  obtain ⟨hx, hF0, hL0⟩ := h_11
  refine PW.if_eq (pc := 14) (tgt := 19) dX6_fewest_14 (by decide) (fun c_14 => ?_) (fun c_14 => ?_)
  · have hfit := xB_eq hx c_14
    rw [hL0.fit2] at hfit
    have ht0 : TK M n ≠ 0 := by
      intro q
      refine hfit (dsum_eq0.mpr (fun t d _ _ => ?_))
      rw [q, SU_zero]; simp
    have hB0 := hB.fr hF0
    refine PW.iload_n (pc := 19) dX6_fewest_19 rfl ?_
    refine PW.istore_n (pc := 20) (i := 2) dX6_fewest_20 rfl (by decide) rfl ?_
    refine PW.iload_n (pc := 21) dX6_fewest_21 rfl ?_
    refine cs_X6_163 (pc := 22) hY.rm (c_J6_bitCount_0f7a4 ht) ⟨Nat.le_of_ble_eq_true rfl, Nat.le_of_ble_eq_true rfl⟩ dX6_fewest_22 (Nat.le_of_ble_eq_true rfl) (fun x_22 u_22 h_22 => ?_)
    obtain ⟨rfl, hu_22⟩ := h_22
    replace hu_22 := hu_22.symm
    subst hu_22
    refine PW.istore_n (pc := 25) (i := 3) dX6_fewest_25 rfl (by decide) rfl ?_
    refine PW.aload_n (pc := 26) dX6_fewest_26 rfl ?_
    refine gf_X6_19 (pc := 27) dX6_fewest_27 ?_
    refine PW.iload_n (pc := 30) dX6_fewest_30 rfl ?_
    refine cs_X6_152 (pc := 31) hY.rm (c_X1_priceOf hB0.has h10 (by omega)) ⟨Nat.le_of_ble_eq_true rfl, Nat.le_of_ble_eq_true rfl⟩ dX6_fewest_31 (Nat.le_of_ble_eq_true rfl) (fun x_31 u_31 h_31 => ?_)
    obtain ⟨rfl, hu_31⟩ := h_31
    replace hu_31 := hu_31.symm
    subst hu_31
    rw [show prs (u_11.1 11) (TK M n) n = prM M n (TK M n) by rw [hF0 11 (by decide) (by decide)]; rfl]
    refine PW.istore (pc := 34) dX6_fewest_34 (by decide) rfl ?_
    refine PW.iconst (pc := 36) (v := nI 1) dX6_fewest_36 (by decide) ?_
    refine PW.istore (pc := 37) dX6_fewest_37 (by decide) rfl ?_
    have loop : ∀ k, k ≤ TK M n - 1 → (∀ M', xFr M M' → (∃ s0, s0 < 1024 ∧ LRS M' M n s0) → P_X6_fewest Y 39 [(0, .ref 0), (1, .int (nI (TK M n))), (2, .int (nI (fewT M n k))), (3, .int (nI (pcn (fewT M n k) 10))), (4, .int (prM M n (fewT M n k))), (5, .int (nI (1 + k)))] [] M') := by
      refine x_down ?_ ?_
      · intro M' hF _
        refine PW.iload (pc := 39) dX6_fewest_39 rfl ?_
        refine PW.iload_n (pc := 41) dX6_fewest_41 rfl ?_
        refine PW.icmp_ge (pc := 42) (tgt := 130) dX6_fewest_42 (by decide) (fun _ => ?_) (fun c => absurd ((by rw [show 1 + (TK M n - 1) = TK M n by omega]; exact nI_le (Nat.le_refl _) (by omega))) c)
        refine PW.iload_n (pc := 130) dX6_fewest_130 rfl ?_
        refine PW.iret (pc := 131) hY ?_ dX6_fewest_131
        refine x_ri ⟨?_, hF⟩
        rw [if_neg hfit]
      · intro k hk ih M' hF hL
        obtain ⟨s0, hs0, hL⟩ := hL
        have hB' := hB.fr hF
        have hfl := fewT_lt hB k (by omega)
        have next : ∀ M2 fd, xFr M M2 → (∃ s0, s0 < 1024 ∧ LRS M2 M n s0) → fd = fewT M n (k + 1) → P_X6_fewest Y 124 [(0, .ref 0), (1, .int (nI (TK M n))), (2, .int (nI fd)), (3, .int (nI (pcn fd 10))), (4, .int (prM M n fd)), (5, .int (nI (1 + k)))] [] M2 := by
          intro M2 fd g1 g2 g3
          refine PW.iinc (pc := 124) dX6_fewest_124 rfl (x_inc1 _) (by decide) rfl ?_
          refine PW.goto (pc := 127) (tgt := 39) dX6_fewest_127 (by decide) ?_
          rw [g3]
          exact PW.st rfl rfl rfl (ih M2 g1 g2)
        have hns : fewP M n (1 + k) = false ∨ fewA M n (1 + k) (fewT M n k) = false → fewT M n k = fewT M n (k + 1) := by
          intro q
          unfold fewT at q ⊢
          rw [fewF, if_neg]
          rintro ⟨q1, q2⟩
          rcases q with q | q
          · rw [q1] at q; cases q
          · rw [q2] at q; cases q
        have hp1 := pcn_le (1 + k) 10
        have hp2 := pcn_le (fewT M n k) 10
        refine PW.iload (pc := 39) dX6_fewest_39 rfl ?_
        refine PW.iload_n (pc := 41) dX6_fewest_41 rfl ?_
        refine PW.icmp_ge (pc := 42) (tgt := 130) dX6_fewest_42 (by decide) (fun c => absurd c ((nI_ge (by omega) (by omega)))) (fun _ => ?_)
        refine PW.iload (pc := 45) dX6_fewest_45 rfl ?_
        refine cs_X6_163 (pc := 47) hY.rm (c_J6_bitCount_0f7a4 (show 1 + k < 1024 by omega)) ⟨Nat.le_of_ble_eq_true rfl, Nat.le_of_ble_eq_true rfl⟩ dX6_fewest_47 (Nat.le_of_ble_eq_true rfl) (fun x_47 u_47 h_47 => ?_)
        obtain ⟨rfl, hu_47⟩ := h_47
        replace hu_47 := hu_47.symm
        subst hu_47
        refine PW.istore (pc := 50) dX6_fewest_50 (by decide) rfl ?_
        refine PW.aload_n (pc := 52) dX6_fewest_52 rfl ?_
        refine gf_X6_19 (pc := 53) dX6_fewest_53 ?_
        refine PW.iload (pc := 56) dX6_fewest_56 rfl ?_
        refine cs_X6_152 (pc := 58) hY.rm (c_X1_priceOf hB'.has h10 (by omega)) ⟨Nat.le_of_ble_eq_true rfl, Nat.le_of_ble_eq_true rfl⟩ dX6_fewest_58 (Nat.le_of_ble_eq_true rfl) (fun x_58 u_58 h_58 => ?_)
        obtain ⟨rfl, hu_58⟩ := h_58
        replace hu_58 := hu_58.symm
        subst hu_58
        rw [show prs (M'.1 11) (1 + k) n = prM M n (1 + k) by rw [hF 11 (by decide) (by decide)]; rfl]
        have at94 : (1 + k) &&& TK M n = 1 + k → fewA M n (1 + k) (fewT M n k) = true → P_X6_fewest Y 94 [(0, .ref 0), (1, .int (nI (TK M n))), (2, .int (nI (fewT M n k))), (3, .int (nI (pcn (fewT M n k) 10))), (4, .int (prM M n (fewT M n k))), (5, .int (nI (1 + k))), (6, .int (nI (pcn (1 + k) 10))), (7, .int (prM M n (1 + k)))] [] M' := by
          intro k1 k2
          refine PW.aload_n (pc := 94) dX6_fewest_94 rfl ?_
          refine PW.iload_n (pc := 95) dX6_fewest_95 rfl ?_
          refine PW.iload (pc := 96) dX6_fewest_96 rfl ?_
          refine PW.iconst (pc := 98) (v := (-1)) dX6_fewest_98 (by decide) ?_
          refine PW.ixor (pc := 99) dX6_fewest_99 ?_
          refine PW.iand (pc := 100) dX6_fewest_100 ?_
          rw [x_minus ht]
          refine cs_X6_155 (pc := 101) hY.rm (c_X6_countOn hB' (and_lt ht) hs0 ((LRS.fr hF).mpr hL)) ⟨Nat.le_of_ble_eq_true rfl, Nat.le_of_ble_eq_true rfl⟩ dX6_fewest_101 (Nat.le_of_ble_eq_true rfl) (fun u_101 h_101 => ?_)
          obtain ⟨g1, g2⟩ := h_101
          have g2 := (LRS.fr hF).mp g2
          refine PW.aload_n (pc := 104) dX6_fewest_104 rfl ?_
          refine gf_X6_33 (pc := 105) dX6_fewest_105 ?_
          refine gf_X6_158 (pc := 108) dX6_fewest_108 ?_
          refine PW.if_ne (pc := 111) (tgt := 124) dX6_fewest_111 (by decide) (fun c_111 => ?_) (fun c_111 => ?_)
          · rw [g2.fit2] at c_111
            refine PW.st rfl rfl rfl (next u_101 (fewT M n k) (hF.tr g1) ⟨_, and_lt ht, g2⟩ (hns (Or.inl ?_)))
            simp [fewP, c_111]
          · rw [g2.fit2] at c_111
            refine PW.iload (pc := 114) dX6_fewest_114 rfl ?_
            refine PW.istore_n (pc := 116) (i := 2) dX6_fewest_116 rfl (by decide) rfl ?_
            refine PW.iload (pc := 117) dX6_fewest_117 rfl ?_
            refine PW.istore_n (pc := 119) (i := 3) dX6_fewest_119 rfl (by decide) rfl ?_
            refine PW.iload (pc := 120) dX6_fewest_120 rfl ?_
            refine PW.istore (pc := 122) dX6_fewest_122 (by decide) rfl ?_
            refine PW.st rfl rfl rfl (next u_101 (1 + k) (hF.tr g1) ⟨_, and_lt ht, g2⟩ ?_)
            unfold fewT at k2 ⊢
            rw [fewF, if_pos ⟨by simp [fewP, k1, c_111], k2⟩]
        refine PW.istore (pc := 61) dX6_fewest_61 (by decide) rfl ?_
        refine PW.iload (pc := 63) dX6_fewest_63 rfl ?_
        refine PW.iload_n (pc := 65) dX6_fewest_65 rfl ?_
        refine PW.iconst (pc := 66) (v := (-1)) dX6_fewest_66 (by decide) ?_
        refine PW.ixor (pc := 67) dX6_fewest_67 ?_
        refine PW.iand (pc := 68) dX6_fewest_68 ?_
        refine PW.if_ne (pc := 69) (tgt := 124) dX6_fewest_69 (by decide) (fun c_69 => ?_) (fun c_69 => ?_)
        · rw [x_sub (by omega)] at c_69
          refine PW.st rfl rfl rfl (next M' (fewT M n k) hF ⟨s0, hs0, hL⟩ (hns (Or.inl ?_)))
          simp [fewP, c_69]
        · rw [x_sub (by omega)] at c_69
          refine PW.iload (pc := 72) dX6_fewest_72 rfl ?_
          refine PW.iload_n (pc := 74) dX6_fewest_74 rfl ?_
          refine PW.icmp_gt (pc := 75) (tgt := 124) dX6_fewest_75 (by decide) (fun c_75 => ?_) (fun c_75 => ?_)
          · rw [nI_ltI (by omega) (by omega)] at c_75
            refine PW.st rfl rfl rfl (next M' (fewT M n k) hF ⟨s0, hs0, hL⟩ (hns (Or.inr ?_)))
            simp [fewA]
            omega
          · rw [nI_ltI (by omega) (by omega)] at c_75
            refine PW.iload (pc := 78) dX6_fewest_78 rfl ?_
            refine PW.iload_n (pc := 80) dX6_fewest_80 rfl ?_
            refine PW.icmp_ne (pc := 81) (tgt := 94) dX6_fewest_81 (by decide) (fun c_81 => ?_) (fun c_81 => ?_)
            · rw [nI_eq (by omega) (by omega)] at c_81
              exact PW.st rfl rfl rfl (at94 c_69 (by simp [fewA]; omega))
            · rw [nI_eq (by omega) (by omega)] at c_81
              refine PW.iload (pc := 84) dX6_fewest_84 rfl ?_
              refine PW.iload (pc := 86) dX6_fewest_86 rfl ?_
              refine PW.icmp_lt (pc := 88) (tgt := 94) dX6_fewest_88 (by decide) (fun c_88 => ?_) (fun c_88 => ?_)
              · exact PW.st rfl rfl rfl (at94 c_69 (by simp [fewA, c_81, c_88]))
              · refine PW.goto (pc := 91) (tgt := 124) dX6_fewest_91 (by decide) ?_
                refine PW.st rfl rfl rfl (next M' (fewT M n k) hF ⟨s0, hs0, hL⟩ (hns (Or.inr ?_)))
                simp [fewA, c_81, c_88]
    exact PW.st rfl rfl rfl (loop 0 (by omega) u_11 hF0 ⟨_, ht, hL0⟩)
  · have hfit := (hL0.fit2).mp (xB_ne hx c_14)
    refine PW.iconst (pc := 17) (v := nI 0) dX6_fewest_17 (by decide) ?_
    refine PW.iret (pc := 18) hY ?_ dX6_fewest_18
    refine x_ri ⟨?_, hF0⟩
    rw [if_pos hfit]
