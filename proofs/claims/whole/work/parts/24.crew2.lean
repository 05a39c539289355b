/-! the class's crews, more -/
set_option maxHeartbeats 4000000 in
set_option maxRecDepth 20000 in
theorem c_X0_startWithOne {n w : Nat} {wk : Nat → Nat} {M : xM} (hw : w ≤ 10) (hn : 0 < n) (hs : M.1 25 5 = nI w) (h27 : ∀ i, i < w → M.1 27 i = nI (wk i)) : K_X0_startWithOne [.ref 25] M (xRv (fun u => (∀ q, q ≠ 25 → q ≠ 28 → q ≠ 29 → q ≠ 30 → u.1 q = M.1 q) ∧ CR u w wk (dgt n w 0) ∧ (∀ i, i < w → u.1 29 i = nI 0) ∧ u.1 25 6 = nI (crS (dgt n w 0) wk w 0))) := by
  have d0 : ∀ i, dgt n w 0 i = 0 := fun i => by unfold dgt; simp
  refine xMet.of (own := RX0) rfl (by decide) (Nat.le_of_ble_eq_true rfl) rfl (fun Y hY => ?_)
  refine PW.aload_n (pc := 0) dX0_startWithOne_0 rfl ?_
  refine gf_X0_18 (pc := 1) dX0_startWithOne_1 ?_
  refine PW.iconst (pc := 4) (v := nI 0) dX0_startWithOne_4 (by decide) ?_
  refine cs_X0_51 (pc := 5) hY.rm (c_J7_fill_53178 rfl (by decide)) ⟨Nat.le_of_ble_eq_true rfl, Nat.le_of_ble_eq_true rfl⟩ dX0_startWithOne_5 (Nat.le_of_ble_eq_true rfl) (fun u_5 h_5 => ?_)
  refine PW.aload_n (pc := 8) dX0_startWithOne_8 rfl ?_
  refine gf_X0_21 (pc := 9) dX0_startWithOne_9 ?_
  refine PW.iconst (pc := 12) (v := nI 0) dX0_startWithOne_12 (by decide) ?_
  refine cs_X0_51 (pc := 13) hY.rm (c_J7_fill_53178 rfl (by decide)) ⟨Nat.le_of_ble_eq_true rfl, Nat.le_of_ble_eq_true rfl⟩ dX0_startWithOne_13 (Nat.le_of_ble_eq_true rfl) (fun u_13 h_13 => ?_)
  refine PW.aload_n (pc := 16) dX0_startWithOne_16 rfl ?_
  refine gf_X0_24 (pc := 17) dX0_startWithOne_17 ?_
  refine PW.iconst (pc := 20) (v := nI 0) dX0_startWithOne_20 (by decide) ?_
  refine cs_X0_51 (pc := 21) hY.rm (c_J7_fill_53178 rfl (by decide)) ⟨Nat.le_of_ble_eq_true rfl, Nat.le_of_ble_eq_true rfl⟩ dX0_startWithOne_21 (Nat.le_of_ble_eq_true rfl) (fun u_21 h_21 => ?_)
  have e : ∀ q, q ≠ 28 → q ≠ 29 → q ≠ 30 → u_21.1 q = M.1 q := by
    intro q a b c
    rw [h_21, h_13, h_5]
    simp only [xupA_1]
    rw [if_neg c, if_neg b, if_neg a]
  have e28 : ∀ i, i < w → u_21.1 28 i = nI 0 := by
    intro i hi
    rw [h_21, h_13, h_5]
    simp only [xupA_1]
    simp [show i < 10 by omega]
  have e29 : ∀ i, i < w → u_21.1 29 i = nI 0 := by
    intro i hi
    rw [h_21, h_13]
    simp only [xupA_1]
    simp [show i < 10 by omega]
  have e30 : ∀ s, s < 3 → u_21.1 30 s = nI 0 := by
    intro i hi
    rw [h_21]
    simp only [xupA_1]
    simp [hi]
  clear h_21 h_13 h_5
  have sz : u_21.1 25 5 = nI w := by rw [e 25 (by decide) (by decide) (by decide)]; exact hs
  refine x_loop (n := w) (P := fun i => ∀ M', (∀ q, q ≠ 30 → M'.1 q = u_21.1 q) → M'.1 30 0 = nI (nsum wk i) → (∀ s, 0 < s → s < 3 → M'.1 30 s = nI 0) → P_X0_startWithOne Y 26 [(0, .ref 25), (1, .int (nI i))] [] M') (fun h => ?_) ?_ (fun i hi ih => ?_)
  · refine PW.iconst (pc := 24) (v := nI 0) dX0_startWithOne_24 (by decide) ?_
    refine PW.istore_n (pc := 25) (i := 1) dX0_startWithOne_25 rfl (by decide) rfl ?_
    exact PW.st rfl rfl rfl (h u_21 (fun _ _ => rfl) (e30 0 (by omega)) (fun s _ h => e30 s h))
  · intro M' hF h0 h1
    refine PW.iload_n (pc := 26) dX0_startWithOne_26 rfl ?_
    refine PW.aload_n (pc := 27) dX0_startWithOne_27 rfl ?_
    refine gf_X0_27 (pc := 28) dX0_startWithOne_28 ?_
    refine PW.icmp_ge (pc := 31) (tgt := 55) dX0_startWithOne_31 (by decide) (fun _ => ?_) (fun c => absurd ((by rw [hF 25 (by decide), sz]; exact nI_le (Nat.le_refl _) (by omega))) c)
    refine PW.aload_n (pc := 55) dX0_startWithOne_55 rfl ?_
    refine PW.aload_n (pc := 56) dX0_startWithOne_56 rfl ?_
    refine gf_X0_24 (pc := 57) dX0_startWithOne_57 ?_
    refine PW.iconst (pc := 60) (v := nI 0) dX0_startWithOne_60 (by decide) ?_
    refine PW.ialdN (pc := 61) rfl rfl (by omega) (by decide) dX0_startWithOne_61 ?_
    refine pf_X0_31 (pc := 62) dX0_startWithOne_62 ?_
    refine PW.vret (pc := 65) hY ?_ dX0_startWithOne_65
    have hS0 : crS (dgt n w 0) wk w 0 = nsum wk w := nsum_congr (fun i _ => by rw [if_pos (d0 i)])
    have hSs : ∀ s, 0 < s → crS (dgt n w 0) wk w s = 0 := fun s h => by
      unfold crS
      rw [nsum_congr (g := fun _ => 0) (fun i _ => by rw [if_neg (by rw [d0]; omega)]), nsum_zero]
    refine x_rv ⟨?_, ⟨?_, ?_, ?_, ?_⟩, ?_, ?_⟩
    · intro q a b c d
      funext j
      simp only [xup_1, a, false_and, if_false]
      rw [hF q d, e q b c d]
    · simp only [xup_1]
      rw [if_neg (by omega), hF 25 (by decide), sz]
    · intro i hi
      simp only [xup_1]
      rw [if_neg (by omega), hF 27 (by decide), e 27 (by decide) (by decide) (by decide)]
      exact h27 i hi
    · intro i hi
      simp only [xup_1]
      rw [if_neg (by omega), hF 28 (by decide), d0]
      exact e28 i hi
    · intro s hs3
      simp only [xup_1]
      rw [if_neg (by omega)]
      rcases Nat.eq_zero_or_pos s with rfl | h
      · rw [h0, hS0]
      · rw [h1 s h hs3, hSs s h]
    · intro i hi
      simp only [xup_1]
      rw [if_neg (by omega), hF 29 (by decide)]
      exact e29 i hi
    · simp only [xup_1]
      rw [if_pos (by simp), h0, hS0]
  · intro M' hF h0 h1
    refine PW.iload_n (pc := 26) dX0_startWithOne_26 rfl ?_
    refine PW.aload_n (pc := 27) dX0_startWithOne_27 rfl ?_
    refine gf_X0_27 (pc := 28) dX0_startWithOne_28 ?_
    refine PW.icmp_ge (pc := 31) (tgt := 55) dX0_startWithOne_31 (by decide) (fun c => absurd c ((by rw [hF 25 (by decide), sz]; exact nI_ge hi (by omega)))) (fun _ => ?_)
    refine PW.aload_n (pc := 34) dX0_startWithOne_34 rfl ?_
    refine gf_X0_24 (pc := 35) dX0_startWithOne_35 ?_
    refine PW.iconst (pc := 38) (v := nI 0) dX0_startWithOne_38 (by decide) ?_
    refine PW.dup2 (pc := 39) dX0_startWithOne_39 rfl rfl ?_
    refine PW.ialdN (pc := 40) rfl rfl (by omega) (by decide) dX0_startWithOne_40 ?_
    refine PW.aload_n (pc := 41) dX0_startWithOne_41 rfl ?_
    refine gf_X0_15 (pc := 42) dX0_startWithOne_42 ?_
    refine PW.iload_n (pc := 45) dX0_startWithOne_45 rfl ?_
    refine PW.ialdN (pc := 46) rfl rfl (by omega) (by decide) dX0_startWithOne_46 ?_
    refine PW.iadd (pc := 47) dX0_startWithOne_47 ?_
    refine PW.iastN (pc := 48) rfl rfl (by omega) (by decide) dX0_startWithOne_48 ?_
    refine PW.iinc (pc := 49) dX0_startWithOne_49 rfl (x_inc1 _) (by decide) rfl ?_
    refine PW.goto (pc := 52) (tgt := 26) dX0_startWithOne_52 (by decide) ?_
    refine PW.st rfl rfl rfl (ih _ ?_ ?_ ?_)
    · intro q a
      funext j
      simp only [xup_1, a, false_and, if_false]
      rw [hF q a]
    · simp only [xup_1]
      rw [if_pos (by simp), h0, hF 27 (by decide), e 27 (by decide) (by decide) (by decide), h27 i hi, nI_add]
      rfl
    · intro s a b
      simp only [xup_1]
      rw [if_neg (by omega)]
      exact h1 s a b
theorem crv_0 {n w : Nat} {wk : Nat → Nat} : crG (dgt n w 0) wk w = crS (dgt n w 0) wk w 0 := by
  have d0 : ∀ i, dgt n w 0 i = 0 := fun i => by unfold dgt; simp
  have hSs : ∀ s, 0 < s → crS (dgt n w 0) wk w s = 0 := fun s h => by
    unfold crS
    rw [nsum_congr (g := fun _ => 0) (fun i _ => by rw [if_neg (by rw [d0]; omega)]), nsum_zero]
  unfold crG
  rw [hSs 1 (by omega), hSs 2 (by omega)]
  omega
/-- the best code -/
def bco (n w : Nat) (wk : Nat → Nat) : Nat := mnF (crv n w wk) (n ^ (w - 1) - 1)
def xFc (M u : xM) : Prop := ∀ q, q ≠ 25 → q ≠ 26 → q ≠ 27 → q ≠ 28 → q ≠ 29 → q ≠ 30 → u.1 q = M.1 q
set_option maxHeartbeats 4000000 in
set_option maxRecDepth 20000 in
theorem c_X0_share {n w : Nat} {wk : Nat → Nat} {M : xM} (hw : w ≤ 10) (hn : 1 ≤ n) (hn3 : n ≤ 3) (hk : ∀ i, i < w → wk i ≤ 1000) (hs : M.1 25 5 = nI w) (h6 : M.1 25 6 = nI 0) (h27 : ∀ i, i < w → M.1 27 i = nI (wk i)) : K_X0_share [.ref 25, .int (nI n)] M (xRv (fun u => (∀ q, q ≠ 25 → q ≠ 28 → q ≠ 29 → q ≠ 30 → u.1 q = M.1 q) ∧ u.1 25 5 = nI w ∧ u.1 25 6 = nI (crv n w wk (bco n w wk)) ∧ ∀ i, i < w → u.1 29 i = nI (dgt n w (bco n w wk) i))) := by
  refine xMet.of (own := RX0) rfl (by decide) (Nat.le_of_ble_eq_true rfl) rfl (fun Y hY => ?_)
  rcases Nat.eq_zero_or_pos w with rfl | hw1
  · refine PW.iload_n (pc := 0) dX0_share_0 rfl ?_
    refine PW.iconst (pc := 1) (v := nI 1) dX0_share_1 (by decide) ?_
    refine PW.icmp_lt (pc := 2) (tgt := 17) dX0_share_2 (by decide) (fun c => absurd c ((x_ng (nI_le hn (by omega))))) (fun _ => ?_)
    refine PW.iload_n (pc := 5) dX0_share_5 rfl ?_
    refine PW.iconst (pc := 6) (v := nI 3) dX0_share_6 (by decide) ?_
    refine PW.icmp_gt (pc := 7) (tgt := 17) dX0_share_7 (by decide) (fun c => absurd c ((x_ng (nI_le hn3 (by omega))))) (fun _ => ?_)
    refine PW.aload_n (pc := 10) dX0_share_10 rfl ?_
    refine gf_X0_27 (pc := 11) dX0_share_11 ?_
    refine PW.if_ne (pc := 14) (tgt := 18) dX0_share_14 (by decide) (fun c => absurd (hs) c) (fun _ => ?_)
    refine PW.vret (pc := 17) hY ?_ dX0_share_17
    exact x_rv ⟨fun _ _ _ _ _ => rfl, hs, h6, fun i hi => by omega⟩
  · have hpow : n ^ (w - 1) ≤ 3 ^ 9 := Nat.le_trans (Nat.pow_le_pow_left hn3 _) (Nat.pow_le_pow_right (by omega) (by omega))
    have hp1 : 0 < n ^ (w - 1) := Nat.pow_pos hn
    refine PW.iload_n (pc := 0) dX0_share_0 rfl ?_
    refine PW.iconst (pc := 1) (v := nI 1) dX0_share_1 (by decide) ?_
    refine PW.icmp_lt (pc := 2) (tgt := 17) dX0_share_2 (by decide) (fun c => absurd c ((x_ng (nI_le hn (by omega))))) (fun _ => ?_)
    refine PW.iload_n (pc := 5) dX0_share_5 rfl ?_
    refine PW.iconst (pc := 6) (v := nI 3) dX0_share_6 (by decide) ?_
    refine PW.icmp_gt (pc := 7) (tgt := 17) dX0_share_7 (by decide) (fun c => absurd c ((x_ng (nI_le hn3 (by omega))))) (fun _ => ?_)
    refine PW.aload_n (pc := 10) dX0_share_10 rfl ?_
    refine gf_X0_27 (pc := 11) dX0_share_11 ?_
    refine PW.if_ne (pc := 14) (tgt := 18) dX0_share_14 (by decide) (fun _ => ?_) (fun c => absurd c ((by rw [hs]; exact nI_ne0 hw1 (by omega))))
    refine PW.aload_n (pc := 18) dX0_share_18 rfl ?_
    refine cs_X0_34 (pc := 19) hY.rm (c_X0_startWithOne (n := n) hw hn hs h27) ⟨Nat.le_of_ble_eq_true rfl, Nat.le_of_ble_eq_true rfl⟩ dX0_share_19 (Nat.le_of_ble_eq_true rfl) (fun u_19 h_19 => ?_)
    obtain ⟨f1, f2, f3, f4⟩ := h_19
    refine x_loop (n := w - 1) (P := fun i => P_X0_share Y 26 [(0, .ref 25), (1, .int (nI n)), (2, .int (nI (n ^ i))), (3, .int (nI (i + 1)))] [] u_19) (fun h => ?_) ?_ (fun i hi ih => ?_)
    · refine PW.iconst (pc := 22) (v := nI 1) dX0_share_22 (by decide) ?_
      refine PW.istore_n (pc := 23) (i := 2) dX0_share_23 rfl (by decide) rfl ?_
      refine PW.iconst (pc := 24) (v := nI 1) dX0_share_24 (by decide) ?_
      refine PW.istore_n (pc := 25) (i := 3) dX0_share_25 rfl (by decide) rfl ?_
      refine PW.st rfl rfl ?_ h
      rw [Nat.pow_zero]; rfl
    · refine PW.iload_n (pc := 26) dX0_share_26 rfl ?_
      refine PW.aload_n (pc := 27) dX0_share_27 rfl ?_
      refine gf_X0_27 (pc := 28) dX0_share_28 ?_
      refine PW.icmp_ge (pc := 31) (tgt := 44) dX0_share_31 (by decide) (fun _ => ?_) (fun c => absurd ((by rw [f2.1, show w - 1 + 1 = w by omega]; exact nI_le (Nat.le_refl _) (by omega))) c)
      refine PW.iconst (pc := 44) (v := nI 1) dX0_share_44 (by decide) ?_
      refine PW.istore_n (pc := 45) (i := 3) dX0_share_45 rfl (by decide) rfl ?_
      refine x_loop (n := n ^ (w - 1) - 1) (P := fun c => ∀ M', (∀ q, q ≠ 25 → q ≠ 28 → q ≠ 29 → q ≠ 30 → M'.1 q = M.1 q) → CR M' w wk (dgt n w c) → M'.1 25 6 = nI (crv n w wk (mnF (crv n w wk) c)) → (∀ i, i < w → M'.1 29 i = nI (dgt n w (mnF (crv n w wk) c) i)) → P_X0_share Y 46 [(0, .ref 25), (1, .int (nI n)), (2, .int (nI (n ^ (w - 1)))), (3, .int (nI (c + 1)))] [] M') (fun h => ?_) ?_ (fun c hc ih => ?_)
      · refine PW.st rfl rfl rfl (h u_19 f1 f2 ?_ ?_)
        · rw [f4, mnF, crv, crv_0]
        · intro i hi
          rw [f3 i hi, mnF]
          unfold dgt; simp
      · intro M' g1 g2 g3 g4
        refine PW.iload_n (pc := 46) dX0_share_46 rfl ?_
        refine PW.iload_n (pc := 47) dX0_share_47 rfl ?_
        refine PW.icmp_ge (pc := 48) (tgt := 100) dX0_share_48 (by decide) (fun _ => ?_) (fun c => absurd ((by rw [show n ^ (w - 1) - 1 + 1 = n ^ (w - 1) by omega]; exact nI_le (Nat.le_refl _) (by omega))) c)
        refine PW.vret (pc := 100) hY ?_ dX0_share_100
        exact x_rv ⟨g1, g2.1, g3, g4⟩
      · intro M' g1 g2 g3 g4
        refine PW.iload_n (pc := 46) dX0_share_46 rfl ?_
        refine PW.iload_n (pc := 47) dX0_share_47 rfl ?_
        refine PW.icmp_ge (pc := 48) (tgt := 100) dX0_share_48 (by decide) (fun c => absurd c ((nI_ge (by omega) (by omega)))) (fun _ => ?_)
        refine PW.aload_n (pc := 51) dX0_share_51 rfl ?_
        refine PW.iload_n (pc := 52) dX0_share_52 rfl ?_
        refine cs_X0_37 (pc := 53) hY.rm (c_X0_nextWay hn hn3 hw1 hw hk (by omega) g2) ⟨Nat.le_of_ble_eq_true rfl, Nat.le_of_ble_eq_true rfl⟩ dX0_share_53 (Nat.le_of_ble_eq_true rfl) (fun u_53 h_53 => ?_)
        obtain ⟨k1, k2⟩ := h_53
        refine PW.aload_n (pc := 56) dX0_share_56 rfl ?_
        refine cs_X0_41 (pc := 57) hY.rm (c_X0_greatestSum k2.2.2.2 hw hk) ⟨Nat.le_of_ble_eq_true rfl, Nat.le_of_ble_eq_true rfl⟩ dX0_share_57 (Nat.le_of_ble_eq_true rfl) (fun x_57 u_57 h_57 => ?_)
        obtain ⟨rfl, hu_57⟩ := h_57
        replace hu_57 := hu_57.symm
        subst hu_57
        refine PW.istore (pc := 60) dX0_share_60 (by decide) rfl ?_
        refine PW.iload (pc := 62) dX0_share_62 rfl ?_
        refine PW.aload_n (pc := 64) dX0_share_64 rfl ?_
        refine gf_X0_31 (pc := 65) dX0_share_65 ?_
        rw [show crG (dgt n w (c + 1)) wk w = crv n w wk (c + 1) from rfl]
        have hb1 : crv n w wk (c + 1) ≤ 10000 := crG_le hw hk
        have hb2 : crv n w wk (mnF (crv n w wk) c) ≤ 10000 := crG_le hw hk
        have e25 : u_53.1 25 = M'.1 25 := k1 25 (by decide) (by decide)
        rw [e25, g3]
        have next : ∀ M2, (∀ q, q ≠ 25 → q ≠ 28 → q ≠ 29 → q ≠ 30 → M2.1 q = M.1 q) → CR M2 w wk (dgt n w (c + 1)) → M2.1 25 6 = nI (crv n w wk (mnF (crv n w wk) (c + 1))) → (∀ i, i < w → M2.1 29 i = nI (dgt n w (mnF (crv n w wk) (c + 1)) i)) → P_X0_share Y 94 [(0, .ref 25), (1, .int (nI n)), (2, .int (nI (n ^ (w - 1)))), (3, .int (nI (c + 1)))] [] M2 := by
          intro M2 q1 q2 q3 q4
          refine PW.iinc (pc := 94) dX0_share_94 rfl (x_inc1 _) (by decide) rfl ?_
          refine PW.goto (pc := 97) (tgt := 46) dX0_share_97 (by decide) ?_
          exact PW.st rfl rfl rfl (ih M2 q1 q2 q3 q4)
        have gF : ∀ q, q ≠ 25 → q ≠ 28 → q ≠ 29 → q ≠ 30 → u_53.1 q = M.1 q := fun q a b c d => (k1 q b d).trans (g1 q a b c d)
        refine PW.icmp_ge (pc := 68) (tgt := 94) dX0_share_68 (by decide) (fun c_68 => ?_) (fun c_68 => ?_)
        · rw [nI_leI (by omega) (by omega)] at c_68
          refine PW.st rfl rfl rfl (next u_53 gF k2 ?_ ?_)
          · rw [mnF, if_neg (by omega), e25, g3]
          · intro i hi
            rw [mnF, if_neg (by omega), k1 29 (by decide) (by decide)]
            exact g4 i hi
        · rw [nI_leI (by omega) (by omega)] at c_68
          refine PW.aload_n (pc := 71) dX0_share_71 rfl ?_
          refine PW.iload (pc := 72) dX0_share_72 rfl ?_
          refine pf_X0_31 (pc := 74) dX0_share_74 ?_
          refine PW.aload_n (pc := 77) dX0_share_77 rfl ?_
          refine gf_X0_18 (pc := 78) dX0_share_78 ?_
          refine PW.iconst (pc := 81) (v := nI 0) dX0_share_81 (by decide) ?_
          refine PW.aload_n (pc := 82) dX0_share_82 rfl ?_
          refine gf_X0_21 (pc := 83) dX0_share_83 ?_
          refine PW.iconst (pc := 86) (v := nI 0) dX0_share_86 (by decide) ?_
          refine PW.aload_n (pc := 87) dX0_share_87 rfl ?_
          refine gf_X0_27 (pc := 88) dX0_share_88 ?_
          rw [show (xup u_53 25 6 (nI (crv n w wk (c + 1)))).1 25 5 = nI w by simp only [xup_1]; rw [if_neg (by omega)]; exact k2.1]
          refine PW.copyi (pc := 91) (idx := 45) hY.rm (by decide) (by decide) (by decide +kernel) rfl rfl rfl rfl rfl hw hw (by omega) dX0_share_91 (Nat.le_of_ble_eq_true rfl) ?_
          refine PW.st rfl rfl rfl (next _ ?_ ⟨?_, ?_, ?_, ?_⟩ ?_ ?_)
          · intro q a b c d
            funext j
            simp only [xupA_1, if_neg c, xup_1, a, false_and, if_false]
            rw [gF q a b c d]
          · simp only [xupA_1]
            rw [if_neg (by omega), xup_1, if_neg (by omega)]
            exact k2.1
          · intro i hi
            simp only [xupA_1]
            rw [if_neg (by omega), xup_1, if_neg (by omega)]
            exact k2.2.1 i hi
          · intro i hi
            simp only [xupA_1]
            rw [if_neg (by omega), xup_1, if_neg (by omega)]
            exact k2.2.2.1 i hi
          · intro s hs3
            simp only [xupA_1]
            rw [if_neg (by omega), xup_1, if_neg (by omega)]
            exact k2.2.2.2 s hs3
          · simp only [xupA_1]
            rw [if_neg (by omega), xup_1, if_pos ⟨rfl, rfl⟩, mnF, if_pos (by omega)]
          · intro i hi
            simp only [xupA_1, if_true]
            rw [va_cpy, if_pos ⟨Nat.zero_le _, by omega⟩, Nat.sub_zero, Nat.zero_add, xup_1, if_neg (by omega), k2.2.2.1 i hi, mnF, if_pos (by omega)]
    · refine PW.iload_n (pc := 26) dX0_share_26 rfl ?_
      refine PW.aload_n (pc := 27) dX0_share_27 rfl ?_
      refine gf_X0_27 (pc := 28) dX0_share_28 ?_
      refine PW.icmp_ge (pc := 31) (tgt := 44) dX0_share_31 (by decide) (fun c => absurd c ((by rw [f2.1]; exact nI_ge (by omega) (by omega)))) (fun _ => ?_)
      refine PW.iload_n (pc := 34) dX0_share_34 rfl ?_
      refine PW.iload_n (pc := 35) dX0_share_35 rfl ?_
      refine PW.imul (pc := 36) dX0_share_36 ?_
      rw [pk_mul, ← Nat.pow_succ]
      refine PW.istore_n (pc := 37) (i := 2) dX0_share_37 rfl (by decide) rfl ?_
      refine PW.iinc (pc := 38) dX0_share_38 rfl (x_inc1 _) (by decide) rfl ?_
      refine PW.goto (pc := 41) (tgt := 26) dX0_share_41 (by decide) ?_
      exact PW.st rfl rfl rfl ih
set_option maxHeartbeats 4000000 in
set_option maxRecDepth 20000 in
theorem c_X0_crewOf {f w : Nat} {wf : Nat → Nat} {M : xM} (hw : w ≤ 10) (hs : M.1 25 5 = nI w) (h26 : ∀ i, i < w → M.1 26 i = nI (wf i)) (hf : f < 2 ^ 31) (hwf : ∀ i, i < w → wf i < 2 ^ 31) : K_X0_crewOf [.ref 25, .int (nI f)] M (xRi (fun x u => x = fnd (fun i => decide (wf i = f)) (M.1 29) w 0 ∧ u = M)) := by
  refine xMet.of (own := RX0) rfl (by decide) (Nat.le_of_ble_eq_true rfl) rfl (fun Y hY => ?_)
  refine x_loop (n := w) (P := fun i => fnd (fun i => decide (wf i = f)) (M.1 29) w 0 = fnd (fun i => decide (wf i = f)) (M.1 29) (w - i) i → P_X0_crewOf Y 2 [(0, .ref 25), (1, .int (nI f)), (2, .int (nI i))] [] M) (fun h => ?_) ?_ (fun i hi ih => ?_)
  · refine PW.iconst (pc := 0) (v := nI 0) dX0_crewOf_0 (by decide) ?_
    refine PW.istore_n (pc := 1) (i := 2) dX0_crewOf_1 rfl (by decide) rfl ?_
    exact PW.st rfl rfl rfl (h rfl)
  · intro e
    refine PW.iload_n (pc := 2) dX0_crewOf_2 rfl ?_
    refine PW.aload_n (pc := 3) dX0_crewOf_3 rfl ?_
    refine gf_X0_27 (pc := 4) dX0_crewOf_4 ?_
    refine PW.icmp_ge (pc := 7) (tgt := 33) dX0_crewOf_7 (by decide) (fun _ => ?_) (fun c => absurd ((by rw [hs]; exact nI_le (Nat.le_refl _) (by omega))) c)
    refine PW.iconst (pc := 33) (v := (-1)) dX0_crewOf_33 (by decide) ?_
    refine PW.iret (pc := 34) hY ?_ dX0_crewOf_34
    refine x_ri ⟨?_, rfl⟩
    rw [e, show w - w = 0 by omega]; rfl
  · intro e
    rw [show w - i = (w - (i + 1)) + 1 by omega, fnd] at e
    refine PW.iload_n (pc := 2) dX0_crewOf_2 rfl ?_
    refine PW.aload_n (pc := 3) dX0_crewOf_3 rfl ?_
    refine gf_X0_27 (pc := 4) dX0_crewOf_4 ?_
    refine PW.icmp_ge (pc := 7) (tgt := 33) dX0_crewOf_7 (by decide) (fun c => absurd c ((by rw [hs]; exact nI_ge hi (by omega)))) (fun _ => ?_)
    refine PW.aload_n (pc := 10) dX0_crewOf_10 rfl ?_
    refine gf_X0_9 (pc := 11) dX0_crewOf_11 ?_
    refine PW.iload_n (pc := 14) dX0_crewOf_14 rfl ?_
    refine PW.ialdN (pc := 15) rfl rfl (by omega) (by decide) dX0_crewOf_15 ?_
    refine PW.iload_n (pc := 16) dX0_crewOf_16 rfl ?_
    rw [h26 i hi]
    refine PW.icmp_ne (pc := 17) (tgt := 27) dX0_crewOf_17 (by decide) (fun c_17 => ?_) (fun c_17 => ?_)
    · rw [nI_eq (hwf i hi) hf] at c_17
      rw [if_neg (by simp [c_17])] at e
      refine PW.iinc (pc := 27) dX0_crewOf_27 rfl (x_inc1 _) (by decide) rfl ?_
      refine PW.goto (pc := 30) (tgt := 2) dX0_crewOf_30 (by decide) ?_
      exact PW.st rfl rfl rfl (ih e)
    · rw [nI_eq (hwf i hi) hf] at c_17
      rw [if_pos (by simp [c_17])] at e
      refine PW.aload_n (pc := 20) dX0_crewOf_20 rfl ?_
      refine gf_X0_21 (pc := 21) dX0_crewOf_21 ?_
      refine PW.iload_n (pc := 24) dX0_crewOf_24 rfl ?_
      refine PW.ialdN (pc := 25) rfl rfl (by omega) (by decide) dX0_crewOf_25 ?_
      refine PW.iret (pc := 26) hY ?_ dX0_crewOf_26
      exact x_ri ⟨e.symm, rfl⟩
set_option maxHeartbeats 4000000 in
set_option maxRecDepth 20000 in
theorem c_X0_clear {M : xM} : K_X0_clear [.ref 25] M (xRv (fun u => u = xup (xup M 25 5 (nI 0)) 25 6 (nI 0))) := by
  refine xMet.of (own := RX0) rfl (by decide) (Nat.le_of_ble_eq_true rfl) rfl (fun Y hY => ?_)
  refine PW.aload_n (pc := 0) dX0_clear_0 rfl ?_
  refine PW.iconst (pc := 1) (v := nI 0) dX0_clear_1 (by decide) ?_
  refine pf_X0_27 (pc := 2) dX0_clear_2 ?_
  refine PW.aload_n (pc := 5) dX0_clear_5 rfl ?_
  refine PW.iconst (pc := 6) (v := nI 0) dX0_clear_6 (by decide) ?_
  refine pf_X0_31 (pc := 7) dX0_clear_7 ?_
  refine PW.vret (pc := 10) hY ?_ dX0_clear_10
  exact x_rv rfl
set_option maxHeartbeats 4000000 in
set_option maxRecDepth 20000 in
theorem c_X0_add {w : Nat} {f h : Int32} {M : xM} (hs : M.1 25 5 = nI w) (hw : w < 10) : K_X0_add [.ref 25, .int f, .int h] M (xRv (fun u => u = xup (xup (xup M 26 w f) 27 w h) 25 5 (nI (w + 1)))) := by
  refine xMet.of (own := RX0) rfl (by decide) (Nat.le_of_ble_eq_true rfl) rfl (fun Y hY => ?_)
  refine PW.aload_n (pc := 0) dX0_add_0 rfl ?_
  refine gf_X0_27 (pc := 1) dX0_add_1 ?_
  refine PW.bipush (pc := 4) (v := nI 10) dX0_add_4 (by decide) ?_
  refine PW.icmp_ge (pc := 6) (tgt := 39) dX0_add_6 (by decide) (fun c => absurd c ((by rw [hs]; exact nI_ge hw (by omega)))) (fun _ => ?_)
  refine PW.aload_n (pc := 9) dX0_add_9 rfl ?_
  refine gf_X0_9 (pc := 10) dX0_add_10 ?_
  refine PW.aload_n (pc := 13) dX0_add_13 rfl ?_
  refine gf_X0_27 (pc := 14) dX0_add_14 ?_
  refine PW.iload_n (pc := 17) dX0_add_17 rfl ?_
  refine PW.iastN (pc := 18) rfl hs hw (by decide) dX0_add_18 ?_
  refine PW.aload_n (pc := 19) dX0_add_19 rfl ?_
  refine gf_X0_15 (pc := 20) dX0_add_20 ?_
  refine PW.aload_n (pc := 23) dX0_add_23 rfl ?_
  refine gf_X0_27 (pc := 24) dX0_add_24 ?_
  refine PW.iload_n (pc := 27) dX0_add_27 rfl ?_
  refine PW.iastN (pc := 28) rfl (by simp only [xup_1]; exact hs) hw (by decide) dX0_add_28 ?_
  refine PW.aload_n (pc := 29) dX0_add_29 rfl ?_
  refine PW.dup (pc := 30) dX0_add_30 rfl ?_
  refine gf_X0_27 (pc := 31) dX0_add_31 ?_
  refine PW.iconst (pc := 34) (v := nI 1) dX0_add_34 (by decide) ?_
  refine PW.iadd (pc := 35) dX0_add_35 ?_
  refine pf_X0_27 (pc := 36) dX0_add_36 ?_
  refine PW.vret (pc := 39) hY ?_ dX0_add_39
  refine x_rv ?_
  congr 1
  simp [xup_1, hs, nI_add]
/-- who works on a day, and how long -/
def wkB (st fr ls : Nat → Int32) (d : Int32) (g : Nat) : Bool := decide (wkP st fr ls d g)
def wkh (ba : Nat → Int32) (wf : Nat → Nat) (i : Nat) : Nat := 2 * na (ba (wf i)) + 1
set_option maxHeartbeats 4000000 in
set_option maxRecDepth 20000 in
theorem c_X6_sendCrews {d : Int32} {k n : Nat} {M : xM} (hn : M.1 8 9 = nI n) (h10 : n ≤ 10) (hC : TC M) (hk1 : 1 ≤ k) (hk3 : k ≤ 3) : K_X6_sendCrews [.ref 0, .int d, .int (nI k)] M (xRv (fun u => xFc M u ∧ u.1 25 5 = nI (wrk (wkB (M.1 12) (M.1 9) (M.1 10) d) n).1 ∧ (∀ i, i < (wrk (wkB (M.1 12) (M.1 9) (M.1 10) d) n).1 → u.1 26 i = nI ((wrk (wkB (M.1 12) (M.1 9) (M.1 10) d) n).2 i)) ∧ u.1 25 6 = nI (crv k (wrk (wkB (M.1 12) (M.1 9) (M.1 10) d) n).1 (wkh (M.1 14) (wrk (wkB (M.1 12) (M.1 9) (M.1 10) d) n).2) (bco k (wrk (wkB (M.1 12) (M.1 9) (M.1 10) d) n).1 (wkh (M.1 14) (wrk (wkB (M.1 12) (M.1 9) (M.1 10) d) n).2))) ∧ ∀ i, i < (wrk (wkB (M.1 12) (M.1 9) (M.1 10) d) n).1 → u.1 29 i = nI (dgt k (wrk (wkB (M.1 12) (M.1 9) (M.1 10) d) n).1 (bco k (wrk (wkB (M.1 12) (M.1 9) (M.1 10) d) n).1 (wkh (M.1 14) (wrk (wkB (M.1 12) (M.1 9) (M.1 10) d) n).2)) i))) := by
  generalize hP : wkB (M.1 12) (M.1 9) (M.1 10) d = P
  refine xMet.of (own := RX6) rfl (by decide) (Nat.le_of_ble_eq_true rfl) rfl (fun Y hY => ?_)
  refine PW.aload_n (pc := 0) dX6_sendCrews_0 rfl ?_
  refine gf_X6_47 (pc := 1) dX6_sendCrews_1 ?_
  refine cs_X6_244 (pc := 4) hY.rm (c_X0_clear) ⟨Nat.le_of_ble_eq_true rfl, Nat.le_of_ble_eq_true rfl⟩ dX6_sendCrews_4 (Nat.le_of_ble_eq_true rfl) (fun u_4 h_4 => ?_)
  refine x_loop (n := n) (P := fun g => ∀ M', xFc M M' → M'.1 25 5 = nI (wrk P g).1 → M'.1 25 6 = nI 0 → (∀ i, i < (wrk P g).1 → M'.1 26 i = nI ((wrk P g).2 i) ∧ M'.1 27 i = nI (wkh (M.1 14) (wrk P g).2 i)) → P_X6_sendCrews Y 9 [(0, .ref 0), (1, .int d), (2, .int (nI k)), (3, .int (nI g))] [] M') (fun h => ?_) ?_ (fun g hg ih => ?_)
  · refine PW.iconst (pc := 7) (v := nI 0) dX6_sendCrews_7 (by decide) ?_
    refine PW.istore_n (pc := 8) (i := 3) dX6_sendCrews_8 rfl (by decide) rfl ?_
    refine PW.st rfl rfl rfl (h u_4 ?_ ?_ ?_ ?_)
    · intro q a b c d e f
      funext j
      rw [h_4]
      simp only [xup_1, a, false_and, if_false]
    · rw [h_4]; simp [xup_1, wrk]
    · rw [h_4]; simp [xup_1]
    · intro i hi; simp [wrk] at hi
  · intro M' g1 g2 g3 g4
    have hwl := wrk_le P n
    have h27 : ∀ i, i < (wrk P n).1 → wkh (M.1 14) (wrk P n).2 i ≤ 1000 := by
      intro i hi
      have h1 := wrk_lt P n i hi
      have h2 := (hC.1 ((wrk P n).2 i) (by omega)).2.1.2
      unfold wkh
      omega
    refine PW.iload_n (pc := 9) dX6_sendCrews_9 rfl ?_
    refine PW.aload_n (pc := 10) dX6_sendCrews_10 rfl ?_
    refine gf_X6_19 (pc := 11) dX6_sendCrews_11 ?_
    refine gf_X6_193 (pc := 14) dX6_sendCrews_14 ?_
    refine PW.icmp_ge (pc := 17) (tgt := 59) dX6_sendCrews_17 (by decide) (fun _ => ?_) (fun c => absurd ((by rw [g1 8 (by decide) (by decide) (by decide) (by decide) (by decide) (by decide), hn]; exact nI_le (Nat.le_refl _) (by omega))) c)
    refine PW.aload_n (pc := 59) dX6_sendCrews_59 rfl ?_
    refine gf_X6_47 (pc := 60) dX6_sendCrews_60 ?_
    refine PW.iload_n (pc := 63) dX6_sendCrews_63 rfl ?_
    refine cs_X6_248 (pc := 64) hY.rm (c_X0_share (by omega) hk1 hk3 h27 g2 g3 (fun i hi => (g4 i hi).2)) ⟨Nat.le_of_ble_eq_true rfl, Nat.le_of_ble_eq_true rfl⟩ dX6_sendCrews_64 (Nat.le_of_ble_eq_true rfl) (fun u_64 h_64 => ?_)
    obtain ⟨k1, k2, k3, k4⟩ := h_64
    refine PW.vret (pc := 67) hY ?_ dX6_sendCrews_67
    refine x_rv ⟨?_, k2, ?_, k3, k4⟩
    · intro q a b c d e f
      rw [k1 q a d e f, g1 q a b c d e f]
    · intro i hi
      rw [k1 26 (by decide) (by decide) (by decide) (by decide)]
      exact (g4 i hi).1
  · intro M' g1 g2 g3 g4
    have hwl := wrk_le P g
    have e12 := g1 12 (by decide) (by decide) (by decide) (by decide) (by decide) (by decide)
    have e9 := g1 9 (by decide) (by decide) (by decide) (by decide) (by decide) (by decide)
    have e10 := g1 10 (by decide) (by decide) (by decide) (by decide) (by decide) (by decide)
    have e14 := g1 14 (by decide) (by decide) (by decide) (by decide) (by decide) (by decide)
    refine PW.iload_n (pc := 9) dX6_sendCrews_9 rfl ?_
    refine PW.aload_n (pc := 10) dX6_sendCrews_10 rfl ?_
    refine gf_X6_19 (pc := 11) dX6_sendCrews_11 ?_
    refine gf_X6_193 (pc := 14) dX6_sendCrews_14 ?_
    refine PW.icmp_ge (pc := 17) (tgt := 59) dX6_sendCrews_17 (by decide) (fun c => absurd c ((by rw [g1 8 (by decide) (by decide) (by decide) (by decide) (by decide) (by decide), hn]; exact nI_ge hg (by omega)))) (fun _ => ?_)
    refine PW.aload_n (pc := 20) dX6_sendCrews_20 rfl ?_
    refine gf_X6_19 (pc := 21) dX6_sendCrews_21 ?_
    refine PW.iload_n (pc := 24) dX6_sendCrews_24 rfl ?_
    refine PW.iload_n (pc := 25) dX6_sendCrews_25 rfl ?_
    refine cs_X6_210 (pc := 26) hY.rm (c_X1_worksOn (show g < 10 by omega)) ⟨Nat.le_of_ble_eq_true rfl, Nat.le_of_ble_eq_true rfl⟩ dX6_sendCrews_26 (Nat.le_of_ble_eq_true rfl) (fun x_26 u_26 h_26 => ?_)
    obtain ⟨rfl, hu_26⟩ := h_26
    replace hu_26 := hu_26.symm
    subst hu_26
    have next : ∀ M2, xFc M M2 → M2.1 25 5 = nI (wrk P (g + 1)).1 → M2.1 25 6 = nI 0 → (∀ i, i < (wrk P (g + 1)).1 → M2.1 26 i = nI ((wrk P (g + 1)).2 i) ∧ M2.1 27 i = nI (wkh (M.1 14) (wrk P (g + 1)).2 i)) → P_X6_sendCrews Y 53 [(0, .ref 0), (1, .int d), (2, .int (nI k)), (3, .int (nI g))] [] M2 := by
      intro M2 q1 q2 q3 q4
      refine PW.iinc (pc := 53) dX6_sendCrews_53 rfl (x_inc1 _) (by decide) rfl ?_
      refine PW.goto (pc := 56) (tgt := 9) dX6_sendCrews_56 (by decide) ?_
      exact PW.st rfl rfl rfl (ih M2 q1 q2 q3 q4)
    refine PW.if_eq (pc := 29) (tgt := 53) dX6_sendCrews_29 (by decide) (fun c_29 => ?_) (fun c_29 => ?_)
    · have hp := bool_f c_29
      rw [e12, e9, e10] at hp
      have hp : P g = false := by rw [← hP]; simp [wkB, hp]
      refine PW.st rfl rfl rfl (next M' g1 ?_ g3 ?_)
      · rw [wrk, if_neg (by rw [hp]; simp)]; exact g2
      · rw [wrk, if_neg (by rw [hp]; simp)]; exact g4
    · have hp := bool_t c_29
      rw [e12, e9, e10] at hp
      have hp : P g = true := by rw [← hP]; simp only [wkB, decide_eq_true_eq]; exact hp
      refine PW.aload_n (pc := 32) dX6_sendCrews_32 rfl ?_
      refine gf_X6_47 (pc := 33) dX6_sendCrews_33 ?_
      refine PW.iload_n (pc := 36) dX6_sendCrews_36 rfl ?_
      refine PW.aload_n (pc := 37) dX6_sendCrews_37 rfl ?_
      refine gf_X6_19 (pc := 38) dX6_sendCrews_38 ?_
      refine gf_X6_183 (pc := 41) dX6_sendCrews_41 ?_
      refine PW.iload_n (pc := 44) dX6_sendCrews_44 rfl ?_
      refine PW.ialdN (pc := 45) rfl rfl (by omega) (by decide) dX6_sendCrews_45 ?_
      rw [e14, (hC.1 g (by omega)).2.1.1]
      refine PW.iconst (pc := 46) (v := nI 2) dX6_sendCrews_46 (by decide) ?_
      refine PW.imul (pc := 47) dX6_sendCrews_47 ?_
      refine PW.iconst (pc := 48) (v := nI 1) dX6_sendCrews_48 (by decide) ?_
      refine PW.iadd (pc := 49) dX6_sendCrews_49 ?_
      rw [pk_mul, nI_add]
      refine cs_X6_245 (pc := 50) hY.rm (c_X0_add g2 (by omega)) ⟨Nat.le_of_ble_eq_true rfl, Nat.le_of_ble_eq_true rfl⟩ dX6_sendCrews_50 (Nat.le_of_ble_eq_true rfl) (fun u_50 h_50 => ?_)
      refine PW.st rfl rfl rfl (next u_50 ?_ ?_ ?_ ?_)
      · intro q a b c d e f
        funext j
        rw [h_50]
        simp only [xup_1, a, b, c, false_and, if_false]
        rw [g1 q a b c d e f]
      · rw [h_50, wrk, if_pos hp]; simp [xup_1]
      · rw [h_50]; simp only [xup_1]; simp; exact g3
      · rw [wrk, if_pos hp]
        intro i hi
        rw [h_50]
        simp only [xup_1]
        by_cases e : i = (wrk P g).1
        · subst e
          simp [wkh]
          rw [Nat.mul_comm]
        · have := g4 i (by simp at hi; omega)
          simp [e, wkh]
          exact this
set_option maxHeartbeats 4000000 in
set_option maxRecDepth 20000 in
theorem c_X6_hours {d k : Int32} {n : Nat} {M : xM} (hn : M.1 8 9 = nI n) (h10 : n ≤ 10) (hC : TC M) : K_X6_hours [.ref 0, .int d, .int k] M (xRi (fun x u => (x = if inr d (nI 0) (nI 60) ∧ inr k (nI 1) (nI 3) then nI (crv (na k) (wrk (wkB (M.1 12) (M.1 9) (M.1 10) d) n).1 (wkh (M.1 14) (wrk (wkB (M.1 12) (M.1 9) (M.1 10) d) n).2) (bco (na k) (wrk (wkB (M.1 12) (M.1 9) (M.1 10) d) n).1 (wkh (M.1 14) (wrk (wkB (M.1 12) (M.1 9) (M.1 10) d) n).2))) else (-2)) ∧ xFc M u)) := by
  refine xMet.of (own := RX6) rfl (by decide) (Nat.le_of_ble_eq_true rfl) rfl (fun Y hY => ?_)
  have bad : ¬ (inr d (nI 0) (nI 60) ∧ inr k (nI 1) (nI 3)) → P_X6_hours Y 19 [] [] M := by
    intro h
    refine PW.bipush (pc := 19) (v := (-2)) dX6_hours_19 (by decide) ?_
    refine PW.iret (pc := 21) hY ?_ dX6_hours_21
    refine x_ri ?_
    rw [if_neg h]; exact ⟨rfl, fun _ _ _ _ _ _ _ => rfl⟩
  refine PW.iload_n (pc := 0) dX6_hours_0 rfl ?_
  refine PW.iconst (pc := 1) (v := nI 0) dX6_hours_1 (by decide) ?_
  refine PW.bipush (pc := 2) (v := nI 60) dX6_hours_2 (by decide) ?_
  refine cs_X6_69 (pc := 4) hY.rm (c_X6_outside) ⟨Nat.le_of_ble_eq_true rfl, Nat.le_of_ble_eq_true rfl⟩ dX6_hours_4 (Nat.le_of_ble_eq_true rfl) (fun x_4 u_4 h_4 => ?_)
  obtain ⟨rfl, hu_4⟩ := h_4
  replace hu_4 := hu_4.symm
  subst hu_4
  refine PW.if_ne (pc := 7) (tgt := 19) dX6_hours_7 (by decide) (fun c_7 => PW.st rfl rfl rfl (bad (fun h => out_t c_7 h.1))) (fun c_7 => ?_)
  refine PW.iload_n (pc := 10) dX6_hours_10 rfl ?_
  refine PW.iconst (pc := 11) (v := nI 1) dX6_hours_11 (by decide) ?_
  refine PW.iconst (pc := 12) (v := nI 3) dX6_hours_12 (by decide) ?_
  refine cs_X6_69 (pc := 13) hY.rm (c_X6_outside) ⟨Nat.le_of_ble_eq_true rfl, Nat.le_of_ble_eq_true rfl⟩ dX6_hours_13 (Nat.le_of_ble_eq_true rfl) (fun x_13 u_13 h_13 => ?_)
  obtain ⟨rfl, hu_13⟩ := h_13
  replace hu_13 := hu_13.symm
  subst hu_13
  refine PW.if_eq (pc := 16) (tgt := 22) dX6_hours_16 (by decide) (fun c_16 => ?_) (fun c_16 => PW.st rfl rfl rfl (bad (fun h => out_t c_16 h.2)))
  have hk := out_f c_16
  have k0 : 0 ≤ k := Int32.le_trans (by decide) hk.1
  have k1 := x_pos k0
  have k3 := na_le k0 hk.2 (by omega)
  have G : inr d (nI 0) (nI 60) ∧ inr k (nI 1) (nI 3) := ⟨out_f c_7, hk⟩
  have kl : nI 1 ≤ nI (na k) := by rw [← k1]; exact hk.1
  have k2 : 1 ≤ na k := (nI_leI (by omega) (by omega)).mp kl
  clear bad c_7 c_16 kl
  revert k1 k2 k3
  generalize na k = kN at *
  intro k1 k3 k2
  subst k1
  refine PW.aload_n (pc := 22) dX6_hours_22 rfl ?_
  refine PW.iload_n (pc := 23) dX6_hours_23 rfl ?_
  refine PW.iload_n (pc := 24) dX6_hours_24 rfl ?_
  refine cs_X6_200 (pc := 25) hY.rm (c_X6_sendCrews hn h10 hC k2 k3) ⟨Nat.le_of_ble_eq_true rfl, Nat.le_of_ble_eq_true rfl⟩ dX6_hours_25 (Nat.le_of_ble_eq_true rfl) (fun u_25 h_25 => ?_)
  obtain ⟨f1, f2, f3, f4, f5⟩ := h_25
  refine PW.aload_n (pc := 28) dX6_hours_28 rfl ?_
  refine gf_X6_47 (pc := 29) dX6_hours_29 ?_
  refine gf_X6_204 (pc := 32) dX6_hours_32 ?_
  refine PW.iret (pc := 35) hY ?_ dX6_hours_35
  refine x_ri ?_
  rw [if_pos G]
  exact ⟨f4, f1⟩
set_option maxHeartbeats 4000000 in
set_option maxRecDepth 20000 in
theorem c_X6_crew {d k f : Int32} {n : Nat} {M : xM} (hn : M.1 8 9 = nI n) (h10 : n ≤ 10) (hC : TC M) : K_X6_crew [.ref 0, .int d, .int k, .int f] M (xRi (fun x u => (x = if inr d (nI 0) (nI 60) ∧ inr k (nI 1) (nI 3) ∧ okF f n then fnd (fun i => decide ((wrk (wkB (M.1 12) (M.1 9) (M.1 10) d) n).2 i = na f)) (fun i => nI (dgt (na k) (wrk (wkB (M.1 12) (M.1 9) (M.1 10) d) n).1 (bco (na k) (wrk (wkB (M.1 12) (M.1 9) (M.1 10) d) n).1 (wkh (M.1 14) (wrk (wkB (M.1 12) (M.1 9) (M.1 10) d) n).2)) i)) (wrk (wkB (M.1 12) (M.1 9) (M.1 10) d) n).1 0 else (-2)) ∧ xFc M u)) := by
  refine xMet.of (own := RX6) rfl (by decide) (Nat.le_of_ble_eq_true rfl) rfl (fun Y hY => ?_)
  have bad : ¬ (inr d (nI 0) (nI 60) ∧ inr k (nI 1) (nI 3) ∧ okF f n) → P_X6_crew Y 30 [] [] M := by
    intro h
    refine PW.bipush (pc := 30) (v := (-2)) dX6_crew_30 (by decide) ?_
    refine PW.iret (pc := 32) hY ?_ dX6_crew_32
    refine x_ri ?_
    rw [if_neg h]; exact ⟨rfl, fun _ _ _ _ _ _ _ => rfl⟩
  refine PW.iload_n (pc := 0) dX6_crew_0 rfl ?_
  refine PW.iconst (pc := 1) (v := nI 0) dX6_crew_1 (by decide) ?_
  refine PW.bipush (pc := 2) (v := nI 60) dX6_crew_2 (by decide) ?_
  refine cs_X6_69 (pc := 4) hY.rm (c_X6_outside) ⟨Nat.le_of_ble_eq_true rfl, Nat.le_of_ble_eq_true rfl⟩ dX6_crew_4 (Nat.le_of_ble_eq_true rfl) (fun x_4 u_4 h_4 => ?_)
  obtain ⟨rfl, hu_4⟩ := h_4
  replace hu_4 := hu_4.symm
  subst hu_4
  refine PW.if_ne (pc := 7) (tgt := 30) dX6_crew_7 (by decide) (fun c_7 => PW.st rfl rfl rfl (bad (fun h => out_t c_7 h.1))) (fun c_7 => ?_)
  refine PW.iload_n (pc := 10) dX6_crew_10 rfl ?_
  refine PW.iconst (pc := 11) (v := nI 1) dX6_crew_11 (by decide) ?_
  refine PW.iconst (pc := 12) (v := nI 3) dX6_crew_12 (by decide) ?_
  refine cs_X6_69 (pc := 13) hY.rm (c_X6_outside) ⟨Nat.le_of_ble_eq_true rfl, Nat.le_of_ble_eq_true rfl⟩ dX6_crew_13 (Nat.le_of_ble_eq_true rfl) (fun x_13 u_13 h_13 => ?_)
  obtain ⟨rfl, hu_13⟩ := h_13
  replace hu_13 := hu_13.symm
  subst hu_13
  refine PW.if_ne (pc := 16) (tgt := 30) dX6_crew_16 (by decide) (fun c_16 => PW.st rfl rfl rfl (bad (fun h => out_t c_16 h.2.1))) (fun c_16 => ?_)
  refine PW.aload_n (pc := 19) dX6_crew_19 rfl ?_
  refine gf_X6_19 (pc := 20) dX6_crew_20 ?_
  refine PW.iload_n (pc := 23) dX6_crew_23 rfl ?_
  refine cs_X6_93 (pc := 24) hY.rm (c_X1_has) ⟨Nat.le_of_ble_eq_true rfl, Nat.le_of_ble_eq_true rfl⟩ dX6_crew_24 (Nat.le_of_ble_eq_true rfl) (fun x_24 u_24 h_24 => ?_)
  obtain ⟨rfl, hu_24⟩ := h_24
  replace hu_24 := hu_24.symm
  subst hu_24
  refine PW.if_ne (pc := 27) (tgt := 33) dX6_crew_27 (by decide) (fun c_27 => ?_) (fun c_27 => PW.st rfl rfl rfl (bad (fun h => has_f hn c_27 h.2.2)))
  have hk := out_f c_16
  have hf := has_t hn c_27
  obtain ⟨f1, f2⟩ := okF_nat hf h10
  have k0 : 0 ≤ k := Int32.le_trans (by decide) hk.1
  have k1 := x_pos k0
  have k3 := na_le k0 hk.2 (by omega)
  have G : inr d (nI 0) (nI 60) ∧ inr k (nI 1) (nI 3) ∧ okF f n := ⟨out_f c_7, hk, hf⟩
  have kl : nI 1 ≤ nI (na k) := by rw [← k1]; exact hk.1
  have k2 : 1 ≤ na k := (nI_leI (by omega) (by omega)).mp kl
  clear bad c_7 c_16 kl c_27
  revert k1 k2 k3 f1 f2
  generalize na k = kN at *
  generalize na f = fN at *
  intro f1 f2 k1 k3 k2
  subst k1
  subst f1
  refine PW.aload_n (pc := 33) dX6_crew_33 rfl ?_
  refine PW.iload_n (pc := 34) dX6_crew_34 rfl ?_
  refine PW.iload_n (pc := 35) dX6_crew_35 rfl ?_
  refine cs_X6_200 (pc := 36) hY.rm (c_X6_sendCrews hn h10 hC k2 k3) ⟨Nat.le_of_ble_eq_true rfl, Nat.le_of_ble_eq_true rfl⟩ dX6_crew_36 (Nat.le_of_ble_eq_true rfl) (fun u_36 h_36 => ?_)
  obtain ⟨g1, g2, g3, g4, g5⟩ := h_36
  have hwl := wrk_le (wkB (M.1 12) (M.1 9) (M.1 10) d) n
  have hwi := wrk_lt (wkB (M.1 12) (M.1 9) (M.1 10) d) n
  refine PW.aload_n (pc := 39) dX6_crew_39 rfl ?_
  refine gf_X6_47 (pc := 40) dX6_crew_40 ?_
  refine PW.iload_n (pc := 43) dX6_crew_43 rfl ?_
  refine cs_X6_207 (pc := 44) hY.rm (c_X0_crewOf (by omega) g2 g3 (by omega) (fun i hi => by have := hwi i hi; omega)) ⟨Nat.le_of_ble_eq_true rfl, Nat.le_of_ble_eq_true rfl⟩ dX6_crew_44 (Nat.le_of_ble_eq_true rfl) (fun x_44 u_44 h_44 => ?_)
  obtain ⟨rfl, hu_44⟩ := h_44
  replace hu_44 := hu_44.symm
  subst hu_44
  refine PW.iret (pc := 47) hY ?_ dX6_crew_47
  refine x_ri ?_
  rw [if_pos G]
  refine ⟨?_, g1⟩
  have fc : ∀ (p : Nat → Bool) (v v' : Nat → Int32) (W k i : Nat), k + i ≤ W → (∀ j, j < W → v j = v' j) → fnd p v k i = fnd p v' k i := by
    intro p v v' W k
    induction k with
    | zero => intro i _ _; rfl
    | succ k ih =>
      intro i h1 h2
      rw [fnd, fnd, h2 i (by omega), ih (i + 1) (by omega) h2]
  exact fc _ _ _ _ _ 0 (Nat.le_refl _) g5
