/-! the class's crews -/
/-- w fields' hours wk, each with the crew D -/
def CR (M : xM) (w : Nat) (wk D : Nat → Nat) : Prop := M.1 25 5 = nI w ∧ (∀ i, i < w → M.1 27 i = nI (wk i)) ∧ (∀ i, i < w → M.1 28 i = nI (D i)) ∧ ∀ s, s < 3 → M.1 30 s = nI (crS D wk w s)
set_option maxHeartbeats 4000000 in
set_option maxRecDepth 20000 in
theorem c_X0_greatestSum {w : Nat} {wk D : Nat → Nat} {M : xM} (h3 : ∀ s, s < 3 → M.1 30 s = nI (crS D wk w s)) (hw : w ≤ 10) (hk : ∀ i, i < w → wk i ≤ 1000) : K_X0_greatestSum [.ref 25] M (xRi (fun x u => x = nI (crG D wk w) ∧ u = M)) := by
  refine xMet.of (own := RX0) rfl (by decide) (Nat.le_of_ble_eq_true rfl) rfl (fun Y hY => ?_)
  have b0 := crS_le (D := D) hw hk 0
  have b1 := crS_le (D := D) hw hk 1
  have b2 := crS_le (D := D) hw hk 2
  refine PW.iconst (pc := 0) (v := nI 0) dX0_greatestSum_0 (by decide) ?_
  refine PW.istore_n (pc := 1) (i := 1) dX0_greatestSum_1 rfl (by decide) rfl ?_
  refine PW.iconst (pc := 2) (v := nI 0) dX0_greatestSum_2 (by decide) ?_
  refine PW.istore_n (pc := 3) (i := 2) dX0_greatestSum_3 rfl (by decide) rfl ?_
  have step : ∀ (c g : Nat), c < 3 → g ≤ 10000 → crS D wk w c ≤ 10000 → P_X0_greatestSum Y 4 [(0, .ref 25), (1, .int (nI (max g (crS D wk w c)))), (2, .int (nI (c + 1)))] [] M → P_X0_greatestSum Y 4 [(0, .ref 25), (1, .int (nI g)), (2, .int (nI c))] [] M := by
    intro c g hc hg hb ih
    refine PW.iload_n (pc := 4) dX0_greatestSum_4 rfl ?_
    refine PW.iconst (pc := 5) (v := nI 3) dX0_greatestSum_5 (by decide) ?_
    refine PW.icmp_ge (pc := 6) (tgt := 26) dX0_greatestSum_6 (by decide) (fun c => absurd c ((nI_ge hc (by omega)))) (fun _ => ?_)
    refine PW.iload_n (pc := 9) dX0_greatestSum_9 rfl ?_
    refine PW.aload_n (pc := 10) dX0_greatestSum_10 rfl ?_
    refine gf_X0_24 (pc := 11) dX0_greatestSum_11 ?_
    refine PW.iload_n (pc := 14) dX0_greatestSum_14 rfl ?_
    refine PW.ialdN (pc := 15) rfl rfl (by omega) (by decide) dX0_greatestSum_15 ?_
    refine PW.mmax (pc := 16) (idx := 57) hY.rm (by decide) (by decide) (by decide +kernel) dX0_greatestSum_16 (Nat.le_of_ble_eq_true rfl) ?_
    rw [h3 c hc, x_max (by omega) (by omega)]
    refine PW.istore_n (pc := 19) (i := 1) dX0_greatestSum_19 rfl (by decide) rfl ?_
    refine PW.iinc (pc := 20) dX0_greatestSum_20 rfl (x_inc1 _) (by decide) rfl ?_
    refine PW.goto (pc := 23) (tgt := 4) dX0_greatestSum_23 (by decide) ?_
    exact PW.st rfl rfl rfl ih
  refine PW.st rfl rfl rfl (step 0 0 (by omega) (by omega) b0 (step 1 _ (by omega) (by omega) b1 (step 2 _ (by omega) (by omega) b2 ?_)))
  refine PW.iload_n (pc := 4) dX0_greatestSum_4 rfl ?_
  refine PW.iconst (pc := 5) (v := nI 3) dX0_greatestSum_5 (by decide) ?_
  refine PW.icmp_ge (pc := 6) (tgt := 26) dX0_greatestSum_6 (by decide) (fun _ => ?_) (fun c => absurd ((nI_le (Nat.le_refl _) (by omega))) c)
  refine PW.iload_n (pc := 26) dX0_greatestSum_26 rfl ?_
  refine PW.iret (pc := 27) hY ?_ dX0_greatestSum_27
  exact x_ri ⟨rfl, rfl⟩
/-- a digit of one field changed -/
theorem crS_upd {D E wk : Nat → Nat} {w i s : Nat} (hi : i < w) (h : ∀ j, j ≠ i → E j = D j) : crS E wk w s + (if D i = s then wk i else 0) = crS D wk w s + (if E i = s then wk i else 0) :=
  nsum_upd (f := fun i => if D i = s then wk i else 0) (g := fun i => if E i = s then wk i else 0) hi (fun j hj => by rw [h j hj])
theorem i32_mv {a b c d : Nat} (h : a + d = b + c) : nI b - nI d + nI c = nI a := by
  rw [i32_aft, nI_add, ← h, ← nI_add, Int32.sub_eq_add_neg, Int32.add_assoc, Int32.add_right_neg, Int32.add_zero]
set_option maxHeartbeats 4000000 in
set_option maxRecDepth 20000 in
theorem c_X0_nextWay {n w c : Nat} {wk : Nat → Nat} {M : xM} (hn : 0 < n) (hn3 : n ≤ 3) (hw1 : 1 ≤ w) (hw : w ≤ 10) (hk : ∀ i, i < w → wk i ≤ 1000) (hc : c + 1 < n ^ (w - 1)) (hM : CR M w wk (dgt n w c)) : K_X0_nextWay [.ref 25, .int (nI n)] M (xRv (fun u => (∀ q, q ≠ 28 → q ≠ 30 → u.1 q = M.1 q) ∧ CR u w wk (dgt n w (c + 1)))) := by
  refine xMet.of (own := RX0) rfl (by decide) (Nat.le_of_ble_eq_true rfl) rfl (fun Y hY => ?_)
  -- at the head: the digits behind i are the new ones
  have loop : ∀ (i : Nat) (cy : Bool) (D : Nat → Nat) (M' : xM), i < w → (∀ q, q ≠ 28 → q ≠ 30 → M'.1 q = M.1 q) → CR M' w wk D → (∀ j, i < j → j < w → D j = dgt n w (c + 1) j) → (cy = true → (∀ j, j ≤ i → D j = dgt n w c j) ∧ (c + 1) % n ^ (w - 1 - i) = 0) → (cy = false → ∀ j, j ≤ i → D j = dgt n w (c + 1) j) → P_X0_nextWay Y 9 [(0, .ref 25), (1, .int (nI n)), (2, .int (xB (cy = true))), (3, .int (nI i))] [] M' := by
    intro i
    induction i with
    | zero =>
      intro cy D M' hi hF hC hup hcy hno
      refine PW.iload_n (pc := 9) dX0_nextWay_9 rfl ?_
      refine PW.if_le (pc := 10) (tgt := 100) dX0_nextWay_10 (by decide) (fun _ => ?_) (fun c => absurd ((Int32.le_refl _)) c)
      refine PW.vret (pc := 100) hY ?_ dX0_nextWay_100
      refine x_rv ⟨hF, hC.1, hC.2.1, fun j hj => ?_, fun s hs => ?_⟩
      all_goals
        have hall : ∀ j, j < w → D j = dgt n w (c + 1) j := by
          intro j hj
          cases cy with
          | false =>
            rcases Nat.eq_zero_or_pos j with rfl | h
            · exact hno rfl 0 (Nat.le_refl _)
            · exact hup j h hj
          | true =>
            have h1 := (hcy rfl).2
            rw [Nat.sub_zero] at h1
            have h2 : (c + 1) % n ^ (w - 1) = c + 1 := Nat.mod_eq_of_lt hc
            omega
      · rw [hC.2.2.1 j hj, hall j hj]
      · rw [hC.2.2.2 s hs, crS_congr hall]
    | succ i ih =>
      intro cy D M' hi hF hC hup hcy hno
      cases cy with
      | false =>
        refine PW.iload_n (pc := 9) dX0_nextWay_9 rfl ?_
        refine PW.if_le (pc := 10) (tgt := 100) dX0_nextWay_10 (by decide) (fun c => absurd c ((nI_nle (by omega) (by omega)))) (fun _ => ?_)
        refine PW.iload_n (pc := 13) dX0_nextWay_13 rfl ?_
        refine PW.if_eq (pc := 14) (tgt := 100) dX0_nextWay_14 (by decide) (fun _ => ?_) (fun c => absurd ((by decide)) c)
        refine PW.vret (pc := 100) hY ?_ dX0_nextWay_100
        have hall : ∀ j, j < w → D j = dgt n w (c + 1) j := by
          intro j hj
          rcases Nat.lt_or_ge (i + 1) j with h | h
          · exact hup j h hj
          · exact hno rfl j h
        refine x_rv ⟨hF, hC.1, hC.2.1, fun j hj => ?_, fun s hs => ?_⟩
        · rw [hC.2.2.1 j hj, hall j hj]
        · rw [hC.2.2.2 s hs, crS_congr hall]
      | true =>
        obtain ⟨hold, hdv⟩ := hcy rfl
        have hDi : D (i + 1) = dgt n w c (i + 1) := hold _ (Nat.le_refl _)
        have hDn : D (i + 1) < n := by rw [hDi]; exact dgt_lt hn
        have hnew : dgt n w (c + 1) (i + 1) = if D (i + 1) + 1 = n then 0 else D (i + 1) + 1 := by
          rw [hDi]; exact dig_new hn hdv
        have hnl : dgt n w (c + 1) (i + 1) < n := dgt_lt hn
        have hwk := hk (i + 1) hi
        have e27 : M'.1 27 (i + 1) = nI (wk (i + 1)) := hC.2.1 _ hi
        have e28 : M'.1 28 (i + 1) = nI (D (i + 1)) := hC.2.2.1 _ hi
        -- behind the loop's turn
        have turn : ∀ (M2 : xM) (cy2 : Bool), (∀ q, q ≠ 28 → q ≠ 30 → M2.1 q = M.1 q) → M2.1 28 = upd (M'.1 28) (i + 1) (nI (dgt n w (c + 1) (i + 1))) → (∀ s, s < 3 → M2.1 30 s = nI (crS (fun j => if j = i + 1 then dgt n w (c + 1) j else D j) wk w s)) → (cy2 = true ↔ D (i + 1) + 1 = n) → P_X0_nextWay Y 94 [(0, .ref 25), (1, .int (nI n)), (2, .int (xB (cy2 = true))), (3, .int (nI (i + 1)))] [] M2 := by
          intro M2 cy2 g1 g2 g3 g4
          refine PW.iinc (pc := 94) dX0_nextWay_94 rfl (x_dec1 i) (by decide) rfl ?_
          refine PW.goto (pc := 97) (tgt := 9) dX0_nextWay_97 (by decide) ?_
          refine PW.st rfl rfl rfl (ih cy2 (fun j => if j = i + 1 then dgt n w (c + 1) j else D j) M2 (by omega) g1 ⟨?_, ?_, ?_, g3⟩ ?_ ?_ ?_)
          · rw [g1 25 (by decide) (by decide), ← hF 25 (by decide) (by decide)]; exact hC.1
          · intro j hj
            rw [g1 27 (by decide) (by decide), ← hF 27 (by decide) (by decide)]; exact hC.2.1 j hj
          · intro j hj
            show M2.1 28 j = nI (if j = i + 1 then dgt n w (c + 1) j else D j)
            rw [g2, upd]
            by_cases e : j = i + 1
            · subst e; rw [if_pos rfl, if_pos rfl]
            · rw [if_neg e, if_neg e]; exact hC.2.2.1 j hj
          · intro j hj1 hj2
            by_cases e : j = i + 1
            · exact if_pos e
            · rw [if_neg e]; exact hup j (by omega) hj2
          · intro q
            refine ⟨fun j hj => ?_, ?_⟩
            · rw [if_neg (by omega)]; exact hold j (by omega)
            · have h1 := g4.mp q
              rw [hDi] at h1
              have := pow_mod_up hn hdv h1
              rw [show w - 1 - (i + 1) + 1 = w - 1 - i by omega] at this
              exact this
          · intro q j hj
            have h1 : ¬ D (i + 1) + 1 = n := fun z => by rw [g4.mpr z] at q; cases q
            rw [if_neg (by omega), hold j (by omega)]
            rw [hDi] at h1
            unfold dgt
            rw [dig_stay hn hdv h1 (show w - 1 - (i + 1) < w - 1 - j by omega)]
        have sums : ∀ s, s < 3 → (upd (upd (M'.1 30) (D (i + 1)) (M'.1 30 (D (i + 1)) - nI (wk (i + 1)))) (dgt n w (c + 1) (i + 1)) (upd (M'.1 30) (D (i + 1)) (M'.1 30 (D (i + 1)) - nI (wk (i + 1))) (dgt n w (c + 1) (i + 1)) + nI (wk (i + 1)))) s = nI (crS (fun j => if j = i + 1 then dgt n w (c + 1) j else D j) wk w s) := by
          intro s hs
          have h1 := crS_upd (D := D) (E := fun j => if j = i + 1 then dgt n w (c + 1) j else D j) (wk := wk) (w := w) (i := i + 1) (s := s) hi (fun j hj => if_neg hj)
          simp only [if_true] at h1
          generalize dgt n w (c + 1) (i + 1) = E at *
          generalize D (i + 1) = F at *
          have hs30 := hC.2.2.2 s hs
          unfold upd
          by_cases a : s = E
          · subst a
            rw [if_pos rfl] at h1 ⊢
            by_cases b : s = F
            · subst b
              rw [if_pos rfl, hs30]
              rw [if_pos rfl] at h1
              exact i32_mv h1
            · rw [if_neg b, hs30]
              rw [if_neg (show ¬ F = s from fun q => b q.symm)] at h1
              rw [nI_add]; congr 1; omega
          · rw [if_neg a]
            rw [if_neg (show ¬ E = s from fun q => a q.symm)] at h1
            by_cases b : s = F
            · subst b
              rw [if_pos rfl, hs30]
              rw [if_pos rfl] at h1
              rw [show crS D wk w s = crS (fun j => if j = i + 1 then dgt n w (c + 1) j else D j) wk w s + wk (i + 1) by omega, ← nI_add, Int32.sub_eq_add_neg, Int32.add_assoc, Int32.add_right_neg, Int32.add_zero]
            · rw [if_neg b, hs30]
              rw [if_neg (show ¬ F = s from fun q => b q.symm)] at h1
              congr 1; omega
        refine PW.iload_n (pc := 9) dX0_nextWay_9 rfl ?_
        refine PW.if_le (pc := 10) (tgt := 100) dX0_nextWay_10 (by decide) (fun c => absurd c ((nI_nle (by omega) (by omega)))) (fun _ => ?_)
        refine PW.iload_n (pc := 13) dX0_nextWay_13 rfl ?_
        refine PW.if_eq (pc := 14) (tgt := 100) dX0_nextWay_14 (by decide) (fun c => absurd c ((by decide))) (fun _ => ?_)
        refine PW.aload_n (pc := 17) dX0_nextWay_17 rfl ?_
        refine gf_X0_24 (pc := 18) dX0_nextWay_18 ?_
        refine PW.aload_n (pc := 21) dX0_nextWay_21 rfl ?_
        refine gf_X0_18 (pc := 22) dX0_nextWay_22 ?_
        refine PW.iload_n (pc := 25) dX0_nextWay_25 rfl ?_
        refine PW.ialdN (pc := 26) rfl rfl (by omega) (by decide) dX0_nextWay_26 ?_
        refine PW.dup2 (pc := 27) dX0_nextWay_27 rfl rfl ?_
        refine PW.ialdN (pc := 28) rfl e28 (by omega) (by decide) dX0_nextWay_28 ?_
        refine PW.aload_n (pc := 29) dX0_nextWay_29 rfl ?_
        refine gf_X0_15 (pc := 30) dX0_nextWay_30 ?_
        refine PW.iload_n (pc := 33) dX0_nextWay_33 rfl ?_
        refine PW.ialdN (pc := 34) rfl rfl (by omega) (by decide) dX0_nextWay_34 ?_
        refine PW.isub (pc := 35) dX0_nextWay_35 ?_
        refine PW.iastN (pc := 36) rfl e28 (by omega) (by decide) dX0_nextWay_36 ?_
        refine PW.aload_n (pc := 37) dX0_nextWay_37 rfl ?_
        refine gf_X0_18 (pc := 38) dX0_nextWay_38 ?_
        refine PW.iload_n (pc := 41) dX0_nextWay_41 rfl ?_
        refine PW.dup2 (pc := 42) dX0_nextWay_42 rfl rfl ?_
        refine PW.ialdN (pc := 43) rfl rfl (by omega) (by decide) dX0_nextWay_43 ?_
        refine PW.iconst (pc := 44) (v := nI 1) dX0_nextWay_44 (by decide) ?_
        refine PW.iadd (pc := 45) dX0_nextWay_45 ?_
        refine PW.iastN (pc := 46) rfl rfl (by omega) (by decide) dX0_nextWay_46 ?_
        rw [show (xup M' 30 (D (i + 1)) (M'.1 30 (D (i + 1)) - M'.1 27 (i + 1))).1 28 (i + 1) + nI 1 = nI (D (i + 1) + 1) by simp [xup_1, e28, nI_add]]
        refine PW.aload_n (pc := 47) dX0_nextWay_47 rfl ?_
        refine gf_X0_18 (pc := 48) dX0_nextWay_48 ?_
        refine PW.iload_n (pc := 51) dX0_nextWay_51 rfl ?_
        refine PW.ialdN (pc := 52) rfl rfl (by omega) (by decide) dX0_nextWay_52 ?_
        refine PW.iload_n (pc := 53) dX0_nextWay_53 rfl ?_
        rw [show (xup (xup M' 30 (D (i + 1)) (M'.1 30 (D (i + 1)) - M'.1 27 (i + 1))) 28 (i + 1) (nI (D (i + 1) + 1))).1 28 (i + 1) = nI (D (i + 1) + 1) by simp [xup_1]]
        have fin : ∀ (M3 : xM) (cy2 : Bool), (∀ q, q ≠ 28 → q ≠ 30 → M3.1 q = M.1 q) → M3.1 28 = upd (M'.1 28) (i + 1) (nI (dgt n w (c + 1) (i + 1))) → M3.1 30 = upd (M'.1 30) (D (i + 1)) (M'.1 30 (D (i + 1)) - nI (wk (i + 1))) → (cy2 = true ↔ D (i + 1) + 1 = n) → P_X0_nextWay Y 74 [(0, .ref 25), (1, .int (nI n)), (2, .int (xB (cy2 = true))), (3, .int (nI (i + 1)))] [] M3 := by
          intro M3 cy2 g1 g2 g3 g4
          have e28' : M3.1 28 (i + 1) = nI (dgt n w (c + 1) (i + 1)) := by rw [g2, upd, if_pos rfl]
          refine PW.aload_n (pc := 74) dX0_nextWay_74 rfl ?_
          refine gf_X0_24 (pc := 75) dX0_nextWay_75 ?_
          refine PW.aload_n (pc := 78) dX0_nextWay_78 rfl ?_
          refine gf_X0_18 (pc := 79) dX0_nextWay_79 ?_
          refine PW.iload_n (pc := 82) dX0_nextWay_82 rfl ?_
          refine PW.ialdN (pc := 83) rfl rfl (by omega) (by decide) dX0_nextWay_83 ?_
          refine PW.dup2 (pc := 84) dX0_nextWay_84 rfl rfl ?_
          refine PW.ialdN (pc := 85) rfl e28' (by omega) (by decide) dX0_nextWay_85 ?_
          refine PW.aload_n (pc := 86) dX0_nextWay_86 rfl ?_
          refine gf_X0_15 (pc := 87) dX0_nextWay_87 ?_
          refine PW.iload_n (pc := 90) dX0_nextWay_90 rfl ?_
          refine PW.ialdN (pc := 91) rfl rfl (by omega) (by decide) dX0_nextWay_91 ?_
          refine PW.iadd (pc := 92) dX0_nextWay_92 ?_
          refine PW.iastN (pc := 93) rfl e28' (by omega) (by decide) dX0_nextWay_93 ?_
          refine PW.st rfl rfl rfl (turn _ cy2 ?_ ?_ ?_ g4)
          · intro q a b
            funext j
            simp only [xup_1, b, false_and, if_false]
            rw [g1 q a b]
          · funext j
            simp only [xup_1]
            rw [if_neg (by omega), g2]
          · intro s hs
            rw [← sums s hs, g1 27 (by decide) (by decide), ← hF 27 (by decide) (by decide), e27]
            simp only [xup_1, g3, true_and]
            rfl
        refine PW.icmp_ne (pc := 54) (tgt := 61) dX0_nextWay_54 (by decide) (fun c_54 => ?_) (fun c_54 => ?_)
        · rw [nI_eq (by omega) (by omega)] at c_54
          refine PW.iconst (pc := 61) (v := nI 0) dX0_nextWay_61 (by decide) ?_
          refine PW.istore_n (pc := 62) (i := 2) dX0_nextWay_62 rfl (by decide) rfl ?_
          refine PW.iload_n (pc := 63) dX0_nextWay_63 rfl ?_
          refine PW.if_eq (pc := 64) (tgt := 74) dX0_nextWay_64 (by decide) (fun _ => ?_) (fun c => absurd (rfl) c)
          refine PW.st rfl rfl rfl (fin _ false ?_ ?_ ?_ ⟨fun q => (Bool.noConfusion q), fun q => absurd q c_54⟩)
          · intro q a b
            funext j
            simp only [xup_1, a, b, false_and, if_false]
            rw [hF q a b]
          · funext j
            rw [hnew, if_neg c_54]
            simp only [xup_1, upd, true_and]
            rw [if_neg (show ¬ ((28 : Nat) = 30 ∧ j = D (i + 1)) by omega)]
          · funext j
            rw [e27]
            simp only [xup_1, upd, true_and]
            rw [if_neg (by omega)]
        · rw [nI_eq (by omega) (by omega)] at c_54
          refine PW.iconst (pc := 57) (v := nI 1) dX0_nextWay_57 (by decide) ?_
          refine PW.goto (pc := 58) (tgt := 62) dX0_nextWay_58 (by decide) ?_
          refine PW.istore_n (pc := 62) (i := 2) dX0_nextWay_62 rfl (by decide) rfl ?_
          refine PW.iload_n (pc := 63) dX0_nextWay_63 rfl ?_
          refine PW.if_eq (pc := 64) (tgt := 74) dX0_nextWay_64 (by decide) (fun c => absurd c ((by decide))) (fun _ => ?_)
          refine PW.aload_n (pc := 67) dX0_nextWay_67 rfl ?_
          refine gf_X0_18 (pc := 68) dX0_nextWay_68 ?_
          refine PW.iload_n (pc := 71) dX0_nextWay_71 rfl ?_
          refine PW.iconst (pc := 72) (v := nI 0) dX0_nextWay_72 (by decide) ?_
          refine PW.iastN (pc := 73) rfl rfl (by omega) (by decide) dX0_nextWay_73 ?_
          refine PW.st rfl rfl rfl (fin _ true ?_ ?_ ?_ ⟨fun _ => c_54, fun _ => rfl⟩)
          · intro q a b
            funext j
            simp only [xup_1, a, b, false_and, if_false]
            rw [hF q a b]
          · funext j
            rw [hnew, if_pos c_54]
            simp only [xup_1, upd, true_and]
            by_cases e : j = i + 1
            · rw [if_pos e, if_pos e]
            · rw [if_neg e, if_neg e, if_neg e, if_neg (show ¬ ((28 : Nat) = 30 ∧ j = D (i + 1)) by omega)]
          · funext j
            rw [e27]
            simp only [xup_1, upd, true_and]
            rw [if_neg (by omega), if_neg (by omega)]
  refine PW.iconst (pc := 0) (v := nI 1) dX0_nextWay_0 (by decide) ?_
  refine PW.istore_n (pc := 1) (i := 2) dX0_nextWay_1 rfl (by decide) rfl ?_
  refine PW.aload_n (pc := 2) dX0_nextWay_2 rfl ?_
  refine gf_X0_27 (pc := 3) dX0_nextWay_3 ?_
  refine PW.iconst (pc := 6) (v := nI 1) dX0_nextWay_6 (by decide) ?_
  refine PW.isub (pc := 7) dX0_nextWay_7 ?_
  rw [hM.1, pk_sub hw1]
  refine PW.istore_n (pc := 8) (i := 3) dX0_nextWay_8 rfl (by decide) rfl ?_
  refine PW.st rfl rfl rfl (loop (w - 1) true (dgt n w c) M (by omega) (fun _ _ _ => rfl) hM (fun j h1 h2 => by omega) (fun _ => ⟨fun _ _ => rfl, ?_⟩) (fun q => Bool.noConfusion q))
  rw [show w - 1 - (w - 1) = 0 by omega, Nat.pow_zero, Nat.mod_one]
