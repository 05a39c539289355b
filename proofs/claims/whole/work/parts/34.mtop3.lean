/-! the reference: gusts, loads, counts, the digest -/
theorem topF_le {P : Nat → Bool} : ∀ k, topF P k ≤ k
  | 0 => Nat.le_refl _
  | k + 1 => by rw [topF]; have := topF_le (P := P) k; split <;> omega
set_option maxHeartbeats 4000000 in
set_option maxRecDepth 20000 in
theorem c_X7_bears {f : Int32} {n : Nat} {M : xM} (hn : M.1 32 6 = nI n) (h10 : n ≤ 10) (hC : TC (mv M)) : K_X7_bears [.ref 32, .int f] M (xRi (fun x u => (x = if okF f n then nI (topF (fun v => decide (stP (M.1 46) (M.1 51) (M.1 45) (M.1 47) (na f) (nI v))) 60) else (-2)) ∧ u = M)) := by
  refine xMet.of (own := RX7) rfl (by decide) (Nat.le_of_ble_eq_true rfl) rfl (fun Y hY => ?_)
  have bad : ¬ okF f n → P_X7_bears Y 8 [] [] M := by
    intro h
    refine PW.bipush (pc := 8) (v := (-2)) dX7_bears_8 (by decide) ?_
    refine PW.iret (pc := 10) hY ?_ dX7_bears_10
    refine x_ri ?_
    rw [if_neg h]; exact ⟨rfl, rfl⟩
  refine PW.aload_n (pc := 0) dX7_bears_0 rfl ?_
  refine PW.iload_n (pc := 1) dX7_bears_1 rfl ?_
  refine cs_X7_99 (pc := 2) hY.rm (c_X7_isField hn h10) ⟨Nat.le_of_ble_eq_true rfl, Nat.le_of_ble_eq_true rfl⟩ dX7_bears_2 (Nat.le_of_ble_eq_true rfl) (fun x_2 u_2 h_2 => ?_)
  obtain ⟨rfl, hu_2⟩ := h_2
  replace hu_2 := hu_2.symm
  subst hu_2
  refine PW.if_ne (pc := 5) (tgt := 11) dX7_bears_5 (by decide) (fun c_5 => ?_) (fun c_5 => PW.st rfl rfl rfl (bad (bool_f c_5)))
  have G := bool_t c_5
  obtain ⟨f1, f2⟩ := okF_nat G h10
  clear c_5 bad
  revert f1 f2
  generalize na f = fN at *
  intro f1 f2
  subst f1
  have zero : stP (M.1 46) (M.1 51) (M.1 45) (M.1 47) fN (nI 0) := by
    obtain ⟨⟨s1, s2⟩, -, ⟨k1, k2⟩⟩ := hC.1 fN (by omega)
    have hso : M.1 45 fN = nI (na (M.1 45 fN)) := s1
    have hs3 : na (M.1 45 fN) ≤ 3 := s2
    have hsk : M.1 47 fN = nI (na (M.1 47 fN)) := k1
    have hk9 : na (M.1 47 fN) ≤ 999 := k2
    obtain ⟨h1, h2⟩ := hC.2 (na (M.1 45 fN)) (by omega)
    have hho : M.1 51 (na (M.1 45 fN)) = nI (na (M.1 51 (na (M.1 45 fN)))) := h1
    have hh1 : na (M.1 51 (na (M.1 45 fN))) ≤ 1000 := h2
    show nI 0 * nI 0 * M.1 46 fN ≤ M.1 51 (na (M.1 45 fN)) * M.1 47 fN
    rw [show nI 0 * nI 0 = 0 from rfl, Int32.zero_mul, hsk]
    rw [hho, pk_mul]
    refine nI_pos' ?_
    have := Nat.mul_le_mul hh1 hk9
    omega
  have loop : ∀ v, v ≤ 60 → topF (fun v => decide (stP (M.1 46) (M.1 51) (M.1 45) (M.1 47) fN (nI v))) v = topF (fun v => decide (stP (M.1 46) (M.1 51) (M.1 45) (M.1 47) fN (nI v))) 60 → P_X7_bears Y 14 [(0, .ref 32), (1, .int (nI fN)), (2, .int (nI v))] [] M := by
    intro v
    induction v with
    | zero =>
      intro _ e
      refine PW.aload_n (pc := 14) dX7_bears_14 rfl ?_
      refine PW.iload_n (pc := 15) dX7_bears_15 rfl ?_
      refine PW.iload_n (pc := 16) dX7_bears_16 rfl ?_
      refine cs_X7_147 (pc := 17) hY.rm (c_X7_doesBear hC (by omega)) ⟨Nat.le_of_ble_eq_true rfl, Nat.le_of_ble_eq_true rfl⟩ dX7_bears_17 (Nat.le_of_ble_eq_true rfl) (fun x_17 u_17 h_17 => ?_)
      obtain ⟨rfl, hu_17⟩ := h_17
      replace hu_17 := hu_17.symm
      subst hu_17
      rw [xB_t zero]
      refine PW.if_ne (pc := 20) (tgt := 29) dX7_bears_20 (by decide) (fun _ => ?_) (fun c => absurd c ((by decide)))
      refine PW.iload_n (pc := 29) dX7_bears_29 rfl ?_
      refine PW.iret (pc := 30) hY ?_ dX7_bears_30
      refine x_ri ?_
      rw [if_pos G, ← e]
      exact ⟨rfl, rfl⟩
    | succ v ih =>
      intro hv e
      refine PW.aload_n (pc := 14) dX7_bears_14 rfl ?_
      refine PW.iload_n (pc := 15) dX7_bears_15 rfl ?_
      refine PW.iload_n (pc := 16) dX7_bears_16 rfl ?_
      refine cs_X7_147 (pc := 17) hY.rm (c_X7_doesBear hC (by omega)) ⟨Nat.le_of_ble_eq_true rfl, Nat.le_of_ble_eq_true rfl⟩ dX7_bears_17 (Nat.le_of_ble_eq_true rfl) (fun x_17 u_17 h_17 => ?_)
      obtain ⟨rfl, hu_17⟩ := h_17
      replace hu_17 := hu_17.symm
      subst hu_17
      refine PW.if_ne (pc := 20) (tgt := 29) dX7_bears_20 (by decide) (fun c_20 => ?_) (fun c_20 => ?_)
      · have k := bool_t c_20
        refine PW.iload_n (pc := 29) dX7_bears_29 rfl ?_
        refine PW.iret (pc := 30) hY ?_ dX7_bears_30
        refine x_ri ?_
        rw [if_pos G, ← e, topF, if_pos (by simp [k])]
        exact ⟨rfl, rfl⟩
      · have k := bool_f c_20
        refine PW.iinc (pc := 23) dX7_bears_23 rfl (x_dec1 v) (by decide) rfl ?_
        refine PW.goto (pc := 26) (tgt := 14) dX7_bears_26 (by decide) ?_
        refine PW.st rfl rfl rfl (ih (by omega) ?_)
        rw [← e, topF, if_neg (by simp [k])]
  refine PW.bipush (pc := 11) (v := nI 60) dX7_bears_11 (by decide) ?_
  refine PW.istore_n (pc := 13) (i := 2) dX7_bears_13 rfl (by decide) rfl ?_
  exact PW.st rfl rfl rfl (loop 60 (Nat.le_refl _) rfl)
set_option maxHeartbeats 4000000 in
set_option maxRecDepth 20000 in
theorem c_X7_gust {d v : Int32} {n : Nat} {M : xM} (hn : M.1 32 6 = nI n) (h10 : n ≤ 10) (hC : TC (mv M)) : K_X7_gust [.ref 32, .int d, .int v] M (xRi (fun x u => (x = if inr d (nI 0) (nI 60) ∧ inr v (nI 0) (nI 60) then nI (bset (guP (M.1 42) (M.1 39) (M.1 40) (M.1 46) (M.1 51) (M.1 45) (M.1 47) d v) n) else (-2)) ∧ u = M)) := by
  refine xMet.of (own := RX7) rfl (by decide) (Nat.le_of_ble_eq_true rfl) rfl (fun Y hY => ?_)
  have bad : ¬ (inr d (nI 0) (nI 60) ∧ inr v (nI 0) (nI 60)) → P_X7_gust Y 17 [] [] M := by
    intro h
    refine PW.bipush (pc := 17) (v := (-2)) dX7_gust_17 (by decide) ?_
    refine PW.iret (pc := 19) hY ?_ dX7_gust_19
    refine x_ri ?_
    rw [if_neg h]; exact ⟨rfl, rfl⟩
  refine PW.iload_n (pc := 0) dX7_gust_0 rfl ?_
  refine cs_X7_95 (pc := 1) hY.rm (c_X7_isDay) ⟨Nat.le_of_ble_eq_true rfl, Nat.le_of_ble_eq_true rfl⟩ dX7_gust_1 (Nat.le_of_ble_eq_true rfl) (fun x_1 u_1 h_1 => ?_)
  obtain ⟨rfl, hu_1⟩ := h_1
  replace hu_1 := hu_1.symm
  subst hu_1
  refine PW.if_eq (pc := 4) (tgt := 17) dX7_gust_4 (by decide) (fun c_4 => PW.st rfl rfl rfl (bad (fun h => bool_f c_4 h.1))) (fun c_4 => ?_)
  refine PW.iload_n (pc := 7) dX7_gust_7 rfl ?_
  refine PW.iconst (pc := 8) (v := nI 0) dX7_gust_8 (by decide) ?_
  refine PW.bipush (pc := 9) (v := nI 60) dX7_gust_9 (by decide) ?_
  refine cs_X7_83 (pc := 11) hY.rm (c_X7_in) ⟨Nat.le_of_ble_eq_true rfl, Nat.le_of_ble_eq_true rfl⟩ dX7_gust_11 (Nat.le_of_ble_eq_true rfl) (fun x_11 u_11 h_11 => ?_)
  obtain ⟨rfl, hu_11⟩ := h_11
  replace hu_11 := hu_11.symm
  subst hu_11
  refine PW.if_ne (pc := 14) (tgt := 20) dX7_gust_14 (by decide) (fun c_14 => ?_) (fun c_14 => PW.st rfl rfl rfl (bad (fun h => bool_f c_14 h.2)))
  have G : inr d (nI 0) (nI 60) ∧ inr v (nI 0) (nI 60) := ⟨bool_t c_4, bool_t c_14⟩
  clear bad c_4 c_14
  generalize hP : guP (M.1 42) (M.1 39) (M.1 40) (M.1 46) (M.1 51) (M.1 45) (M.1 47) d v = P at *
  have loop : ∀ g, g ≤ n → P_X7_gust Y 25 [(0, .ref 32), (1, .int d), (2, .int v), (3, .int (nI (bset P g))), (4, .int (nI g))] [] M := by
    refine x_down ?_ ?_
    · refine PW.iload (pc := 25) dX7_gust_25 rfl ?_
      refine PW.aload_n (pc := 27) dX7_gust_27 rfl ?_
      refine gf_X7_87 (pc := 28) dX7_gust_28 ?_
      refine PW.icmp_ge (pc := 31) (tgt := 93) dX7_gust_31 (by decide) (fun _ => ?_) (fun c => absurd ((by rw [hn]; exact nI_le (Nat.le_refl _) (by omega))) c)
      refine PW.iload_n (pc := 93) dX7_gust_93 rfl ?_
      refine PW.iret (pc := 94) hY ?_ dX7_gust_94
      refine x_ri ?_
      rw [if_pos G]
      exact ⟨rfl, rfl⟩
    · intro g hg ih
      have at85 : ∀ w : Nat, w = (if P g = true then 2 ^ g else 0) → P_X7_gust Y 85 [(0, .ref 32), (1, .int d), (2, .int v), (3, .int (nI (bset P g))), (4, .int (nI g))] [.int (nI w), .int (nI (bset P g))] M := by
        intro w hw
        refine PW.ior (pc := 85) dX7_gust_85 ?_
        rw [fa_or, hw]
        refine PW.istore_n (pc := 86) (i := 3) dX7_gust_86 rfl (by decide) rfl ?_
        refine PW.iinc (pc := 87) dX7_gust_87 rfl (x_inc1 _) (by decide) rfl ?_
        refine PW.goto (pc := 90) (tgt := 25) dX7_gust_90 (by decide) ?_
        exact PW.st rfl rfl rfl ih
      have at84 : P g = false → P_X7_gust Y 84 [(0, .ref 32), (1, .int d), (2, .int v), (3, .int (nI (bset P g))), (4, .int (nI g))] [.int (nI (bset P g))] M := by
        intro q
        refine PW.iconst (pc := 84) (v := nI 0) dX7_gust_84 (by decide) ?_
        exact PW.st rfl rfl rfl (at85 0 (by rw [if_neg (by rw [q]; simp)]))
      refine PW.iload (pc := 25) dX7_gust_25 rfl ?_
      refine PW.aload_n (pc := 27) dX7_gust_27 rfl ?_
      refine gf_X7_87 (pc := 28) dX7_gust_28 ?_
      refine PW.icmp_ge (pc := 31) (tgt := 93) dX7_gust_31 (by decide) (fun c => absurd c ((by rw [hn]; exact nI_ge hg (by omega)))) (fun _ => ?_)
      refine PW.iload_n (pc := 34) dX7_gust_34 rfl ?_
      refine PW.aload_n (pc := 35) dX7_gust_35 rfl ?_
      refine gf_X7_37 (pc := 36) dX7_gust_36 ?_
      refine PW.iload (pc := 39) dX7_gust_39 rfl ?_
      refine PW.ialdN (pc := 41) rfl rfl (by omega) (by decide) dX7_gust_41 ?_
      refine PW.iconst (pc := 42) (v := nI 1) dX7_gust_42 (by decide) ?_
      refine PW.icmp_ne (pc := 43) (tgt := 84) dX7_gust_43 (by decide) (fun c_43 => ?_) (fun c_43 => ?_)
      · exact PW.st rfl rfl rfl (at84 (by rw [← hP]; simp [guP, c_43]))
      · refine PW.iload_n (pc := 46) dX7_gust_46 rfl ?_
        refine PW.aload_n (pc := 47) dX7_gust_47 rfl ?_
        refine gf_X7_28 (pc := 48) dX7_gust_48 ?_
        refine PW.iload (pc := 51) dX7_gust_51 rfl ?_
        refine PW.ialdN (pc := 53) rfl rfl (by omega) (by decide) dX7_gust_53 ?_
        refine PW.aload_n (pc := 54) dX7_gust_54 rfl ?_
        refine gf_X7_31 (pc := 55) dX7_gust_55 ?_
        refine PW.iload (pc := 58) dX7_gust_58 rfl ?_
        refine PW.ialdN (pc := 60) rfl rfl (by omega) (by decide) dX7_gust_60 ?_
        refine cs_X7_83 (pc := 61) hY.rm (c_X7_in) ⟨Nat.le_of_ble_eq_true rfl, Nat.le_of_ble_eq_true rfl⟩ dX7_gust_61 (Nat.le_of_ble_eq_true rfl) (fun x_61 u_61 h_61 => ?_)
        obtain ⟨rfl, hu_61⟩ := h_61
        replace hu_61 := hu_61.symm
        subst hu_61
        refine PW.if_eq (pc := 64) (tgt := 84) dX7_gust_64 (by decide) (fun c_64 => ?_) (fun c_64 => ?_)
        · have k := bool_f c_64
          refine PW.st rfl rfl rfl (at84 (by rw [← hP]; simp only [guP, decide_eq_false_iff_not]; exact fun z => k ⟨z.2.1, z.2.2.1⟩))
        · have k := bool_t c_64
          refine PW.aload_n (pc := 67) dX7_gust_67 rfl ?_
          refine PW.iload (pc := 68) dX7_gust_68 rfl ?_
          refine PW.iload_n (pc := 70) dX7_gust_70 rfl ?_
          refine cs_X7_147 (pc := 71) hY.rm (c_X7_doesBear hC (by omega)) ⟨Nat.le_of_ble_eq_true rfl, Nat.le_of_ble_eq_true rfl⟩ dX7_gust_71 (Nat.le_of_ble_eq_true rfl) (fun x_71 u_71 h_71 => ?_)
          obtain ⟨rfl, hu_71⟩ := h_71
          replace hu_71 := hu_71.symm
          subst hu_71
          refine PW.if_ne (pc := 74) (tgt := 84) dX7_gust_74 (by decide) (fun c_74 => ?_) (fun c_74 => ?_)
          · have k2 := bool_t c_74
            exact PW.st rfl rfl rfl (at84 (by rw [← hP]; simp [guP, k2]))
          · have k2 := bool_f c_74
            refine PW.iconst (pc := 77) (v := nI 1) dX7_gust_77 (by decide) ?_
            refine PW.iload (pc := 78) dX7_gust_78 rfl ?_
            refine PW.ishl (pc := 80) dX7_gust_80 ?_
            rw [x_shl1 (by omega)]
            refine PW.goto (pc := 81) (tgt := 85) dX7_gust_81 (by decide) ?_
            refine PW.st rfl rfl rfl (at85 (2 ^ g) ?_)
            rw [if_pos (by rw [← hP]; simp only [guP, decide_eq_true_eq]; exact ⟨c_43, k.1, k.2, k2⟩)]
  refine PW.iconst (pc := 20) (v := nI 0) dX7_gust_20 (by decide) ?_
  refine PW.istore_n (pc := 21) (i := 3) dX7_gust_21 rfl (by decide) rfl ?_
  refine PW.iconst (pc := 22) (v := nI 0) dX7_gust_22 (by decide) ?_
  refine PW.istore (pc := 23) dX7_gust_23 (by decide) rfl ?_
  exact PW.st rfl rfl rfl (loop 0 (Nat.zero_le _))
set_option maxHeartbeats 4000000 in
set_option maxRecDepth 20000 in
theorem c_X7_loads {d r : Int32} {n : Nat} {M : xM} (hn : M.1 32 6 = nI n) (h10 : n ≤ 10) : K_X7_loads [.ref 32, .int d, .int r] M (xRi (fun x u => (x = if inr d (nI 0) (nI 60) ∧ inr r (nI 1) (nI 100000) then (lds (M.1 42) (M.1 39) (M.1 40) (M.1 43) (M.1 35) d n + r - nI 1) / r else (-2)) ∧ u = M)) := by
  refine xMet.of (own := RX7) rfl (by decide) (Nat.le_of_ble_eq_true rfl) rfl (fun Y hY => ?_)
  have bad : ¬ (inr d (nI 0) (nI 60) ∧ inr r (nI 1) (nI 100000)) → P_X7_loads Y 17 [] [] M := by
    intro h
    refine PW.bipush (pc := 17) (v := (-2)) dX7_loads_17 (by decide) ?_
    refine PW.iret (pc := 19) hY ?_ dX7_loads_19
    refine x_ri ?_
    rw [if_neg h]; exact ⟨rfl, rfl⟩
  refine PW.iload_n (pc := 0) dX7_loads_0 rfl ?_
  refine cs_X7_95 (pc := 1) hY.rm (c_X7_isDay) ⟨Nat.le_of_ble_eq_true rfl, Nat.le_of_ble_eq_true rfl⟩ dX7_loads_1 (Nat.le_of_ble_eq_true rfl) (fun x_1 u_1 h_1 => ?_)
  obtain ⟨rfl, hu_1⟩ := h_1
  replace hu_1 := hu_1.symm
  subst hu_1
  refine PW.if_eq (pc := 4) (tgt := 17) dX7_loads_4 (by decide) (fun c_4 => PW.st rfl rfl rfl (bad (fun h => bool_f c_4 h.1))) (fun c_4 => ?_)
  refine PW.iload_n (pc := 7) dX7_loads_7 rfl ?_
  refine PW.iconst (pc := 8) (v := nI 1) dX7_loads_8 (by decide) ?_
  refine PW.ldc (pc := 9) (v := nI 100000) (by decide +kernel) dX7_loads_9 ?_
  refine cs_X7_83 (pc := 11) hY.rm (c_X7_in) ⟨Nat.le_of_ble_eq_true rfl, Nat.le_of_ble_eq_true rfl⟩ dX7_loads_11 (Nat.le_of_ble_eq_true rfl) (fun x_11 u_11 h_11 => ?_)
  obtain ⟨rfl, hu_11⟩ := h_11
  replace hu_11 := hu_11.symm
  subst hu_11
  refine PW.if_ne (pc := 14) (tgt := 20) dX7_loads_14 (by decide) (fun c_14 => ?_) (fun c_14 => PW.st rfl rfl rfl (bad (fun h => bool_f c_14 h.2)))
  have G : inr d (nI 0) (nI 60) ∧ inr r (nI 1) (nI 100000) := ⟨bool_t c_4, bool_t c_14⟩
  have r0 : ¬ r = 0 := by
    intro q
    have h := G.2.1
    rw [q] at h
    exact absurd h (by decide)
  clear bad c_4 c_14
  refine x_loop (n := n) (P := fun g => P_X7_loads Y 25 [(0, .ref 32), (1, .int d), (2, .int r), (3, .int (lds (M.1 42) (M.1 39) (M.1 40) (M.1 43) (M.1 35) d g)), (4, .int (nI g))] [] M) (fun h => ?_) ?_ (fun g hg ih => ?_)
  · refine PW.iconst (pc := 20) (v := nI 0) dX7_loads_20 (by decide) ?_
    refine PW.istore_n (pc := 21) (i := 3) dX7_loads_21 rfl (by decide) rfl ?_
    refine PW.iconst (pc := 22) (v := nI 0) dX7_loads_22 (by decide) ?_
    refine PW.istore (pc := 23) dX7_loads_23 (by decide) rfl ?_
    exact PW.st rfl rfl rfl h
  · refine PW.iload (pc := 25) dX7_loads_25 rfl ?_
    refine PW.aload_n (pc := 27) dX7_loads_27 rfl ?_
    refine gf_X7_87 (pc := 28) dX7_loads_28 ?_
    refine PW.icmp_ge (pc := 31) (tgt := 90) dX7_loads_31 (by decide) (fun _ => ?_) (fun c => absurd ((by rw [hn]; exact nI_le (Nat.le_refl _) (by omega))) c)
    refine PW.iload_n (pc := 90) dX7_loads_90 rfl ?_
    refine PW.iload_n (pc := 91) dX7_loads_91 rfl ?_
    refine PW.iadd (pc := 92) dX7_loads_92 ?_
    refine PW.iconst (pc := 93) (v := nI 1) dX7_loads_93 (by decide) ?_
    refine PW.isub (pc := 94) dX7_loads_94 ?_
    refine PW.iload_n (pc := 95) dX7_loads_95 rfl ?_
    refine PW.idiv (pc := 96) dX7_loads_96 r0 ?_
    refine PW.iret (pc := 97) hY ?_ dX7_loads_97
    refine x_ri ?_
    rw [if_pos G]
    exact ⟨rfl, rfl⟩
  · by_cases hw : wkP (M.1 42) (M.1 39) (M.1 40) d g
    · refine x_loop (n := 6) (P := fun t => P_X7_loads Y 37 [(0, .ref 32), (1, .int d), (2, .int r), (3, .int (lds (M.1 42) (M.1 39) (M.1 40) (M.1 43) (M.1 35) d g + wgt (M.1 43) (M.1 35) g t)), (4, .int (nI g)), (5, .int (nI t))] [] M) (fun h => ?_) ?_ (fun t ht ih2 => ?_)
      · refine PW.iload (pc := 25) dX7_loads_25 rfl ?_
        refine PW.aload_n (pc := 27) dX7_loads_27 rfl ?_
        refine gf_X7_87 (pc := 28) dX7_loads_28 ?_
        refine PW.icmp_ge (pc := 31) (tgt := 90) dX7_loads_31 (by decide) (fun c => absurd c ((by rw [hn]; exact nI_ge hg (by omega)))) (fun _ => ?_)
        refine PW.iconst (pc := 34) (v := nI 0) dX7_loads_34 (by decide) ?_
        refine PW.istore (pc := 35) dX7_loads_35 (by decide) rfl ?_
        refine PW.st rfl rfl ?_ h
        rw [wgt, show nI 0 = 0 from rfl, Int32.add_zero]; rfl
      · refine PW.iload (pc := 37) dX7_loads_37 rfl ?_
        refine PW.bipush (pc := 39) (v := nI 6) dX7_loads_39 (by decide) ?_
        refine PW.icmp_ge (pc := 41) (tgt := 84) dX7_loads_41 (by decide) (fun _ => ?_) (fun c => absurd ((nI_le (Nat.le_refl _) (by omega))) c)
        refine PW.iinc (pc := 84) dX7_loads_84 rfl (x_inc1 _) (by decide) rfl ?_
        refine PW.goto (pc := 87) (tgt := 25) dX7_loads_87 (by decide) ?_
        refine PW.st rfl rfl ?_ ih
        rw [lds, if_pos hw]; rfl
      · refine PW.iload (pc := 37) dX7_loads_37 rfl ?_
        refine PW.bipush (pc := 39) (v := nI 6) dX7_loads_39 (by decide) ?_
        refine PW.icmp_ge (pc := 41) (tgt := 84) dX7_loads_41 (by decide) (fun c => absurd c ((nI_ge ht (by omega)))) (fun _ => ?_)
        refine PW.aload_n (pc := 44) dX7_loads_44 rfl ?_
        refine PW.iload (pc := 45) dX7_loads_45 rfl ?_
        refine PW.iload_n (pc := 47) dX7_loads_47 rfl ?_
        refine cs_X7_154 (pc := 48) hY.rm (c_X7_isOfDay (show g < 10 by omega)) ⟨Nat.le_of_ble_eq_true rfl, Nat.le_of_ble_eq_true rfl⟩ dX7_loads_48 (Nat.le_of_ble_eq_true rfl) (fun x_48 u_48 h_48 => ?_)
        obtain ⟨rfl, hu_48⟩ := h_48
        replace hu_48 := hu_48.symm
        subst hu_48
        rw [xB_t hw]
        refine PW.if_eq (pc := 51) (tgt := 84) dX7_loads_51 (by decide) (fun c => absurd c ((by decide))) (fun _ => ?_)
        refine PW.iload_n (pc := 54) dX7_loads_54 rfl ?_
        refine PW.aload_n (pc := 55) dX7_loads_55 rfl ?_
        refine gf_X7_40 (pc := 56) dX7_loads_56 ?_
        refine PW.bipush (pc := 59) (v := nI 6) dX7_loads_59 (by decide) ?_
        refine PW.iload (pc := 61) dX7_loads_61 rfl ?_
        refine PW.imul (pc := 63) dX7_loads_63 ?_
        refine PW.iload (pc := 64) dX7_loads_64 rfl ?_
        refine PW.iadd (pc := 66) dX7_loads_66 ?_
        refine PW.ialdN (pc := 67) rfl (x_cell g t) (by omega) (by decide) dX7_loads_67 ?_
        refine PW.aload_n (pc := 68) dX7_loads_68 rfl ?_
        refine gf_X7_16 (pc := 69) dX7_loads_69 ?_
        refine PW.iload (pc := 72) dX7_loads_72 rfl ?_
        refine PW.ialdN (pc := 74) rfl rfl (by omega) (by decide) dX7_loads_74 ?_
        refine PW.imul (pc := 75) dX7_loads_75 ?_
        refine PW.iadd (pc := 76) dX7_loads_76 ?_
        refine PW.istore_n (pc := 77) (i := 3) dX7_loads_77 rfl (by decide) rfl ?_
        refine PW.iinc (pc := 78) dX7_loads_78 rfl (x_inc1 _) (by decide) rfl ?_
        refine PW.goto (pc := 81) (tgt := 37) dX7_loads_81 (by decide) ?_
        refine PW.st rfl rfl ?_ ih2
        rw [wgt, ← Int32.add_assoc]; rfl
    · refine PW.iload (pc := 25) dX7_loads_25 rfl ?_
      refine PW.aload_n (pc := 27) dX7_loads_27 rfl ?_
      refine gf_X7_87 (pc := 28) dX7_loads_28 ?_
      refine PW.icmp_ge (pc := 31) (tgt := 90) dX7_loads_31 (by decide) (fun c => absurd c ((by rw [hn]; exact nI_ge hg (by omega)))) (fun _ => ?_)
      refine PW.iconst (pc := 34) (v := nI 0) dX7_loads_34 (by decide) ?_
      refine PW.istore (pc := 35) dX7_loads_35 (by decide) rfl ?_
      refine PW.iload (pc := 37) dX7_loads_37 rfl ?_
      refine PW.bipush (pc := 39) (v := nI 6) dX7_loads_39 (by decide) ?_
      refine PW.icmp_ge (pc := 41) (tgt := 84) dX7_loads_41 (by decide) (fun c => absurd c ((nI_ge (by omega) (by omega)))) (fun _ => ?_)
      refine PW.aload_n (pc := 44) dX7_loads_44 rfl ?_
      refine PW.iload (pc := 45) dX7_loads_45 rfl ?_
      refine PW.iload_n (pc := 47) dX7_loads_47 rfl ?_
      refine cs_X7_154 (pc := 48) hY.rm (c_X7_isOfDay (show g < 10 by omega)) ⟨Nat.le_of_ble_eq_true rfl, Nat.le_of_ble_eq_true rfl⟩ dX7_loads_48 (Nat.le_of_ble_eq_true rfl) (fun x_48 u_48 h_48 => ?_)
      obtain ⟨rfl, hu_48⟩ := h_48
      replace hu_48 := hu_48.symm
      subst hu_48
      rw [xB_f hw]
      refine PW.if_eq (pc := 51) (tgt := 84) dX7_loads_51 (by decide) (fun _ => ?_) (fun c => absurd (rfl) c)
      refine PW.iinc (pc := 84) dX7_loads_84 rfl (x_inc1 _) (by decide) rfl ?_
      refine PW.goto (pc := 87) (tgt := 25) dX7_loads_87 (by decide) ?_
      refine PW.st rfl rfl ?_ ih
      rw [lds, if_neg hw]; rfl
/-- days of rain -/
def rdy (r : Nat → Int32) : Nat → Nat
  | 0 => 0
  | d + 1 => rdy r d + (if r d = 0 then 0 else 1)
theorem rdy_le (r : Nat → Int32) : ∀ k, rdy r k ≤ k
  | 0 => Nat.le_refl _
  | k + 1 => by rw [rdy]; have := rdy_le r k; split <;> omega
def totm (M : xM) (n : Nat) : Nat → Int32
  | 0 => M.1 32 6
  | 1 => nI (pcn (TK (mv M) n) 10)
  | 2 => M.1 32 18
  | 3 => nI (rdy (M.1 48) 61)
  | 4 => gsum (M.1 38) 6
  | _ => M.1 32 17
set_option maxHeartbeats 4000000 in
set_option maxRecDepth 20000 in
theorem c_X7_count {w : Int32} {n : Nat} {M : xM} (hn : M.1 32 6 = nI n) (h10 : n ≤ 10) : K_X7_count [.ref 32, .int w] M (xRi (fun x u => (x = if inr w (nI 0) (nI 5) then totm M n (na w) else (-2)) ∧ u = M)) := by
  refine xMet.of (own := RX7) rfl (by decide) (Nat.le_of_ble_eq_true rfl) rfl (fun Y hY => ?_)
  refine PW.iconst (pc := 0) (v := nI 0) dX7_count_0 (by decide) ?_
  refine PW.istore_n (pc := 1) (i := 2) dX7_count_1 rfl (by decide) rfl ?_
  refine PW.iload_n (pc := 2) dX7_count_2 rfl ?_
  by_cases G : inr w (nI 0) (nI 5)
  · have w1 := x_pos G.1
    have w2 := na_le G.1 G.2 (by omega)
    revert w1 w2
    generalize na w = wN at *
    intro w1 w2
    subst w1
    have e : (nI wN).toInt = (wN : Int) := nI_toInt (by omega)
    rcases (show wN = 0 ∨ wN = 1 ∨ wN = 2 ∨ wN = 3 ∨ wN = 4 ∨ wN = 5 by omega) with rfl | rfl | rfl | rfl | rfl | rfl
    · refine PW.tswIn (pc := 3) (tgt := 40) dX7_count_3 (by rw [e]; decide) (by rw [e]; decide) (by rw [e]; rfl) (by decide) ?_
      refine PW.aload_n (pc := 40) dX7_count_40 rfl ?_
      refine gf_X7_87 (pc := 41) dX7_count_41 ?_
      refine PW.iret (pc := 44) hY ?_ dX7_count_44
      refine x_ri ?_
      rw [if_pos G]; exact ⟨rfl, rfl⟩
    · refine PW.tswIn (pc := 3) (tgt := 45) dX7_count_3 (by rw [e]; decide) (by rw [e]; decide) (by rw [e]; rfl) (by decide) ?_
      refine PW.aload_n (pc := 45) dX7_count_45 rfl ?_
      refine PW.iconst (pc := 46) (v := nI 1) dX7_count_46 (by decide) ?_
      refine cs_X7_109 (pc := 47) hY.rm (c_X7_all hn h10) ⟨Nat.le_of_ble_eq_true rfl, Nat.le_of_ble_eq_true rfl⟩ dX7_count_47 (Nat.le_of_ble_eq_true rfl) (fun x_47 u_47 h_47 => ?_)
      obtain ⟨rfl, hu_47⟩ := h_47
      replace hu_47 := hu_47.symm
      subst hu_47
      refine cs_X7_135 (pc := 50) hY.rm (c_X7_many (xset_lt _ _ h10)) ⟨Nat.le_of_ble_eq_true rfl, Nat.le_of_ble_eq_true rfl⟩ dX7_count_50 (Nat.le_of_ble_eq_true rfl) (fun x_50 u_50 h_50 => ?_)
      obtain ⟨rfl, hu_50⟩ := h_50
      replace hu_50 := hu_50.symm
      subst hu_50
      refine PW.iret (pc := 53) hY ?_ dX7_count_53
      refine x_ri ?_
      rw [if_pos G]; exact ⟨rfl, rfl⟩
    · refine PW.tswIn (pc := 3) (tgt := 54) dX7_count_3 (by rw [e]; decide) (by rw [e]; decide) (by rw [e]; rfl) (by decide) ?_
      refine PW.aload_n (pc := 54) dX7_count_54 rfl ?_
      refine gf_X7_141 (pc := 55) dX7_count_55 ?_
      refine PW.iret (pc := 58) hY ?_ dX7_count_58
      refine x_ri ?_
      rw [if_pos G]; exact ⟨rfl, rfl⟩
    · refine PW.tswIn (pc := 3) (tgt := 59) dX7_count_3 (by rw [e]; decide) (by rw [e]; decide) (by rw [e]; rfl) (by decide) ?_
      refine x_loop (n := 61) (P := fun d => P_X7_count Y 61 [(0, .ref 32), (1, .int (nI 3)), (2, .int (nI (rdy (M.1 48) d))), (3, .int (nI d))] [] M) (fun h => ?_) ?_ (fun d hd ih => ?_)
      · refine PW.iconst (pc := 59) (v := nI 0) dX7_count_59 (by decide) ?_
        refine PW.istore_n (pc := 60) (i := 3) dX7_count_60 rfl (by decide) rfl ?_
        exact PW.st rfl rfl rfl h
      · refine PW.iload_n (pc := 61) dX7_count_61 rfl ?_
        refine PW.bipush (pc := 62) (v := nI 60) dX7_count_62 (by decide) ?_
        refine PW.icmp_gt (pc := 64) (tgt := 90) dX7_count_64 (by decide) (fun _ => ?_) (fun c => absurd ((nI_lt (by omega) (by omega))) c)
        refine PW.iload_n (pc := 90) dX7_count_90 rfl ?_
        refine PW.iret (pc := 91) hY ?_ dX7_count_91
        refine x_ri ?_
        rw [if_pos G]; exact ⟨rfl, rfl⟩
      · have at82 : ∀ v : Nat, v = (if M.1 48 d = 0 then 0 else 1) → P_X7_count Y 82 [(0, .ref 32), (1, .int (nI 3)), (2, .int (nI (rdy (M.1 48) d))), (3, .int (nI d))] [.int (nI v), .int (nI (rdy (M.1 48) d))] M := by
          intro v hv
          refine PW.iadd (pc := 82) dX7_count_82 ?_
          rw [nI_add, hv]
          refine PW.istore_n (pc := 83) (i := 2) dX7_count_83 rfl (by decide) rfl ?_
          refine PW.iinc (pc := 84) dX7_count_84 rfl (x_inc1 _) (by decide) rfl ?_
          refine PW.goto (pc := 87) (tgt := 61) dX7_count_87 (by decide) ?_
          exact PW.st rfl rfl rfl ih
        refine PW.iload_n (pc := 61) dX7_count_61 rfl ?_
        refine PW.bipush (pc := 62) (v := nI 60) dX7_count_62 (by decide) ?_
        refine PW.icmp_gt (pc := 64) (tgt := 90) dX7_count_64 (by decide) (fun c => absurd c ((nI_nlt (by omega) (by omega)))) (fun _ => ?_)
        refine PW.iload_n (pc := 67) dX7_count_67 rfl ?_
        refine PW.aload_n (pc := 68) dX7_count_68 rfl ?_
        refine gf_X7_56 (pc := 69) dX7_count_69 ?_
        refine PW.iload_n (pc := 72) dX7_count_72 rfl ?_
        refine PW.zaldN (pc := 73) rfl rfl (by omega) (by decide) dX7_count_73 ?_
        refine PW.if_eq (pc := 74) (tgt := 81) dX7_count_74 (by decide) (fun c_74 => ?_) (fun c_74 => ?_)
        · refine PW.iconst (pc := 81) (v := nI 0) dX7_count_81 (by decide) ?_
          exact PW.st rfl rfl rfl (at82 0 (by rw [if_pos c_74]))
        · refine PW.iconst (pc := 77) (v := nI 1) dX7_count_77 (by decide) ?_
          refine PW.goto (pc := 78) (tgt := 82) dX7_count_78 (by decide) ?_
          exact PW.st rfl rfl rfl (at82 1 (by rw [if_neg c_74]))
    · refine PW.tswIn (pc := 3) (tgt := 92) dX7_count_3 (by rw [e]; decide) (by rw [e]; decide) (by rw [e]; rfl) (by decide) ?_
      refine x_loop (n := 6) (P := fun d => P_X7_count Y 94 [(0, .ref 32), (1, .int (nI 4)), (2, .int (gsum (M.1 38) d)), (3, .int (nI d))] [] M) (fun h => ?_) ?_ (fun d hd ih => ?_)
      · refine PW.iconst (pc := 92) (v := nI 0) dX7_count_92 (by decide) ?_
        refine PW.istore_n (pc := 93) (i := 3) dX7_count_93 rfl (by decide) rfl ?_
        exact PW.st rfl rfl rfl h
      · refine PW.iload_n (pc := 94) dX7_count_94 rfl ?_
        refine PW.bipush (pc := 95) (v := nI 6) dX7_count_95 (by decide) ?_
        refine PW.icmp_ge (pc := 97) (tgt := 115) dX7_count_97 (by decide) (fun _ => ?_) (fun c => absurd ((nI_le (Nat.le_refl _) (by omega))) c)
        refine PW.iload_n (pc := 115) dX7_count_115 rfl ?_
        refine PW.iret (pc := 116) hY ?_ dX7_count_116
        refine x_ri ?_
        rw [if_pos G]; exact ⟨rfl, rfl⟩
      · refine PW.iload_n (pc := 94) dX7_count_94 rfl ?_
        refine PW.bipush (pc := 95) (v := nI 6) dX7_count_95 (by decide) ?_
        refine PW.icmp_ge (pc := 97) (tgt := 115) dX7_count_97 (by decide) (fun c => absurd c ((nI_ge hd (by omega)))) (fun _ => ?_)
        refine PW.iload_n (pc := 100) dX7_count_100 rfl ?_
        refine PW.aload_n (pc := 101) dX7_count_101 rfl ?_
        refine gf_X7_25 (pc := 102) dX7_count_102 ?_
        refine PW.iload_n (pc := 105) dX7_count_105 rfl ?_
        refine PW.ialdN (pc := 106) rfl rfl (by omega) (by decide) dX7_count_106 ?_
        refine PW.iadd (pc := 107) dX7_count_107 ?_
        refine PW.istore_n (pc := 108) (i := 2) dX7_count_108 rfl (by decide) rfl ?_
        refine PW.iinc (pc := 109) dX7_count_109 rfl (x_inc1 _) (by decide) rfl ?_
        refine PW.goto (pc := 112) (tgt := 94) dX7_count_112 (by decide) ?_
        exact PW.st rfl rfl rfl ih
    · refine PW.tswIn (pc := 3) (tgt := 117) dX7_count_3 (by rw [e]; decide) (by rw [e]; decide) (by rw [e]; rfl) (by decide) ?_
      refine PW.aload_n (pc := 117) dX7_count_117 rfl ?_
      refine gf_X7_120 (pc := 118) dX7_count_118 ?_
      refine PW.iret (pc := 121) hY ?_ dX7_count_121
      refine x_ri ?_
      rw [if_pos G]; exact ⟨rfl, rfl⟩
  · have h : w.toInt < 0 ∨ 5 < w.toInt := by
      refine Classical.byContradiction (fun q => G ?_)
      have e5 : (nI 5).toInt = 5 := rfl
      have e0 : (nI 0).toInt = 0 := rfl
      refine ⟨?_, ?_⟩
      · rw [Int32.le_iff_toInt_le, e0]; omega
      · rw [Int32.le_iff_toInt_le, e5]; omega
    refine PW.tswOut (pc := 3) (tgt := 122) dX7_count_3 h (by decide) ?_
    refine PW.bipush (pc := 122) (v := (-2)) dX7_count_122 (by decide) ?_
    refine PW.iret (pc := 124) hY ?_ dX7_count_124
    refine x_ri ?_
    rw [if_neg G]; exact ⟨rfl, rfl⟩
set_option maxHeartbeats 4000000 in
set_option maxRecDepth 20000 in
theorem c_X7_digest {n k : Nat} {M : xM} (hn : M.1 32 6 = nI n) (h10 : n ≤ 10) (hk : M.1 32 18 = nI k) (h6 : k ≤ 6) : K_X7_digest [.ref 32] M (xRl (fun x u => x = dg n k (totm M n) (tellv (mv M)) (fun f t => M.1 43 (f * 6 + t)) (M.1 33) (M.1 38) (M.1 49) (M.1 50) (M.1 51) ∧ u = M)) := by
  unfold dg
  refine xMet.of (own := RX7) rfl (by decide) (Nat.le_of_ble_eq_true rfl) rfl (fun Y hY => ?_)
  generalize hh1 : itr (dgs (totm M n)) (lN 179) 6 = h1 at *
  generalize hh2 : itr (dgF (tellv (mv M)) (fun f t => M.1 43 (f * 6 + t))) h1 n = h2 at *
  generalize hh3 : itr (dg2 (M.1 33) (M.1 38)) h2 6 = h3 at *
  generalize hh4 : itr (dg2 (M.1 49) (M.1 50)) h3 k = h4 at *
  refine x_loop (n := 6) (P := fun j => P_X7_digest Y 6 [(0, .ref 32), (1, .long (itr (dgs (totm M n)) (lN 179) j)), (3, .int (nI j))] [] M) (fun h => ?_) ?_ (fun j hj ih => ?_)
  · refine PW.ldc2 (pc := 0) (v := lN 179) (by decide +kernel) dX7_digest_0 ?_
    refine PW.lstore_n (pc := 3) (i := 1) dX7_digest_3 rfl (by decide) rfl rfl ?_
    refine PW.iconst (pc := 4) (v := nI 0) dX7_digest_4 (by decide) ?_
    refine PW.istore_n (pc := 5) (i := 3) dX7_digest_5 rfl (by decide) rfl ?_
    exact PW.st rfl rfl rfl h
  · rw [hh1]
    refine x_loop (n := n) (P := fun j => P_X7_digest Y 33 [(0, .ref 32), (1, .long (itr (dgF (tellv (mv M)) (fun f t => M.1 43 (f * 6 + t))) h1 j)), (3, .int (nI j))] [] M) (fun h => ?_) ?_ (fun j hj ih => ?_)
    · refine PW.iload_n (pc := 6) dX7_digest_6 rfl ?_
      refine PW.bipush (pc := 7) (v := nI 6) dX7_digest_7 (by decide) ?_
      refine PW.icmp_ge (pc := 9) (tgt := 31) dX7_digest_9 (by decide) (fun _ => ?_) (fun c => absurd ((nI_le (Nat.le_refl _) (by omega))) c)
      refine PW.iconst (pc := 31) (v := nI 0) dX7_digest_31 (by decide) ?_
      refine PW.istore_n (pc := 32) (i := 3) dX7_digest_32 rfl (by decide) rfl ?_
      exact PW.st rfl rfl rfl h
    · rw [hh2]
      refine x_loop (n := 6) (P := fun j => P_X7_digest Y 116 [(0, .ref 32), (1, .long (itr (dg2 (M.1 33) (M.1 38)) h2 j)), (3, .int (nI j))] [] M) (fun h => ?_) ?_ (fun j hj ih => ?_)
      · refine PW.iload_n (pc := 33) dX7_digest_33 rfl ?_
        refine PW.aload_n (pc := 34) dX7_digest_34 rfl ?_
        refine gf_X7_87 (pc := 35) dX7_digest_35 ?_
        refine PW.icmp_ge (pc := 38) (tgt := 114) dX7_digest_38 (by decide) (fun _ => ?_) (fun c => absurd ((by rw [hn]; exact nI_le (Nat.le_refl _) (by omega))) c)
        refine PW.iconst (pc := 114) (v := nI 0) dX7_digest_114 (by decide) ?_
        refine PW.istore_n (pc := 115) (i := 3) dX7_digest_115 rfl (by decide) rfl ?_
        exact PW.st rfl rfl rfl h
      · rw [hh3]
        refine x_loop (n := k) (P := fun j => P_X7_digest Y 156 [(0, .ref 32), (1, .long (itr (dg2 (M.1 49) (M.1 50)) h3 j)), (3, .int (nI j))] [] M) (fun h => ?_) ?_ (fun j hj ih => ?_)
        · refine PW.iload_n (pc := 116) dX7_digest_116 rfl ?_
          refine PW.bipush (pc := 117) (v := nI 6) dX7_digest_117 (by decide) ?_
          refine PW.icmp_ge (pc := 119) (tgt := 154) dX7_digest_119 (by decide) (fun _ => ?_) (fun c => absurd ((nI_le (Nat.le_refl _) (by omega))) c)
          refine PW.iconst (pc := 154) (v := nI 0) dX7_digest_154 (by decide) ?_
          refine PW.istore_n (pc := 155) (i := 3) dX7_digest_155 rfl (by decide) rfl ?_
          exact PW.st rfl rfl rfl h
        · rw [hh4]
          refine x_loop (n := 4) (P := fun j => P_X7_digest Y 198 [(0, .ref 32), (1, .long (itr (dgs (M.1 51)) h4 j)), (3, .int (nI j))] [] M) (fun h => ?_) ?_ (fun j hj ih => ?_)
          · refine PW.iload_n (pc := 156) dX7_digest_156 rfl ?_
            refine PW.aload_n (pc := 157) dX7_digest_157 rfl ?_
            refine gf_X7_141 (pc := 158) dX7_digest_158 ?_
            refine PW.icmp_ge (pc := 161) (tgt := 196) dX7_digest_161 (by decide) (fun _ => ?_) (fun c => absurd ((by rw [hk]; exact nI_le (Nat.le_refl _) (by omega))) c)
            refine PW.iconst (pc := 196) (v := nI 0) dX7_digest_196 (by decide) ?_
            refine PW.istore_n (pc := 197) (i := 3) dX7_digest_197 rfl (by decide) rfl ?_
            exact PW.st rfl rfl rfl h
          · refine PW.iload_n (pc := 198) dX7_digest_198 rfl ?_
            refine PW.iconst (pc := 199) (v := nI 4) dX7_digest_199 (by decide) ?_
            refine PW.icmp_ge (pc := 200) (tgt := 223) dX7_digest_200 (by decide) (fun _ => ?_) (fun c => absurd ((nI_le (Nat.le_refl _) (by omega))) c)
            refine PW.lload_n (pc := 223) dX7_digest_223 rfl ?_
            refine PW.lret (pc := 224) hY ?_ dX7_digest_224
            exact x_rl ⟨rfl, rfl⟩
          · refine PW.iload_n (pc := 198) dX7_digest_198 rfl ?_
            refine PW.iconst (pc := 199) (v := nI 4) dX7_digest_199 (by decide) ?_
            refine PW.icmp_ge (pc := 200) (tgt := 223) dX7_digest_200 (by decide) (fun c => absurd c ((nI_ge hj (by omega)))) (fun _ => ?_)
            refine PW.ldc2 (pc := 203) (v := lN 31) (by decide +kernel) dX7_digest_203 ?_
            refine PW.lload_n (pc := 206) dX7_digest_206 rfl ?_
            refine PW.lmul (pc := 207) dX7_digest_207 ?_
            refine PW.aload_n (pc := 208) dX7_digest_208 rfl ?_
            refine gf_X7_65 (pc := 209) dX7_digest_209 ?_
            refine PW.iload_n (pc := 212) dX7_digest_212 rfl ?_
            refine PW.ialdN (pc := 213) rfl rfl (by omega) (by decide) dX7_digest_213 ?_
            refine PW.i2l (pc := 214) dX7_digest_214 ?_
            refine PW.ladd (pc := 215) dX7_digest_215 ?_
            refine PW.lstore_n (pc := 216) (i := 1) dX7_digest_216 rfl (by decide) rfl rfl ?_
            refine PW.iinc (pc := 217) dX7_digest_217 rfl (x_inc1 _) (by decide) rfl ?_
            refine PW.goto (pc := 220) (tgt := 198) dX7_digest_220 (by decide) ?_
            exact PW.st rfl rfl rfl ih
        · refine PW.iload_n (pc := 156) dX7_digest_156 rfl ?_
          refine PW.aload_n (pc := 157) dX7_digest_157 rfl ?_
          refine gf_X7_141 (pc := 158) dX7_digest_158 ?_
          refine PW.icmp_ge (pc := 161) (tgt := 196) dX7_digest_161 (by decide) (fun c => absurd c ((by rw [hk]; exact nI_ge hj (by omega)))) (fun _ => ?_)
          refine PW.ldc2 (pc := 164) (v := lN 31) (by decide +kernel) dX7_digest_164 ?_
          refine PW.ldc2 (pc := 167) (v := lN 31) (by decide +kernel) dX7_digest_167 ?_
          refine PW.lload_n (pc := 170) dX7_digest_170 rfl ?_
          refine PW.lmul (pc := 171) dX7_digest_171 ?_
          refine PW.aload_n (pc := 172) dX7_digest_172 rfl ?_
          refine gf_X7_59 (pc := 173) dX7_digest_173 ?_
          refine PW.iload_n (pc := 176) dX7_digest_176 rfl ?_
          refine PW.ialdN (pc := 177) rfl rfl (by omega) (by decide) dX7_digest_177 ?_
          refine PW.i2l (pc := 178) dX7_digest_178 ?_
          refine PW.ladd (pc := 179) dX7_digest_179 ?_
          refine PW.lmul (pc := 180) dX7_digest_180 ?_
          refine PW.aload_n (pc := 181) dX7_digest_181 rfl ?_
          refine gf_X7_62 (pc := 182) dX7_digest_182 ?_
          refine PW.iload_n (pc := 185) dX7_digest_185 rfl ?_
          refine PW.ialdN (pc := 186) rfl rfl (by omega) (by decide) dX7_digest_186 ?_
          refine PW.i2l (pc := 187) dX7_digest_187 ?_
          refine PW.ladd (pc := 188) dX7_digest_188 ?_
          refine PW.lstore_n (pc := 189) (i := 1) dX7_digest_189 rfl (by decide) rfl rfl ?_
          refine PW.iinc (pc := 190) dX7_digest_190 rfl (x_inc1 _) (by decide) rfl ?_
          refine PW.goto (pc := 193) (tgt := 156) dX7_digest_193 (by decide) ?_
          exact PW.st rfl rfl rfl ih
      · refine PW.iload_n (pc := 116) dX7_digest_116 rfl ?_
        refine PW.bipush (pc := 117) (v := nI 6) dX7_digest_117 (by decide) ?_
        refine PW.icmp_ge (pc := 119) (tgt := 154) dX7_digest_119 (by decide) (fun c => absurd c ((nI_ge hj (by omega)))) (fun _ => ?_)
        refine PW.ldc2 (pc := 122) (v := lN 31) (by decide +kernel) dX7_digest_122 ?_
        refine PW.ldc2 (pc := 125) (v := lN 31) (by decide +kernel) dX7_digest_125 ?_
        refine PW.lload_n (pc := 128) dX7_digest_128 rfl ?_
        refine PW.lmul (pc := 129) dX7_digest_129 ?_
        refine PW.aload_n (pc := 130) dX7_digest_130 rfl ?_
        refine gf_X7_7 (pc := 131) dX7_digest_131 ?_
        refine PW.iload_n (pc := 134) dX7_digest_134 rfl ?_
        refine PW.ialdN (pc := 135) rfl rfl (by omega) (by decide) dX7_digest_135 ?_
        refine PW.i2l (pc := 136) dX7_digest_136 ?_
        refine PW.ladd (pc := 137) dX7_digest_137 ?_
        refine PW.lmul (pc := 138) dX7_digest_138 ?_
        refine PW.aload_n (pc := 139) dX7_digest_139 rfl ?_
        refine gf_X7_25 (pc := 140) dX7_digest_140 ?_
        refine PW.iload_n (pc := 143) dX7_digest_143 rfl ?_
        refine PW.ialdN (pc := 144) rfl rfl (by omega) (by decide) dX7_digest_144 ?_
        refine PW.i2l (pc := 145) dX7_digest_145 ?_
        refine PW.ladd (pc := 146) dX7_digest_146 ?_
        refine PW.lstore_n (pc := 147) (i := 1) dX7_digest_147 rfl (by decide) rfl rfl ?_
        refine PW.iinc (pc := 148) dX7_digest_148 rfl (x_inc1 _) (by decide) rfl ?_
        refine PW.goto (pc := 151) (tgt := 116) dX7_digest_151 (by decide) ?_
        exact PW.st rfl rfl rfl ih
    · refine x_loop (n := 7) (P := fun i => P_X7_digest Y 44 [(0, .ref 32), (1, .long (itr (dgs (tellv (mv M) j)) (itr (dgF (tellv (mv M)) (fun f t => M.1 43 (f * 6 + t))) h1 j) i)), (3, .int (nI j)), (4, .int (nI i))] [] M) (fun h => ?_) ?_ (fun i hi ih2 => ?_)
      · refine PW.iload_n (pc := 33) dX7_digest_33 rfl ?_
        refine PW.aload_n (pc := 34) dX7_digest_34 rfl ?_
        refine gf_X7_87 (pc := 35) dX7_digest_35 ?_
        refine PW.icmp_ge (pc := 38) (tgt := 114) dX7_digest_38 (by decide) (fun c => absurd c ((by rw [hn]; exact nI_ge hj (by omega)))) (fun _ => ?_)
        refine PW.iconst (pc := 41) (v := nI 0) dX7_digest_41 (by decide) ?_
        refine PW.istore (pc := 42) dX7_digest_42 (by decide) rfl ?_
        exact PW.st rfl rfl rfl h
      · refine x_loop (n := 6) (P := fun i => P_X7_digest Y 75 [(0, .ref 32), (1, .long (itr (dgs (fun t => M.1 43 (j * 6 + t))) (itr (dgs (tellv (mv M) j)) (itr (dgF (tellv (mv M)) (fun f t => M.1 43 (f * 6 + t))) h1 j) 7) i)), (3, .int (nI j)), (4, .int (nI i))] [] M) (fun h => ?_) ?_ (fun i hi ih2 => ?_)
        · refine PW.iload (pc := 44) dX7_digest_44 rfl ?_
          refine PW.bipush (pc := 46) (v := nI 7) dX7_digest_46 (by decide) ?_
          refine PW.icmp_ge (pc := 48) (tgt := 72) dX7_digest_48 (by decide) (fun _ => ?_) (fun c => absurd ((nI_le (Nat.le_refl _) (by omega))) c)
          refine PW.iconst (pc := 72) (v := nI 0) dX7_digest_72 (by decide) ?_
          refine PW.istore (pc := 73) dX7_digest_73 (by decide) rfl ?_
          exact PW.st rfl rfl rfl h
        · refine PW.iload (pc := 75) dX7_digest_75 rfl ?_
          refine PW.bipush (pc := 77) (v := nI 6) dX7_digest_77 (by decide) ?_
          refine PW.icmp_ge (pc := 79) (tgt := 108) dX7_digest_79 (by decide) (fun _ => ?_) (fun c => absurd ((nI_le (Nat.le_refl _) (by omega))) c)
          refine PW.iinc (pc := 108) dX7_digest_108 rfl (x_inc1 _) (by decide) rfl ?_
          refine PW.goto (pc := 111) (tgt := 33) dX7_digest_111 (by decide) ?_
          exact PW.st rfl rfl rfl ih
        · refine PW.iload (pc := 75) dX7_digest_75 rfl ?_
          refine PW.bipush (pc := 77) (v := nI 6) dX7_digest_77 (by decide) ?_
          refine PW.icmp_ge (pc := 79) (tgt := 108) dX7_digest_79 (by decide) (fun c => absurd c ((nI_ge hi (by omega)))) (fun _ => ?_)
          refine PW.ldc2 (pc := 82) (v := lN 31) (by decide +kernel) dX7_digest_82 ?_
          refine PW.lload_n (pc := 85) dX7_digest_85 rfl ?_
          refine PW.lmul (pc := 86) dX7_digest_86 ?_
          refine PW.aload_n (pc := 87) dX7_digest_87 rfl ?_
          refine gf_X7_40 (pc := 88) dX7_digest_88 ?_
          refine PW.bipush (pc := 91) (v := nI 6) dX7_digest_91 (by decide) ?_
          refine PW.iload_n (pc := 93) dX7_digest_93 rfl ?_
          refine PW.imul (pc := 94) dX7_digest_94 ?_
          refine PW.iload (pc := 95) dX7_digest_95 rfl ?_
          refine PW.iadd (pc := 97) dX7_digest_97 ?_
          refine PW.ialdN (pc := 98) rfl (x_cell j i) (by omega) (by decide) dX7_digest_98 ?_
          refine PW.i2l (pc := 99) dX7_digest_99 ?_
          refine PW.ladd (pc := 100) dX7_digest_100 ?_
          refine PW.lstore_n (pc := 101) (i := 1) dX7_digest_101 rfl (by decide) rfl rfl ?_
          refine PW.iinc (pc := 102) dX7_digest_102 rfl (x_inc1 _) (by decide) rfl ?_
          refine PW.goto (pc := 105) (tgt := 75) dX7_digest_105 (by decide) ?_
          exact PW.st rfl rfl rfl ih2
      · refine PW.iload (pc := 44) dX7_digest_44 rfl ?_
        refine PW.bipush (pc := 46) (v := nI 7) dX7_digest_46 (by decide) ?_
        refine PW.icmp_ge (pc := 48) (tgt := 72) dX7_digest_48 (by decide) (fun c => absurd c ((nI_ge hi (by omega)))) (fun _ => ?_)
        refine PW.ldc2 (pc := 51) (v := lN 31) (by decide +kernel) dX7_digest_51 ?_
        refine PW.lload_n (pc := 54) dX7_digest_54 rfl ?_
        refine PW.lmul (pc := 55) dX7_digest_55 ?_
        refine PW.aload_n (pc := 56) dX7_digest_56 rfl ?_
        refine PW.iload_n (pc := 57) dX7_digest_57 rfl ?_
        refine PW.iload (pc := 58) dX7_digest_58 rfl ?_
        refine cs_X7_123 (pc := 60) hY.rm (c_X7_aboutOf (by omega) (by omega)) ⟨Nat.le_of_ble_eq_true rfl, Nat.le_of_ble_eq_true rfl⟩ dX7_digest_60 (Nat.le_of_ble_eq_true rfl) (fun x_60 u_60 h_60 => ?_)
        obtain ⟨rfl, hu_60⟩ := h_60
        replace hu_60 := hu_60.symm
        subst hu_60
        refine PW.i2l (pc := 63) dX7_digest_63 ?_
        refine PW.ladd (pc := 64) dX7_digest_64 ?_
        refine PW.lstore_n (pc := 65) (i := 1) dX7_digest_65 rfl (by decide) rfl rfl ?_
        refine PW.iinc (pc := 66) dX7_digest_66 rfl (x_inc1 _) (by decide) rfl ?_
        refine PW.goto (pc := 69) (tgt := 44) dX7_digest_69 (by decide) ?_
        exact PW.st rfl rfl rfl ih2
  · refine PW.iload_n (pc := 6) dX7_digest_6 rfl ?_
    refine PW.bipush (pc := 7) (v := nI 6) dX7_digest_7 (by decide) ?_
    refine PW.icmp_ge (pc := 9) (tgt := 31) dX7_digest_9 (by decide) (fun c => absurd c ((nI_ge hj (by omega)))) (fun _ => ?_)
    refine PW.ldc2 (pc := 12) (v := lN 31) (by decide +kernel) dX7_digest_12 ?_
    refine PW.lload_n (pc := 15) dX7_digest_15 rfl ?_
    refine PW.lmul (pc := 16) dX7_digest_16 ?_
    refine PW.aload_n (pc := 17) dX7_digest_17 rfl ?_
    refine PW.iload_n (pc := 18) dX7_digest_18 rfl ?_
    refine cs_X7_167 (pc := 19) hY.rm (c_X7_count hn h10) ⟨Nat.le_of_ble_eq_true rfl, Nat.le_of_ble_eq_true rfl⟩ dX7_digest_19 (Nat.le_of_ble_eq_true rfl) (fun x_19 u_19 h_19 => ?_)
    obtain ⟨rfl, hu_19⟩ := h_19
    replace hu_19 := hu_19.symm
    subst hu_19
    rw [if_pos (show inr (nI j) (nI 0) (nI 5) from ⟨nI_le (Nat.zero_le _) (by omega), nI_le (by omega) (by omega)⟩), na_nI (by omega)]
    refine PW.i2l (pc := 22) dX7_digest_22 ?_
    refine PW.ladd (pc := 23) dX7_digest_23 ?_
    refine PW.lstore_n (pc := 24) (i := 1) dX7_digest_24 rfl (by decide) rfl rfl ?_
    refine PW.iinc (pc := 25) dX7_digest_25 rfl (x_inc1 _) (by decide) rfl ?_
    refine PW.goto (pc := 28) (tgt := 6) dX7_digest_28 (by decide) ?_
    exact PW.st rfl rfl rfl ih
