/-! the class's calls, more -/
theorem okF_nat {f : Int32} {n : Nat} (h : okF f n) (h10 : n ≤ 10) : f = nI (na f) ∧ na f < n := ⟨x_pos h.1, na_lt h.1 h.2 (by omega)⟩
set_option maxHeartbeats 4000000 in
set_option maxRecDepth 20000 in
theorem c_X6_rain {d b : Int32} {M : xM} (hb : b = 0 ∨ b = 1) : K_X6_rain [.ref 0, .int d, .int b] M (xRi (fun x u => if inr d (nI 0) (nI 60) then x = nI 1 ∧ u = (if M.1 19 (na d) = b then M else xup (xup M 19 (na d) b) 18 1 (M.1 18 1 + (if b = 0 then (-1) else nI 1))) else x = (-2) ∧ u = M)) := by
  refine xMet.of (own := RX6) rfl (by decide) (Nat.le_of_ble_eq_true rfl) rfl (fun Y hY => ?_)
  have bad : ¬ inr d (nI 0) (nI 60) → P_X6_rain Y 10 [] [] M := by
    intro h
    refine PW.bipush (pc := 10) (v := (-2)) dX6_rain_10 (by decide) ?_
    refine PW.iret (pc := 12) hY ?_ dX6_rain_12
    refine x_ri ?_
    rw [if_neg h]; exact ⟨rfl, rfl⟩
  refine PW.iload_n (pc := 0) dX6_rain_0 rfl ?_
  refine PW.iconst (pc := 1) (v := nI 0) dX6_rain_1 (by decide) ?_
  refine PW.bipush (pc := 2) (v := nI 60) dX6_rain_2 (by decide) ?_
  refine cs_X6_69 (pc := 4) hY.rm (c_X6_outside) ⟨Nat.le_of_ble_eq_true rfl, Nat.le_of_ble_eq_true rfl⟩ dX6_rain_4 (Nat.le_of_ble_eq_true rfl) (fun x_4 u_4 h_4 => ?_)
  obtain ⟨rfl, hu_4⟩ := h_4
  replace hu_4 := hu_4.symm
  subst hu_4
  refine PW.if_eq (pc := 7) (tgt := 13) dX6_rain_7 (by decide) (fun c_7 => ?_) (fun c_7 => PW.st rfl rfl rfl (bad (out_t c_7)))
  have G := out_f c_7
  have d1 := x_pos G.1
  have d2 := na_le G.1 G.2 (by omega)
  clear c_7 bad
  revert d1 d2
  generalize na d = dN at *
  intro d1 d2
  subst d1
  refine PW.aload_n (pc := 13) dX6_rain_13 rfl ?_
  refine gf_X6_26 (pc := 14) dX6_rain_14 ?_
  refine PW.iload_n (pc := 17) dX6_rain_17 rfl ?_
  refine PW.iload_n (pc := 18) dX6_rain_18 rfl ?_
  refine cs_X6_106 (pc := 19) hY.rm (c_X4_tell d2 hb) ⟨Nat.le_of_ble_eq_true rfl, Nat.le_of_ble_eq_true rfl⟩ dX6_rain_19 (Nat.le_of_ble_eq_true rfl) (fun u_19 h_19 => ?_)
  refine PW.iconst (pc := 22) (v := nI 1) dX6_rain_22 (by decide) ?_
  refine PW.iret (pc := 23) hY ?_ dX6_rain_23
  refine x_ri ?_
  rw [if_pos G]
  exact ⟨rfl, h_19⟩
set_option maxHeartbeats 4000000 in
set_option maxRecDepth 20000 in
theorem c_X6_giveUp {f : Int32} {n : Nat} {M : xM} (hn : M.1 8 9 = nI n) (h10 : n ≤ 10) : K_X6_giveUp [.ref 0, .int f] M (xRi (fun x u => if okF f n then (if M.1 12 (na f) = 0 ∨ M.1 12 (na f) = nI 1 then x = nI 1 ∧ u = xup M 12 (na f) (nI 2) else x = (-3) ∧ u = M) else x = (-2) ∧ u = M)) := by
  refine xMet.of (own := RX6) rfl (by decide) (Nat.le_of_ble_eq_true rfl) rfl (fun Y hY => ?_)
  have bad : ¬ okF f n → P_X6_giveUp Y 11 [] [] M := by
    intro h
    refine PW.bipush (pc := 11) (v := (-2)) dX6_giveUp_11 (by decide) ?_
    refine PW.iret (pc := 13) hY ?_ dX6_giveUp_13
    refine x_ri ?_
    rw [if_neg h]; exact ⟨rfl, rfl⟩
  refine PW.aload_n (pc := 0) dX6_giveUp_0 rfl ?_
  refine gf_X6_19 (pc := 1) dX6_giveUp_1 ?_
  refine PW.iload_n (pc := 4) dX6_giveUp_4 rfl ?_
  refine cs_X6_93 (pc := 5) hY.rm (c_X1_has) ⟨Nat.le_of_ble_eq_true rfl, Nat.le_of_ble_eq_true rfl⟩ dX6_giveUp_5 (Nat.le_of_ble_eq_true rfl) (fun x_5 u_5 h_5 => ?_)
  obtain ⟨rfl, hu_5⟩ := h_5
  replace hu_5 := hu_5.symm
  subst hu_5
  refine PW.if_ne (pc := 8) (tgt := 14) dX6_giveUp_8 (by decide) (fun c_8 => ?_) (fun c_8 => PW.st rfl rfl rfl (bad (has_f hn c_8)))
  have G := has_t hn c_8
  obtain ⟨f1, f2⟩ := okF_nat G h10
  clear c_8 bad
  revert f1 f2
  generalize na f = fN at *
  intro f1 f2
  subst f1
  have good : (M.1 12 fN = 0 ∨ M.1 12 fN = nI 1) → P_X6_giveUp Y 42 [(0, .ref 0), (1, .int (nI fN))] [] M := by
    intro h
    refine PW.aload_n (pc := 42) dX6_giveUp_42 rfl ?_
    refine gf_X6_19 (pc := 43) dX6_giveUp_43 ?_
    refine gf_X6_96 (pc := 46) dX6_giveUp_46 ?_
    refine PW.iload_n (pc := 49) dX6_giveUp_49 rfl ?_
    refine PW.iconst (pc := 50) (v := nI 2) dX6_giveUp_50 (by decide) ?_
    refine PW.iastN (pc := 51) rfl rfl (by omega) (by decide) dX6_giveUp_51 ?_
    refine PW.iconst (pc := 52) (v := nI 1) dX6_giveUp_52 (by decide) ?_
    refine PW.iret (pc := 53) hY ?_ dX6_giveUp_53
    refine x_ri ?_
    rw [if_pos G, if_pos h]
    exact ⟨rfl, rfl⟩
  refine PW.aload_n (pc := 14) dX6_giveUp_14 rfl ?_
  refine gf_X6_19 (pc := 15) dX6_giveUp_15 ?_
  refine gf_X6_96 (pc := 18) dX6_giveUp_18 ?_
  refine PW.iload_n (pc := 21) dX6_giveUp_21 rfl ?_
  refine PW.ialdN (pc := 22) rfl rfl (by omega) (by decide) dX6_giveUp_22 ?_
  refine PW.if_eq (pc := 23) (tgt := 42) dX6_giveUp_23 (by decide) (fun c_23 => ?_) (fun c_23 => ?_)
  · exact PW.st rfl rfl rfl (good (Or.inl c_23))
  · refine PW.aload_n (pc := 26) dX6_giveUp_26 rfl ?_
    refine gf_X6_19 (pc := 27) dX6_giveUp_27 ?_
    refine gf_X6_96 (pc := 30) dX6_giveUp_30 ?_
    refine PW.iload_n (pc := 33) dX6_giveUp_33 rfl ?_
    refine PW.ialdN (pc := 34) rfl rfl (by omega) (by decide) dX6_giveUp_34 ?_
    refine PW.iconst (pc := 35) (v := nI 1) dX6_giveUp_35 (by decide) ?_
    refine PW.icmp_eq (pc := 36) (tgt := 42) dX6_giveUp_36 (by decide) (fun c_36 => ?_) (fun c_36 => ?_)
    · exact PW.st rfl rfl rfl (good (Or.inr c_36))
    · refine PW.bipush (pc := 39) (v := (-3)) dX6_giveUp_39 (by decide) ?_
      refine PW.iret (pc := 41) hY ?_ dX6_giveUp_41
      refine x_ri ?_
      rw [if_pos G, if_neg (fun q => q.elim c_23 c_36)]
      exact ⟨rfl, rfl⟩
set_option maxHeartbeats 4000000 in
set_option maxRecDepth 20000 in
theorem c_X6_back {f : Int32} {n : Nat} {M : xM} (hn : M.1 8 9 = nI n) (h10 : n ≤ 10) : K_X6_back [.ref 0, .int f] M (xRi (fun x u => if okF f n then (if M.1 12 (na f) = nI 1 then x = nI 1 ∧ u = xup M 12 (na f) (nI 3) else x = (-3) ∧ u = M) else x = (-2) ∧ u = M)) := by
  refine xMet.of (own := RX6) rfl (by decide) (Nat.le_of_ble_eq_true rfl) rfl (fun Y hY => ?_)
  have bad : ¬ okF f n → P_X6_back Y 11 [] [] M := by
    intro h
    refine PW.bipush (pc := 11) (v := (-2)) dX6_back_11 (by decide) ?_
    refine PW.iret (pc := 13) hY ?_ dX6_back_13
    refine x_ri ?_
    rw [if_neg h]; exact ⟨rfl, rfl⟩
  refine PW.aload_n (pc := 0) dX6_back_0 rfl ?_
  refine gf_X6_19 (pc := 1) dX6_back_1 ?_
  refine PW.iload_n (pc := 4) dX6_back_4 rfl ?_
  refine cs_X6_93 (pc := 5) hY.rm (c_X1_has) ⟨Nat.le_of_ble_eq_true rfl, Nat.le_of_ble_eq_true rfl⟩ dX6_back_5 (Nat.le_of_ble_eq_true rfl) (fun x_5 u_5 h_5 => ?_)
  obtain ⟨rfl, hu_5⟩ := h_5
  replace hu_5 := hu_5.symm
  subst hu_5
  refine PW.if_ne (pc := 8) (tgt := 14) dX6_back_8 (by decide) (fun c_8 => ?_) (fun c_8 => PW.st rfl rfl rfl (bad (has_f hn c_8)))
  have G := has_t hn c_8
  obtain ⟨f1, f2⟩ := okF_nat G h10
  clear c_8 bad
  revert f1 f2
  generalize na f = fN at *
  intro f1 f2
  subst f1
  refine PW.aload_n (pc := 14) dX6_back_14 rfl ?_
  refine gf_X6_19 (pc := 15) dX6_back_15 ?_
  refine gf_X6_96 (pc := 18) dX6_back_18 ?_
  refine PW.iload_n (pc := 21) dX6_back_21 rfl ?_
  refine PW.ialdN (pc := 22) rfl rfl (by omega) (by decide) dX6_back_22 ?_
  refine PW.iconst (pc := 23) (v := nI 1) dX6_back_23 (by decide) ?_
  refine PW.icmp_eq (pc := 24) (tgt := 30) dX6_back_24 (by decide) (fun c_24 => ?_) (fun c_24 => ?_)
  · refine PW.aload_n (pc := 30) dX6_back_30 rfl ?_
    refine gf_X6_19 (pc := 31) dX6_back_31 ?_
    refine gf_X6_96 (pc := 34) dX6_back_34 ?_
    refine PW.iload_n (pc := 37) dX6_back_37 rfl ?_
    refine PW.iconst (pc := 38) (v := nI 3) dX6_back_38 (by decide) ?_
    refine PW.iastN (pc := 39) rfl rfl (by omega) (by decide) dX6_back_39 ?_
    refine PW.iconst (pc := 40) (v := nI 1) dX6_back_40 (by decide) ?_
    refine PW.iret (pc := 41) hY ?_ dX6_back_41
    refine x_ri ?_
    rw [if_pos G, if_pos c_24]
    exact ⟨rfl, rfl⟩
  · refine PW.bipush (pc := 27) (v := (-3)) dX6_back_27 (by decide) ?_
    refine PW.iret (pc := 29) hY ?_ dX6_back_29
    refine x_ri ?_
    rw [if_pos G, if_neg c_24]
    exact ⟨rfl, rfl⟩
set_option maxHeartbeats 4000000 in
set_option maxRecDepth 20000 in
theorem c_X6_missing {f k v : Int32} {n : Nat} {M : xM} (hn : M.1 8 9 = nI n) (h10 : n ≤ 10) : K_X6_missing [.ref 0, .int f, .int k, .int v] M (xRi (fun x u => if okF f n ∧ isT k ∧ inr v (nI 0) (M.1 16 (na f * 6 + na k)) then (if M.1 12 (na f) = nI 3 ∧ M.1 17 (na f * 6 + na k) = 0 then x = M.1 6 (na k) * v ∧ u = xup (xup (xup M 17 (na f * 6 + na k) (nI 1)) 7 (na k) (M.1 7 (na k) + v)) 0 7 (M.1 0 7 + M.1 6 (na k) * v) else x = (-3) ∧ u = M) else x = (-2) ∧ u = M)) := by
  refine xMet.of (own := RX6) rfl (by decide) (Nat.le_of_ble_eq_true rfl) rfl (fun Y hY => ?_)
  have bad : ¬ (okF f n ∧ isT k ∧ inr v (nI 0) (M.1 16 (na f * 6 + na k))) → P_X6_missing Y 39 [] [] M := by
    intro h
    refine PW.bipush (pc := 39) (v := (-2)) dX6_missing_39 (by decide) ?_
    refine PW.iret (pc := 41) hY ?_ dX6_missing_41
    refine x_ri ?_
    rw [if_neg h]; exact ⟨rfl, rfl⟩
  refine PW.aload_n (pc := 0) dX6_missing_0 rfl ?_
  refine gf_X6_19 (pc := 1) dX6_missing_1 ?_
  refine PW.iload_n (pc := 4) dX6_missing_4 rfl ?_
  refine cs_X6_93 (pc := 5) hY.rm (c_X1_has) ⟨Nat.le_of_ble_eq_true rfl, Nat.le_of_ble_eq_true rfl⟩ dX6_missing_5 (Nat.le_of_ble_eq_true rfl) (fun x_5 u_5 h_5 => ?_)
  obtain ⟨rfl, hu_5⟩ := h_5
  replace hu_5 := hu_5.symm
  subst hu_5
  refine PW.if_eq (pc := 8) (tgt := 39) dX6_missing_8 (by decide) (fun c_8 => PW.st rfl rfl rfl (bad (fun h => has_f hn c_8 h.1))) (fun c_8 => ?_)
  refine PW.iload_n (pc := 11) dX6_missing_11 rfl ?_
  refine cs_X6_65 (pc := 12) hY.rm (c_X6_isThing) ⟨Nat.le_of_ble_eq_true rfl, Nat.le_of_ble_eq_true rfl⟩ dX6_missing_12 (Nat.le_of_ble_eq_true rfl) (fun x_12 u_12 h_12 => ?_)
  obtain ⟨rfl, hu_12⟩ := h_12
  replace hu_12 := hu_12.symm
  subst hu_12
  refine PW.if_eq (pc := 15) (tgt := 39) dX6_missing_15 (by decide) (fun c_15 => PW.st rfl rfl rfl (bad (fun h => bool_f c_15 h.2.1))) (fun c_15 => ?_)
  have hf := has_t hn c_8
  have hk := bool_t c_15
  have f1 := x_pos hf.1
  have f2 := na_lt hf.1 hf.2 (by omega)
  have k1 := x_pos hk.1
  have k2 := na_lt hk.1 hk.2 (by omega)
  clear c_8 c_15
  revert f1 k1
  generalize na f = fN at *
  generalize na k = kN at *
  intro f1 k1
  subst f1
  subst k1
  refine PW.iload_n (pc := 18) dX6_missing_18 rfl ?_
  refine PW.iconst (pc := 19) (v := nI 0) dX6_missing_19 (by decide) ?_
  refine PW.aload_n (pc := 20) dX6_missing_20 rfl ?_
  refine gf_X6_19 (pc := 21) dX6_missing_21 ?_
  refine gf_X6_99 (pc := 24) dX6_missing_24 ?_
  refine PW.iload_n (pc := 27) dX6_missing_27 rfl ?_
  refine PW.iload_n (pc := 28) dX6_missing_28 rfl ?_
  refine cs_X6_102 (pc := 29) hY.rm (c_X6_cell) ⟨Nat.le_of_ble_eq_true rfl, Nat.le_of_ble_eq_true rfl⟩ dX6_missing_29 (Nat.le_of_ble_eq_true rfl) (fun x_29 u_29 h_29 => ?_)
  obtain ⟨rfl, hu_29⟩ := h_29
  replace hu_29 := hu_29.symm
  subst hu_29
  refine PW.ialdN (pc := 32) rfl rfl (by omega) (by decide) dX6_missing_32 ?_
  refine cs_X6_69 (pc := 33) hY.rm (c_X6_outside) ⟨Nat.le_of_ble_eq_true rfl, Nat.le_of_ble_eq_true rfl⟩ dX6_missing_33 (Nat.le_of_ble_eq_true rfl) (fun x_33 u_33 h_33 => ?_)
  obtain ⟨rfl, hu_33⟩ := h_33
  replace hu_33 := hu_33.symm
  subst hu_33
  refine PW.if_eq (pc := 36) (tgt := 42) dX6_missing_36 (by decide) (fun c_36 => ?_) (fun c_36 => PW.st rfl rfl rfl (bad (fun h => out_t c_36 h.2.2)))
  have G : okF (nI fN) n ∧ isT (nI kN) ∧ inr v (nI 0) (M.1 16 (fN * 6 + kN)) := ⟨hf, hk, out_f c_36⟩
  refine PW.aload_n (pc := 42) dX6_missing_42 rfl ?_
  refine gf_X6_19 (pc := 43) dX6_missing_43 ?_
  refine gf_X6_96 (pc := 46) dX6_missing_46 ?_
  refine PW.iload_n (pc := 49) dX6_missing_49 rfl ?_
  refine PW.ialdN (pc := 50) rfl rfl (by omega) (by decide) dX6_missing_50 ?_
  refine PW.iconst (pc := 51) (v := nI 3) dX6_missing_51 (by decide) ?_
  refine PW.icmp_ne (pc := 52) (tgt := 71) dX6_missing_52 (by decide) (fun c_52 => ?_) (fun c_52 => ?_)
  · refine PW.bipush (pc := 71) (v := (-3)) dX6_missing_71 (by decide) ?_
    refine PW.iret (pc := 73) hY ?_ dX6_missing_73
    refine x_ri ?_
    rw [if_pos G, if_neg (fun q => c_52 q.1)]
    exact ⟨rfl, rfl⟩
  · refine PW.aload_n (pc := 55) dX6_missing_55 rfl ?_
    refine gf_X6_19 (pc := 56) dX6_missing_56 ?_
    refine gf_X6_129 (pc := 59) dX6_missing_59 ?_
    refine PW.iload_n (pc := 62) dX6_missing_62 rfl ?_
    refine PW.iload_n (pc := 63) dX6_missing_63 rfl ?_
    refine cs_X6_102 (pc := 64) hY.rm (c_X6_cell) ⟨Nat.le_of_ble_eq_true rfl, Nat.le_of_ble_eq_true rfl⟩ dX6_missing_64 (Nat.le_of_ble_eq_true rfl) (fun x_64 u_64 h_64 => ?_)
    obtain ⟨rfl, hu_64⟩ := h_64
    replace hu_64 := hu_64.symm
    subst hu_64
    refine PW.zaldN (pc := 67) rfl rfl (by omega) (by decide) dX6_missing_67 ?_
    refine PW.if_eq (pc := 68) (tgt := 74) dX6_missing_68 (by decide) (fun c_68 => ?_) (fun c_68 => ?_)
    · refine PW.aload_n (pc := 74) dX6_missing_74 rfl ?_
      refine gf_X6_12 (pc := 75) dX6_missing_75 ?_
      refine gf_X6_85 (pc := 78) dX6_missing_78 ?_
      refine PW.iload_n (pc := 81) dX6_missing_81 rfl ?_
      refine PW.ialdN (pc := 82) rfl rfl (by omega) (by decide) dX6_missing_82 ?_
      refine PW.iload_n (pc := 83) dX6_missing_83 rfl ?_
      refine PW.imul (pc := 84) dX6_missing_84 ?_
      refine PW.istore (pc := 85) dX6_missing_85 (by decide) rfl ?_
      refine PW.aload_n (pc := 87) dX6_missing_87 rfl ?_
      refine gf_X6_19 (pc := 88) dX6_missing_88 ?_
      refine gf_X6_129 (pc := 91) dX6_missing_91 ?_
      refine PW.iload_n (pc := 94) dX6_missing_94 rfl ?_
      refine PW.iload_n (pc := 95) dX6_missing_95 rfl ?_
      refine cs_X6_102 (pc := 96) hY.rm (c_X6_cell) ⟨Nat.le_of_ble_eq_true rfl, Nat.le_of_ble_eq_true rfl⟩ dX6_missing_96 (Nat.le_of_ble_eq_true rfl) (fun x_96 u_96 h_96 => ?_)
      obtain ⟨rfl, hu_96⟩ := h_96
      replace hu_96 := hu_96.symm
      subst hu_96
      refine PW.iconst (pc := 99) (v := nI 1) dX6_missing_99 (by decide) ?_
      refine PW.zastN (pc := 100) rfl rfl (by omega) (by decide) (by first | assumption | decide) dX6_missing_100 ?_
      refine PW.aload_n (pc := 101) dX6_missing_101 rfl ?_
      refine gf_X6_12 (pc := 102) dX6_missing_102 ?_
      refine gf_X6_133 (pc := 105) dX6_missing_105 ?_
      refine PW.iload_n (pc := 108) dX6_missing_108 rfl ?_
      refine PW.dup2 (pc := 109) dX6_missing_109 rfl rfl ?_
      refine PW.ialdN (pc := 110) rfl rfl (by omega) (by decide) dX6_missing_110 ?_
      refine PW.iload_n (pc := 111) dX6_missing_111 rfl ?_
      refine PW.iadd (pc := 112) dX6_missing_112 ?_
      refine PW.iastN (pc := 113) rfl rfl (by omega) (by decide) dX6_missing_113 ?_
      refine PW.aload_n (pc := 114) dX6_missing_114 rfl ?_
      refine PW.dup (pc := 115) dX6_missing_115 rfl ?_
      refine gf_X6_61 (pc := 116) dX6_missing_116 ?_
      refine PW.iload (pc := 119) dX6_missing_119 rfl ?_
      refine PW.iadd (pc := 121) dX6_missing_121 ?_
      refine pf_X6_61 (pc := 122) dX6_missing_122 ?_
      refine PW.iload (pc := 125) dX6_missing_125 rfl ?_
      refine PW.iret (pc := 127) hY ?_ dX6_missing_127
      refine x_ri ?_
      rw [if_pos G, if_pos ⟨c_52, c_68⟩]
      refine ⟨rfl, ?_⟩
      simp [xup_1]
    · refine PW.bipush (pc := 71) (v := (-3)) dX6_missing_71 (by decide) ?_
      refine PW.iret (pc := 73) hY ?_ dX6_missing_73
      refine x_ri ?_
      rw [if_pos G, if_neg (fun q => c_68 q.2)]
      exact ⟨rfl, rfl⟩
set_option maxHeartbeats 4000000 in
set_option maxRecDepth 20000 in
theorem c_X6_mend {k v : Int32} {M : xM} : K_X6_mend [.ref 0, .int k, .int v] M (xRi (fun x u => if isT k ∧ inr v (nI 0) (nI 1000) then (if v ≤ M.1 7 (na k) then x = M.1 7 (na k) - v ∧ u = xup M 7 (na k) (M.1 7 (na k) - v) else x = (-3) ∧ u = M) else x = (-2) ∧ u = M)) := by
  refine xMet.of (own := RX6) rfl (by decide) (Nat.le_of_ble_eq_true rfl) rfl (fun Y hY => ?_)
  have bad : ¬ (isT k ∧ inr v (nI 0) (nI 1000)) → P_X6_mend Y 18 [] [] M := by
    intro h
    refine PW.bipush (pc := 18) (v := (-2)) dX6_mend_18 (by decide) ?_
    refine PW.iret (pc := 20) hY ?_ dX6_mend_20
    refine x_ri ?_
    rw [if_neg h]; exact ⟨rfl, rfl⟩
  refine PW.iload_n (pc := 0) dX6_mend_0 rfl ?_
  refine cs_X6_65 (pc := 1) hY.rm (c_X6_isThing) ⟨Nat.le_of_ble_eq_true rfl, Nat.le_of_ble_eq_true rfl⟩ dX6_mend_1 (Nat.le_of_ble_eq_true rfl) (fun x_1 u_1 h_1 => ?_)
  obtain ⟨rfl, hu_1⟩ := h_1
  replace hu_1 := hu_1.symm
  subst hu_1
  refine PW.if_eq (pc := 4) (tgt := 18) dX6_mend_4 (by decide) (fun c_4 => PW.st rfl rfl rfl (bad (fun h => bool_f c_4 h.1))) (fun c_4 => ?_)
  refine PW.iload_n (pc := 7) dX6_mend_7 rfl ?_
  refine PW.iconst (pc := 8) (v := nI 0) dX6_mend_8 (by decide) ?_
  refine PW.sipush (pc := 9) (v := nI 1000) dX6_mend_9 (by decide) ?_
  refine cs_X6_69 (pc := 12) hY.rm (c_X6_outside) ⟨Nat.le_of_ble_eq_true rfl, Nat.le_of_ble_eq_true rfl⟩ dX6_mend_12 (Nat.le_of_ble_eq_true rfl) (fun x_12 u_12 h_12 => ?_)
  obtain ⟨rfl, hu_12⟩ := h_12
  replace hu_12 := hu_12.symm
  subst hu_12
  refine PW.if_eq (pc := 15) (tgt := 21) dX6_mend_15 (by decide) (fun c_15 => ?_) (fun c_15 => PW.st rfl rfl rfl (bad (fun h => out_t c_15 h.2)))
  have hk := bool_t c_4
  have G : isT k ∧ inr v (nI 0) (nI 1000) := ⟨hk, out_f c_15⟩
  have k1 := x_pos hk.1
  have k2 := na_lt hk.1 hk.2 (by omega)
  clear c_4 c_15 bad
  revert k1
  generalize na k = kN at *
  intro k1
  subst k1
  refine PW.iload_n (pc := 21) dX6_mend_21 rfl ?_
  refine PW.aload_n (pc := 22) dX6_mend_22 rfl ?_
  refine gf_X6_12 (pc := 23) dX6_mend_23 ?_
  refine gf_X6_133 (pc := 26) dX6_mend_26 ?_
  refine PW.iload_n (pc := 29) dX6_mend_29 rfl ?_
  refine PW.ialdN (pc := 30) rfl rfl (by omega) (by decide) dX6_mend_30 ?_
  refine PW.icmp_le (pc := 31) (tgt := 37) dX6_mend_31 (by decide) (fun c_31 => ?_) (fun c_31 => ?_)
  · refine PW.aload_n (pc := 37) dX6_mend_37 rfl ?_
    refine gf_X6_12 (pc := 38) dX6_mend_38 ?_
    refine gf_X6_133 (pc := 41) dX6_mend_41 ?_
    refine PW.iload_n (pc := 44) dX6_mend_44 rfl ?_
    refine PW.dup2 (pc := 45) dX6_mend_45 rfl rfl ?_
    refine PW.ialdN (pc := 46) rfl rfl (by omega) (by decide) dX6_mend_46 ?_
    refine PW.iload_n (pc := 47) dX6_mend_47 rfl ?_
    refine PW.isub (pc := 48) dX6_mend_48 ?_
    refine PW.iastN (pc := 49) rfl rfl (by omega) (by decide) dX6_mend_49 ?_
    refine PW.aload_n (pc := 50) dX6_mend_50 rfl ?_
    refine gf_X6_12 (pc := 51) dX6_mend_51 ?_
    refine gf_X6_133 (pc := 54) dX6_mend_54 ?_
    refine PW.iload_n (pc := 57) dX6_mend_57 rfl ?_
    refine PW.ialdN (pc := 58) rfl rfl (by omega) (by decide) dX6_mend_58 ?_
    refine PW.iret (pc := 59) hY ?_ dX6_mend_59
    refine x_ri ?_
    rw [if_pos G, if_pos c_31]
    refine ⟨?_, rfl⟩
    simp [xup_1]
  · refine PW.bipush (pc := 34) (v := (-3)) dX6_mend_34 (by decide) ?_
    refine PW.iret (pc := 36) hY ?_ dX6_mend_36
    refine x_ri ?_
    rw [if_pos G, if_neg c_31]
    exact ⟨rfl, rfl⟩
set_option maxHeartbeats 4000000 in
set_option maxRecDepth 20000 in
theorem c_X6_about {f w : Int32} {n : Nat} {M : xM} (hn : M.1 8 9 = nI n) (h10 : n ≤ 10) : K_X6_about [.ref 0, .int f, .int w] M (xRi (fun x u => (x = if okF f n ∧ inr w (nI 0) (nI 6) then tellv M (na f) (na w) else (-2)) ∧ u = M)) := by
  refine xMet.of (own := RX6) rfl (by decide) (Nat.le_of_ble_eq_true rfl) rfl (fun Y hY => ?_)
  have bad : ¬ (okF f n ∧ inr w (nI 0) (nI 6)) → P_X6_about Y 21 [] [] M := by
    intro h
    refine PW.bipush (pc := 21) (v := (-2)) dX6_about_21 (by decide) ?_
    refine PW.iret (pc := 23) hY ?_ dX6_about_23
    refine x_ri ?_
    rw [if_neg h]; exact ⟨rfl, rfl⟩
  refine PW.aload_n (pc := 0) dX6_about_0 rfl ?_
  refine gf_X6_19 (pc := 1) dX6_about_1 ?_
  refine PW.iload_n (pc := 4) dX6_about_4 rfl ?_
  refine cs_X6_93 (pc := 5) hY.rm (c_X1_has) ⟨Nat.le_of_ble_eq_true rfl, Nat.le_of_ble_eq_true rfl⟩ dX6_about_5 (Nat.le_of_ble_eq_true rfl) (fun x_5 u_5 h_5 => ?_)
  obtain ⟨rfl, hu_5⟩ := h_5
  replace hu_5 := hu_5.symm
  subst hu_5
  refine PW.if_eq (pc := 8) (tgt := 21) dX6_about_8 (by decide) (fun c_8 => PW.st rfl rfl rfl (bad (fun h => has_f hn c_8 h.1))) (fun c_8 => ?_)
  refine PW.iload_n (pc := 11) dX6_about_11 rfl ?_
  refine PW.iconst (pc := 12) (v := nI 0) dX6_about_12 (by decide) ?_
  refine PW.bipush (pc := 13) (v := nI 6) dX6_about_13 (by decide) ?_
  refine cs_X6_69 (pc := 15) hY.rm (c_X6_outside) ⟨Nat.le_of_ble_eq_true rfl, Nat.le_of_ble_eq_true rfl⟩ dX6_about_15 (Nat.le_of_ble_eq_true rfl) (fun x_15 u_15 h_15 => ?_)
  obtain ⟨rfl, hu_15⟩ := h_15
  replace hu_15 := hu_15.symm
  subst hu_15
  refine PW.if_eq (pc := 18) (tgt := 24) dX6_about_18 (by decide) (fun c_18 => ?_) (fun c_18 => PW.st rfl rfl rfl (bad (fun h => out_t c_18 h.2)))
  have hf := has_t hn c_8
  have hw := out_f c_18
  have f1 := x_pos hf.1
  have f2 := na_lt hf.1 hf.2 (by omega)
  have w1 := x_pos hw.1
  have w2 := na_le hw.1 hw.2 (by omega)
  clear c_8 c_18 bad
  revert f1 w1
  generalize na f = fN at *
  generalize na w = wN at *
  intro f1 w1
  subst f1
  subst w1
  refine PW.aload_n (pc := 24) dX6_about_24 rfl ?_
  refine gf_X6_19 (pc := 25) dX6_about_25 ?_
  refine PW.iload_n (pc := 28) dX6_about_28 rfl ?_
  refine PW.iload_n (pc := 29) dX6_about_29 rfl ?_
  refine cs_X6_136 (pc := 30) hY.rm (c_X1_tell (by omega) w2) ⟨Nat.le_of_ble_eq_true rfl, Nat.le_of_ble_eq_true rfl⟩ dX6_about_30 (Nat.le_of_ble_eq_true rfl) (fun x_30 u_30 h_30 => ?_)
  obtain ⟨rfl, hu_30⟩ := h_30
  replace hu_30 := hu_30.symm
  subst hu_30
  refine PW.iret (pc := 33) hY ?_ dX6_about_33
  refine x_ri ?_
  rw [if_pos ⟨hf, hw⟩]
  exact ⟨rfl, rfl⟩
set_option maxHeartbeats 4000000 in
set_option maxRecDepth 20000 in
theorem c_X6_bays {g s : Int32} {M : xM} : K_X6_bays [.ref 0, .int g, .int s] M (xRi (fun x u => (x = if inr g (nI 1) (nI 5000) ∧ inr s (nI 4) (nI 60) then (g + s - nI 1) / s else (-2)) ∧ u = M)) := by
  refine xMet.of (own := RX6) rfl (by decide) (Nat.le_of_ble_eq_true rfl) rfl (fun Y hY => ?_)
  have bad : ¬ (inr g (nI 1) (nI 5000) ∧ inr s (nI 4) (nI 60)) → P_X6_bays Y 21 [] [] M := by
    intro h
    refine PW.bipush (pc := 21) (v := (-2)) dX6_bays_21 (by decide) ?_
    refine PW.iret (pc := 23) hY ?_ dX6_bays_23
    refine x_ri ?_
    rw [if_neg h]; exact ⟨rfl, rfl⟩
  refine PW.iload_n (pc := 0) dX6_bays_0 rfl ?_
  refine PW.iconst (pc := 1) (v := nI 1) dX6_bays_1 (by decide) ?_
  refine PW.sipush (pc := 2) (v := nI 5000) dX6_bays_2 (by decide) ?_
  refine cs_X6_69 (pc := 5) hY.rm (c_X6_outside) ⟨Nat.le_of_ble_eq_true rfl, Nat.le_of_ble_eq_true rfl⟩ dX6_bays_5 (Nat.le_of_ble_eq_true rfl) (fun x_5 u_5 h_5 => ?_)
  obtain ⟨rfl, hu_5⟩ := h_5
  replace hu_5 := hu_5.symm
  subst hu_5
  refine PW.if_ne (pc := 8) (tgt := 21) dX6_bays_8 (by decide) (fun c_8 => PW.st rfl rfl rfl (bad (fun h => out_t c_8 h.1))) (fun c_8 => ?_)
  refine PW.iload_n (pc := 11) dX6_bays_11 rfl ?_
  refine PW.iconst (pc := 12) (v := nI 4) dX6_bays_12 (by decide) ?_
  refine PW.bipush (pc := 13) (v := nI 60) dX6_bays_13 (by decide) ?_
  refine cs_X6_69 (pc := 15) hY.rm (c_X6_outside) ⟨Nat.le_of_ble_eq_true rfl, Nat.le_of_ble_eq_true rfl⟩ dX6_bays_15 (Nat.le_of_ble_eq_true rfl) (fun x_15 u_15 h_15 => ?_)
  obtain ⟨rfl, hu_15⟩ := h_15
  replace hu_15 := hu_15.symm
  subst hu_15
  refine PW.if_eq (pc := 18) (tgt := 24) dX6_bays_18 (by decide) (fun c_18 => ?_) (fun c_18 => PW.st rfl rfl rfl (bad (fun h => out_t c_18 h.2)))
  have h4 := out_f c_18
  have h1 : ¬ s < nI 1 := by
    intro q
    have q2 := h4.1
    rw [Int32.lt_iff_toInt_lt] at q
    rw [Int32.le_iff_toInt_le] at q2
    have e1 : (nI 1).toInt = 1 := rfl
    have e4 : (nI 4).toInt = 4 := rfl
    omega
  refine PW.iload_n (pc := 24) dX6_bays_24 rfl ?_
  refine PW.iload_n (pc := 25) dX6_bays_25 rfl ?_
  refine cs_X6_168 (pc := 26) hY.rm (c_X6_cutUp) ⟨Nat.le_of_ble_eq_true rfl, Nat.le_of_ble_eq_true rfl⟩ dX6_bays_26 (Nat.le_of_ble_eq_true rfl) (fun x_26 u_26 h_26 => ?_)
  obtain ⟨rfl, hu_26⟩ := h_26
  replace hu_26 := hu_26.symm
  subst hu_26
  rw [if_neg h1]
  refine PW.iret (pc := 29) hY ?_ dX6_bays_29
  refine x_ri ?_
  rw [if_pos ⟨out_f c_8, h4⟩]
  exact ⟨rfl, rfl⟩
set_option maxHeartbeats 4000000 in
set_option maxRecDepth 20000 in
theorem c_X6_law {g d : Int32} {n : Nat} {M : xM} (hn : M.1 22 2 = nI n) (h6 : n ≤ 6) : K_X6_law [.ref 0, .int g, .int d] M (xRi (fun x u => if inr g (nI 1) (nI 5000) ∧ inr d (nI 1) (nI 200) then (if 0 < n ∧ (g ≤ M.1 23 (n - 1) ∨ d ≤ M.1 24 (n - 1)) then x = (-3) ∧ u = M else if n < 6 then x = nI (n + 1) ∧ u = xup (xup (xup M 23 n g) 24 n d) 22 2 (nI (n + 1)) else x = (-4) ∧ u = M) else x = (-2) ∧ u = M)) := by
  refine xMet.of (own := RX6) rfl (by decide) (Nat.le_of_ble_eq_true rfl) rfl (fun Y hY => ?_)
  have bad : ¬ (inr g (nI 1) (nI 5000) ∧ inr d (nI 1) (nI 200)) → P_X6_law Y 22 [] [] M := by
    intro h
    refine PW.bipush (pc := 22) (v := (-2)) dX6_law_22 (by decide) ?_
    refine PW.iret (pc := 24) hY ?_ dX6_law_24
    refine x_ri ?_
    rw [if_neg h]; exact ⟨rfl, rfl⟩
  refine PW.iload_n (pc := 0) dX6_law_0 rfl ?_
  refine PW.iconst (pc := 1) (v := nI 1) dX6_law_1 (by decide) ?_
  refine PW.sipush (pc := 2) (v := nI 5000) dX6_law_2 (by decide) ?_
  refine cs_X6_69 (pc := 5) hY.rm (c_X6_outside) ⟨Nat.le_of_ble_eq_true rfl, Nat.le_of_ble_eq_true rfl⟩ dX6_law_5 (Nat.le_of_ble_eq_true rfl) (fun x_5 u_5 h_5 => ?_)
  obtain ⟨rfl, hu_5⟩ := h_5
  replace hu_5 := hu_5.symm
  subst hu_5
  refine PW.if_ne (pc := 8) (tgt := 22) dX6_law_8 (by decide) (fun c_8 => PW.st rfl rfl rfl (bad (fun h => out_t c_8 h.1))) (fun c_8 => ?_)
  refine PW.iload_n (pc := 11) dX6_law_11 rfl ?_
  refine PW.iconst (pc := 12) (v := nI 1) dX6_law_12 (by decide) ?_
  refine PW.sipush (pc := 13) (v := nI 200) dX6_law_13 (by decide) ?_
  refine cs_X6_69 (pc := 16) hY.rm (c_X6_outside) ⟨Nat.le_of_ble_eq_true rfl, Nat.le_of_ble_eq_true rfl⟩ dX6_law_16 (Nat.le_of_ble_eq_true rfl) (fun x_16 u_16 h_16 => ?_)
  obtain ⟨rfl, hu_16⟩ := h_16
  replace hu_16 := hu_16.symm
  subst hu_16
  refine PW.if_eq (pc := 19) (tgt := 25) dX6_law_19 (by decide) (fun c_19 => ?_) (fun c_19 => PW.st rfl rfl rfl (bad (fun h => out_t c_19 h.2)))
  refine PW.aload_n (pc := 25) dX6_law_25 rfl ?_
  refine gf_X6_40 (pc := 26) dX6_law_26 ?_
  refine PW.iload_n (pc := 29) dX6_law_29 rfl ?_
  refine PW.iload_n (pc := 30) dX6_law_30 rfl ?_
  refine cs_X6_171 (pc := 31) hY.rm (c_X2_write hn h6) ⟨Nat.le_of_ble_eq_true rfl, Nat.le_of_ble_eq_true rfl⟩ dX6_law_31 (Nat.le_of_ble_eq_true rfl) (fun x_31 u_31 h_31 => ?_)
  refine PW.iret (pc := 34) hY ?_ dX6_law_34
  refine x_ri ?_
  rw [if_pos ⟨out_f c_8, out_f c_19⟩]
  exact h_31
set_option maxHeartbeats 4000000 in
set_option maxRecDepth 20000 in
theorem c_X6_unlaw {M : xM} : K_X6_unlaw [.ref 0] M (xRi (fun x u => x = M.1 22 2 ∧ u = xup M 22 2 (nI 0))) := by
  refine xMet.of (own := RX6) rfl (by decide) (Nat.le_of_ble_eq_true rfl) rfl (fun Y hY => ?_)
  refine PW.aload_n (pc := 0) dX6_unlaw_0 rfl ?_
  refine gf_X6_40 (pc := 1) dX6_unlaw_1 ?_
  refine gf_X6_174 (pc := 4) dX6_unlaw_4 ?_
  refine PW.istore_n (pc := 7) (i := 1) dX6_unlaw_7 rfl (by decide) rfl ?_
  refine PW.aload_n (pc := 8) dX6_unlaw_8 rfl ?_
  refine gf_X6_40 (pc := 9) dX6_unlaw_9 ?_
  refine PW.iconst (pc := 12) (v := nI 0) dX6_unlaw_12 (by decide) ?_
  refine pf_X6_174 (pc := 13) dX6_unlaw_13 ?_
  refine PW.iload_n (pc := 16) dX6_unlaw_16 rfl ?_
  refine PW.iret (pc := 17) hY ?_ dX6_unlaw_17
  exact x_ri ⟨rfl, rfl⟩
set_option maxHeartbeats 4000000 in
set_option maxRecDepth 20000 in
theorem c_X6_doors {g : Int32} {n : Nat} {M : xM} (hn : M.1 22 2 = nI n) (h6 : n ≤ 6) : K_X6_doors [.ref 0, .int g] M (xRi (fun x u => (x = if inr g (nI 1) (nI 5000) then dfor (M.1 23) (M.1 24) g n else (-2)) ∧ u = M)) := by
  refine xMet.of (own := RX6) rfl (by decide) (Nat.le_of_ble_eq_true rfl) rfl (fun Y hY => ?_)
  refine PW.iload_n (pc := 0) dX6_doors_0 rfl ?_
  refine PW.iconst (pc := 1) (v := nI 1) dX6_doors_1 (by decide) ?_
  refine PW.sipush (pc := 2) (v := nI 5000) dX6_doors_2 (by decide) ?_
  refine cs_X6_69 (pc := 5) hY.rm (c_X6_outside) ⟨Nat.le_of_ble_eq_true rfl, Nat.le_of_ble_eq_true rfl⟩ dX6_doors_5 (Nat.le_of_ble_eq_true rfl) (fun x_5 u_5 h_5 => ?_)
  obtain ⟨rfl, hu_5⟩ := h_5
  replace hu_5 := hu_5.symm
  subst hu_5
  refine PW.if_eq (pc := 8) (tgt := 16) dX6_doors_8 (by decide) (fun c_8 => ?_) (fun c_8 => ?_)
  · refine PW.aload_n (pc := 16) dX6_doors_16 rfl ?_
    refine gf_X6_40 (pc := 17) dX6_doors_17 ?_
    refine PW.iload_n (pc := 20) dX6_doors_20 rfl ?_
    refine cs_X6_177 (pc := 21) hY.rm (c_X2_doorsFor hn h6) ⟨Nat.le_of_ble_eq_true rfl, Nat.le_of_ble_eq_true rfl⟩ dX6_doors_21 (Nat.le_of_ble_eq_true rfl) (fun x_21 u_21 h_21 => ?_)
    obtain ⟨rfl, hu_21⟩ := h_21
    replace hu_21 := hu_21.symm
    subst hu_21
    refine PW.iret (pc := 24) hY ?_ dX6_doors_24
    refine x_ri ?_
    rw [if_pos (out_f c_8)]
    exact ⟨rfl, rfl⟩
  · refine PW.bipush (pc := 11) (v := (-2)) dX6_doors_11 (by decide) ?_
    refine PW.goto (pc := 13) (tgt := 24) dX6_doors_13 (by decide) ?_
    refine PW.iret (pc := 24) hY ?_ dX6_doors_24
    refine x_ri ?_
    rw [if_neg (out_t c_8)]
    exact ⟨rfl, rfl⟩
set_option maxHeartbeats 4000000 in
set_option maxRecDepth 20000 in
theorem c_X6_keeps {g b : Int32} {n : Nat} {M : xM} (hn : M.1 22 2 = nI n) (h6 : n ≤ 6) : K_X6_keeps [.ref 0, .int g, .int b] M (xRi (fun x u => (x = if inr g (nI 1) (nI 5000) ∧ inr b (nI 1) (nI 2000) then xB (dfor (M.1 23) (M.1 24) g n ≤ nI 2 * b + nI 2) else (-2)) ∧ u = M)) := by
  refine xMet.of (own := RX6) rfl (by decide) (Nat.le_of_ble_eq_true rfl) rfl (fun Y hY => ?_)
  have bad : ¬ (inr g (nI 1) (nI 5000) ∧ inr b (nI 1) (nI 2000)) → P_X6_keeps Y 22 [] [] M := by
    intro h
    refine PW.bipush (pc := 22) (v := (-2)) dX6_keeps_22 (by decide) ?_
    refine PW.iret (pc := 24) hY ?_ dX6_keeps_24
    refine x_ri ?_
    rw [if_neg h]; exact ⟨rfl, rfl⟩
  refine PW.iload_n (pc := 0) dX6_keeps_0 rfl ?_
  refine PW.iconst (pc := 1) (v := nI 1) dX6_keeps_1 (by decide) ?_
  refine PW.sipush (pc := 2) (v := nI 5000) dX6_keeps_2 (by decide) ?_
  refine cs_X6_69 (pc := 5) hY.rm (c_X6_outside) ⟨Nat.le_of_ble_eq_true rfl, Nat.le_of_ble_eq_true rfl⟩ dX6_keeps_5 (Nat.le_of_ble_eq_true rfl) (fun x_5 u_5 h_5 => ?_)
  obtain ⟨rfl, hu_5⟩ := h_5
  replace hu_5 := hu_5.symm
  subst hu_5
  refine PW.if_ne (pc := 8) (tgt := 22) dX6_keeps_8 (by decide) (fun c_8 => PW.st rfl rfl rfl (bad (fun h => out_t c_8 h.1))) (fun c_8 => ?_)
  refine PW.iload_n (pc := 11) dX6_keeps_11 rfl ?_
  refine PW.iconst (pc := 12) (v := nI 1) dX6_keeps_12 (by decide) ?_
  refine PW.sipush (pc := 13) (v := nI 2000) dX6_keeps_13 (by decide) ?_
  refine cs_X6_69 (pc := 16) hY.rm (c_X6_outside) ⟨Nat.le_of_ble_eq_true rfl, Nat.le_of_ble_eq_true rfl⟩ dX6_keeps_16 (Nat.le_of_ble_eq_true rfl) (fun x_16 u_16 h_16 => ?_)
  obtain ⟨rfl, hu_16⟩ := h_16
  replace hu_16 := hu_16.symm
  subst hu_16
  refine PW.if_eq (pc := 19) (tgt := 25) dX6_keeps_19 (by decide) (fun c_19 => ?_) (fun c_19 => PW.st rfl rfl rfl (bad (fun h => out_t c_19 h.2)))
  have G : inr g (nI 1) (nI 5000) ∧ inr b (nI 1) (nI 2000) := ⟨out_f c_8, out_f c_19⟩
  refine PW.aload_n (pc := 25) dX6_keeps_25 rfl ?_
  refine gf_X6_40 (pc := 26) dX6_keeps_26 ?_
  refine PW.iload_n (pc := 29) dX6_keeps_29 rfl ?_
  refine cs_X6_177 (pc := 30) hY.rm (c_X2_doorsFor hn h6) ⟨Nat.le_of_ble_eq_true rfl, Nat.le_of_ble_eq_true rfl⟩ dX6_keeps_30 (Nat.le_of_ble_eq_true rfl) (fun x_30 u_30 h_30 => ?_)
  obtain ⟨rfl, hu_30⟩ := h_30
  replace hu_30 := hu_30.symm
  subst hu_30
  refine PW.iconst (pc := 33) (v := nI 2) dX6_keeps_33 (by decide) ?_
  refine PW.iload_n (pc := 34) dX6_keeps_34 rfl ?_
  refine PW.imul (pc := 35) dX6_keeps_35 ?_
  refine PW.iconst (pc := 36) (v := nI 2) dX6_keeps_36 (by decide) ?_
  refine PW.iadd (pc := 37) dX6_keeps_37 ?_
  refine PW.icmp_gt (pc := 38) (tgt := 45) dX6_keeps_38 (by decide) (fun c_38 => ?_) (fun c_38 => ?_)
  · refine PW.iconst (pc := 45) (v := nI 0) dX6_keeps_45 (by decide) ?_
    refine cs_X6_125 (pc := 46) hY.rm (c_X6_bit) ⟨Nat.le_of_ble_eq_true rfl, Nat.le_of_ble_eq_true rfl⟩ dX6_keeps_46 (Nat.le_of_ble_eq_true rfl) (fun x_46 u_46 h_46 => ?_)
    obtain ⟨rfl, hu_46⟩ := h_46
    replace hu_46 := hu_46.symm
    subst hu_46
    refine PW.iret (pc := 49) hY ?_ dX6_keeps_49
    refine x_ri ?_
    rw [if_pos G, xB_f (x_nl c_38)]
    exact ⟨by decide, rfl⟩
  · refine PW.iconst (pc := 41) (v := nI 1) dX6_keeps_41 (by decide) ?_
    refine PW.goto (pc := 42) (tgt := 46) dX6_keeps_42 (by decide) ?_
    refine cs_X6_125 (pc := 46) hY.rm (c_X6_bit) ⟨Nat.le_of_ble_eq_true rfl, Nat.le_of_ble_eq_true rfl⟩ dX6_keeps_46 (Nat.le_of_ble_eq_true rfl) (fun x_46 u_46 h_46 => ?_)
    obtain ⟨rfl, hu_46⟩ := h_46
    replace hu_46 := hu_46.symm
    subst hu_46
    refine PW.iret (pc := 49) hY ?_ dX6_keeps_49
    refine x_ri ?_
    rw [if_pos G, xB_t (x_ge c_38)]
    exact ⟨by decide, rfl⟩
set_option maxHeartbeats 4000000 in
set_option maxRecDepth 20000 in
theorem c_X6_soil {s h : Int32} {M : xM} : K_X6_soil [.ref 0, .int s, .int h] M (xRi (fun x u => if inr s (nI 0) (nI 3) ∧ inr h (nI 1) (nI 1000) then x = M.1 31 (na s) ∧ u = xup M 31 (na s) h else x = (-2) ∧ u = M)) := by
  refine xMet.of (own := RX6) rfl (by decide) (Nat.le_of_ble_eq_true rfl) rfl (fun Y hY => ?_)
  have bad : ¬ (inr s (nI 0) (nI 3) ∧ inr h (nI 1) (nI 1000)) → P_X6_soil Y 20 [] [] M := by
    intro h
    refine PW.bipush (pc := 20) (v := (-2)) dX6_soil_20 (by decide) ?_
    refine PW.iret (pc := 22) hY ?_ dX6_soil_22
    refine x_ri ?_
    rw [if_neg h]; exact ⟨rfl, rfl⟩
  refine PW.iload_n (pc := 0) dX6_soil_0 rfl ?_
  refine PW.iconst (pc := 1) (v := nI 0) dX6_soil_1 (by decide) ?_
  refine PW.iconst (pc := 2) (v := nI 3) dX6_soil_2 (by decide) ?_
  refine cs_X6_69 (pc := 3) hY.rm (c_X6_outside) ⟨Nat.le_of_ble_eq_true rfl, Nat.le_of_ble_eq_true rfl⟩ dX6_soil_3 (Nat.le_of_ble_eq_true rfl) (fun x_3 u_3 h_3 => ?_)
  obtain ⟨rfl, hu_3⟩ := h_3
  replace hu_3 := hu_3.symm
  subst hu_3
  refine PW.if_ne (pc := 6) (tgt := 20) dX6_soil_6 (by decide) (fun c_6 => PW.st rfl rfl rfl (bad (fun h => out_t c_6 h.1))) (fun c_6 => ?_)
  refine PW.iload_n (pc := 9) dX6_soil_9 rfl ?_
  refine PW.iconst (pc := 10) (v := nI 1) dX6_soil_10 (by decide) ?_
  refine PW.sipush (pc := 11) (v := nI 1000) dX6_soil_11 (by decide) ?_
  refine cs_X6_69 (pc := 14) hY.rm (c_X6_outside) ⟨Nat.le_of_ble_eq_true rfl, Nat.le_of_ble_eq_true rfl⟩ dX6_soil_14 (Nat.le_of_ble_eq_true rfl) (fun x_14 u_14 h_14 => ?_)
  obtain ⟨rfl, hu_14⟩ := h_14
  replace hu_14 := hu_14.symm
  subst hu_14
  refine PW.if_eq (pc := 17) (tgt := 23) dX6_soil_17 (by decide) (fun c_17 => ?_) (fun c_17 => PW.st rfl rfl rfl (bad (fun h => out_t c_17 h.2)))
  have hs := out_f c_6
  have s1 := x_pos hs.1
  have s2 := na_le hs.1 hs.2 (by omega)
  refine PW.aload_n (pc := 23) dX6_soil_23 rfl ?_
  refine gf_X6_51 (pc := 24) dX6_soil_24 ?_
  refine PW.iload_n (pc := 27) dX6_soil_27 rfl ?_
  refine PW.ialdN (pc := 28) rfl s1 (by omega) (by decide) dX6_soil_28 ?_
  refine PW.istore_n (pc := 29) (i := 3) dX6_soil_29 rfl (by decide) rfl ?_
  refine PW.aload_n (pc := 30) dX6_soil_30 rfl ?_
  refine gf_X6_51 (pc := 31) dX6_soil_31 ?_
  refine PW.iload_n (pc := 34) dX6_soil_34 rfl ?_
  refine PW.iload_n (pc := 35) dX6_soil_35 rfl ?_
  refine PW.iastN (pc := 36) rfl s1 (by omega) (by decide) dX6_soil_36 ?_
  refine PW.iload_n (pc := 37) dX6_soil_37 rfl ?_
  refine PW.iret (pc := 38) hY ?_ dX6_soil_38
  refine x_ri ?_
  rw [if_pos ⟨hs, out_f c_17⟩]
  exact ⟨rfl, rfl⟩
set_option maxHeartbeats 4000000 in
set_option maxRecDepth 20000 in
theorem c_X6_pitch {f s b k : Int32} {n : Nat} {M : xM} (hn : M.1 8 9 = nI n) (h10 : n ≤ 10) : K_X6_pitch [.ref 0, .int f, .int s, .int b, .int k] M (xRi (fun x u => if okF f n ∧ inr s (nI 0) (nI 3) ∧ inr b (nI 0) (nI 99) ∧ inr k (nI 0) (nI 999) then x = nI 1 ∧ u = xup (xup (xup M 13 (na f) s) 14 (na f) b) 15 (na f) k else x = (-2) ∧ u = M)) := by
  refine xMet.of (own := RX6) rfl (by decide) (Nat.le_of_ble_eq_true rfl) rfl (fun Y hY => ?_)
  have bad20 : ¬ (okF f n ∧ inr s (nI 0) (nI 3) ∧ inr b (nI 0) (nI 99) ∧ inr k (nI 0) (nI 999)) → P_X6_pitch Y 20 [] [] M := by
    intro h
    refine PW.bipush (pc := 20) (v := (-2)) dX6_pitch_20 (by decide) ?_
    refine PW.iret (pc := 22) hY ?_ dX6_pitch_22
    refine x_ri ?_
    rw [if_neg h]; exact ⟨rfl, rfl⟩
  have bad45 : ¬ (okF f n ∧ inr s (nI 0) (nI 3) ∧ inr b (nI 0) (nI 99) ∧ inr k (nI 0) (nI 999)) → P_X6_pitch Y 45 [] [] M := by
    intro h
    refine PW.bipush (pc := 45) (v := (-2)) dX6_pitch_45 (by decide) ?_
    refine PW.iret (pc := 47) hY ?_ dX6_pitch_47
    refine x_ri ?_
    rw [if_neg h]; exact ⟨rfl, rfl⟩
  refine PW.aload_n (pc := 0) dX6_pitch_0 rfl ?_
  refine gf_X6_19 (pc := 1) dX6_pitch_1 ?_
  refine PW.iload_n (pc := 4) dX6_pitch_4 rfl ?_
  refine cs_X6_93 (pc := 5) hY.rm (c_X1_has) ⟨Nat.le_of_ble_eq_true rfl, Nat.le_of_ble_eq_true rfl⟩ dX6_pitch_5 (Nat.le_of_ble_eq_true rfl) (fun x_5 u_5 h_5 => ?_)
  obtain ⟨rfl, hu_5⟩ := h_5
  replace hu_5 := hu_5.symm
  subst hu_5
  refine PW.if_eq (pc := 8) (tgt := 20) dX6_pitch_8 (by decide) (fun c_8 => PW.st rfl rfl rfl (bad20 (fun h => has_f hn c_8 h.1))) (fun c_8 => ?_)
  refine PW.iload_n (pc := 11) dX6_pitch_11 rfl ?_
  refine PW.iconst (pc := 12) (v := nI 0) dX6_pitch_12 (by decide) ?_
  refine PW.iconst (pc := 13) (v := nI 3) dX6_pitch_13 (by decide) ?_
  refine cs_X6_69 (pc := 14) hY.rm (c_X6_outside) ⟨Nat.le_of_ble_eq_true rfl, Nat.le_of_ble_eq_true rfl⟩ dX6_pitch_14 (Nat.le_of_ble_eq_true rfl) (fun x_14 u_14 h_14 => ?_)
  obtain ⟨rfl, hu_14⟩ := h_14
  replace hu_14 := hu_14.symm
  subst hu_14
  refine PW.if_eq (pc := 17) (tgt := 23) dX6_pitch_17 (by decide) (fun c_17 => ?_) (fun c_17 => PW.st rfl rfl rfl (bad20 (fun h => out_t c_17 h.2.1)))
  refine PW.iload_n (pc := 23) dX6_pitch_23 rfl ?_
  refine PW.iconst (pc := 24) (v := nI 0) dX6_pitch_24 (by decide) ?_
  refine PW.bipush (pc := 25) (v := nI 99) dX6_pitch_25 (by decide) ?_
  refine cs_X6_69 (pc := 27) hY.rm (c_X6_outside) ⟨Nat.le_of_ble_eq_true rfl, Nat.le_of_ble_eq_true rfl⟩ dX6_pitch_27 (Nat.le_of_ble_eq_true rfl) (fun x_27 u_27 h_27 => ?_)
  obtain ⟨rfl, hu_27⟩ := h_27
  replace hu_27 := hu_27.symm
  subst hu_27
  refine PW.if_ne (pc := 30) (tgt := 45) dX6_pitch_30 (by decide) (fun c_30 => PW.st rfl rfl rfl (bad45 (fun h => out_t c_30 h.2.2.1))) (fun c_30 => ?_)
  refine PW.iload (pc := 33) dX6_pitch_33 rfl ?_
  refine PW.iconst (pc := 35) (v := nI 0) dX6_pitch_35 (by decide) ?_
  refine PW.sipush (pc := 36) (v := nI 999) dX6_pitch_36 (by decide) ?_
  refine cs_X6_69 (pc := 39) hY.rm (c_X6_outside) ⟨Nat.le_of_ble_eq_true rfl, Nat.le_of_ble_eq_true rfl⟩ dX6_pitch_39 (Nat.le_of_ble_eq_true rfl) (fun x_39 u_39 h_39 => ?_)
  obtain ⟨rfl, hu_39⟩ := h_39
  replace hu_39 := hu_39.symm
  subst hu_39
  refine PW.if_eq (pc := 42) (tgt := 48) dX6_pitch_42 (by decide) (fun c_42 => ?_) (fun c_42 => PW.st rfl rfl rfl (bad45 (fun h => out_t c_42 h.2.2.2)))
  have hf := has_t hn c_8
  obtain ⟨f1, f2⟩ := okF_nat hf h10
  refine PW.aload_n (pc := 48) dX6_pitch_48 rfl ?_
  refine gf_X6_19 (pc := 49) dX6_pitch_49 ?_
  refine gf_X6_180 (pc := 52) dX6_pitch_52 ?_
  refine PW.iload_n (pc := 55) dX6_pitch_55 rfl ?_
  refine PW.iload_n (pc := 56) dX6_pitch_56 rfl ?_
  refine PW.iastN (pc := 57) rfl f1 (by omega) (by decide) dX6_pitch_57 ?_
  refine PW.aload_n (pc := 58) dX6_pitch_58 rfl ?_
  refine gf_X6_19 (pc := 59) dX6_pitch_59 ?_
  refine gf_X6_183 (pc := 62) dX6_pitch_62 ?_
  refine PW.iload_n (pc := 65) dX6_pitch_65 rfl ?_
  refine PW.iload_n (pc := 66) dX6_pitch_66 rfl ?_
  refine PW.iastN (pc := 67) rfl f1 (by omega) (by decide) dX6_pitch_67 ?_
  refine PW.aload_n (pc := 68) dX6_pitch_68 rfl ?_
  refine gf_X6_19 (pc := 69) dX6_pitch_69 ?_
  refine gf_X6_186 (pc := 72) dX6_pitch_72 ?_
  refine PW.iload_n (pc := 75) dX6_pitch_75 rfl ?_
  refine PW.iload (pc := 76) dX6_pitch_76 rfl ?_
  refine PW.iastN (pc := 78) rfl f1 (by omega) (by decide) dX6_pitch_78 ?_
  refine PW.iconst (pc := 79) (v := nI 1) dX6_pitch_79 (by decide) ?_
  refine PW.iret (pc := 80) hY ?_ dX6_pitch_80
  refine x_ri ?_
  rw [if_pos ⟨hf, out_f c_17, out_f c_30, out_f c_42⟩]
  exact ⟨rfl, rfl⟩
