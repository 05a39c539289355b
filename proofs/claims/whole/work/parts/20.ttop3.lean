/-! the class's calls that use the ledger -/
theorem TB.up {M : xM} {n : Nat} {p k : Nat} {x : Int32} (h : TB M n) (hp : p ≠ 8 ∧ p ≠ 9 ∧ p ≠ 10 ∧ p ≠ 11 ∧ p ≠ 16 ∧ p ≠ 2 ∧ p ≠ 3 ∧ p ≠ 5 ∧ p ≠ 7 ∧ p ≠ 19) : TB (xup M p k x) n := by
  have e : ∀ q, q ≠ p → (xup M p k x).1 q = M.1 q := fun q hq => by simp [xup, hq]
  unfold TB FB ThB at *
  rw [e 8 (by omega), e 9 (by omega), e 10 (by omega), e 11 (by omega), e 16 (by omega), e 2 (by omega), e 3 (by omega), e 5 (by omega), e 7 (by omega), e 19 (by omega)]
  exact h
theorem TB.up16 {M : xM} {n j : Nat} {x : Int32} (h : TB M n) (hx : inr x (nI 0) (nI 500)) : TB (xup M 16 j x) n := by
  have e : ∀ q, q ≠ 16 → (xup M 16 j x).1 q = M.1 q := fun q hq => by simp [xup, hq]
  have h2 := h
  unfold TB FB ThB at *
  rw [e 8 (by omega), e 9 (by omega), e 10 (by omega), e 11 (by omega), e 2 (by omega), e 3 (by omega), e 5 (by omega), e 7 (by omega), e 19 (by omega)]
  refine ⟨h.1, h.2.1, fun f hf => ?_, h.2.2.2⟩
  obtain ⟨a1, a2, a3, a4, a5⟩ := h.2.2.1 f hf
  refine ⟨a1, a2, a3, a4, fun t ht => ?_⟩
  rw [xup_1]
  by_cases q : f * 6 + t = j
  · rw [if_pos ⟨rfl, q⟩]
    exact ⟨x_pos hx.1, na_le hx.1 hx.2 (by omega)⟩
  · rw [if_neg (fun z => q z.2)]
    exact a5 t ht
theorem pow_lt10 {j n : Nat} (hj : j < n) (h10 : n ≤ 10) : 2 ^ j < 1024 := Nat.pow_lt_pow_right (a := 2) (n := 10) (by omega) (by omega)
set_option maxHeartbeats 4000000 in
set_option maxRecDepth 20000 in
theorem c_X6_take {f : Int32} {n : Nat} {M : xM} (hB : TB M n) : K_X6_take [.ref 0, .int f] M (xRi (fun x u => if okF f n then (if M.1 12 (na f) = 0 ∧ LKn M n (TK M n ||| 2 ^ na f) = 0 then x = nI 1 ∧ ∃ v, xFr M v ∧ u = xup v 12 (na f) (nI 1) else x = (-3) ∧ xFr M u) else x = (-2) ∧ xFr M u)) := by
  refine xMet.of (own := RX6) rfl (by decide) (Nat.le_of_ble_eq_true rfl) rfl (fun Y hY => ?_)
  have hn := hB.has
  have h10 := hB.n10
  have bad : ¬ okF f n → P_X6_take Y 11 [] [] M := by
    intro h
    refine PW.bipush (pc := 11) (v := (-2)) dX6_take_11 (by decide) ?_
    refine PW.iret (pc := 13) hY ?_ dX6_take_13
    refine x_ri ?_
    rw [if_neg h]; exact ⟨rfl, xFr.rf⟩
  refine PW.aload_n (pc := 0) dX6_take_0 rfl ?_
  refine gf_X6_19 (pc := 1) dX6_take_1 ?_
  refine PW.iload_n (pc := 4) dX6_take_4 rfl ?_
  refine cs_X6_93 (pc := 5) hY.rm (c_X1_has) ⟨Nat.le_of_ble_eq_true rfl, Nat.le_of_ble_eq_true rfl⟩ dX6_take_5 (Nat.le_of_ble_eq_true rfl) (fun x_5 u_5 h_5 => ?_)
  obtain ⟨rfl, hu_5⟩ := h_5
  replace hu_5 := hu_5.symm
  subst hu_5
  refine PW.if_ne (pc := 8) (tgt := 14) dX6_take_8 (by decide) (fun c_8 => ?_) (fun c_8 => PW.st rfl rfl rfl (bad (has_f hn c_8)))
  have G := has_t hn c_8
  obtain ⟨f1, f2⟩ := okF_nat G h10
  clear c_8 bad
  revert f1 f2
  generalize na f = fN at *
  intro f1 f2
  subst f1
  refine PW.aload_n (pc := 14) dX6_take_14 rfl ?_
  refine gf_X6_19 (pc := 15) dX6_take_15 ?_
  refine gf_X6_96 (pc := 18) dX6_take_18 ?_
  refine PW.iload_n (pc := 21) dX6_take_21 rfl ?_
  refine PW.ialdN (pc := 22) rfl rfl (by omega) (by decide) dX6_take_22 ?_
  refine PW.if_ne (pc := 23) (tgt := 45) dX6_take_23 (by decide) (fun c_23 => ?_) (fun c_23 => ?_)
  · refine PW.bipush (pc := 45) (v := (-3)) dX6_take_45 (by decide) ?_
    refine PW.iret (pc := 47) hY ?_ dX6_take_47
    refine x_ri ?_
    rw [if_pos G, if_neg (fun q => c_23 q.1)]
    exact ⟨rfl, xFr.rf⟩
  · refine PW.aload_n (pc := 26) dX6_take_26 rfl ?_
    refine PW.aload_n (pc := 27) dX6_take_27 rfl ?_
    refine gf_X6_19 (pc := 28) dX6_take_28 ?_
    refine PW.iconst (pc := 31) (v := nI 1) dX6_take_31 (by decide) ?_
    refine cs_X6_110 (pc := 32) hY.rm (c_X1_setOf hn h10) ⟨Nat.le_of_ble_eq_true rfl, Nat.le_of_ble_eq_true rfl⟩ dX6_take_32 (Nat.le_of_ble_eq_true rfl) (fun x_32 u_32 h_32 => ?_)
    obtain ⟨rfl, hu_32⟩ := h_32
    replace hu_32 := hu_32.symm
    subst hu_32
    refine PW.iconst (pc := 35) (v := nI 1) dX6_take_35 (by decide) ?_
    refine PW.iload_n (pc := 36) dX6_take_36 rfl ?_
    refine PW.ishl (pc := 37) dX6_take_37 ?_
    rw [x_shl1 (by omega)]
    refine PW.ior (pc := 38) dX6_take_38 ?_
    rw [fa_or, show xset (M.1 12) (nI 1) n = TK M n from rfl]
    refine cs_X6_114 (pc := 39) hY.rm (c_X6_goTogether hB (or_lt (TK_lt hB) (pow_lt10 f2 h10))) ⟨Nat.le_of_ble_eq_true rfl, Nat.le_of_ble_eq_true rfl⟩ dX6_take_39 (Nat.le_of_ble_eq_true rfl) (fun x_39 u_39 h_39 => ?_)
    obtain ⟨hx, hF, hL⟩ := h_39
    subst hx
    refine PW.if_ne (pc := 42) (tgt := 48) dX6_take_42 (by decide) (fun c_42 => ?_) (fun c_42 => ?_)
    · have k := (hL.fit2).mp (bool_t c_42)
      refine PW.aload_n (pc := 48) dX6_take_48 rfl ?_
      refine gf_X6_19 (pc := 49) dX6_take_49 ?_
      refine gf_X6_96 (pc := 52) dX6_take_52 ?_
      refine PW.iload_n (pc := 55) dX6_take_55 rfl ?_
      refine PW.iconst (pc := 56) (v := nI 1) dX6_take_56 (by decide) ?_
      refine PW.iastN (pc := 57) rfl rfl (by omega) (by decide) dX6_take_57 ?_
      refine PW.iconst (pc := 58) (v := nI 1) dX6_take_58 (by decide) ?_
      refine PW.iret (pc := 59) hY ?_ dX6_take_59
      refine x_ri ?_
      rw [if_pos G, if_pos ⟨c_23, k⟩]
      exact ⟨rfl, _, hF, rfl⟩
    · have k := bool_f c_42
      rw [hL.fit2] at k
      refine PW.bipush (pc := 45) (v := (-3)) dX6_take_45 (by decide) ?_
      refine PW.iret (pc := 47) hY ?_ dX6_take_47
      refine x_ri ?_
      rw [if_pos G, if_neg (fun q => k q.2)]
      exact ⟨rfl, hF⟩
set_option maxHeartbeats 4000000 in
set_option maxRecDepth 20000 in
theorem c_X6_hire {f : Int32} {n : Nat} {M : xM} (hB : TB M n) : K_X6_hire [.ref 0, .int f] M (xRi (fun x u => if okF f n then (if M.1 12 (na f) = 0 then x = (lN (HSn (xup M 12 (na f) (nI 1)) n (TK (xup M 12 (na f) (nI 1)) n))).toInt32 ∧ xFr (xup M 12 (na f) (nI 1)) u else x = (-3) ∧ xFr M u) else x = (-2) ∧ xFr M u)) := by
  refine xMet.of (own := RX6) rfl (by decide) (Nat.le_of_ble_eq_true rfl) rfl (fun Y hY => ?_)
  have hn := hB.has
  have h10 := hB.n10
  have bad : ¬ okF f n → P_X6_hire Y 11 [] [] M := by
    intro h
    refine PW.bipush (pc := 11) (v := (-2)) dX6_hire_11 (by decide) ?_
    refine PW.iret (pc := 13) hY ?_ dX6_hire_13
    refine x_ri ?_
    rw [if_neg h]; exact ⟨rfl, xFr.rf⟩
  refine PW.aload_n (pc := 0) dX6_hire_0 rfl ?_
  refine gf_X6_19 (pc := 1) dX6_hire_1 ?_
  refine PW.iload_n (pc := 4) dX6_hire_4 rfl ?_
  refine cs_X6_93 (pc := 5) hY.rm (c_X1_has) ⟨Nat.le_of_ble_eq_true rfl, Nat.le_of_ble_eq_true rfl⟩ dX6_hire_5 (Nat.le_of_ble_eq_true rfl) (fun x_5 u_5 h_5 => ?_)
  obtain ⟨rfl, hu_5⟩ := h_5
  replace hu_5 := hu_5.symm
  subst hu_5
  refine PW.if_ne (pc := 8) (tgt := 14) dX6_hire_8 (by decide) (fun c_8 => ?_) (fun c_8 => PW.st rfl rfl rfl (bad (has_f hn c_8)))
  have G := has_t hn c_8
  obtain ⟨f1, f2⟩ := okF_nat G h10
  clear c_8 bad
  revert f1 f2
  generalize na f = fN at *
  intro f1 f2
  subst f1
  have hB1 : TB (xup M 12 fN (nI 1)) n := hB.up (by decide)
  refine PW.aload_n (pc := 14) dX6_hire_14 rfl ?_
  refine gf_X6_19 (pc := 15) dX6_hire_15 ?_
  refine gf_X6_96 (pc := 18) dX6_hire_18 ?_
  refine PW.iload_n (pc := 21) dX6_hire_21 rfl ?_
  refine PW.ialdN (pc := 22) rfl rfl (by omega) (by decide) dX6_hire_22 ?_
  refine PW.if_eq (pc := 23) (tgt := 29) dX6_hire_23 (by decide) (fun c_23 => ?_) (fun c_23 => ?_)
  · refine PW.aload_n (pc := 29) dX6_hire_29 rfl ?_
    refine gf_X6_19 (pc := 30) dX6_hire_30 ?_
    refine gf_X6_96 (pc := 33) dX6_hire_33 ?_
    refine PW.iload_n (pc := 36) dX6_hire_36 rfl ?_
    refine PW.iconst (pc := 37) (v := nI 1) dX6_hire_37 (by decide) ?_
    refine PW.iastN (pc := 38) rfl rfl (by omega) (by decide) dX6_hire_38 ?_
    refine PW.aload_n (pc := 39) dX6_hire_39 rfl ?_
    refine PW.aload_n (pc := 40) dX6_hire_40 rfl ?_
    refine gf_X6_19 (pc := 41) dX6_hire_41 ?_
    refine PW.iconst (pc := 44) (v := nI 1) dX6_hire_44 (by decide) ?_
    refine cs_X6_110 (pc := 45) hY.rm (c_X1_setOf hB1.has h10) ⟨Nat.le_of_ble_eq_true rfl, Nat.le_of_ble_eq_true rfl⟩ dX6_hire_45 (Nat.le_of_ble_eq_true rfl) (fun x_45 u_45 h_45 => ?_)
    obtain ⟨rfl, hu_45⟩ := h_45
    replace hu_45 := hu_45.symm
    subst hu_45
    rw [show xset ((xup M 12 fN (nI 1)).1 12) (nI 1) n = TK (xup M 12 fN (nI 1)) n from rfl]
    refine cs_X6_117 (pc := 48) hY.rm (c_X6_countAnew hB1 (TK_lt hB1)) ⟨Nat.le_of_ble_eq_true rfl, Nat.le_of_ble_eq_true rfl⟩ dX6_hire_48 (Nat.le_of_ble_eq_true rfl) (fun u_48 h_48 => ?_)
    obtain ⟨hF, hL⟩ := h_48
    refine PW.aload_n (pc := 51) dX6_hire_51 rfl ?_
    refine gf_X6_33 (pc := 52) dX6_hire_52 ?_
    refine gf_X6_121 (pc := 55) dX6_hire_55 ?_
    rw [show u_48.2 20 3 = lN (HSn (xup M 12 fN (nI 1)) n (TK (xup M 12 fN (nI 1)) n)) from hL.2.2.2]
    refine PW.l2i (pc := 58) dX6_hire_58 ?_
    refine PW.iret (pc := 59) hY ?_ dX6_hire_59
    refine x_ri ?_
    rw [if_pos G, if_pos c_23]
    exact ⟨rfl, hF⟩
  · refine PW.bipush (pc := 26) (v := (-3)) dX6_hire_26 (by decide) ?_
    refine PW.iret (pc := 28) hY ?_ dX6_hire_28
    refine x_ri ?_
    rw [if_pos G, if_neg c_23]
    exact ⟨rfl, xFr.rf⟩
set_option maxHeartbeats 4000000 in
set_option maxRecDepth 20000 in
theorem c_X6_change {f k v : Int32} {n : Nat} {M : xM} (hB : TB M n) : K_X6_change [.ref 0, .int f, .int k, .int v] M (xRi (fun x u => if okF f n ∧ isT k ∧ inr v (nI 0) (nI 500) then (if M.1 12 (na f) = nI 1 then x = xB (LKn (xup M 16 (na f * 6 + na k) v) n (TK M n) = 0) ∧ xFr (xup M 16 (na f * 6 + na k) v) u else x = (-3) ∧ xFr M u) else x = (-2) ∧ xFr M u)) := by
  refine xMet.of (own := RX6) rfl (by decide) (Nat.le_of_ble_eq_true rfl) rfl (fun Y hY => ?_)
  have hn := hB.has
  have h10 := hB.n10
  have bad29 : ¬ (okF f n ∧ isT k ∧ inr v (nI 0) (nI 500)) → P_X6_change Y 29 [] [] M := by
    intro h
    refine PW.bipush (pc := 29) (v := (-2)) dX6_change_29 (by decide) ?_
    refine PW.iret (pc := 31) hY ?_ dX6_change_31
    refine x_ri ?_
    rw [if_neg h]; exact ⟨rfl, xFr.rf⟩
  refine PW.aload_n (pc := 0) dX6_change_0 rfl ?_
  refine gf_X6_19 (pc := 1) dX6_change_1 ?_
  refine PW.iload_n (pc := 4) dX6_change_4 rfl ?_
  refine cs_X6_93 (pc := 5) hY.rm (c_X1_has) ⟨Nat.le_of_ble_eq_true rfl, Nat.le_of_ble_eq_true rfl⟩ dX6_change_5 (Nat.le_of_ble_eq_true rfl) (fun x_5 u_5 h_5 => ?_)
  obtain ⟨rfl, hu_5⟩ := h_5
  replace hu_5 := hu_5.symm
  subst hu_5
  refine PW.if_eq (pc := 8) (tgt := 29) dX6_change_8 (by decide) (fun c_8 => PW.st rfl rfl rfl (bad29 (fun h => has_f hn c_8 h.1))) (fun c_8 => ?_)
  refine PW.iload_n (pc := 11) dX6_change_11 rfl ?_
  refine cs_X6_65 (pc := 12) hY.rm (c_X6_isThing) ⟨Nat.le_of_ble_eq_true rfl, Nat.le_of_ble_eq_true rfl⟩ dX6_change_12 (Nat.le_of_ble_eq_true rfl) (fun x_12 u_12 h_12 => ?_)
  obtain ⟨rfl, hu_12⟩ := h_12
  replace hu_12 := hu_12.symm
  subst hu_12
  refine PW.if_eq (pc := 15) (tgt := 29) dX6_change_15 (by decide) (fun c_15 => PW.st rfl rfl rfl (bad29 (fun h => bool_f c_15 h.2.1))) (fun c_15 => ?_)
  refine PW.iload_n (pc := 18) dX6_change_18 rfl ?_
  refine PW.iconst (pc := 19) (v := nI 0) dX6_change_19 (by decide) ?_
  refine PW.sipush (pc := 20) (v := nI 500) dX6_change_20 (by decide) ?_
  refine cs_X6_69 (pc := 23) hY.rm (c_X6_outside) ⟨Nat.le_of_ble_eq_true rfl, Nat.le_of_ble_eq_true rfl⟩ dX6_change_23 (Nat.le_of_ble_eq_true rfl) (fun x_23 u_23 h_23 => ?_)
  obtain ⟨rfl, hu_23⟩ := h_23
  replace hu_23 := hu_23.symm
  subst hu_23
  refine PW.if_eq (pc := 26) (tgt := 32) dX6_change_26 (by decide) (fun c_26 => ?_) (fun c_26 => PW.st rfl rfl rfl (bad29 (fun h => out_t c_26 h.2.2)))
  have hf := has_t hn c_8
  have hk := bool_t c_15
  have hv := out_f c_26
  have f1 := x_pos hf.1
  have f2 := na_lt hf.1 hf.2 (by omega)
  have k1 := x_pos hk.1
  have k2 := na_lt hk.1 hk.2 (by omega)
  have G : okF f n ∧ isT k ∧ inr v (nI 0) (nI 500) := ⟨hf, hk, hv⟩
  clear bad29 c_8 c_15 c_26
  revert f1 k1
  generalize na f = fN at *
  generalize na k = kN at *
  intro f1 k1
  subst f1
  subst k1
  have hB1 : TB (xup M 16 (fN * 6 + kN) v) n := hB.up16 hv
  refine PW.aload_n (pc := 32) dX6_change_32 rfl ?_
  refine gf_X6_19 (pc := 33) dX6_change_33 ?_
  refine gf_X6_96 (pc := 36) dX6_change_36 ?_
  refine PW.iload_n (pc := 39) dX6_change_39 rfl ?_
  refine PW.ialdN (pc := 40) rfl rfl (by omega) (by decide) dX6_change_40 ?_
  refine PW.iconst (pc := 41) (v := nI 1) dX6_change_41 (by decide) ?_
  refine PW.icmp_eq (pc := 42) (tgt := 48) dX6_change_42 (by decide) (fun c_42 => ?_) (fun c_42 => ?_)
  · refine PW.aload_n (pc := 48) dX6_change_48 rfl ?_
    refine gf_X6_19 (pc := 49) dX6_change_49 ?_
    refine gf_X6_99 (pc := 52) dX6_change_52 ?_
    refine PW.iload_n (pc := 55) dX6_change_55 rfl ?_
    refine PW.iload_n (pc := 56) dX6_change_56 rfl ?_
    refine cs_X6_102 (pc := 57) hY.rm (c_X6_cell) ⟨Nat.le_of_ble_eq_true rfl, Nat.le_of_ble_eq_true rfl⟩ dX6_change_57 (Nat.le_of_ble_eq_true rfl) (fun x_57 u_57 h_57 => ?_)
    obtain ⟨rfl, hu_57⟩ := h_57
    replace hu_57 := hu_57.symm
    subst hu_57
    refine PW.iload_n (pc := 60) dX6_change_60 rfl ?_
    refine PW.iastN (pc := 61) rfl rfl (by omega) (by decide) dX6_change_61 ?_
    refine PW.aload_n (pc := 62) dX6_change_62 rfl ?_
    refine PW.aload_n (pc := 63) dX6_change_63 rfl ?_
    refine gf_X6_19 (pc := 64) dX6_change_64 ?_
    refine PW.iconst (pc := 67) (v := nI 1) dX6_change_67 (by decide) ?_
    refine cs_X6_110 (pc := 68) hY.rm (c_X1_setOf hB1.has h10) ⟨Nat.le_of_ble_eq_true rfl, Nat.le_of_ble_eq_true rfl⟩ dX6_change_68 (Nat.le_of_ble_eq_true rfl) (fun x_68 u_68 h_68 => ?_)
    obtain ⟨rfl, hu_68⟩ := h_68
    replace hu_68 := hu_68.symm
    subst hu_68
    rw [show xset ((xup M 16 (fN * 6 + kN) v).1 12) (nI 1) n = TK M n from rfl]
    refine cs_X6_114 (pc := 71) hY.rm (c_X6_goTogether hB1 (TK_lt hB)) ⟨Nat.le_of_ble_eq_true rfl, Nat.le_of_ble_eq_true rfl⟩ dX6_change_71 (Nat.le_of_ble_eq_true rfl) (fun x_71 u_71 h_71 => ?_)
    obtain ⟨hx, hF, hL⟩ := h_71
    subst hx
    refine cs_X6_125 (pc := 74) hY.rm (c_X6_bit) ⟨Nat.le_of_ble_eq_true rfl, Nat.le_of_ble_eq_true rfl⟩ dX6_change_74 (Nat.le_of_ble_eq_true rfl) (fun x_74 u_74 h_74 => ?_)
    obtain ⟨hx, hu⟩ := h_74
    rw [hu]
    refine PW.iret (pc := 77) hY ?_ dX6_change_77
    refine x_ri ?_
    rw [if_pos G, if_pos c_42]
    refine ⟨?_, hF⟩
    rw [hx]
    refine xB_iff ?_
    rw [← hL.fit2]
    constructor
    · intro q; exact xB_ne (P := u_71.1 20 2 = 0) rfl q
    · intro q; rw [xB_t q]; decide
  · refine PW.bipush (pc := 45) (v := (-3)) dX6_change_45 (by decide) ?_
    refine PW.iret (pc := 47) hY ?_ dX6_change_47
    refine x_ri ?_
    rw [if_pos G, if_neg c_42]
    exact ⟨rfl, xFr.rf⟩
set_option maxHeartbeats 4000000 in
set_option maxRecDepth 20000 in
theorem c_X6_lack {k d : Int32} {n : Nat} {M : xM} (hB : TB M n) : K_X6_lack [.ref 0, .int k, .int d] M (xRi (fun x u => (x = if isT k ∧ inr d (nI 0) (nI 65) then nI (SU M n (TK M n) (na k) (na d) - hh M (na k)) else (-2)) ∧ xFr M u)) := by
  refine xMet.of (own := RX6) rfl (by decide) (Nat.le_of_ble_eq_true rfl) rfl (fun Y hY => ?_)
  have hn := hB.has
  have h10 := hB.n10
  have bad : ¬ (isT k ∧ inr d (nI 0) (nI 65)) → P_X6_lack Y 17 [] [] M := by
    intro h
    refine PW.bipush (pc := 17) (v := (-2)) dX6_lack_17 (by decide) ?_
    refine PW.iret (pc := 19) hY ?_ dX6_lack_19
    refine x_ri ?_
    rw [if_neg h]; exact ⟨rfl, xFr.rf⟩
  refine PW.iload_n (pc := 0) dX6_lack_0 rfl ?_
  refine cs_X6_65 (pc := 1) hY.rm (c_X6_isThing) ⟨Nat.le_of_ble_eq_true rfl, Nat.le_of_ble_eq_true rfl⟩ dX6_lack_1 (Nat.le_of_ble_eq_true rfl) (fun x_1 u_1 h_1 => ?_)
  obtain ⟨rfl, hu_1⟩ := h_1
  replace hu_1 := hu_1.symm
  subst hu_1
  refine PW.if_eq (pc := 4) (tgt := 17) dX6_lack_4 (by decide) (fun c_4 => PW.st rfl rfl rfl (bad (fun h => bool_f c_4 h.1))) (fun c_4 => ?_)
  refine PW.iload_n (pc := 7) dX6_lack_7 rfl ?_
  refine PW.iconst (pc := 8) (v := nI 0) dX6_lack_8 (by decide) ?_
  refine PW.bipush (pc := 9) (v := nI 65) dX6_lack_9 (by decide) ?_
  refine cs_X6_69 (pc := 11) hY.rm (c_X6_outside) ⟨Nat.le_of_ble_eq_true rfl, Nat.le_of_ble_eq_true rfl⟩ dX6_lack_11 (Nat.le_of_ble_eq_true rfl) (fun x_11 u_11 h_11 => ?_)
  obtain ⟨rfl, hu_11⟩ := h_11
  replace hu_11 := hu_11.symm
  subst hu_11
  refine PW.if_eq (pc := 14) (tgt := 20) dX6_lack_14 (by decide) (fun c_14 => ?_) (fun c_14 => PW.st rfl rfl rfl (bad (fun h => out_t c_14 h.2)))
  have hk := bool_t c_4
  have hd := out_f c_14
  have k1 := x_pos hk.1
  have k2 := na_lt hk.1 hk.2 (by omega)
  have d1 := x_pos hd.1
  have d2 := na_le hd.1 hd.2 (by omega)
  have G : isT k ∧ inr d (nI 0) (nI 65) := ⟨hk, hd⟩
  clear bad c_4 c_14
  revert d1 k1
  generalize na d = dN at *
  generalize na k = kN at *
  intro d1 k1
  subst d1
  subst k1
  refine PW.aload_n (pc := 20) dX6_lack_20 rfl ?_
  refine PW.aload_n (pc := 21) dX6_lack_21 rfl ?_
  refine gf_X6_19 (pc := 22) dX6_lack_22 ?_
  refine PW.iconst (pc := 25) (v := nI 1) dX6_lack_25 (by decide) ?_
  refine cs_X6_110 (pc := 26) hY.rm (c_X1_setOf hn h10) ⟨Nat.le_of_ble_eq_true rfl, Nat.le_of_ble_eq_true rfl⟩ dX6_lack_26 (Nat.le_of_ble_eq_true rfl) (fun x_26 u_26 h_26 => ?_)
  obtain ⟨rfl, hu_26⟩ := h_26
  replace hu_26 := hu_26.symm
  subst hu_26
  rw [show xset (M.1 12) (nI 1) n = TK M n from rfl]
  refine cs_X6_117 (pc := 29) hY.rm (c_X6_countAnew hB (TK_lt hB)) ⟨Nat.le_of_ble_eq_true rfl, Nat.le_of_ble_eq_true rfl⟩ dX6_lack_29 (Nat.le_of_ble_eq_true rfl) (fun u_29 h_29 => ?_)
  obtain ⟨hF, hL⟩ := h_29
  refine PW.iconst (pc := 32) (v := nI 0) dX6_lack_32 (by decide) ?_
  refine PW.aload_n (pc := 33) dX6_lack_33 rfl ?_
  refine gf_X6_33 (pc := 34) dX6_lack_34 ?_
  refine gf_X6_138 (pc := 37) dX6_lack_37 ?_
  refine PW.iload_n (pc := 40) dX6_lack_40 rfl ?_
  refine PW.bipush (pc := 41) (v := nI 66) dX6_lack_41 (by decide) ?_
  refine PW.imul (pc := 43) dX6_lack_43 ?_
  refine PW.iload_n (pc := 44) dX6_lack_44 rfl ?_
  refine PW.iadd (pc := 45) dX6_lack_45 ?_
  refine PW.ialdN (pc := 46) rfl (by rw [pk_mul, nI_add]) (by omega) (by decide) dX6_lack_46 ?_
  refine PW.aload_n (pc := 47) dX6_lack_47 rfl ?_
  refine gf_X6_12 (pc := 48) dX6_lack_48 ?_
  refine PW.iload_n (pc := 51) dX6_lack_51 rfl ?_
  refine cs_X6_141 (pc := 52) hY.rm (c_X5_have k2) ⟨Nat.le_of_ble_eq_true rfl, Nat.le_of_ble_eq_true rfl⟩ dX6_lack_52 (Nat.le_of_ble_eq_true rfl) (fun x_52 u_52 h_52 => ?_)
  obtain ⟨rfl, hu_52⟩ := h_52
  replace hu_52 := hu_52.symm
  subst hu_52
  rw [hv_hh (hB.fr hF) k2, (bits_us (n := n) hF).2.1, hL.2.1 kN dN k2 (by omega)]
  refine PW.isub (pc := 55) dX6_lack_55 ?_
  refine PW.mmax (pc := 56) (idx := 144) hY.rm (by decide) (by decide) (by decide +kernel) dX6_lack_56 (Nat.le_of_ble_eq_true rfl) ?_
  have h5 := psum_le (d := dN) hB (fun g => (TK M n).testBit g) k2
  have h6 := hh_le hB k2
  rw [show (if nI 0 < nI (SU M n (TK M n) kN dN) - nI (hh M kN) then nI (SU M n (TK M n) kN dN) - nI (hh M kN) else nI 0) = nI (SU M n (TK M n) kN dN - hh M kN) from x_max0 (show nsum _ n < 2 ^ 30 by omega) (by omega)]
  refine PW.iret (pc := 59) hY ?_ dX6_lack_59
  refine x_ri ?_
  rw [if_pos G]
  exact ⟨rfl, hF⟩
abbrev okS (s : Int32) (n : Nat) : Prop := 0 ≤ s ∧ s < nI (2 ^ n)
theorem okS_nat {s : Int32} {n : Nat} (h : okS s n) (h10 : n ≤ 10) : s = nI (na s) ∧ na s < 1024 := by
  have : 2 ^ n ≤ 1024 := Nat.pow_le_pow_right (show 0 < 2 by omega) h10
  exact ⟨x_pos h.1, Nat.lt_of_lt_of_le (na_lt h.1 h.2 (by omega)) this⟩
theorem all_t {s v : Int32} {n : Nat} (hn : v = nI n) (h10 : n ≤ 10) (c : ¬ xB (0 ≤ s ∧ s < (nI 1 <<< (v &&& 31))) = 0) : okS s n := by
  rw [hn, x_shl1 (by omega)] at c; exact xB_ne rfl c
theorem all_f {s v : Int32} {n : Nat} (hn : v = nI n) (h10 : n ≤ 10) (c : xB (0 ≤ s ∧ s < (nI 1 <<< (v &&& 31))) = 0) : ¬ okS s n := by
  rw [hn, x_shl1 (by omega)] at c; exact xB_eq rfl c
set_option maxHeartbeats 4000000 in
set_option maxRecDepth 20000 in
theorem c_X6_fits {s : Int32} {n : Nat} {M : xM} (hB : TB M n) : K_X6_fits [.ref 0, .int s] M (xRi (fun x u => (x = if okS s n then xB (LKn M n (na s) = 0) else (-2)) ∧ xFr M u)) := by
  refine xMet.of (own := RX6) rfl (by decide) (Nat.le_of_ble_eq_true rfl) rfl (fun Y hY => ?_)
  have hn := hB.has
  have h10 := hB.n10
  have bad : ¬ okS s n → P_X6_fits Y 22 [] [] M := by
    intro h
    refine PW.bipush (pc := 22) (v := (-2)) dX6_fits_22 (by decide) ?_
    refine PW.iret (pc := 24) hY ?_ dX6_fits_24
    refine x_ri ?_
    rw [if_neg h]; exact ⟨rfl, xFr.rf⟩
  refine PW.aload_n (pc := 0) dX6_fits_0 rfl ?_
  refine gf_X6_19 (pc := 1) dX6_fits_1 ?_
  refine PW.iload_n (pc := 4) dX6_fits_4 rfl ?_
  refine cs_X6_149 (pc := 5) hY.rm (c_X1_hasAll) ⟨Nat.le_of_ble_eq_true rfl, Nat.le_of_ble_eq_true rfl⟩ dX6_fits_5 (Nat.le_of_ble_eq_true rfl) (fun x_5 u_5 h_5 => ?_)
  obtain ⟨rfl, hu_5⟩ := h_5
  replace hu_5 := hu_5.symm
  subst hu_5
  refine PW.if_eq (pc := 8) (tgt := 22) dX6_fits_8 (by decide) (fun c_8 => PW.st rfl rfl rfl (bad (all_f hn h10 c_8))) (fun c_8 => ?_)
  have G := all_t hn h10 c_8
  obtain ⟨s1, s2⟩ := okS_nat G h10
  clear bad c_8
  revert s1
  generalize na s = sN at *
  intro s1
  subst s1
  refine PW.aload_n (pc := 11) dX6_fits_11 rfl ?_
  refine PW.iload_n (pc := 12) dX6_fits_12 rfl ?_
  refine cs_X6_114 (pc := 13) hY.rm (c_X6_goTogether hB s2) ⟨Nat.le_of_ble_eq_true rfl, Nat.le_of_ble_eq_true rfl⟩ dX6_fits_13 (Nat.le_of_ble_eq_true rfl) (fun x_13 u_13 h_13 => ?_)
  obtain ⟨hx, hF, hL⟩ := h_13
  subst hx
  refine cs_X6_125 (pc := 16) hY.rm (c_X6_bit) ⟨Nat.le_of_ble_eq_true rfl, Nat.le_of_ble_eq_true rfl⟩ dX6_fits_16 (Nat.le_of_ble_eq_true rfl) (fun x_16 u_16 h_16 => ?_)
  obtain ⟨hx, hu⟩ := h_16
  rw [hu]
  refine PW.goto (pc := 19) (tgt := 24) dX6_fits_19 (by decide) ?_
  refine PW.iret (pc := 24) hY ?_ dX6_fits_24
  refine x_ri ?_
  rw [if_pos G]
  refine ⟨?_, hF⟩
  rw [hx]
  refine xB_iff ?_
  rw [← hL.fit2]
  constructor
  · intro q; exact xB_ne (P := u_13.1 20 2 = 0) rfl q
  · intro q; rw [xB_t q]; decide
set_option maxHeartbeats 4000000 in
set_option maxRecDepth 20000 in
theorem c_X6_hired {s : Int32} {n : Nat} {M : xM} (hB : TB M n) : K_X6_hired [.ref 0, .int s] M (xRl (fun x u => (x = if okS s n then lN (HSn M n (na s)) else (-2)) ∧ xFr M u)) := by
  refine xMet.of (own := RX6) rfl (by decide) (Nat.le_of_ble_eq_true rfl) rfl (fun Y hY => ?_)
  have hn := hB.has
  have h10 := hB.n10
  have bad : ¬ okS s n → P_X6_hired Y 11 [] [] M := by
    intro h
    refine PW.ldc2 (pc := 11) (v := (-2)) (by decide +kernel) dX6_hired_11 ?_
    refine PW.lret (pc := 14) hY ?_ dX6_hired_14
    refine x_rl ?_
    rw [if_neg h]; exact ⟨rfl, xFr.rf⟩
  refine PW.aload_n (pc := 0) dX6_hired_0 rfl ?_
  refine gf_X6_19 (pc := 1) dX6_hired_1 ?_
  refine PW.iload_n (pc := 4) dX6_hired_4 rfl ?_
  refine cs_X6_149 (pc := 5) hY.rm (c_X1_hasAll) ⟨Nat.le_of_ble_eq_true rfl, Nat.le_of_ble_eq_true rfl⟩ dX6_hired_5 (Nat.le_of_ble_eq_true rfl) (fun x_5 u_5 h_5 => ?_)
  obtain ⟨rfl, hu_5⟩ := h_5
  replace hu_5 := hu_5.symm
  subst hu_5
  refine PW.if_ne (pc := 8) (tgt := 15) dX6_hired_8 (by decide) (fun c_8 => ?_) (fun c_8 => PW.st rfl rfl rfl (bad (all_f hn h10 c_8)))
  have G := all_t hn h10 c_8
  obtain ⟨s1, s2⟩ := okS_nat G h10
  clear bad c_8
  revert s1
  generalize na s = sN at *
  intro s1
  subst s1
  refine PW.aload_n (pc := 15) dX6_hired_15 rfl ?_
  refine PW.iload_n (pc := 16) dX6_hired_16 rfl ?_
  refine cs_X6_117 (pc := 17) hY.rm (c_X6_countAnew hB s2) ⟨Nat.le_of_ble_eq_true rfl, Nat.le_of_ble_eq_true rfl⟩ dX6_hired_17 (Nat.le_of_ble_eq_true rfl) (fun u_17 h_17 => ?_)
  obtain ⟨hF, hL⟩ := h_17
  refine PW.aload_n (pc := 20) dX6_hired_20 rfl ?_
  refine gf_X6_33 (pc := 21) dX6_hired_21 ?_
  refine gf_X6_121 (pc := 24) dX6_hired_24 ?_
  rw [show u_17.2 20 3 = lN (HSn M n sN) from hL.2.2.2]
  refine PW.lret (pc := 27) hY ?_ dX6_hired_27
  refine x_rl ?_
  rw [if_pos G]
  exact ⟨rfl, hF⟩
