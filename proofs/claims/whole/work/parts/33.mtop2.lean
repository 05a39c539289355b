/-! the reference: take, hire, change, lack, fits, hired; searches -/
theorem mvup {M : xM} {p q k : Nat} {x : Int32} (hp : mvP p = q) (h8 : p ≠ 8) (h22 : p ≠ 22) (h32 : q ≠ 32) (hinj : ∀ r, mvP r = q → r = p) : (mv (xup M q k x)).1 = (xup (mv M) p k x).1 := by
  funext r j
  rw [xup_1]
  unfold mv
  simp only [xup_1]
  by_cases a : r = 8
  · subst a
    have : ¬ ((8 : Nat) = p ∧ j = k) := fun z => h8 z.1.symm
    have h3 : ¬ ((32 : Nat) = q ∧ (6 : Nat) = k) := fun z => h32 z.1.symm
    simp [this, h3]
  · by_cases b : r = 22
    · subst b
      have : ¬ ((22 : Nat) = p ∧ j = k) := fun z => h22 z.1.symm
      have h3 : ¬ ((32 : Nat) = q ∧ (18 : Nat) = k) := fun z => h32 z.1.symm
      simp [this, h3]
    · simp only [a, b, if_false]
      by_cases c : r = p
      · subst c
        simp [hp, xup_1]
      · have h3 : ¬ (mvP r = q ∧ j = k) := fun z => c (hinj r z.1)
        have h4 : ¬ (r = p ∧ j = k) := fun z => c z.1
        rw [xup_1, if_neg h3, if_neg h4]
theorem mvP_inj42 : ∀ r, mvP r = 42 → r = 12 := by
  intro r h
  unfold mvP at h
  split at h <;> first | rfl | (exact absurd h (by decide))
theorem mvP_inj43 : ∀ r, mvP r = 43 → r = 16 := by
  intro r h
  unfold mvP at h
  split at h <;> first | rfl | (exact absurd h (by decide))
theorem mv42 (M : xM) (k : Nat) (x : Int32) : (mv (xup M 42 k x)).1 = (xup (mv M) 12 k x).1 := mvup rfl (by decide) (by decide) (by decide) mvP_inj42
theorem mv43 (M : xM) (k : Nat) (x : Int32) : (mv (xup M 43 k x)).1 = (xup (mv M) 16 k x).1 := mvup rfl (by decide) (by decide) (by decide) mvP_inj43
/-- these words look at the ints alone -/
theorem LKn_1 {M u : xM} (h : u.1 = M.1) (n s : Nat) : LKn u n s = LKn M n s := by
  obtain ⟨a, b⟩ := u; obtain ⟨c, d⟩ := M; simp only at h; subst h; rfl
theorem HSn_1 {M u : xM} (h : u.1 = M.1) (n s : Nat) : HSn u n s = HSn M n s := by
  obtain ⟨a, b⟩ := u; obtain ⟨c, d⟩ := M; simp only at h; subst h; rfl
theorem TB_1 {M u : xM} (h : u.1 = M.1) {n : Nat} (hB : TB M n) : TB u n := by
  obtain ⟨a, b⟩ := u; obtain ⟨c, d⟩ := M; simp only at h; subst h; exact hB
theorem TK_1 {M u : xM} (h : u.1 = M.1) (n : Nat) : TK u n = TK M n := by unfold TK; rw [h]
set_option maxHeartbeats 4000000 in
set_option maxRecDepth 20000 in
theorem c_X7_take {f : Int32} {n : Nat} {M : xM} (hB : TB (mv M) n) : K_X7_take [.ref 32, .int f] M (xRi (fun x u => if okF f n then (if M.1 42 (na f) = 0 ∧ LKn (mv M) n (TK (mv M) n ||| 2 ^ na f) = 0 then x = nI 1 ∧ ∃ v, xFu M v ∧ u = xup v 42 (na f) (nI 1) else x = (-3) ∧ xFu M u) else x = (-2) ∧ xFu M u)) := by
  refine xMet.of (own := RX7) rfl (by decide) (Nat.le_of_ble_eq_true rfl) rfl (fun Y hY => ?_)
  have hn : M.1 32 6 = nI n := hB.has
  have h10 := hB.n10
  have bad : ¬ okF f n → P_X7_take Y 8 [] [] M := by
    intro h
    refine PW.bipush (pc := 8) (v := (-2)) dX7_take_8 (by decide) ?_
    refine PW.iret (pc := 10) hY ?_ dX7_take_10
    refine x_ri ?_
    rw [if_neg h]; exact ⟨rfl, fun _ _ => rfl⟩
  refine PW.aload_n (pc := 0) dX7_take_0 rfl ?_
  refine PW.iload_n (pc := 1) dX7_take_1 rfl ?_
  refine cs_X7_99 (pc := 2) hY.rm (c_X7_isField hn h10) ⟨Nat.le_of_ble_eq_true rfl, Nat.le_of_ble_eq_true rfl⟩ dX7_take_2 (Nat.le_of_ble_eq_true rfl) (fun x_2 u_2 h_2 => ?_)
  obtain ⟨rfl, hu_2⟩ := h_2
  replace hu_2 := hu_2.symm
  subst hu_2
  refine PW.if_ne (pc := 5) (tgt := 11) dX7_take_5 (by decide) (fun c_5 => ?_) (fun c_5 => PW.st rfl rfl rfl (bad (bool_f c_5)))
  have G := bool_t c_5
  obtain ⟨f1, f2⟩ := okF_nat G h10
  clear c_5 bad
  revert f1 f2
  generalize na f = fN at *
  intro f1 f2
  subst f1
  refine PW.aload_n (pc := 11) dX7_take_11 rfl ?_
  refine cs_X7_106 (pc := 12) hY.rm (c_X7_findUses hB) ⟨Nat.le_of_ble_eq_true rfl, Nat.le_of_ble_eq_true rfl⟩ dX7_take_12 (Nat.le_of_ble_eq_true rfl) (fun u_12 h_12 => ?_)
  obtain ⟨hF, hU⟩ := h_12
  have hn' : u_12.1 32 6 = nI n := by rw [hF 32 (by decide)]; exact hn
  refine PW.aload_n (pc := 15) dX7_take_15 rfl ?_
  refine gf_X7_37 (pc := 16) dX7_take_16 ?_
  refine PW.iload_n (pc := 19) dX7_take_19 rfl ?_
  refine PW.ialdN (pc := 20) rfl rfl (by omega) (by decide) dX7_take_20 ?_
  rw [hF 42 (by decide)]
  refine PW.if_ne (pc := 21) (tgt := 40) dX7_take_21 (by decide) (fun c_21 => ?_) (fun c_21 => ?_)
  · refine PW.bipush (pc := 40) (v := (-3)) dX7_take_40 (by decide) ?_
    refine PW.iret (pc := 42) hY ?_ dX7_take_42
    refine x_ri ?_
    rw [if_pos G, if_neg (fun q => c_21 q.1)]
    exact ⟨rfl, hF⟩
  · refine PW.aload_n (pc := 24) dX7_take_24 rfl ?_
    refine PW.aload_n (pc := 25) dX7_take_25 rfl ?_
    refine PW.iconst (pc := 26) (v := nI 1) dX7_take_26 (by decide) ?_
    refine cs_X7_109 (pc := 27) hY.rm (c_X7_all hn' h10) ⟨Nat.le_of_ble_eq_true rfl, Nat.le_of_ble_eq_true rfl⟩ dX7_take_27 (Nat.le_of_ble_eq_true rfl) (fun x_27 u_27 h_27 => ?_)
    obtain ⟨rfl, hu_27⟩ := h_27
    replace hu_27 := hu_27.symm
    subst hu_27
    refine PW.iconst (pc := 30) (v := nI 1) dX7_take_30 (by decide) ?_
    refine PW.iload_n (pc := 31) dX7_take_31 rfl ?_
    refine PW.ishl (pc := 32) dX7_take_32 ?_
    rw [hF 42 (by decide), x_shl1 (by omega), show xset (M.1 42) (nI 1) n = TK (mv M) n from rfl]
    refine PW.ior (pc := 33) dX7_take_33 ?_
    rw [fa_or]
    refine cs_X7_113 (pc := 34) hY.rm (c_X7_isFit hB hF hU (or_lt (TK_lt hB) (pow_lt10 f2 h10))) ⟨Nat.le_of_ble_eq_true rfl, Nat.le_of_ble_eq_true rfl⟩ dX7_take_34 (Nat.le_of_ble_eq_true rfl) (fun x_34 u_34 h_34 => ?_)
    obtain ⟨rfl, hu_34⟩ := h_34
    replace hu_34 := hu_34.symm
    subst hu_34
    refine PW.if_ne (pc := 37) (tgt := 43) dX7_take_37 (by decide) (fun c_37 => ?_) (fun c_37 => ?_)
    · have k := bool_t c_37
      refine PW.aload_n (pc := 43) dX7_take_43 rfl ?_
      refine gf_X7_37 (pc := 44) dX7_take_44 ?_
      refine PW.iload_n (pc := 47) dX7_take_47 rfl ?_
      refine PW.iconst (pc := 48) (v := nI 1) dX7_take_48 (by decide) ?_
      refine PW.iastN (pc := 49) rfl rfl (by omega) (by decide) dX7_take_49 ?_
      refine PW.iconst (pc := 50) (v := nI 1) dX7_take_50 (by decide) ?_
      refine PW.iret (pc := 51) hY ?_ dX7_take_51
      refine x_ri ?_
      rw [if_pos G, if_pos ⟨c_21, k⟩]
      exact ⟨rfl, _, hF, rfl⟩
    · have k := bool_f c_37
      refine PW.bipush (pc := 40) (v := (-3)) dX7_take_40 (by decide) ?_
      refine PW.iret (pc := 42) hY ?_ dX7_take_42
      refine x_ri ?_
      rw [if_pos G, if_neg (fun q => k q.2)]
      exact ⟨rfl, hF⟩
set_option maxHeartbeats 4000000 in
set_option maxRecDepth 20000 in
theorem c_X7_hire {f : Int32} {n : Nat} {M : xM} (hB : TB (mv M) n) : K_X7_hire [.ref 32, .int f] M (xRi (fun x u => if okF f n then (if M.1 42 (na f) = 0 then x = (lN (HSn (xup (mv M) 12 (na f) (nI 1)) n (TK (xup (mv M) 12 (na f) (nI 1)) n))).toInt32 ∧ xFu (xup M 42 (na f) (nI 1)) u else x = (-3) ∧ xFu M u) else x = (-2) ∧ xFu M u)) := by
  refine xMet.of (own := RX7) rfl (by decide) (Nat.le_of_ble_eq_true rfl) rfl (fun Y hY => ?_)
  have hn : M.1 32 6 = nI n := hB.has
  have h10 := hB.n10
  have bad : ¬ okF f n → P_X7_hire Y 8 [] [] M := by
    intro h
    refine PW.bipush (pc := 8) (v := (-2)) dX7_hire_8 (by decide) ?_
    refine PW.iret (pc := 10) hY ?_ dX7_hire_10
    refine x_ri ?_
    rw [if_neg h]; exact ⟨rfl, fun _ _ => rfl⟩
  refine PW.aload_n (pc := 0) dX7_hire_0 rfl ?_
  refine PW.iload_n (pc := 1) dX7_hire_1 rfl ?_
  refine cs_X7_99 (pc := 2) hY.rm (c_X7_isField hn h10) ⟨Nat.le_of_ble_eq_true rfl, Nat.le_of_ble_eq_true rfl⟩ dX7_hire_2 (Nat.le_of_ble_eq_true rfl) (fun x_2 u_2 h_2 => ?_)
  obtain ⟨rfl, hu_2⟩ := h_2
  replace hu_2 := hu_2.symm
  subst hu_2
  refine PW.if_ne (pc := 5) (tgt := 11) dX7_hire_5 (by decide) (fun c_5 => ?_) (fun c_5 => PW.st rfl rfl rfl (bad (bool_f c_5)))
  have G := bool_t c_5
  obtain ⟨f1, f2⟩ := okF_nat G h10
  clear c_5 bad
  revert f1 f2
  generalize na f = fN at *
  intro f1 f2
  subst f1
  refine PW.aload_n (pc := 11) dX7_hire_11 rfl ?_
  refine gf_X7_37 (pc := 12) dX7_hire_12 ?_
  refine PW.iload_n (pc := 15) dX7_hire_15 rfl ?_
  refine PW.ialdN (pc := 16) rfl rfl (by omega) (by decide) dX7_hire_16 ?_
  refine PW.if_eq (pc := 17) (tgt := 23) dX7_hire_17 (by decide) (fun c_17 => ?_) (fun c_17 => ?_)
  · have e1 := mv42 M fN (nI 1)
    have hB1 : TB (mv (xup M 42 fN (nI 1))) n := TB_1 e1 (hB.up (by decide))
    refine PW.aload_n (pc := 23) dX7_hire_23 rfl ?_
    refine gf_X7_37 (pc := 24) dX7_hire_24 ?_
    refine PW.iload_n (pc := 27) dX7_hire_27 rfl ?_
    refine PW.iconst (pc := 28) (v := nI 1) dX7_hire_28 (by decide) ?_
    refine PW.iastN (pc := 29) rfl rfl (by omega) (by decide) dX7_hire_29 ?_
    refine PW.aload_n (pc := 30) dX7_hire_30 rfl ?_
    refine cs_X7_106 (pc := 31) hY.rm (c_X7_findUses hB1) ⟨Nat.le_of_ble_eq_true rfl, Nat.le_of_ble_eq_true rfl⟩ dX7_hire_31 (Nat.le_of_ble_eq_true rfl) (fun u_31 h_31 => ?_)
    obtain ⟨hF, hU⟩ := h_31
    have hn' : u_31.1 32 6 = nI n := by rw [hF 32 (by decide)]; exact hB1.has
    refine PW.aload_n (pc := 34) dX7_hire_34 rfl ?_
    refine PW.aload_n (pc := 35) dX7_hire_35 rfl ?_
    refine PW.iconst (pc := 36) (v := nI 1) dX7_hire_36 (by decide) ?_
    refine cs_X7_109 (pc := 37) hY.rm (c_X7_all hn' h10) ⟨Nat.le_of_ble_eq_true rfl, Nat.le_of_ble_eq_true rfl⟩ dX7_hire_37 (Nat.le_of_ble_eq_true rfl) (fun x_37 u_37 h_37 => ?_)
    obtain ⟨rfl, hu_37⟩ := h_37
    replace hu_37 := hu_37.symm
    subst hu_37
    rw [hF 42 (by decide), show xset ((xup M 42 fN (nI 1)).1 42) (nI 1) n = TK (mv (xup M 42 fN (nI 1))) n from rfl]
    refine cs_X7_116 (pc := 40) hY.rm (c_X7_hiredFor hB1 hF hU (TK_lt hB1)) ⟨Nat.le_of_ble_eq_true rfl, Nat.le_of_ble_eq_true rfl⟩ dX7_hire_40 (Nat.le_of_ble_eq_true rfl) (fun x_40 u_40 h_40 => ?_)
    obtain ⟨rfl, hu_40⟩ := h_40
    replace hu_40 := hu_40.symm
    subst hu_40
    refine PW.l2i (pc := 43) dX7_hire_43 ?_
    refine PW.iret (pc := 44) hY ?_ dX7_hire_44
    refine x_ri ?_
    rw [if_pos G, if_pos c_17, HSn_1 e1, TK_1 e1]
    exact ⟨rfl, hF⟩
  · refine PW.bipush (pc := 20) (v := (-3)) dX7_hire_20 (by decide) ?_
    refine PW.iret (pc := 22) hY ?_ dX7_hire_22
    refine x_ri ?_
    rw [if_pos G, if_neg c_17]
    exact ⟨rfl, fun _ _ => rfl⟩
set_option maxHeartbeats 4000000 in
set_option maxRecDepth 20000 in
theorem c_X7_change {f k v : Int32} {n : Nat} {M : xM} (hB : TB (mv M) n) : K_X7_change [.ref 32, .int f, .int k, .int v] M (xRi (fun x u => if okF f n ∧ isT k ∧ inr v (nI 0) (nI 500) then (if M.1 42 (na f) = nI 1 then x = xB (LKn (xup (mv M) 16 (na f * 6 + na k) v) n (TK (mv M) n) = 0) ∧ xFu (xup M 43 (na f * 6 + na k) v) u else x = (-3) ∧ xFu M u) else x = (-2) ∧ xFu M u)) := by
  refine xMet.of (own := RX7) rfl (by decide) (Nat.le_of_ble_eq_true rfl) rfl (fun Y hY => ?_)
  have hn : M.1 32 6 = nI n := hB.has
  have h10 := hB.n10
  have bad : ¬ (okF f n ∧ isT k ∧ inr v (nI 0) (nI 500)) → P_X7_change Y 26 [] [] M := by
    intro h
    refine PW.bipush (pc := 26) (v := (-2)) dX7_change_26 (by decide) ?_
    refine PW.iret (pc := 28) hY ?_ dX7_change_28
    refine x_ri ?_
    rw [if_neg h]; exact ⟨rfl, fun _ _ => rfl⟩
  refine PW.aload_n (pc := 0) dX7_change_0 rfl ?_
  refine PW.iload_n (pc := 1) dX7_change_1 rfl ?_
  refine cs_X7_99 (pc := 2) hY.rm (c_X7_isField hn h10) ⟨Nat.le_of_ble_eq_true rfl, Nat.le_of_ble_eq_true rfl⟩ dX7_change_2 (Nat.le_of_ble_eq_true rfl) (fun x_2 u_2 h_2 => ?_)
  obtain ⟨rfl, hu_2⟩ := h_2
  replace hu_2 := hu_2.symm
  subst hu_2
  refine PW.if_eq (pc := 5) (tgt := 26) dX7_change_5 (by decide) (fun c_5 => PW.st rfl rfl rfl (bad (fun h => bool_f c_5 h.1))) (fun c_5 => ?_)
  refine PW.iload_n (pc := 8) dX7_change_8 rfl ?_
  refine cs_X7_91 (pc := 9) hY.rm (c_X7_isThing) ⟨Nat.le_of_ble_eq_true rfl, Nat.le_of_ble_eq_true rfl⟩ dX7_change_9 (Nat.le_of_ble_eq_true rfl) (fun x_9 u_9 h_9 => ?_)
  obtain ⟨rfl, hu_9⟩ := h_9
  replace hu_9 := hu_9.symm
  subst hu_9
  refine PW.if_eq (pc := 12) (tgt := 26) dX7_change_12 (by decide) (fun c_12 => PW.st rfl rfl rfl (bad (fun h => bool_f c_12 h.2.1))) (fun c_12 => ?_)
  refine PW.iload_n (pc := 15) dX7_change_15 rfl ?_
  refine PW.iconst (pc := 16) (v := nI 0) dX7_change_16 (by decide) ?_
  refine PW.sipush (pc := 17) (v := nI 500) dX7_change_17 (by decide) ?_
  refine cs_X7_83 (pc := 20) hY.rm (c_X7_in) ⟨Nat.le_of_ble_eq_true rfl, Nat.le_of_ble_eq_true rfl⟩ dX7_change_20 (Nat.le_of_ble_eq_true rfl) (fun x_20 u_20 h_20 => ?_)
  obtain ⟨rfl, hu_20⟩ := h_20
  replace hu_20 := hu_20.symm
  subst hu_20
  refine PW.if_ne (pc := 23) (tgt := 29) dX7_change_23 (by decide) (fun c_23 => ?_) (fun c_23 => PW.st rfl rfl rfl (bad (fun h => bool_f c_23 h.2.2)))
  have hf := bool_t c_5
  have hk := bool_t c_12
  have hv := bool_t c_23
  have f1 := x_pos hf.1
  have f2 := na_lt hf.1 hf.2 (by omega)
  have k1 := x_pos hk.1
  have k2 := na_lt hk.1 hk.2 (by omega)
  have G : okF f n ∧ isT k ∧ inr v (nI 0) (nI 500) := ⟨hf, hk, hv⟩
  clear bad c_5 c_12 c_23
  revert f1 k1
  generalize na f = fN at *
  generalize na k = kN at *
  intro f1 k1
  subst f1
  subst k1
  have e1 := mv43 M (fN * 6 + kN) v
  have hB1 : TB (mv (xup M 43 (fN * 6 + kN) v)) n := TB_1 e1 (hB.up16 hv)
  refine PW.aload_n (pc := 29) dX7_change_29 rfl ?_
  refine gf_X7_37 (pc := 30) dX7_change_30 ?_
  refine PW.iload_n (pc := 33) dX7_change_33 rfl ?_
  refine PW.ialdN (pc := 34) rfl rfl (by omega) (by decide) dX7_change_34 ?_
  refine PW.iconst (pc := 35) (v := nI 1) dX7_change_35 (by decide) ?_
  refine PW.icmp_eq (pc := 36) (tgt := 42) dX7_change_36 (by decide) (fun c_36 => ?_) (fun c_36 => ?_)
  · refine PW.aload_n (pc := 42) dX7_change_42 rfl ?_
    refine gf_X7_40 (pc := 43) dX7_change_43 ?_
    refine PW.bipush (pc := 46) (v := nI 6) dX7_change_46 (by decide) ?_
    refine PW.iload_n (pc := 48) dX7_change_48 rfl ?_
    refine PW.imul (pc := 49) dX7_change_49 ?_
    refine PW.iload_n (pc := 50) dX7_change_50 rfl ?_
    refine PW.iadd (pc := 51) dX7_change_51 ?_
    refine PW.iload_n (pc := 52) dX7_change_52 rfl ?_
    refine PW.iastN (pc := 53) rfl (x_cell fN kN) (by omega) (by decide) dX7_change_53 ?_
    refine PW.aload_n (pc := 54) dX7_change_54 rfl ?_
    refine cs_X7_106 (pc := 55) hY.rm (c_X7_findUses hB1) ⟨Nat.le_of_ble_eq_true rfl, Nat.le_of_ble_eq_true rfl⟩ dX7_change_55 (Nat.le_of_ble_eq_true rfl) (fun u_55 h_55 => ?_)
    obtain ⟨hF, hU⟩ := h_55
    have hn' : u_55.1 32 6 = nI n := by rw [hF 32 (by decide)]; exact hB1.has
    refine PW.aload_n (pc := 58) dX7_change_58 rfl ?_
    refine PW.aload_n (pc := 59) dX7_change_59 rfl ?_
    refine PW.iconst (pc := 60) (v := nI 1) dX7_change_60 (by decide) ?_
    refine cs_X7_109 (pc := 61) hY.rm (c_X7_all hn' h10) ⟨Nat.le_of_ble_eq_true rfl, Nat.le_of_ble_eq_true rfl⟩ dX7_change_61 (Nat.le_of_ble_eq_true rfl) (fun x_61 u_61 h_61 => ?_)
    obtain ⟨rfl, hu_61⟩ := h_61
    replace hu_61 := hu_61.symm
    subst hu_61
    rw [hF 42 (by decide), show xset ((xup M 43 (fN * 6 + kN) v).1 42) (nI 1) n = TK (mv M) n from rfl]
    refine cs_X7_113 (pc := 64) hY.rm (c_X7_isFit hB1 hF hU (TK_lt hB)) ⟨Nat.le_of_ble_eq_true rfl, Nat.le_of_ble_eq_true rfl⟩ dX7_change_64 (Nat.le_of_ble_eq_true rfl) (fun x_64 u_64 h_64 => ?_)
    obtain ⟨rfl, hu_64⟩ := h_64
    replace hu_64 := hu_64.symm
    subst hu_64
    refine PW.if_eq (pc := 67) (tgt := 74) dX7_change_67 (by decide) (fun c_67 => ?_) (fun c_67 => ?_)
    · have q := bool_f c_67
      rw [LKn_1 e1] at q
      refine PW.iconst (pc := 74) (v := nI 0) dX7_change_74 (by decide) ?_
      refine PW.iret (pc := 75) hY ?_ dX7_change_75
      refine x_ri ?_
      rw [if_pos G, if_pos c_36, xB_f q]
      exact ⟨rfl, hF⟩
    · have q := bool_t c_67
      rw [LKn_1 e1] at q
      refine PW.iconst (pc := 70) (v := nI 1) dX7_change_70 (by decide) ?_
      refine PW.goto (pc := 71) (tgt := 75) dX7_change_71 (by decide) ?_
      refine PW.iret (pc := 75) hY ?_ dX7_change_75
      refine x_ri ?_
      rw [if_pos G, if_pos c_36, xB_t q]
      exact ⟨rfl, hF⟩
  · refine PW.bipush (pc := 39) (v := (-3)) dX7_change_39 (by decide) ?_
    refine PW.iret (pc := 41) hY ?_ dX7_change_41
    refine x_ri ?_
    rw [if_pos G, if_neg c_36]
    exact ⟨rfl, fun _ _ => rfl⟩
set_option maxHeartbeats 4000000 in
set_option maxRecDepth 20000 in
theorem c_X7_lack {k d : Int32} {n : Nat} {M : xM} (hB : TB (mv M) n) : K_X7_lack [.ref 32, .int k, .int d] M (xRi (fun x u => (x = if isT k ∧ inr d (nI 0) (nI 65) then nI (SU (mv M) n (TK (mv M) n) (na k) (na d) - hh (mv M) (na k)) else (-2)) ∧ xFu M u)) := by
  refine xMet.of (own := RX7) rfl (by decide) (Nat.le_of_ble_eq_true rfl) rfl (fun Y hY => ?_)
  have hn : M.1 32 6 = nI n := hB.has
  have h10 := hB.n10
  have bad : ¬ (isT k ∧ inr d (nI 0) (nI 65)) → P_X7_lack Y 17 [] [] M := by
    intro h
    refine PW.bipush (pc := 17) (v := (-2)) dX7_lack_17 (by decide) ?_
    refine PW.iret (pc := 19) hY ?_ dX7_lack_19
    refine x_ri ?_
    rw [if_neg h]; exact ⟨rfl, fun _ _ => rfl⟩
  refine PW.iload_n (pc := 0) dX7_lack_0 rfl ?_
  refine cs_X7_91 (pc := 1) hY.rm (c_X7_isThing) ⟨Nat.le_of_ble_eq_true rfl, Nat.le_of_ble_eq_true rfl⟩ dX7_lack_1 (Nat.le_of_ble_eq_true rfl) (fun x_1 u_1 h_1 => ?_)
  obtain ⟨rfl, hu_1⟩ := h_1
  replace hu_1 := hu_1.symm
  subst hu_1
  refine PW.if_eq (pc := 4) (tgt := 17) dX7_lack_4 (by decide) (fun c_4 => PW.st rfl rfl rfl (bad (fun h => bool_f c_4 h.1))) (fun c_4 => ?_)
  refine PW.iload_n (pc := 7) dX7_lack_7 rfl ?_
  refine PW.iconst (pc := 8) (v := nI 0) dX7_lack_8 (by decide) ?_
  refine PW.bipush (pc := 9) (v := nI 65) dX7_lack_9 (by decide) ?_
  refine cs_X7_83 (pc := 11) hY.rm (c_X7_in) ⟨Nat.le_of_ble_eq_true rfl, Nat.le_of_ble_eq_true rfl⟩ dX7_lack_11 (Nat.le_of_ble_eq_true rfl) (fun x_11 u_11 h_11 => ?_)
  obtain ⟨rfl, hu_11⟩ := h_11
  replace hu_11 := hu_11.symm
  subst hu_11
  refine PW.if_ne (pc := 14) (tgt := 20) dX7_lack_14 (by decide) (fun c_14 => ?_) (fun c_14 => PW.st rfl rfl rfl (bad (fun h => bool_f c_14 h.2)))
  have hk := bool_t c_4
  have hd := bool_t c_14
  have k1 := x_pos hk.1
  have k2 := na_lt hk.1 hk.2 (by omega)
  have d1 := x_pos hd.1
  have d2 := na_le hd.1 hd.2 (by omega)
  have G : isT k ∧ inr d (nI 0) (nI 65) := ⟨hk, hd⟩
  clear bad c_4 c_14
  revert d1 k1
  generalize na d = dN at *
  generalize na k = kN at *
  intro d1 k1
  subst d1
  subst k1
  refine PW.aload_n (pc := 20) dX7_lack_20 rfl ?_
  refine cs_X7_106 (pc := 21) hY.rm (c_X7_findUses hB) ⟨Nat.le_of_ble_eq_true rfl, Nat.le_of_ble_eq_true rfl⟩ dX7_lack_21 (Nat.le_of_ble_eq_true rfl) (fun u_21 h_21 => ?_)
  obtain ⟨hF, hU⟩ := h_21
  have hn' : u_21.1 32 6 = nI n := by rw [hF 32 (by decide)]; exact hn
  refine PW.aload_n (pc := 24) dX7_lack_24 rfl ?_
  refine PW.aload_n (pc := 25) dX7_lack_25 rfl ?_
  refine PW.iconst (pc := 26) (v := nI 1) dX7_lack_26 (by decide) ?_
  refine cs_X7_109 (pc := 27) hY.rm (c_X7_all hn' h10) ⟨Nat.le_of_ble_eq_true rfl, Nat.le_of_ble_eq_true rfl⟩ dX7_lack_27 (Nat.le_of_ble_eq_true rfl) (fun x_27 u_27 h_27 => ?_)
  obtain ⟨rfl, hu_27⟩ := h_27
  replace hu_27 := hu_27.symm
  subst hu_27
  rw [hF 42 (by decide), show xset (M.1 42) (nI 1) n = TK (mv M) n from rfl]
  refine PW.iload_n (pc := 30) dX7_lack_30 rfl ?_
  refine PW.iload_n (pc := 31) dX7_lack_31 rfl ?_
  refine cs_X7_102 (pc := 32) hY.rm (c_X7_lackOf hB hF hU (TK_lt hB) k2 (by omega)) ⟨Nat.le_of_ble_eq_true rfl, Nat.le_of_ble_eq_true rfl⟩ dX7_lack_32 (Nat.le_of_ble_eq_true rfl) (fun x_32 u_32 h_32 => ?_)
  obtain ⟨rfl, hu_32⟩ := h_32
  replace hu_32 := hu_32.symm
  subst hu_32
  refine PW.iret (pc := 35) hY ?_ dX7_lack_35
  refine x_ri ?_
  rw [if_pos G]
  exact ⟨rfl, hF⟩
set_option maxHeartbeats 4000000 in
set_option maxRecDepth 20000 in
theorem c_X7_fits {s : Int32} {n : Nat} {M : xM} (hB : TB (mv M) n) : K_X7_fits [.ref 32, .int s] M (xRi (fun x u => (x = if okS s n then xB (LKn (mv M) n (na s) = 0) else (-2)) ∧ xFu M u)) := by
  refine xMet.of (own := RX7) rfl (by decide) (Nat.le_of_ble_eq_true rfl) rfl (fun Y hY => ?_)
  have hn : M.1 32 6 = nI n := hB.has
  have h10 := hB.n10
  have bad : ¬ okS s n → P_X7_fits Y 8 [] [] M := by
    intro h
    refine PW.bipush (pc := 8) (v := (-2)) dX7_fits_8 (by decide) ?_
    refine PW.iret (pc := 10) hY ?_ dX7_fits_10
    refine x_ri ?_
    rw [if_neg h]; exact ⟨rfl, fun _ _ => rfl⟩
  refine PW.aload_n (pc := 0) dX7_fits_0 rfl ?_
  refine PW.iload_n (pc := 1) dX7_fits_1 rfl ?_
  refine cs_X7_127 (pc := 2) hY.rm (c_X7_isSet hn h10) ⟨Nat.le_of_ble_eq_true rfl, Nat.le_of_ble_eq_true rfl⟩ dX7_fits_2 (Nat.le_of_ble_eq_true rfl) (fun x_2 u_2 h_2 => ?_)
  obtain ⟨rfl, hu_2⟩ := h_2
  replace hu_2 := hu_2.symm
  subst hu_2
  refine PW.if_ne (pc := 5) (tgt := 11) dX7_fits_5 (by decide) (fun c_5 => ?_) (fun c_5 => PW.st rfl rfl rfl (bad (bool_f c_5)))
  have G := bool_t c_5
  obtain ⟨s1, s2⟩ := okS_nat G h10
  clear bad c_5
  revert s1
  generalize na s = sN at *
  intro s1
  subst s1
  refine PW.aload_n (pc := 11) dX7_fits_11 rfl ?_
  refine cs_X7_106 (pc := 12) hY.rm (c_X7_findUses hB) ⟨Nat.le_of_ble_eq_true rfl, Nat.le_of_ble_eq_true rfl⟩ dX7_fits_12 (Nat.le_of_ble_eq_true rfl) (fun u_12 h_12 => ?_)
  obtain ⟨hF, hU⟩ := h_12
  refine PW.aload_n (pc := 15) dX7_fits_15 rfl ?_
  refine PW.iload_n (pc := 16) dX7_fits_16 rfl ?_
  refine cs_X7_113 (pc := 17) hY.rm (c_X7_isFit hB hF hU s2) ⟨Nat.le_of_ble_eq_true rfl, Nat.le_of_ble_eq_true rfl⟩ dX7_fits_17 (Nat.le_of_ble_eq_true rfl) (fun x_17 u_17 h_17 => ?_)
  obtain ⟨rfl, hu_17⟩ := h_17
  replace hu_17 := hu_17.symm
  subst hu_17
  refine PW.if_eq (pc := 20) (tgt := 27) dX7_fits_20 (by decide) (fun c_20 => ?_) (fun c_20 => ?_)
  · refine PW.iconst (pc := 27) (v := nI 0) dX7_fits_27 (by decide) ?_
    refine PW.iret (pc := 28) hY ?_ dX7_fits_28
    refine x_ri ?_
    rw [if_pos G, xB_f (bool_f c_20)]
    exact ⟨rfl, hF⟩
  · refine PW.iconst (pc := 23) (v := nI 1) dX7_fits_23 (by decide) ?_
    refine PW.goto (pc := 24) (tgt := 28) dX7_fits_24 (by decide) ?_
    refine PW.iret (pc := 28) hY ?_ dX7_fits_28
    refine x_ri ?_
    rw [if_pos G, xB_t (bool_t c_20)]
    exact ⟨rfl, hF⟩
set_option maxHeartbeats 4000000 in
set_option maxRecDepth 20000 in
theorem c_X7_hired {s : Int32} {n : Nat} {M : xM} (hB : TB (mv M) n) : K_X7_hired [.ref 32, .int s] M (xRl (fun x u => (x = if okS s n then lN (HSn (mv M) n (na s)) else (-2)) ∧ xFu M u)) := by
  refine xMet.of (own := RX7) rfl (by decide) (Nat.le_of_ble_eq_true rfl) rfl (fun Y hY => ?_)
  have hn : M.1 32 6 = nI n := hB.has
  have h10 := hB.n10
  have bad : ¬ okS s n → P_X7_hired Y 8 [] [] M := by
    intro h
    refine PW.ldc2 (pc := 8) (v := (-2)) (by decide +kernel) dX7_hired_8 ?_
    refine PW.lret (pc := 11) hY ?_ dX7_hired_11
    refine x_rl ?_
    rw [if_neg h]; exact ⟨rfl, fun _ _ => rfl⟩
  refine PW.aload_n (pc := 0) dX7_hired_0 rfl ?_
  refine PW.iload_n (pc := 1) dX7_hired_1 rfl ?_
  refine cs_X7_127 (pc := 2) hY.rm (c_X7_isSet hn h10) ⟨Nat.le_of_ble_eq_true rfl, Nat.le_of_ble_eq_true rfl⟩ dX7_hired_2 (Nat.le_of_ble_eq_true rfl) (fun x_2 u_2 h_2 => ?_)
  obtain ⟨rfl, hu_2⟩ := h_2
  replace hu_2 := hu_2.symm
  subst hu_2
  refine PW.if_ne (pc := 5) (tgt := 12) dX7_hired_5 (by decide) (fun c_5 => ?_) (fun c_5 => PW.st rfl rfl rfl (bad (bool_f c_5)))
  have G := bool_t c_5
  obtain ⟨s1, s2⟩ := okS_nat G h10
  clear bad c_5
  revert s1
  generalize na s = sN at *
  intro s1
  subst s1
  refine PW.aload_n (pc := 12) dX7_hired_12 rfl ?_
  refine cs_X7_106 (pc := 13) hY.rm (c_X7_findUses hB) ⟨Nat.le_of_ble_eq_true rfl, Nat.le_of_ble_eq_true rfl⟩ dX7_hired_13 (Nat.le_of_ble_eq_true rfl) (fun u_13 h_13 => ?_)
  obtain ⟨hF, hU⟩ := h_13
  refine PW.aload_n (pc := 16) dX7_hired_16 rfl ?_
  refine PW.iload_n (pc := 17) dX7_hired_17 rfl ?_
  refine cs_X7_116 (pc := 18) hY.rm (c_X7_hiredFor hB hF hU s2) ⟨Nat.le_of_ble_eq_true rfl, Nat.le_of_ble_eq_true rfl⟩ dX7_hired_18 (Nat.le_of_ble_eq_true rfl) (fun x_18 u_18 h_18 => ?_)
  obtain ⟨rfl, hu_18⟩ := h_18
  replace hu_18 := hu_18.symm
  subst hu_18
  refine PW.lret (pc := 21) hY ?_ dX7_hired_21
  refine x_rl ?_
  rw [if_pos G]
  exact ⟨rfl, hF⟩
theorem sub_iff {s a : Nat} (hs : s < 2 ^ 31) (ha : a < 2 ^ 31) : (nI s &&& nI a = nI s) ↔ s &&& a = s := by
  rw [fa_and, nI_eq (by have := Nat.and_le_left (n := s) (m := a); omega) hs]
def bestM (M : xM) (n : Nat) : Nat := bestF (bestP M n) (prM M n) (2 ^ n)
set_option maxHeartbeats 4000000 in
set_option maxRecDepth 20000 in
theorem c_X7_best {n : Nat} {M : xM} (hB : TB (mv M) n) : K_X7_best [.ref 32] M (xRi (fun x u => (if LKn (mv M) n (TK (mv M) n) = 0 then x = nI (bestM (mv M) n) else x = (-3)) ∧ xFu M u)) := by
  refine xMet.of (own := RX7) rfl (by decide) (Nat.le_of_ble_eq_true rfl) rfl (fun Y hY => ?_)
  have hn : M.1 32 6 = nI n := hB.has
  have h10 := hB.n10
  have ht := TK_lt hB
  have ha := AS_lt hB
  have hp : 2 ^ n ≤ 1024 := Nat.pow_le_pow_right (show 0 < 2 by omega) h10
  have hp0 : 0 < 2 ^ n := Nat.two_pow_pos n
  refine PW.aload_n (pc := 0) dX7_best_0 rfl ?_
  refine cs_X7_106 (pc := 1) hY.rm (c_X7_findUses hB) ⟨Nat.le_of_ble_eq_true rfl, Nat.le_of_ble_eq_true rfl⟩ dX7_best_1 (Nat.le_of_ble_eq_true rfl) (fun u_1 h_1 => ?_)
  obtain ⟨hF, hU⟩ := h_1
  have hn' : u_1.1 32 6 = nI n := by rw [hF 32 (by decide)]; exact hn
  refine PW.aload_n (pc := 4) dX7_best_4 rfl ?_
  refine PW.iconst (pc := 5) (v := nI 1) dX7_best_5 (by decide) ?_
  refine cs_X7_109 (pc := 6) hY.rm (c_X7_all hn' h10) ⟨Nat.le_of_ble_eq_true rfl, Nat.le_of_ble_eq_true rfl⟩ dX7_best_6 (Nat.le_of_ble_eq_true rfl) (fun x_6 u_6 h_6 => ?_)
  obtain ⟨rfl, hu_6⟩ := h_6
  replace hu_6 := hu_6.symm
  subst hu_6
  refine PW.istore_n (pc := 9) (i := 1) dX7_best_9 rfl (by decide) rfl ?_
  refine PW.aload_n (pc := 10) dX7_best_10 rfl ?_
  refine PW.iconst (pc := 11) (v := nI 0) dX7_best_11 (by decide) ?_
  refine cs_X7_109 (pc := 12) hY.rm (c_X7_all hn' h10) ⟨Nat.le_of_ble_eq_true rfl, Nat.le_of_ble_eq_true rfl⟩ dX7_best_12 (Nat.le_of_ble_eq_true rfl) (fun x_12 u_12 h_12 => ?_)
  obtain ⟨rfl, hu_12⟩ := h_12
  replace hu_12 := hu_12.symm
  subst hu_12
  rw [hF 42 (by decide), show xset (M.1 42) (nI 1) n = TK (mv M) n from rfl, show xset (M.1 42) (nI 0) n = AS (mv M) n from rfl]
  refine PW.istore_n (pc := 15) (i := 2) dX7_best_15 rfl (by decide) rfl ?_
  refine PW.aload_n (pc := 16) dX7_best_16 rfl ?_
  refine PW.iload_n (pc := 17) dX7_best_17 rfl ?_
  refine cs_X7_113 (pc := 18) hY.rm (c_X7_isFit hB hF hU ht) ⟨Nat.le_of_ble_eq_true rfl, Nat.le_of_ble_eq_true rfl⟩ dX7_best_18 (Nat.le_of_ble_eq_true rfl) (fun x_18 u_18 h_18 => ?_)
  obtain ⟨rfl, hu_18⟩ := h_18
  replace hu_18 := hu_18.symm
  subst hu_18
  refine PW.if_ne (pc := 21) (tgt := 27) dX7_best_21 (by decide) (fun c_21 => ?_) (fun c_21 => ?_)
  · have hfit := bool_t c_21
    have loop : ∀ k, k ≤ 2 ^ n → (1 ≤ k → P_X7_best Y 32 [(0, .ref 32), (1, .int (nI (TK (mv M) n))), (2, .int (nI (AS (mv M) n))), (3, .int (nI (bestF (bestP (mv M) n) (prM (mv M) n) k))), (4, .int (nI k))] [] u_1) := by
      refine x_down ?_ ?_
      · intro _
        refine PW.iload (pc := 32) dX7_best_32 rfl ?_
        refine PW.iconst (pc := 34) (v := nI 1) dX7_best_34 (by decide) ?_
        refine PW.aload_n (pc := 35) dX7_best_35 rfl ?_
        refine gf_X7_87 (pc := 36) dX7_best_36 ?_
        refine PW.ishl (pc := 39) dX7_best_39 ?_
        rw [hn', x_shl1 (by omega)]
        refine PW.icmp_ge (pc := 40) (tgt := 86) dX7_best_40 (by decide) (fun _ => ?_) (fun c => absurd ((nI_le (Nat.le_refl _) (by omega))) c)
        refine PW.iload_n (pc := 86) dX7_best_86 rfl ?_
        refine PW.iret (pc := 87) hY ?_ dX7_best_87
        refine x_ri ⟨?_, hF⟩
        rw [if_pos hfit]; rfl
      · intro k hk ih hk1
        have hbl := bestF_lt (P := bestP (mv M) n) (pr := prM (mv M) n) k
        have next : ∀ fd, fd = bestF (bestP (mv M) n) (prM (mv M) n) (k + 1) → P_X7_best Y 80 [(0, .ref 32), (1, .int (nI (TK (mv M) n))), (2, .int (nI (AS (mv M) n))), (3, .int (nI fd)), (4, .int (nI k))] [] u_1 := by
          intro fd g3
          refine PW.iinc (pc := 80) dX7_best_80 rfl (x_inc1 _) (by decide) rfl ?_
          refine PW.goto (pc := 83) (tgt := 32) dX7_best_83 (by decide) ?_
          rw [g3]
          exact PW.st rfl rfl rfl (ih (by omega))
        refine PW.iload (pc := 32) dX7_best_32 rfl ?_
        refine PW.iconst (pc := 34) (v := nI 1) dX7_best_34 (by decide) ?_
        refine PW.aload_n (pc := 35) dX7_best_35 rfl ?_
        refine gf_X7_87 (pc := 36) dX7_best_36 ?_
        refine PW.ishl (pc := 39) dX7_best_39 ?_
        rw [hn', x_shl1 (by omega)]
        refine PW.icmp_ge (pc := 40) (tgt := 86) dX7_best_40 (by decide) (fun c => absurd c ((nI_ge hk (by omega)))) (fun _ => ?_)
        refine PW.iload (pc := 43) dX7_best_43 rfl ?_
        refine PW.iload_n (pc := 45) dX7_best_45 rfl ?_
        refine PW.iand (pc := 46) dX7_best_46 ?_
        refine PW.iload (pc := 47) dX7_best_47 rfl ?_
        refine PW.icmp_ne (pc := 49) (tgt := 80) dX7_best_49 (by decide) (fun c_49 => ?_) (fun c_49 => ?_)
        · rw [sub_iff (by omega) (by omega)] at c_49
          refine PW.st rfl rfl rfl (next _ ?_)
          rw [bestF, if_neg]
          rintro ⟨-, q, -⟩
          simp [bestP, c_49] at q
        · rw [sub_iff (by omega) (by omega)] at c_49
          refine PW.aload_n (pc := 52) dX7_best_52 rfl ?_
          refine PW.iload (pc := 53) dX7_best_53 rfl ?_
          refine cs_X7_130 (pc := 55) hY.rm (c_X7_prices hn' h10 (by omega)) ⟨Nat.le_of_ble_eq_true rfl, Nat.le_of_ble_eq_true rfl⟩ dX7_best_55 (Nat.le_of_ble_eq_true rfl) (fun x_55 u_55 h_55 => ?_)
          obtain ⟨rfl, hu_55⟩ := h_55
          replace hu_55 := hu_55.symm
          subst hu_55
          refine PW.aload_n (pc := 58) dX7_best_58 rfl ?_
          refine PW.iload_n (pc := 59) dX7_best_59 rfl ?_
          refine cs_X7_130 (pc := 60) hY.rm (c_X7_prices hn' h10 (by omega)) ⟨Nat.le_of_ble_eq_true rfl, Nat.le_of_ble_eq_true rfl⟩ dX7_best_60 (Nat.le_of_ble_eq_true rfl) (fun x_60 u_60 h_60 => ?_)
          obtain ⟨rfl, hu_60⟩ := h_60
          replace hu_60 := hu_60.symm
          subst hu_60
          rw [hF 41 (by decide), show ∀ z, prs (M.1 41) z n = prM (mv M) n z from fun _ => rfl, show ∀ z, prs (M.1 41) z n = prM (mv M) n z from fun _ => rfl]
          refine PW.icmp_le (pc := 63) (tgt := 80) dX7_best_63 (by decide) (fun c_63 => ?_) (fun c_63 => ?_)
          · refine PW.st rfl rfl rfl (next _ ?_)
            rw [bestF, if_neg]
            rintro ⟨-, -, q⟩
            exact x_ng c_63 q
          · refine PW.aload_n (pc := 66) dX7_best_66 rfl ?_
            refine PW.iload (pc := 67) dX7_best_67 rfl ?_
            refine PW.iload_n (pc := 69) dX7_best_69 rfl ?_
            refine PW.ior (pc := 70) dX7_best_70 ?_
            rw [fa_or, Nat.or_comm]
            refine cs_X7_113 (pc := 71) hY.rm (c_X7_isFit hB hF hU (or_lt ht (by omega))) ⟨Nat.le_of_ble_eq_true rfl, Nat.le_of_ble_eq_true rfl⟩ dX7_best_71 (Nat.le_of_ble_eq_true rfl) (fun x_71 u_71 h_71 => ?_)
            obtain ⟨rfl, hu_71⟩ := h_71
            replace hu_71 := hu_71.symm
            subst hu_71
            refine PW.if_eq (pc := 74) (tgt := 80) dX7_best_74 (by decide) (fun c_74 => ?_) (fun c_74 => ?_)
            · have q := bool_f c_74
              refine PW.st rfl rfl rfl (next _ ?_)
              rw [bestF, if_neg]
              rintro ⟨-, q2, -⟩
              simp [bestP, q] at q2
            · have q := bool_t c_74
              refine PW.iload (pc := 77) dX7_best_77 rfl ?_
              refine PW.istore_n (pc := 79) (i := 3) dX7_best_79 rfl (by decide) rfl ?_
              refine PW.st rfl rfl rfl (next k ?_)
              rw [bestF, if_pos ⟨by omega, by simp [bestP, q, c_49], x_gt c_63⟩]
    refine PW.iconst (pc := 27) (v := nI 0) dX7_best_27 (by decide) ?_
    refine PW.istore_n (pc := 28) (i := 3) dX7_best_28 rfl (by decide) rfl ?_
    refine PW.iconst (pc := 29) (v := nI 1) dX7_best_29 (by decide) ?_
    refine PW.istore (pc := 30) dX7_best_30 (by decide) rfl ?_
    have h1 := loop 1 (by omega) (Nat.le_refl _)
    rw [bestF_one] at h1
    exact PW.st rfl rfl rfl h1
  · have hfit := bool_f c_21
    refine PW.bipush (pc := 24) (v := (-3)) dX7_best_24 (by decide) ?_
    refine PW.iret (pc := 26) hY ?_ dX7_best_26
    refine x_ri ⟨?_, hF⟩
    rw [if_neg hfit]
set_option maxHeartbeats 4000000 in
set_option maxRecDepth 20000 in
theorem c_X7_dearest {n : Nat} {M : xM} (hB : TB (mv M) n) : K_X7_dearest [.ref 32] M (xRi (fun x u => x = nI (dearT (mv M) n (2 ^ n)).1 ∧ xFu M u)) := by
  refine xMet.of (own := RX7) rfl (by decide) (Nat.le_of_ble_eq_true rfl) rfl (fun Y hY => ?_)
  have hn : M.1 32 6 = nI n := hB.has
  have h10 := hB.n10
  have ht := TK_lt hB
  have ha := AS_lt hB
  have hp : 2 ^ n ≤ 1024 := Nat.pow_le_pow_right (show 0 < 2 by omega) h10
  have hp0 : 0 < 2 ^ n := Nat.two_pow_pos n
  refine PW.aload_n (pc := 0) dX7_dearest_0 rfl ?_
  refine cs_X7_106 (pc := 1) hY.rm (c_X7_findUses hB) ⟨Nat.le_of_ble_eq_true rfl, Nat.le_of_ble_eq_true rfl⟩ dX7_dearest_1 (Nat.le_of_ble_eq_true rfl) (fun u_1 h_1 => ?_)
  obtain ⟨hF, hU⟩ := h_1
  have hn' : u_1.1 32 6 = nI n := by rw [hF 32 (by decide)]; exact hn
  refine PW.aload_n (pc := 4) dX7_dearest_4 rfl ?_
  refine PW.iconst (pc := 5) (v := nI 1) dX7_dearest_5 (by decide) ?_
  refine cs_X7_109 (pc := 6) hY.rm (c_X7_all hn' h10) ⟨Nat.le_of_ble_eq_true rfl, Nat.le_of_ble_eq_true rfl⟩ dX7_dearest_6 (Nat.le_of_ble_eq_true rfl) (fun x_6 u_6 h_6 => ?_)
  obtain ⟨rfl, hu_6⟩ := h_6
  replace hu_6 := hu_6.symm
  subst hu_6
  refine PW.istore_n (pc := 9) (i := 1) dX7_dearest_9 rfl (by decide) rfl ?_
  refine PW.aload_n (pc := 10) dX7_dearest_10 rfl ?_
  refine PW.iconst (pc := 11) (v := nI 0) dX7_dearest_11 (by decide) ?_
  refine cs_X7_109 (pc := 12) hY.rm (c_X7_all hn' h10) ⟨Nat.le_of_ble_eq_true rfl, Nat.le_of_ble_eq_true rfl⟩ dX7_dearest_12 (Nat.le_of_ble_eq_true rfl) (fun x_12 u_12 h_12 => ?_)
  obtain ⟨rfl, hu_12⟩ := h_12
  replace hu_12 := hu_12.symm
  subst hu_12
  rw [hF 42 (by decide), show xset (M.1 42) (nI 1) n = TK (mv M) n from rfl, show xset (M.1 42) (nI 0) n = AS (mv M) n from rfl]
  refine PW.istore_n (pc := 15) (i := 2) dX7_dearest_15 rfl (by decide) rfl ?_
  refine PW.aload_n (pc := 16) dX7_dearest_16 rfl ?_
  refine PW.iload_n (pc := 17) dX7_dearest_17 rfl ?_
  refine cs_X7_116 (pc := 18) hY.rm (c_X7_hiredFor hB hF hU ht) ⟨Nat.le_of_ble_eq_true rfl, Nat.le_of_ble_eq_true rfl⟩ dX7_dearest_18 (Nat.le_of_ble_eq_true rfl) (fun x_18 u_18 h_18 => ?_)
  obtain ⟨rfl, hu_18⟩ := h_18
  replace hu_18 := hu_18.symm
  subst hu_18
  have loop : ∀ k, k ≤ 2 ^ n → (1 ≤ k → P_X7_dearest Y 31 [(0, .ref 32), (1, .int (nI (TK (mv M) n))), (2, .int (nI (AS (mv M) n))), (3, .long (lN (HSn (mv M) n (TK (mv M) n)))), (5, .int (nI (dearT (mv M) n k).1)), (6, .long (dearT (mv M) n k).2), (8, .int (nI k))] [] u_1) := by
    refine x_down ?_ ?_
    · intro _
      refine PW.iload (pc := 31) dX7_dearest_31 rfl ?_
      refine PW.iconst (pc := 33) (v := nI 1) dX7_dearest_33 (by decide) ?_
      refine PW.aload_n (pc := 34) dX7_dearest_34 rfl ?_
      refine gf_X7_87 (pc := 35) dX7_dearest_35 ?_
      refine PW.ishl (pc := 38) dX7_dearest_38 ?_
      rw [hn', x_shl1 (by omega)]
      refine PW.icmp_ge (pc := 39) (tgt := 93) dX7_dearest_39 (by decide) (fun _ => ?_) (fun c => absurd ((nI_le (Nat.le_refl _) (by omega))) c)
      refine PW.iload (pc := 93) dX7_dearest_93 rfl ?_
      refine PW.iret (pc := 95) hY ?_ dX7_dearest_95
      exact x_ri ⟨rfl, hF⟩
    · intro k hk ih hk1
      have next : ∀ fd, fd = dearT (mv M) n (k + 1) → P_X7_dearest Y 87 [(0, .ref 32), (1, .int (nI (TK (mv M) n))), (2, .int (nI (AS (mv M) n))), (3, .long (lN (HSn (mv M) n (TK (mv M) n)))), (5, .int (nI fd.1)), (6, .long fd.2), (8, .int (nI k))] [] u_1 := by
        intro fd g3
        refine PW.iinc (pc := 87) dX7_dearest_87 rfl (x_inc1 _) (by decide) rfl ?_
        refine PW.goto (pc := 90) (tgt := 31) dX7_dearest_90 (by decide) ?_
        rw [g3]
        exact PW.st rfl rfl rfl (ih (by omega))
      refine PW.iload (pc := 31) dX7_dearest_31 rfl ?_
      refine PW.iconst (pc := 33) (v := nI 1) dX7_dearest_33 (by decide) ?_
      refine PW.aload_n (pc := 34) dX7_dearest_34 rfl ?_
      refine gf_X7_87 (pc := 35) dX7_dearest_35 ?_
      refine PW.ishl (pc := 38) dX7_dearest_38 ?_
      rw [hn', x_shl1 (by omega)]
      refine PW.icmp_ge (pc := 39) (tgt := 93) dX7_dearest_39 (by decide) (fun c => absurd c ((nI_ge hk (by omega)))) (fun _ => ?_)
      refine PW.iload (pc := 42) dX7_dearest_42 rfl ?_
      refine PW.iload_n (pc := 44) dX7_dearest_44 rfl ?_
      refine PW.iand (pc := 45) dX7_dearest_45 ?_
      refine PW.iload (pc := 46) dX7_dearest_46 rfl ?_
      refine PW.icmp_ne (pc := 48) (tgt := 87) dX7_dearest_48 (by decide) (fun c_48 => ?_) (fun c_48 => ?_)
      · rw [sub_iff (by omega) (by omega)] at c_48
        refine PW.st rfl rfl rfl (next (dearT (mv M) n k) ?_)
        unfold dearT
        rw [dearF, if_neg]
        rintro ⟨-, q, -⟩
        simp [dearP, c_48] at q
      · rw [sub_iff (by omega) (by omega)] at c_48
        refine PW.aload_n (pc := 51) dX7_dearest_51 rfl ?_
        refine PW.iload (pc := 52) dX7_dearest_52 rfl ?_
        refine cs_X7_130 (pc := 54) hY.rm (c_X7_prices hn' h10 (by omega)) ⟨Nat.le_of_ble_eq_true rfl, Nat.le_of_ble_eq_true rfl⟩ dX7_dearest_54 (Nat.le_of_ble_eq_true rfl) (fun x_54 u_54 h_54 => ?_)
        obtain ⟨rfl, hu_54⟩ := h_54
        replace hu_54 := hu_54.symm
        subst hu_54
        rw [hF 41 (by decide), show prs (M.1 41) k n = prM (mv M) n k from rfl]
        refine PW.i2l (pc := 57) dX7_dearest_57 ?_
        refine PW.aload_n (pc := 58) dX7_dearest_58 rfl ?_
        refine PW.iload (pc := 59) dX7_dearest_59 rfl ?_
        refine PW.iload_n (pc := 61) dX7_dearest_61 rfl ?_
        refine PW.ior (pc := 62) dX7_dearest_62 ?_
        rw [fa_or, Nat.or_comm]
        refine cs_X7_116 (pc := 63) hY.rm (c_X7_hiredFor hB hF hU (or_lt ht (by omega))) ⟨Nat.le_of_ble_eq_true rfl, Nat.le_of_ble_eq_true rfl⟩ dX7_dearest_63 (Nat.le_of_ble_eq_true rfl) (fun x_63 u_63 h_63 => ?_)
        obtain ⟨rfl, hu_63⟩ := h_63
        replace hu_63 := hu_63.symm
        subst hu_63
        refine PW.lload_n (pc := 66) dX7_dearest_66 rfl ?_
        refine PW.lsub (pc := 67) dX7_dearest_67 ?_
        refine PW.lsub (pc := 68) dX7_dearest_68 ?_
        rw [show (prM (mv M) n k).toInt64 - (lN (HSn (mv M) n (TK (mv M) n ||| k)) - lN (HSn (mv M) n (TK (mv M) n))) = woM (mv M) n k from rfl]
        refine PW.lstore (pc := 69) dX7_dearest_69 (by decide) rfl rfl ?_
        refine PW.lload (pc := 71) dX7_dearest_71 rfl ?_
        refine PW.lload (pc := 73) dX7_dearest_73 rfl ?_
        refine PW.lcmp (pc := 75) dX7_dearest_75 ?_
        refine PW.if_le (pc := 76) (tgt := 87) dX7_dearest_76 (by decide) (fun c_76 => ?_) (fun c_76 => ?_)
        · refine PW.st rfl rfl rfl (next (dearT (mv M) n k) ?_)
          unfold dearT at c_76 ⊢
          rw [dearF, if_neg]
          rintro ⟨-, -, q⟩
          exact x_ng c_76 ((lg_gt _ _).mpr q)
        · refine PW.lload (pc := 79) dX7_dearest_79 rfl ?_
          refine PW.lstore (pc := 81) dX7_dearest_81 (by decide) rfl rfl ?_
          refine PW.iload (pc := 83) dX7_dearest_83 rfl ?_
          refine PW.istore (pc := 85) dX7_dearest_85 (by decide) rfl ?_
          refine PW.st rfl rfl rfl (next (k, woM (mv M) n k) ?_)
          unfold dearT at c_76 ⊢
          rw [dearF, if_pos ⟨by omega, by simp [dearP, c_48], (lg_gt _ _).mp (x_gt c_76)⟩]
  refine PW.lstore_n (pc := 21) (i := 3) dX7_dearest_21 rfl (by decide) rfl rfl ?_
  refine PW.iconst (pc := 22) (v := nI 0) dX7_dearest_22 (by decide) ?_
  refine PW.istore (pc := 23) dX7_dearest_23 (by decide) rfl ?_
  refine PW.lconst (pc := 25) (v := lN 0) dX7_dearest_25 rfl ?_
  refine PW.lstore (pc := 26) dX7_dearest_26 (by decide) rfl rfl ?_
  refine PW.iconst (pc := 28) (v := nI 1) dX7_dearest_28 (by decide) ?_
  refine PW.istore (pc := 29) dX7_dearest_29 (by decide) rfl ?_
  have h1 := loop 1 (by omega) (Nat.le_refl _)
  unfold dearT at h1
  rw [dearF_one] at h1
  exact PW.st rfl rfl rfl h1
def fewAm (M : xM) (n s b : Nat) : Bool := decide (pcn s 10 < pcn b 10) || (decide (pcn s 10 = pcn b 10) && (decide (prM M n s < prM M n b) || (decide (prM M n s = prM M n b) && decide (s < b))))
def fewM (M : xM) (n k : Nat) : Nat := fewF (fewP M n) (fewAm M n) (TK M n) 0 k
theorem fewM_lt {M : xM} {n : Nat} (hB : TB M n) : ∀ k, k ≤ 1024 → fewM M n k < 1024
  | 0, _ => TK_lt hB
  | k + 1, h => by
    have := fewM_lt hB k (by omega)
    unfold fewM at this ⊢
    rw [fewF]
    split <;> omega
set_option maxHeartbeats 4000000 in
set_option maxRecDepth 20000 in
theorem c_X7_fewest {n : Nat} {M : xM} (hB : TB (mv M) n) : K_X7_fewest [.ref 32] M (xRi (fun x u => x = nI (fewM (mv M) n (2 ^ n)) ∧ xFu M u)) := by
  refine xMet.of (own := RX7) rfl (by decide) (Nat.le_of_ble_eq_true rfl) rfl (fun Y hY => ?_)
  have hn : M.1 32 6 = nI n := hB.has
  have h10 := hB.n10
  have ht := TK_lt hB
  have hp : 2 ^ n ≤ 1024 := Nat.pow_le_pow_right (show 0 < 2 by omega) h10
  refine PW.aload_n (pc := 0) dX7_fewest_0 rfl ?_
  refine cs_X7_106 (pc := 1) hY.rm (c_X7_findUses hB) ⟨Nat.le_of_ble_eq_true rfl, Nat.le_of_ble_eq_true rfl⟩ dX7_fewest_1 (Nat.le_of_ble_eq_true rfl) (fun u_1 h_1 => ?_)
  obtain ⟨hF, hU⟩ := h_1
  have hn' : u_1.1 32 6 = nI n := by rw [hF 32 (by decide)]; exact hn
  refine PW.aload_n (pc := 4) dX7_fewest_4 rfl ?_
  refine PW.iconst (pc := 5) (v := nI 1) dX7_fewest_5 (by decide) ?_
  refine cs_X7_109 (pc := 6) hY.rm (c_X7_all hn' h10) ⟨Nat.le_of_ble_eq_true rfl, Nat.le_of_ble_eq_true rfl⟩ dX7_fewest_6 (Nat.le_of_ble_eq_true rfl) (fun x_6 u_6 h_6 => ?_)
  obtain ⟨rfl, hu_6⟩ := h_6
  replace hu_6 := hu_6.symm
  subst hu_6
  rw [hF 42 (by decide), show xset (M.1 42) (nI 1) n = TK (mv M) n from rfl]
  refine PW.istore_n (pc := 9) (i := 1) dX7_fewest_9 rfl (by decide) rfl ?_
  refine PW.iload_n (pc := 10) dX7_fewest_10 rfl ?_
  refine PW.istore_n (pc := 11) (i := 2) dX7_fewest_11 rfl (by decide) rfl ?_
  refine PW.iconst (pc := 12) (v := nI 0) dX7_fewest_12 (by decide) ?_
  refine PW.istore_n (pc := 13) (i := 3) dX7_fewest_13 rfl (by decide) rfl ?_
  refine x_loop (n := 2 ^ n) (P := fun k => P_X7_fewest Y 14 [(0, .ref 32), (1, .int (nI (TK (mv M) n))), (2, .int (nI (fewM (mv M) n k))), (3, .int (nI k))] [] u_1) (fun h => ?_) ?_ (fun k hk ih => ?_)
  · exact PW.st rfl rfl rfl h
  · refine PW.iload_n (pc := 14) dX7_fewest_14 rfl ?_
    refine PW.iconst (pc := 15) (v := nI 1) dX7_fewest_15 (by decide) ?_
    refine PW.aload_n (pc := 16) dX7_fewest_16 rfl ?_
    refine gf_X7_87 (pc := 17) dX7_fewest_17 ?_
    refine PW.ishl (pc := 20) dX7_fewest_20 ?_
    rw [hn', x_shl1 (by omega)]
    refine PW.icmp_ge (pc := 21) (tgt := 116) dX7_fewest_21 (by decide) (fun _ => ?_) (fun c => absurd ((nI_le (Nat.le_refl _) (by omega))) c)
    refine PW.iload_n (pc := 116) dX7_fewest_116 rfl ?_
    refine PW.iret (pc := 117) hY ?_ dX7_fewest_117
    exact x_ri ⟨rfl, hF⟩
  · have hfl := fewM_lt hB k (by omega)
    have next : ∀ fd, fd = fewM (mv M) n (k + 1) → P_X7_fewest Y 110 [(0, .ref 32), (1, .int (nI (TK (mv M) n))), (2, .int (nI fd)), (3, .int (nI k))] [] u_1 := by
      intro fd g3
      refine PW.iinc (pc := 110) dX7_fewest_110 rfl (x_inc1 _) (by decide) rfl ?_
      refine PW.goto (pc := 113) (tgt := 14) dX7_fewest_113 (by decide) ?_
      rw [g3]
      exact PW.st rfl rfl rfl ih
    have hns : fewP (mv M) n k = false ∨ fewAm (mv M) n k (fewM (mv M) n k) = false → fewM (mv M) n k = fewM (mv M) n (k + 1) := by
      intro q
      unfold fewM at q ⊢
      rw [fewF, if_neg]
      rw [Nat.zero_add]
      rintro ⟨q1, q2⟩
      rcases q with q | q
      · rw [q1] at q; cases q
      · rw [q2] at q; cases q
    have hp1 := pcn_le k 10
    have hp2 := pcn_le (fewM (mv M) n k) 10
    have at82 : ∀ w : Nat, (w = if fewAm (mv M) n k (fewM (mv M) n k) = true then 1 else 0) → P_X7_fewest Y 82 [(0, .ref 32), (1, .int (nI (TK (mv M) n))), (2, .int (nI (fewM (mv M) n k))), (3, .int (nI k))] [.int (nI w)] u_1 := by
      intro w hw
      refine PW.istore (pc := 82) dX7_fewest_82 (by decide) rfl ?_
      refine PW.iload_n (pc := 84) dX7_fewest_84 rfl ?_
      refine PW.iload_n (pc := 85) dX7_fewest_85 rfl ?_
      refine PW.iand (pc := 86) dX7_fewest_86 ?_
      refine PW.iload_n (pc := 87) dX7_fewest_87 rfl ?_
      refine PW.icmp_ne (pc := 88) (tgt := 110) dX7_fewest_88 (by decide) (fun c_88 => ?_) (fun c_88 => ?_)
      · rw [sub_iff (by omega) (by omega)] at c_88
        refine PW.st rfl rfl rfl (next _ (hns (Or.inl ?_)))
        simp [fewP, c_88]
      · rw [sub_iff (by omega) (by omega)] at c_88
        refine PW.iload (pc := 91) dX7_fewest_91 rfl ?_
        refine PW.if_eq (pc := 93) (tgt := 110) dX7_fewest_93 (by decide) (fun c_93 => ?_) (fun c_93 => ?_)
        · have q : fewAm (mv M) n k (fewM (mv M) n k) = false := by
            cases z : fewAm (mv M) n k (fewM (mv M) n k) with
            | false => rfl
            | true =>
              rw [if_pos z] at hw
              rw [hw] at c_93
              exact absurd c_93 (by decide)
          exact PW.st rfl rfl rfl (next _ (hns (Or.inr q)))
        · have q : fewAm (mv M) n k (fewM (mv M) n k) = true := by
            cases z : fewAm (mv M) n k (fewM (mv M) n k) with
            | true => rfl
            | false =>
              rw [if_neg (by rw [z]; simp)] at hw
              rw [hw] at c_93
              exact absurd rfl c_93
          refine PW.aload_n (pc := 96) dX7_fewest_96 rfl ?_
          refine PW.iload_n (pc := 97) dX7_fewest_97 rfl ?_
          refine PW.iload_n (pc := 98) dX7_fewest_98 rfl ?_
          refine PW.iconst (pc := 99) (v := (-1)) dX7_fewest_99 (by decide) ?_
          refine PW.ixor (pc := 100) dX7_fewest_100 ?_
          refine PW.iand (pc := 101) dX7_fewest_101 ?_
          rw [x_minus ht]
          refine cs_X7_113 (pc := 102) hY.rm (c_X7_isFit hB hF hU (and_lt ht)) ⟨Nat.le_of_ble_eq_true rfl, Nat.le_of_ble_eq_true rfl⟩ dX7_fewest_102 (Nat.le_of_ble_eq_true rfl) (fun x_102 u_102 h_102 => ?_)
          obtain ⟨rfl, hu_102⟩ := h_102
          replace hu_102 := hu_102.symm
          subst hu_102
          refine PW.if_eq (pc := 105) (tgt := 110) dX7_fewest_105 (by decide) (fun c_105 => ?_) (fun c_105 => ?_)
          · have z := bool_f c_105
            refine PW.st rfl rfl rfl (next _ (hns (Or.inl ?_)))
            simp [fewP, z]
          · have z := bool_t c_105
            refine PW.iload_n (pc := 108) dX7_fewest_108 rfl ?_
            refine PW.istore_n (pc := 109) (i := 2) dX7_fewest_109 rfl (by decide) rfl ?_
            refine PW.st rfl rfl rfl (next k ?_)
            unfold fewM at q ⊢
            rw [fewF, Nat.zero_add, if_pos ⟨by simp [fewP, c_88, z], q⟩]
    have at77 : fewAm (mv M) n k (fewM (mv M) n k) = true → P_X7_fewest Y 77 [(0, .ref 32), (1, .int (nI (TK (mv M) n))), (2, .int (nI (fewM (mv M) n k))), (3, .int (nI k))] [] u_1 := by
      intro q
      refine PW.iconst (pc := 77) (v := nI 1) dX7_fewest_77 (by decide) ?_
      refine PW.goto (pc := 78) (tgt := 82) dX7_fewest_78 (by decide) ?_
      exact PW.st rfl rfl rfl (at82 1 (by rw [if_pos q]))
    have at81 : fewAm (mv M) n k (fewM (mv M) n k) = false → P_X7_fewest Y 81 [(0, .ref 32), (1, .int (nI (TK (mv M) n))), (2, .int (nI (fewM (mv M) n k))), (3, .int (nI k))] [] u_1 := by
      intro q
      refine PW.iconst (pc := 81) (v := nI 0) dX7_fewest_81 (by decide) ?_
      exact PW.st rfl rfl rfl (at82 0 (by rw [if_neg (by rw [q]; simp)]))
    refine PW.iload_n (pc := 14) dX7_fewest_14 rfl ?_
    refine PW.iconst (pc := 15) (v := nI 1) dX7_fewest_15 (by decide) ?_
    refine PW.aload_n (pc := 16) dX7_fewest_16 rfl ?_
    refine gf_X7_87 (pc := 17) dX7_fewest_17 ?_
    refine PW.ishl (pc := 20) dX7_fewest_20 ?_
    rw [hn', x_shl1 (by omega)]
    refine PW.icmp_ge (pc := 21) (tgt := 116) dX7_fewest_21 (by decide) (fun c => absurd c ((nI_ge hk (by omega)))) (fun _ => ?_)
    refine PW.iload_n (pc := 24) dX7_fewest_24 rfl ?_
    refine cs_X7_135 (pc := 25) hY.rm (c_X7_many (show k < 1024 by omega)) ⟨Nat.le_of_ble_eq_true rfl, Nat.le_of_ble_eq_true rfl⟩ dX7_fewest_25 (Nat.le_of_ble_eq_true rfl) (fun x_25 u_25 h_25 => ?_)
    obtain ⟨rfl, hu_25⟩ := h_25
    replace hu_25 := hu_25.symm
    subst hu_25
    refine PW.iload_n (pc := 28) dX7_fewest_28 rfl ?_
    refine cs_X7_135 (pc := 29) hY.rm (c_X7_many hfl) ⟨Nat.le_of_ble_eq_true rfl, Nat.le_of_ble_eq_true rfl⟩ dX7_fewest_29 (Nat.le_of_ble_eq_true rfl) (fun x_29 u_29 h_29 => ?_)
    obtain ⟨rfl, hu_29⟩ := h_29
    replace hu_29 := hu_29.symm
    subst hu_29
    refine PW.icmp_lt (pc := 32) (tgt := 77) dX7_fewest_32 (by decide) (fun c_32 => ?_) (fun c_32 => ?_)
    · rw [nI_ltI (by omega) (by omega)] at c_32
      exact PW.st rfl rfl rfl (at77 (by simp [fewAm, c_32]))
    · rw [nI_ltI (by omega) (by omega)] at c_32
      refine PW.iload_n (pc := 35) dX7_fewest_35 rfl ?_
      refine cs_X7_135 (pc := 36) hY.rm (c_X7_many (show k < 1024 by omega)) ⟨Nat.le_of_ble_eq_true rfl, Nat.le_of_ble_eq_true rfl⟩ dX7_fewest_36 (Nat.le_of_ble_eq_true rfl) (fun x_36 u_36 h_36 => ?_)
      obtain ⟨rfl, hu_36⟩ := h_36
      replace hu_36 := hu_36.symm
      subst hu_36
      refine PW.iload_n (pc := 39) dX7_fewest_39 rfl ?_
      refine cs_X7_135 (pc := 40) hY.rm (c_X7_many hfl) ⟨Nat.le_of_ble_eq_true rfl, Nat.le_of_ble_eq_true rfl⟩ dX7_fewest_40 (Nat.le_of_ble_eq_true rfl) (fun x_40 u_40 h_40 => ?_)
      obtain ⟨rfl, hu_40⟩ := h_40
      replace hu_40 := hu_40.symm
      subst hu_40
      refine PW.icmp_ne (pc := 43) (tgt := 81) dX7_fewest_43 (by decide) (fun c_43 => ?_) (fun c_43 => ?_)
      · rw [nI_eq (by omega) (by omega)] at c_43
        exact PW.st rfl rfl rfl (at81 (by simp [fewAm, c_32, c_43]))
      · rw [nI_eq (by omega) (by omega)] at c_43
        refine PW.aload_n (pc := 46) dX7_fewest_46 rfl ?_
        refine PW.iload_n (pc := 47) dX7_fewest_47 rfl ?_
        refine cs_X7_130 (pc := 48) hY.rm (c_X7_prices hn' h10 (by omega)) ⟨Nat.le_of_ble_eq_true rfl, Nat.le_of_ble_eq_true rfl⟩ dX7_fewest_48 (Nat.le_of_ble_eq_true rfl) (fun x_48 u_48 h_48 => ?_)
        obtain ⟨rfl, hu_48⟩ := h_48
        replace hu_48 := hu_48.symm
        subst hu_48
        refine PW.aload_n (pc := 51) dX7_fewest_51 rfl ?_
        refine PW.iload_n (pc := 52) dX7_fewest_52 rfl ?_
        refine cs_X7_130 (pc := 53) hY.rm (c_X7_prices hn' h10 (by omega)) ⟨Nat.le_of_ble_eq_true rfl, Nat.le_of_ble_eq_true rfl⟩ dX7_fewest_53 (Nat.le_of_ble_eq_true rfl) (fun x_53 u_53 h_53 => ?_)
        obtain ⟨rfl, hu_53⟩ := h_53
        replace hu_53 := hu_53.symm
        subst hu_53
        rw [hF 41 (by decide), show ∀ z, prs (M.1 41) z n = prM (mv M) n z from fun _ => rfl, show ∀ z, prs (M.1 41) z n = prM (mv M) n z from fun _ => rfl]
        refine PW.icmp_lt (pc := 56) (tgt := 77) dX7_fewest_56 (by decide) (fun c_56 => ?_) (fun c_56 => ?_)
        · exact PW.st rfl rfl rfl (at77 (by simp [fewAm, c_43, c_56]))
        · refine PW.aload_n (pc := 59) dX7_fewest_59 rfl ?_
          refine PW.iload_n (pc := 60) dX7_fewest_60 rfl ?_
          refine cs_X7_130 (pc := 61) hY.rm (c_X7_prices hn' h10 (by omega)) ⟨Nat.le_of_ble_eq_true rfl, Nat.le_of_ble_eq_true rfl⟩ dX7_fewest_61 (Nat.le_of_ble_eq_true rfl) (fun x_61 u_61 h_61 => ?_)
          obtain ⟨rfl, hu_61⟩ := h_61
          replace hu_61 := hu_61.symm
          subst hu_61
          refine PW.aload_n (pc := 64) dX7_fewest_64 rfl ?_
          refine PW.iload_n (pc := 65) dX7_fewest_65 rfl ?_
          refine cs_X7_130 (pc := 66) hY.rm (c_X7_prices hn' h10 (by omega)) ⟨Nat.le_of_ble_eq_true rfl, Nat.le_of_ble_eq_true rfl⟩ dX7_fewest_66 (Nat.le_of_ble_eq_true rfl) (fun x_66 u_66 h_66 => ?_)
          obtain ⟨rfl, hu_66⟩ := h_66
          replace hu_66 := hu_66.symm
          subst hu_66
          rw [hF 41 (by decide), show ∀ z, prs (M.1 41) z n = prM (mv M) n z from fun _ => rfl, show ∀ z, prs (M.1 41) z n = prM (mv M) n z from fun _ => rfl]
          refine PW.icmp_ne (pc := 69) (tgt := 81) dX7_fewest_69 (by decide) (fun c_69 => ?_) (fun c_69 => ?_)
          · exact PW.st rfl rfl rfl (at81 (by simp [fewAm, c_43, c_56, c_69]))
          · refine PW.iload_n (pc := 72) dX7_fewest_72 rfl ?_
            refine PW.iload_n (pc := 73) dX7_fewest_73 rfl ?_
            refine PW.icmp_ge (pc := 74) (tgt := 81) dX7_fewest_74 (by decide) (fun c_74 => ?_) (fun c_74 => ?_)
            · rw [nI_leI (by omega) (by omega)] at c_74
              exact PW.st rfl rfl rfl (at81 (by simp [fewAm, c_43, c_56, c_69]; omega))
            · rw [nI_leI (by omega) (by omega)] at c_74
              exact PW.st rfl rfl rfl (at77 (by simp [fewAm, c_43, c_69]; omega))
