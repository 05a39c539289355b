/-! the reference: things, fields, needs, what comes back, tents -/
set_option maxHeartbeats 4000000 in
set_option maxRecDepth 20000 in
theorem c_X7_thing {k ow dr we hi co : Int32} {M : xM} : K_X7_thing [.ref 32, .int k, .int ow, .int dr, .int we, .int hi, .int co] M (xRi (fun x u => if isT k ∧ inr ow (nI 0) (nI 1000) ∧ inr dr (nI 0) (nI 5) ∧ inr we (nI 1) (nI 100) ∧ inr hi (nI 0) (nI 1000) ∧ inr co (nI 0) (nI 10000) then x = nI 1 ∧ u = xup (xup (xup (xup (xup M 33 (na k) ow) 34 (na k) dr) 35 (na k) we) 36 (na k) hi) 37 (na k) co else x = (-2) ∧ u = M)) := by
  refine xMet.of (own := RX7) rfl (by decide) (Nat.le_of_ble_eq_true rfl) rfl (fun Y hY => ?_)
  have bad : ¬ (isT k ∧ inr ow (nI 0) (nI 1000) ∧ inr dr (nI 0) (nI 5) ∧ inr we (nI 1) (nI 100) ∧ inr hi (nI 0) (nI 1000) ∧ inr co (nI 0) (nI 10000)) → P_X7_thing Y 62 [] [] M := by
    intro h
    refine PW.bipush (pc := 62) (v := (-2)) dX7_thing_62 (by decide) ?_
    refine PW.iret (pc := 64) hY ?_ dX7_thing_64
    refine x_ri ?_
    rw [if_neg h]; exact ⟨rfl, rfl⟩
  refine PW.iload_n (pc := 0) dX7_thing_0 rfl ?_
  refine cs_X7_91 (pc := 1) hY.rm (c_X7_isThing) ⟨Nat.le_of_ble_eq_true rfl, Nat.le_of_ble_eq_true rfl⟩ dX7_thing_1 (Nat.le_of_ble_eq_true rfl) (fun x_1 u_1 h_1 => ?_)
  obtain ⟨rfl, hu_1⟩ := h_1
  replace hu_1 := hu_1.symm
  subst hu_1
  refine PW.if_eq (pc := 4) (tgt := 62) dX7_thing_4 (by decide) (fun c_4 => PW.st rfl rfl rfl (bad (fun h => bool_f c_4 h.1))) (fun c_4 => ?_)
  refine PW.iload_n (pc := 7) dX7_thing_7 rfl ?_
  refine PW.iconst (pc := 8) (v := nI 0) dX7_thing_8 (by decide) ?_
  refine PW.sipush (pc := 9) (v := nI 1000) dX7_thing_9 (by decide) ?_
  refine cs_X7_83 (pc := 12) hY.rm (c_X7_in) ⟨Nat.le_of_ble_eq_true rfl, Nat.le_of_ble_eq_true rfl⟩ dX7_thing_12 (Nat.le_of_ble_eq_true rfl) (fun x_12 u_12 h_12 => ?_)
  obtain ⟨rfl, hu_12⟩ := h_12
  replace hu_12 := hu_12.symm
  subst hu_12
  refine PW.if_eq (pc := 15) (tgt := 62) dX7_thing_15 (by decide) (fun c_15 => PW.st rfl rfl rfl (bad (fun h => bool_f c_15 h.2.1))) (fun c_15 => ?_)
  refine PW.iload_n (pc := 18) dX7_thing_18 rfl ?_
  refine PW.iconst (pc := 19) (v := nI 0) dX7_thing_19 (by decide) ?_
  refine PW.iconst (pc := 20) (v := nI 5) dX7_thing_20 (by decide) ?_
  refine cs_X7_83 (pc := 21) hY.rm (c_X7_in) ⟨Nat.le_of_ble_eq_true rfl, Nat.le_of_ble_eq_true rfl⟩ dX7_thing_21 (Nat.le_of_ble_eq_true rfl) (fun x_21 u_21 h_21 => ?_)
  obtain ⟨rfl, hu_21⟩ := h_21
  replace hu_21 := hu_21.symm
  subst hu_21
  refine PW.if_eq (pc := 24) (tgt := 62) dX7_thing_24 (by decide) (fun c_24 => PW.st rfl rfl rfl (bad (fun h => bool_f c_24 h.2.2.1))) (fun c_24 => ?_)
  refine PW.iload (pc := 27) dX7_thing_27 rfl ?_
  refine PW.iconst (pc := 29) (v := nI 1) dX7_thing_29 (by decide) ?_
  refine PW.bipush (pc := 30) (v := nI 100) dX7_thing_30 (by decide) ?_
  refine cs_X7_83 (pc := 32) hY.rm (c_X7_in) ⟨Nat.le_of_ble_eq_true rfl, Nat.le_of_ble_eq_true rfl⟩ dX7_thing_32 (Nat.le_of_ble_eq_true rfl) (fun x_32 u_32 h_32 => ?_)
  obtain ⟨rfl, hu_32⟩ := h_32
  replace hu_32 := hu_32.symm
  subst hu_32
  refine PW.if_eq (pc := 35) (tgt := 62) dX7_thing_35 (by decide) (fun c_35 => PW.st rfl rfl rfl (bad (fun h => bool_f c_35 h.2.2.2.1))) (fun c_35 => ?_)
  refine PW.iload (pc := 38) dX7_thing_38 rfl ?_
  refine PW.iconst (pc := 40) (v := nI 0) dX7_thing_40 (by decide) ?_
  refine PW.sipush (pc := 41) (v := nI 1000) dX7_thing_41 (by decide) ?_
  refine cs_X7_83 (pc := 44) hY.rm (c_X7_in) ⟨Nat.le_of_ble_eq_true rfl, Nat.le_of_ble_eq_true rfl⟩ dX7_thing_44 (Nat.le_of_ble_eq_true rfl) (fun x_44 u_44 h_44 => ?_)
  obtain ⟨rfl, hu_44⟩ := h_44
  replace hu_44 := hu_44.symm
  subst hu_44
  refine PW.if_eq (pc := 47) (tgt := 62) dX7_thing_47 (by decide) (fun c_47 => PW.st rfl rfl rfl (bad (fun h => bool_f c_47 h.2.2.2.2.1))) (fun c_47 => ?_)
  refine PW.iload (pc := 50) dX7_thing_50 rfl ?_
  refine PW.iconst (pc := 52) (v := nI 0) dX7_thing_52 (by decide) ?_
  refine PW.sipush (pc := 53) (v := nI 10000) dX7_thing_53 (by decide) ?_
  refine cs_X7_83 (pc := 56) hY.rm (c_X7_in) ⟨Nat.le_of_ble_eq_true rfl, Nat.le_of_ble_eq_true rfl⟩ dX7_thing_56 (Nat.le_of_ble_eq_true rfl) (fun x_56 u_56 h_56 => ?_)
  obtain ⟨rfl, hu_56⟩ := h_56
  replace hu_56 := hu_56.symm
  subst hu_56
  refine PW.if_ne (pc := 59) (tgt := 65) dX7_thing_59 (by decide) (fun c_59 => ?_) (fun c_59 => PW.st rfl rfl rfl (bad (fun h => bool_f c_59 h.2.2.2.2.2)))
  have hk := bool_t c_4
  have h1 := x_pos hk.1
  have h2 := na_lt hk.1 hk.2 (by omega)
  refine PW.aload_n (pc := 65) dX7_thing_65 rfl ?_
  refine gf_X7_7 (pc := 66) dX7_thing_66 ?_
  refine PW.iload_n (pc := 69) dX7_thing_69 rfl ?_
  refine PW.iload_n (pc := 70) dX7_thing_70 rfl ?_
  refine PW.iastN (pc := 71) rfl h1 h2 (by decide) dX7_thing_71 ?_
  refine PW.aload_n (pc := 72) dX7_thing_72 rfl ?_
  refine gf_X7_13 (pc := 73) dX7_thing_73 ?_
  refine PW.iload_n (pc := 76) dX7_thing_76 rfl ?_
  refine PW.iload_n (pc := 77) dX7_thing_77 rfl ?_
  refine PW.iastN (pc := 78) rfl h1 h2 (by decide) dX7_thing_78 ?_
  refine PW.aload_n (pc := 79) dX7_thing_79 rfl ?_
  refine gf_X7_16 (pc := 80) dX7_thing_80 ?_
  refine PW.iload_n (pc := 83) dX7_thing_83 rfl ?_
  refine PW.iload (pc := 84) dX7_thing_84 rfl ?_
  refine PW.iastN (pc := 86) rfl h1 h2 (by decide) dX7_thing_86 ?_
  refine PW.aload_n (pc := 87) dX7_thing_87 rfl ?_
  refine gf_X7_19 (pc := 88) dX7_thing_88 ?_
  refine PW.iload_n (pc := 91) dX7_thing_91 rfl ?_
  refine PW.iload (pc := 92) dX7_thing_92 rfl ?_
  refine PW.iastN (pc := 94) rfl h1 h2 (by decide) dX7_thing_94 ?_
  refine PW.aload_n (pc := 95) dX7_thing_95 rfl ?_
  refine gf_X7_22 (pc := 96) dX7_thing_96 ?_
  refine PW.iload_n (pc := 99) dX7_thing_99 rfl ?_
  refine PW.iload (pc := 100) dX7_thing_100 rfl ?_
  refine PW.iastN (pc := 102) rfl h1 h2 (by decide) dX7_thing_102 ?_
  refine PW.iconst (pc := 103) (v := nI 1) dX7_thing_103 (by decide) ?_
  refine PW.iret (pc := 104) hY ?_ dX7_thing_104
  refine x_ri ?_
  rw [if_pos ⟨hk, bool_t c_15, bool_t c_24, bool_t c_35, bool_t c_47, bool_t c_59⟩]
  exact ⟨rfl, rfl⟩
set_option maxHeartbeats 4000000 in
set_option maxRecDepth 20000 in
theorem c_X7_field {a b v : Int32} {n : Nat} {M : xM} (hn : M.1 32 6 = nI n) (h10 : n ≤ 10) : K_X7_field [.ref 32, .int a, .int b, .int v] M (xRi (fun x u => if inr a (nI 0) (nI 60) ∧ inr b a (nI 60) ∧ inr v (nI 0) (nI 100000) then (if n < 10 then x = nI n ∧ u = xup (xup (xup (xup (xup M 39 n a) 40 n b) 41 n v) 42 n (nI 0)) 32 6 (nI (n + 1)) else x = (-4) ∧ u = M) else x = (-2) ∧ u = M)) := by
  refine xMet.of (own := RX7) rfl (by decide) (Nat.le_of_ble_eq_true rfl) rfl (fun Y hY => ?_)
  have bad : ¬ (inr a (nI 0) (nI 60) ∧ inr b a (nI 60) ∧ inr v (nI 0) (nI 100000)) → P_X7_field Y 27 [] [] M := by
    intro h
    refine PW.bipush (pc := 27) (v := (-2)) dX7_field_27 (by decide) ?_
    refine PW.iret (pc := 29) hY ?_ dX7_field_29
    refine x_ri ?_
    rw [if_neg h]; exact ⟨rfl, rfl⟩
  refine PW.iload_n (pc := 0) dX7_field_0 rfl ?_
  refine cs_X7_95 (pc := 1) hY.rm (c_X7_isDay) ⟨Nat.le_of_ble_eq_true rfl, Nat.le_of_ble_eq_true rfl⟩ dX7_field_1 (Nat.le_of_ble_eq_true rfl) (fun x_1 u_1 h_1 => ?_)
  obtain ⟨rfl, hu_1⟩ := h_1
  replace hu_1 := hu_1.symm
  subst hu_1
  refine PW.if_eq (pc := 4) (tgt := 27) dX7_field_4 (by decide) (fun c_4 => PW.st rfl rfl rfl (bad (fun h => bool_f c_4 h.1))) (fun c_4 => ?_)
  refine PW.iload_n (pc := 7) dX7_field_7 rfl ?_
  refine PW.iload_n (pc := 8) dX7_field_8 rfl ?_
  refine PW.bipush (pc := 9) (v := nI 60) dX7_field_9 (by decide) ?_
  refine cs_X7_83 (pc := 11) hY.rm (c_X7_in) ⟨Nat.le_of_ble_eq_true rfl, Nat.le_of_ble_eq_true rfl⟩ dX7_field_11 (Nat.le_of_ble_eq_true rfl) (fun x_11 u_11 h_11 => ?_)
  obtain ⟨rfl, hu_11⟩ := h_11
  replace hu_11 := hu_11.symm
  subst hu_11
  refine PW.if_eq (pc := 14) (tgt := 27) dX7_field_14 (by decide) (fun c_14 => PW.st rfl rfl rfl (bad (fun h => bool_f c_14 h.2.1))) (fun c_14 => ?_)
  refine PW.iload_n (pc := 17) dX7_field_17 rfl ?_
  refine PW.iconst (pc := 18) (v := nI 0) dX7_field_18 (by decide) ?_
  refine PW.ldc (pc := 19) (v := nI 100000) (by decide +kernel) dX7_field_19 ?_
  refine cs_X7_83 (pc := 21) hY.rm (c_X7_in) ⟨Nat.le_of_ble_eq_true rfl, Nat.le_of_ble_eq_true rfl⟩ dX7_field_21 (Nat.le_of_ble_eq_true rfl) (fun x_21 u_21 h_21 => ?_)
  obtain ⟨rfl, hu_21⟩ := h_21
  replace hu_21 := hu_21.symm
  subst hu_21
  refine PW.if_ne (pc := 24) (tgt := 30) dX7_field_24 (by decide) (fun c_24 => ?_) (fun c_24 => PW.st rfl rfl rfl (bad (fun h => bool_f c_24 h.2.2)))
  have G : inr a (nI 0) (nI 60) ∧ inr b a (nI 60) ∧ inr v (nI 0) (nI 100000) := ⟨bool_t c_4, bool_t c_14, bool_t c_24⟩
  refine PW.aload_n (pc := 30) dX7_field_30 rfl ?_
  refine gf_X7_87 (pc := 31) dX7_field_31 ?_
  refine PW.bipush (pc := 34) (v := nI 10) dX7_field_34 (by decide) ?_
  refine PW.icmp_ne (pc := 36) (tgt := 42) dX7_field_36 (by decide) (fun c_36 => ?_) (fun c_36 => ?_)
  · rw [hn, nI_eq (by omega) (by omega)] at c_36
    have h : n < 10 := by omega
    refine PW.aload_n (pc := 42) dX7_field_42 rfl ?_
    refine gf_X7_28 (pc := 43) dX7_field_43 ?_
    refine PW.aload_n (pc := 46) dX7_field_46 rfl ?_
    refine gf_X7_87 (pc := 47) dX7_field_47 ?_
    refine PW.iload_n (pc := 50) dX7_field_50 rfl ?_
    refine PW.iastN (pc := 51) rfl hn h (by decide) dX7_field_51 ?_
    refine PW.aload_n (pc := 52) dX7_field_52 rfl ?_
    refine gf_X7_31 (pc := 53) dX7_field_53 ?_
    refine PW.aload_n (pc := 56) dX7_field_56 rfl ?_
    refine gf_X7_87 (pc := 57) dX7_field_57 ?_
    refine PW.iload_n (pc := 60) dX7_field_60 rfl ?_
    refine PW.iastN (pc := 61) rfl (by simp only [xup_1]; exact hn) h (by decide) dX7_field_61 ?_
    refine PW.aload_n (pc := 62) dX7_field_62 rfl ?_
    refine gf_X7_34 (pc := 63) dX7_field_63 ?_
    refine PW.aload_n (pc := 66) dX7_field_66 rfl ?_
    refine gf_X7_87 (pc := 67) dX7_field_67 ?_
    refine PW.iload_n (pc := 70) dX7_field_70 rfl ?_
    refine PW.iastN (pc := 71) rfl (by simp only [xup_1]; exact hn) h (by decide) dX7_field_71 ?_
    refine PW.aload_n (pc := 72) dX7_field_72 rfl ?_
    refine gf_X7_37 (pc := 73) dX7_field_73 ?_
    refine PW.aload_n (pc := 76) dX7_field_76 rfl ?_
    refine gf_X7_87 (pc := 77) dX7_field_77 ?_
    refine PW.iconst (pc := 80) (v := nI 0) dX7_field_80 (by decide) ?_
    refine PW.iastN (pc := 81) rfl (by simp only [xup_1]; exact hn) h (by decide) dX7_field_81 ?_
    refine PW.aload_n (pc := 82) dX7_field_82 rfl ?_
    refine PW.dup (pc := 83) dX7_field_83 rfl ?_
    refine gf_X7_87 (pc := 84) dX7_field_84 ?_
    refine PW.iconst (pc := 87) (v := nI 1) dX7_field_87 (by decide) ?_
    refine PW.iadd (pc := 88) dX7_field_88 ?_
    refine pf_X7_87 (pc := 89) dX7_field_89 ?_
    refine PW.aload_n (pc := 92) dX7_field_92 rfl ?_
    refine gf_X7_87 (pc := 93) dX7_field_93 ?_
    refine PW.iconst (pc := 96) (v := nI 1) dX7_field_96 (by decide) ?_
    refine PW.isub (pc := 97) dX7_field_97 ?_
    refine PW.iret (pc := 98) hY ?_ dX7_field_98
    refine x_ri ?_
    rw [if_pos G, if_pos h]
    simp only [xup_1]
    refine ⟨?_, ?_⟩
    · simp [hn, pk_sub, nI_add]
    · congr 1
      simp [hn, nI_add]
  · rw [hn, nI_eq (by omega) (by omega)] at c_36
    refine PW.bipush (pc := 39) (v := (-4)) dX7_field_39 (by decide) ?_
    refine PW.iret (pc := 41) hY ?_ dX7_field_41
    refine x_ri ?_
    rw [if_pos G, if_neg (by omega)]
    exact ⟨rfl, rfl⟩
set_option maxHeartbeats 4000000 in
set_option maxRecDepth 20000 in
theorem c_X7_need {f k v : Int32} {n : Nat} {M : xM} (hn : M.1 32 6 = nI n) (h10 : n ≤ 10) : K_X7_need [.ref 32, .int f, .int k, .int v] M (xRi (fun x u => if okF f n ∧ isT k ∧ inr v (nI 0) (nI 500) then (if M.1 42 (na f) = 0 then x = M.1 43 (na f * 6 + na k) ∧ u = xup M 43 (na f * 6 + na k) v else x = (-3) ∧ u = M) else x = (-2) ∧ u = M)) := by
  refine xMet.of (own := RX7) rfl (by decide) (Nat.le_of_ble_eq_true rfl) rfl (fun Y hY => ?_)
  have bad : ¬ (okF f n ∧ isT k ∧ inr v (nI 0) (nI 500)) → P_X7_need Y 26 [] [] M := by
    intro h
    refine PW.bipush (pc := 26) (v := (-2)) dX7_need_26 (by decide) ?_
    refine PW.iret (pc := 28) hY ?_ dX7_need_28
    refine x_ri ?_
    rw [if_neg h]; exact ⟨rfl, rfl⟩
  refine PW.aload_n (pc := 0) dX7_need_0 rfl ?_
  refine PW.iload_n (pc := 1) dX7_need_1 rfl ?_
  refine cs_X7_99 (pc := 2) hY.rm (c_X7_isField hn h10) ⟨Nat.le_of_ble_eq_true rfl, Nat.le_of_ble_eq_true rfl⟩ dX7_need_2 (Nat.le_of_ble_eq_true rfl) (fun x_2 u_2 h_2 => ?_)
  obtain ⟨rfl, hu_2⟩ := h_2
  replace hu_2 := hu_2.symm
  subst hu_2
  refine PW.if_eq (pc := 5) (tgt := 26) dX7_need_5 (by decide) (fun c_5 => PW.st rfl rfl rfl (bad (fun h => bool_f c_5 h.1))) (fun c_5 => ?_)
  refine PW.iload_n (pc := 8) dX7_need_8 rfl ?_
  refine cs_X7_91 (pc := 9) hY.rm (c_X7_isThing) ⟨Nat.le_of_ble_eq_true rfl, Nat.le_of_ble_eq_true rfl⟩ dX7_need_9 (Nat.le_of_ble_eq_true rfl) (fun x_9 u_9 h_9 => ?_)
  obtain ⟨rfl, hu_9⟩ := h_9
  replace hu_9 := hu_9.symm
  subst hu_9
  refine PW.if_eq (pc := 12) (tgt := 26) dX7_need_12 (by decide) (fun c_12 => PW.st rfl rfl rfl (bad (fun h => bool_f c_12 h.2.1))) (fun c_12 => ?_)
  refine PW.iload_n (pc := 15) dX7_need_15 rfl ?_
  refine PW.iconst (pc := 16) (v := nI 0) dX7_need_16 (by decide) ?_
  refine PW.sipush (pc := 17) (v := nI 500) dX7_need_17 (by decide) ?_
  refine cs_X7_83 (pc := 20) hY.rm (c_X7_in) ⟨Nat.le_of_ble_eq_true rfl, Nat.le_of_ble_eq_true rfl⟩ dX7_need_20 (Nat.le_of_ble_eq_true rfl) (fun x_20 u_20 h_20 => ?_)
  obtain ⟨rfl, hu_20⟩ := h_20
  replace hu_20 := hu_20.symm
  subst hu_20
  refine PW.if_ne (pc := 23) (tgt := 29) dX7_need_23 (by decide) (fun c_23 => ?_) (fun c_23 => PW.st rfl rfl rfl (bad (fun h => bool_f c_23 h.2.2)))
  have hf := bool_t c_5
  have hk := bool_t c_12
  have f1 := x_pos hf.1
  have f2 := na_lt hf.1 hf.2 (by omega)
  have k1 := x_pos hk.1
  have k2 := na_lt hk.1 hk.2 (by omega)
  have G : okF f n ∧ isT k ∧ inr v (nI 0) (nI 500) := ⟨hf, hk, bool_t c_23⟩
  clear bad c_5 c_12 c_23
  revert f1 k1
  generalize na f = fN at *
  generalize na k = kN at *
  intro f1 k1
  subst f1
  subst k1
  refine PW.aload_n (pc := 29) dX7_need_29 rfl ?_
  refine gf_X7_37 (pc := 30) dX7_need_30 ?_
  refine PW.iload_n (pc := 33) dX7_need_33 rfl ?_
  refine PW.ialdN (pc := 34) rfl rfl (by omega) (by decide) dX7_need_34 ?_
  refine PW.if_eq (pc := 35) (tgt := 41) dX7_need_35 (by decide) (fun c_35 => ?_) (fun c_35 => ?_)
  · refine PW.aload_n (pc := 41) dX7_need_41 rfl ?_
    refine gf_X7_40 (pc := 42) dX7_need_42 ?_
    refine PW.bipush (pc := 45) (v := nI 6) dX7_need_45 (by decide) ?_
    refine PW.iload_n (pc := 47) dX7_need_47 rfl ?_
    refine PW.imul (pc := 48) dX7_need_48 ?_
    refine PW.iload_n (pc := 49) dX7_need_49 rfl ?_
    refine PW.iadd (pc := 50) dX7_need_50 ?_
    refine PW.ialdN (pc := 51) rfl (x_cell fN kN) (by omega) (by decide) dX7_need_51 ?_
    refine PW.istore (pc := 52) dX7_need_52 (by decide) rfl ?_
    refine PW.aload_n (pc := 54) dX7_need_54 rfl ?_
    refine gf_X7_40 (pc := 55) dX7_need_55 ?_
    refine PW.bipush (pc := 58) (v := nI 6) dX7_need_58 (by decide) ?_
    refine PW.iload_n (pc := 60) dX7_need_60 rfl ?_
    refine PW.imul (pc := 61) dX7_need_61 ?_
    refine PW.iload_n (pc := 62) dX7_need_62 rfl ?_
    refine PW.iadd (pc := 63) dX7_need_63 ?_
    refine PW.iload_n (pc := 64) dX7_need_64 rfl ?_
    refine PW.iastN (pc := 65) rfl (x_cell fN kN) (by omega) (by decide) dX7_need_65 ?_
    refine PW.iload (pc := 66) dX7_need_66 rfl ?_
    refine PW.iret (pc := 68) hY ?_ dX7_need_68
    refine x_ri ?_
    rw [if_pos G, if_pos c_35]
    exact ⟨rfl, rfl⟩
  · refine PW.bipush (pc := 38) (v := (-3)) dX7_need_38 (by decide) ?_
    refine PW.iret (pc := 40) hY ?_ dX7_need_40
    refine x_ri ?_
    rw [if_pos G, if_neg c_35]
    exact ⟨rfl, rfl⟩
set_option maxHeartbeats 4000000 in
set_option maxRecDepth 20000 in
theorem c_X7_rain {d b : Int32} {M : xM} (hb : b = 0 ∨ b = 1) : K_X7_rain [.ref 32, .int d, .int b] M (xRi (fun x u => if inr d (nI 0) (nI 60) then x = nI 1 ∧ u = xup M 48 (na d) b else x = (-2) ∧ u = M)) := by
  refine xMet.of (own := RX7) rfl (by decide) (Nat.le_of_ble_eq_true rfl) rfl (fun Y hY => ?_)
  have bad : ¬ (inr d (nI 0) (nI 60)) → P_X7_rain Y 7 [] [] M := by
    intro h
    refine PW.bipush (pc := 7) (v := (-2)) dX7_rain_7 (by decide) ?_
    refine PW.iret (pc := 9) hY ?_ dX7_rain_9
    refine x_ri ?_
    rw [if_neg h]; exact ⟨rfl, rfl⟩
  refine PW.iload_n (pc := 0) dX7_rain_0 rfl ?_
  refine cs_X7_95 (pc := 1) hY.rm (c_X7_isDay) ⟨Nat.le_of_ble_eq_true rfl, Nat.le_of_ble_eq_true rfl⟩ dX7_rain_1 (Nat.le_of_ble_eq_true rfl) (fun x_1 u_1 h_1 => ?_)
  obtain ⟨rfl, hu_1⟩ := h_1
  replace hu_1 := hu_1.symm
  subst hu_1
  refine PW.if_ne (pc := 4) (tgt := 10) dX7_rain_4 (by decide) (fun c_4 => ?_) (fun c_4 => PW.st rfl rfl rfl (bad (bool_f c_4)))
  have G := bool_t c_4
  have d1 := x_pos G.1
  have d2 := na_le G.1 G.2 (by omega)
  refine PW.aload_n (pc := 10) dX7_rain_10 rfl ?_
  refine gf_X7_56 (pc := 11) dX7_rain_11 ?_
  refine PW.iload_n (pc := 14) dX7_rain_14 rfl ?_
  refine PW.iload_n (pc := 15) dX7_rain_15 rfl ?_
  refine PW.zastN (pc := 16) rfl d1 (by omega) (by decide) (by first | assumption | decide) dX7_rain_16 ?_
  refine PW.iconst (pc := 17) (v := nI 1) dX7_rain_17 (by decide) ?_
  refine PW.iret (pc := 18) hY ?_ dX7_rain_18
  refine x_ri ?_
  rw [if_pos G]
  exact ⟨rfl, rfl⟩
set_option maxHeartbeats 4000000 in
set_option maxRecDepth 20000 in
theorem c_X7_giveUp {f : Int32} {n : Nat} {M : xM} (hn : M.1 32 6 = nI n) (h10 : n ≤ 10) : K_X7_giveUp [.ref 32, .int f] M (xRi (fun x u => if okF f n then (if M.1 42 (na f) = 0 ∨ M.1 42 (na f) = nI 1 then x = nI 1 ∧ u = xup M 42 (na f) (nI 2) else x = (-3) ∧ u = M) else x = (-2) ∧ u = M)) := by
  refine xMet.of (own := RX7) rfl (by decide) (Nat.le_of_ble_eq_true rfl) rfl (fun Y hY => ?_)
  have bad : ¬ (okF f n) → P_X7_giveUp Y 8 [] [] M := by
    intro h
    refine PW.bipush (pc := 8) (v := (-2)) dX7_giveUp_8 (by decide) ?_
    refine PW.iret (pc := 10) hY ?_ dX7_giveUp_10
    refine x_ri ?_
    rw [if_neg h]; exact ⟨rfl, rfl⟩
  refine PW.aload_n (pc := 0) dX7_giveUp_0 rfl ?_
  refine PW.iload_n (pc := 1) dX7_giveUp_1 rfl ?_
  refine cs_X7_99 (pc := 2) hY.rm (c_X7_isField hn h10) ⟨Nat.le_of_ble_eq_true rfl, Nat.le_of_ble_eq_true rfl⟩ dX7_giveUp_2 (Nat.le_of_ble_eq_true rfl) (fun x_2 u_2 h_2 => ?_)
  obtain ⟨rfl, hu_2⟩ := h_2
  replace hu_2 := hu_2.symm
  subst hu_2
  refine PW.if_ne (pc := 5) (tgt := 11) dX7_giveUp_5 (by decide) (fun c_5 => ?_) (fun c_5 => PW.st rfl rfl rfl (bad (bool_f c_5)))
  have G := bool_t c_5
  obtain ⟨f1, f2⟩ := okF_nat G h10
  clear c_5 bad
  revert f1 f2
  generalize na f = fN at *
  intro f1 f2
  subst f1
  have good : (M.1 42 fN = 0 ∨ M.1 42 fN = nI 1) → P_X7_giveUp Y 33 [(0, .ref 32), (1, .int (nI fN))] [] M := by
    intro h
    refine PW.aload_n (pc := 33) dX7_giveUp_33 rfl ?_
    refine gf_X7_37 (pc := 34) dX7_giveUp_34 ?_
    refine PW.iload_n (pc := 37) dX7_giveUp_37 rfl ?_
    refine PW.iconst (pc := 38) (v := nI 2) dX7_giveUp_38 (by decide) ?_
    refine PW.iastN (pc := 39) rfl rfl (by omega) (by decide) dX7_giveUp_39 ?_
    refine PW.iconst (pc := 40) (v := nI 1) dX7_giveUp_40 (by decide) ?_
    refine PW.iret (pc := 41) hY ?_ dX7_giveUp_41
    refine x_ri ?_
    rw [if_pos G, if_pos h]
    exact ⟨rfl, rfl⟩
  refine PW.aload_n (pc := 11) dX7_giveUp_11 rfl ?_
  refine gf_X7_37 (pc := 12) dX7_giveUp_12 ?_
  refine PW.iload_n (pc := 15) dX7_giveUp_15 rfl ?_
  refine PW.ialdN (pc := 16) rfl rfl (by omega) (by decide) dX7_giveUp_16 ?_
  refine PW.if_eq (pc := 17) (tgt := 33) dX7_giveUp_17 (by decide) (fun c_17 => ?_) (fun c_17 => ?_)
  · exact PW.st rfl rfl rfl (good (Or.inl c_17))
  · refine PW.aload_n (pc := 20) dX7_giveUp_20 rfl ?_
    refine gf_X7_37 (pc := 21) dX7_giveUp_21 ?_
    refine PW.iload_n (pc := 24) dX7_giveUp_24 rfl ?_
    refine PW.ialdN (pc := 25) rfl rfl (by omega) (by decide) dX7_giveUp_25 ?_
    refine PW.iconst (pc := 26) (v := nI 1) dX7_giveUp_26 (by decide) ?_
    refine PW.icmp_eq (pc := 27) (tgt := 33) dX7_giveUp_27 (by decide) (fun c_27 => ?_) (fun c_27 => ?_)
    · exact PW.st rfl rfl rfl (good (Or.inr c_27))
    · refine PW.bipush (pc := 30) (v := (-3)) dX7_giveUp_30 (by decide) ?_
      refine PW.iret (pc := 32) hY ?_ dX7_giveUp_32
      refine x_ri ?_
      rw [if_pos G, if_neg (fun q => q.elim c_17 c_27)]
      exact ⟨rfl, rfl⟩
set_option maxHeartbeats 4000000 in
set_option maxRecDepth 20000 in
theorem c_X7_back {f : Int32} {n : Nat} {M : xM} (hn : M.1 32 6 = nI n) (h10 : n ≤ 10) : K_X7_back [.ref 32, .int f] M (xRi (fun x u => if okF f n then (if M.1 42 (na f) = nI 1 then x = nI 1 ∧ u = xup M 42 (na f) (nI 3) else x = (-3) ∧ u = M) else x = (-2) ∧ u = M)) := by
  refine xMet.of (own := RX7) rfl (by decide) (Nat.le_of_ble_eq_true rfl) rfl (fun Y hY => ?_)
  have bad : ¬ (okF f n) → P_X7_back Y 8 [] [] M := by
    intro h
    refine PW.bipush (pc := 8) (v := (-2)) dX7_back_8 (by decide) ?_
    refine PW.iret (pc := 10) hY ?_ dX7_back_10
    refine x_ri ?_
    rw [if_neg h]; exact ⟨rfl, rfl⟩
  refine PW.aload_n (pc := 0) dX7_back_0 rfl ?_
  refine PW.iload_n (pc := 1) dX7_back_1 rfl ?_
  refine cs_X7_99 (pc := 2) hY.rm (c_X7_isField hn h10) ⟨Nat.le_of_ble_eq_true rfl, Nat.le_of_ble_eq_true rfl⟩ dX7_back_2 (Nat.le_of_ble_eq_true rfl) (fun x_2 u_2 h_2 => ?_)
  obtain ⟨rfl, hu_2⟩ := h_2
  replace hu_2 := hu_2.symm
  subst hu_2
  refine PW.if_ne (pc := 5) (tgt := 11) dX7_back_5 (by decide) (fun c_5 => ?_) (fun c_5 => PW.st rfl rfl rfl (bad (bool_f c_5)))
  have G := bool_t c_5
  obtain ⟨f1, f2⟩ := okF_nat G h10
  clear c_5 bad
  revert f1 f2
  generalize na f = fN at *
  intro f1 f2
  subst f1
  refine PW.aload_n (pc := 11) dX7_back_11 rfl ?_
  refine gf_X7_37 (pc := 12) dX7_back_12 ?_
  refine PW.iload_n (pc := 15) dX7_back_15 rfl ?_
  refine PW.ialdN (pc := 16) rfl rfl (by omega) (by decide) dX7_back_16 ?_
  refine PW.iconst (pc := 17) (v := nI 1) dX7_back_17 (by decide) ?_
  refine PW.icmp_eq (pc := 18) (tgt := 24) dX7_back_18 (by decide) (fun c_18 => ?_) (fun c_18 => ?_)
  · refine PW.aload_n (pc := 24) dX7_back_24 rfl ?_
    refine gf_X7_37 (pc := 25) dX7_back_25 ?_
    refine PW.iload_n (pc := 28) dX7_back_28 rfl ?_
    refine PW.iconst (pc := 29) (v := nI 3) dX7_back_29 (by decide) ?_
    refine PW.iastN (pc := 30) rfl rfl (by omega) (by decide) dX7_back_30 ?_
    refine PW.iconst (pc := 31) (v := nI 1) dX7_back_31 (by decide) ?_
    refine PW.iret (pc := 32) hY ?_ dX7_back_32
    refine x_ri ?_
    rw [if_pos G, if_pos c_18]
    exact ⟨rfl, rfl⟩
  · refine PW.bipush (pc := 21) (v := (-3)) dX7_back_21 (by decide) ?_
    refine PW.iret (pc := 23) hY ?_ dX7_back_23
    refine x_ri ?_
    rw [if_pos G, if_neg c_18]
    exact ⟨rfl, rfl⟩
set_option maxHeartbeats 4000000 in
set_option maxRecDepth 20000 in
theorem c_X7_missing {f k v : Int32} {n : Nat} {M : xM} (hn : M.1 32 6 = nI n) (h10 : n ≤ 10) : K_X7_missing [.ref 32, .int f, .int k, .int v] M (xRi (fun x u => if okF f n ∧ isT k ∧ inr v (nI 0) (M.1 43 (na f * 6 + na k)) then (if M.1 42 (na f) = nI 3 ∧ M.1 44 (na f * 6 + na k) = 0 then x = M.1 37 (na k) * v ∧ u = xup (xup (xup M 44 (na f * 6 + na k) (nI 1)) 38 (na k) (M.1 38 (na k) + v)) 32 17 (M.1 32 17 + M.1 37 (na k) * v) else x = (-3) ∧ u = M) else x = (-2) ∧ u = M)) := by
  refine xMet.of (own := RX7) rfl (by decide) (Nat.le_of_ble_eq_true rfl) rfl (fun Y hY => ?_)
  have bad : ¬ (okF f n ∧ isT k ∧ inr v (nI 0) (M.1 43 (na f * 6 + na k))) → P_X7_missing Y 34 [] [] M := by
    intro h
    refine PW.bipush (pc := 34) (v := (-2)) dX7_missing_34 (by decide) ?_
    refine PW.iret (pc := 36) hY ?_ dX7_missing_36
    refine x_ri ?_
    rw [if_neg h]; exact ⟨rfl, rfl⟩
  refine PW.aload_n (pc := 0) dX7_missing_0 rfl ?_
  refine PW.iload_n (pc := 1) dX7_missing_1 rfl ?_
  refine cs_X7_99 (pc := 2) hY.rm (c_X7_isField hn h10) ⟨Nat.le_of_ble_eq_true rfl, Nat.le_of_ble_eq_true rfl⟩ dX7_missing_2 (Nat.le_of_ble_eq_true rfl) (fun x_2 u_2 h_2 => ?_)
  obtain ⟨rfl, hu_2⟩ := h_2
  replace hu_2 := hu_2.symm
  subst hu_2
  refine PW.if_eq (pc := 5) (tgt := 34) dX7_missing_5 (by decide) (fun c_5 => PW.st rfl rfl rfl (bad (fun h => bool_f c_5 h.1))) (fun c_5 => ?_)
  refine PW.iload_n (pc := 8) dX7_missing_8 rfl ?_
  refine cs_X7_91 (pc := 9) hY.rm (c_X7_isThing) ⟨Nat.le_of_ble_eq_true rfl, Nat.le_of_ble_eq_true rfl⟩ dX7_missing_9 (Nat.le_of_ble_eq_true rfl) (fun x_9 u_9 h_9 => ?_)
  obtain ⟨rfl, hu_9⟩ := h_9
  replace hu_9 := hu_9.symm
  subst hu_9
  refine PW.if_eq (pc := 12) (tgt := 34) dX7_missing_12 (by decide) (fun c_12 => PW.st rfl rfl rfl (bad (fun h => bool_f c_12 h.2.1))) (fun c_12 => ?_)
  have hf := bool_t c_5
  have hk := bool_t c_12
  have f1 := x_pos hf.1
  have f2 := na_lt hf.1 hf.2 (by omega)
  have k1 := x_pos hk.1
  have k2 := na_lt hk.1 hk.2 (by omega)
  clear c_5 c_12
  revert f1 k1
  generalize na f = fN at *
  generalize na k = kN at *
  intro f1 k1
  subst f1
  subst k1
  refine PW.iload_n (pc := 15) dX7_missing_15 rfl ?_
  refine PW.iconst (pc := 16) (v := nI 0) dX7_missing_16 (by decide) ?_
  refine PW.aload_n (pc := 17) dX7_missing_17 rfl ?_
  refine gf_X7_40 (pc := 18) dX7_missing_18 ?_
  refine PW.bipush (pc := 21) (v := nI 6) dX7_missing_21 (by decide) ?_
  refine PW.iload_n (pc := 23) dX7_missing_23 rfl ?_
  refine PW.imul (pc := 24) dX7_missing_24 ?_
  refine PW.iload_n (pc := 25) dX7_missing_25 rfl ?_
  refine PW.iadd (pc := 26) dX7_missing_26 ?_
  refine PW.ialdN (pc := 27) rfl (x_cell fN kN) (by omega) (by decide) dX7_missing_27 ?_
  refine cs_X7_83 (pc := 28) hY.rm (c_X7_in) ⟨Nat.le_of_ble_eq_true rfl, Nat.le_of_ble_eq_true rfl⟩ dX7_missing_28 (Nat.le_of_ble_eq_true rfl) (fun x_28 u_28 h_28 => ?_)
  obtain ⟨rfl, hu_28⟩ := h_28
  replace hu_28 := hu_28.symm
  subst hu_28
  refine PW.if_ne (pc := 31) (tgt := 37) dX7_missing_31 (by decide) (fun c_31 => ?_) (fun c_31 => PW.st rfl rfl rfl (bad (fun h => bool_f c_31 h.2.2)))
  have G : okF (nI fN) n ∧ isT (nI kN) ∧ inr v (nI 0) (M.1 43 (fN * 6 + kN)) := ⟨hf, hk, bool_t c_31⟩
  refine PW.aload_n (pc := 37) dX7_missing_37 rfl ?_
  refine gf_X7_37 (pc := 38) dX7_missing_38 ?_
  refine PW.iload_n (pc := 41) dX7_missing_41 rfl ?_
  refine PW.ialdN (pc := 42) rfl rfl (by omega) (by decide) dX7_missing_42 ?_
  refine PW.iconst (pc := 43) (v := nI 3) dX7_missing_43 (by decide) ?_
  refine PW.icmp_ne (pc := 44) (tgt := 61) dX7_missing_44 (by decide) (fun c_44 => ?_) (fun c_44 => ?_)
  · refine PW.bipush (pc := 61) (v := (-3)) dX7_missing_61 (by decide) ?_
    refine PW.iret (pc := 63) hY ?_ dX7_missing_63
    refine x_ri ?_
    rw [if_pos G, if_neg (fun q => c_44 q.1)]
    exact ⟨rfl, rfl⟩
  · refine PW.aload_n (pc := 47) dX7_missing_47 rfl ?_
    refine gf_X7_43 (pc := 48) dX7_missing_48 ?_
    refine PW.bipush (pc := 51) (v := nI 6) dX7_missing_51 (by decide) ?_
    refine PW.iload_n (pc := 53) dX7_missing_53 rfl ?_
    refine PW.imul (pc := 54) dX7_missing_54 ?_
    refine PW.iload_n (pc := 55) dX7_missing_55 rfl ?_
    refine PW.iadd (pc := 56) dX7_missing_56 ?_
    refine PW.zaldN (pc := 57) rfl (x_cell fN kN) (by omega) (by decide) dX7_missing_57 ?_
    refine PW.if_eq (pc := 58) (tgt := 64) dX7_missing_58 (by decide) (fun c_58 => ?_) (fun c_58 => ?_)
    · refine PW.aload_n (pc := 64) dX7_missing_64 rfl ?_
      refine gf_X7_43 (pc := 65) dX7_missing_65 ?_
      refine PW.bipush (pc := 68) (v := nI 6) dX7_missing_68 (by decide) ?_
      refine PW.iload_n (pc := 70) dX7_missing_70 rfl ?_
      refine PW.imul (pc := 71) dX7_missing_71 ?_
      refine PW.iload_n (pc := 72) dX7_missing_72 rfl ?_
      refine PW.iadd (pc := 73) dX7_missing_73 ?_
      refine PW.iconst (pc := 74) (v := nI 1) dX7_missing_74 (by decide) ?_
      refine PW.zastN (pc := 75) rfl (x_cell fN kN) (by omega) (by decide) (by first | assumption | decide) dX7_missing_75 ?_
      refine PW.aload_n (pc := 76) dX7_missing_76 rfl ?_
      refine gf_X7_25 (pc := 77) dX7_missing_77 ?_
      refine PW.iload_n (pc := 80) dX7_missing_80 rfl ?_
      refine PW.dup2 (pc := 81) dX7_missing_81 rfl rfl ?_
      refine PW.ialdN (pc := 82) rfl rfl (by omega) (by decide) dX7_missing_82 ?_
      refine PW.iload_n (pc := 83) dX7_missing_83 rfl ?_
      refine PW.iadd (pc := 84) dX7_missing_84 ?_
      refine PW.iastN (pc := 85) rfl rfl (by omega) (by decide) dX7_missing_85 ?_
      refine PW.aload_n (pc := 86) dX7_missing_86 rfl ?_
      refine PW.dup (pc := 87) dX7_missing_87 rfl ?_
      refine gf_X7_120 (pc := 88) dX7_missing_88 ?_
      refine PW.aload_n (pc := 91) dX7_missing_91 rfl ?_
      refine gf_X7_22 (pc := 92) dX7_missing_92 ?_
      refine PW.iload_n (pc := 95) dX7_missing_95 rfl ?_
      refine PW.ialdN (pc := 96) rfl rfl (by omega) (by decide) dX7_missing_96 ?_
      refine PW.iload_n (pc := 97) dX7_missing_97 rfl ?_
      refine PW.imul (pc := 98) dX7_missing_98 ?_
      refine PW.iadd (pc := 99) dX7_missing_99 ?_
      refine pf_X7_120 (pc := 100) dX7_missing_100 ?_
      refine PW.aload_n (pc := 103) dX7_missing_103 rfl ?_
      refine gf_X7_22 (pc := 104) dX7_missing_104 ?_
      refine PW.iload_n (pc := 107) dX7_missing_107 rfl ?_
      refine PW.ialdN (pc := 108) rfl rfl (by omega) (by decide) dX7_missing_108 ?_
      refine PW.iload_n (pc := 109) dX7_missing_109 rfl ?_
      refine PW.imul (pc := 110) dX7_missing_110 ?_
      refine PW.iret (pc := 111) hY ?_ dX7_missing_111
      refine x_ri ?_
      rw [if_pos G, if_pos ⟨c_44, c_58⟩]
      simp [xup_1]
    · refine PW.bipush (pc := 61) (v := (-3)) dX7_missing_61 (by decide) ?_
      refine PW.iret (pc := 63) hY ?_ dX7_missing_63
      refine x_ri ?_
      rw [if_pos G, if_neg (fun q => c_58 q.2)]
      exact ⟨rfl, rfl⟩
set_option maxHeartbeats 4000000 in
set_option maxRecDepth 20000 in
theorem c_X7_mend {k v : Int32} {M : xM} : K_X7_mend [.ref 32, .int k, .int v] M (xRi (fun x u => if isT k ∧ inr v (nI 0) (nI 1000) then (if v ≤ M.1 38 (na k) then x = M.1 38 (na k) - v ∧ u = xup M 38 (na k) (M.1 38 (na k) - v) else x = (-3) ∧ u = M) else x = (-2) ∧ u = M)) := by
  refine xMet.of (own := RX7) rfl (by decide) (Nat.le_of_ble_eq_true rfl) rfl (fun Y hY => ?_)
  have bad : ¬ (isT k ∧ inr v (nI 0) (nI 1000)) → P_X7_mend Y 18 [] [] M := by
    intro h
    refine PW.bipush (pc := 18) (v := (-2)) dX7_mend_18 (by decide) ?_
    refine PW.iret (pc := 20) hY ?_ dX7_mend_20
    refine x_ri ?_
    rw [if_neg h]; exact ⟨rfl, rfl⟩
  refine PW.iload_n (pc := 0) dX7_mend_0 rfl ?_
  refine cs_X7_91 (pc := 1) hY.rm (c_X7_isThing) ⟨Nat.le_of_ble_eq_true rfl, Nat.le_of_ble_eq_true rfl⟩ dX7_mend_1 (Nat.le_of_ble_eq_true rfl) (fun x_1 u_1 h_1 => ?_)
  obtain ⟨rfl, hu_1⟩ := h_1
  replace hu_1 := hu_1.symm
  subst hu_1
  refine PW.if_eq (pc := 4) (tgt := 18) dX7_mend_4 (by decide) (fun c_4 => PW.st rfl rfl rfl (bad (fun h => bool_f c_4 h.1))) (fun c_4 => ?_)
  refine PW.iload_n (pc := 7) dX7_mend_7 rfl ?_
  refine PW.iconst (pc := 8) (v := nI 0) dX7_mend_8 (by decide) ?_
  refine PW.sipush (pc := 9) (v := nI 1000) dX7_mend_9 (by decide) ?_
  refine cs_X7_83 (pc := 12) hY.rm (c_X7_in) ⟨Nat.le_of_ble_eq_true rfl, Nat.le_of_ble_eq_true rfl⟩ dX7_mend_12 (Nat.le_of_ble_eq_true rfl) (fun x_12 u_12 h_12 => ?_)
  obtain ⟨rfl, hu_12⟩ := h_12
  replace hu_12 := hu_12.symm
  subst hu_12
  refine PW.if_ne (pc := 15) (tgt := 21) dX7_mend_15 (by decide) (fun c_15 => ?_) (fun c_15 => PW.st rfl rfl rfl (bad (fun h => bool_f c_15 h.2)))
  have hk := bool_t c_4
  have G : isT k ∧ inr v (nI 0) (nI 1000) := ⟨hk, bool_t c_15⟩
  have k1 := x_pos hk.1
  have k2 := na_lt hk.1 hk.2 (by omega)
  clear c_4 c_15 bad
  revert k1
  generalize na k = kN at *
  intro k1
  subst k1
  refine PW.iload_n (pc := 21) dX7_mend_21 rfl ?_
  refine PW.aload_n (pc := 22) dX7_mend_22 rfl ?_
  refine gf_X7_25 (pc := 23) dX7_mend_23 ?_
  refine PW.iload_n (pc := 26) dX7_mend_26 rfl ?_
  refine PW.ialdN (pc := 27) rfl rfl (by omega) (by decide) dX7_mend_27 ?_
  refine PW.icmp_le (pc := 28) (tgt := 34) dX7_mend_28 (by decide) (fun c_28 => ?_) (fun c_28 => ?_)
  · refine PW.aload_n (pc := 34) dX7_mend_34 rfl ?_
    refine gf_X7_25 (pc := 35) dX7_mend_35 ?_
    refine PW.iload_n (pc := 38) dX7_mend_38 rfl ?_
    refine PW.dup2 (pc := 39) dX7_mend_39 rfl rfl ?_
    refine PW.ialdN (pc := 40) rfl rfl (by omega) (by decide) dX7_mend_40 ?_
    refine PW.iload_n (pc := 41) dX7_mend_41 rfl ?_
    refine PW.isub (pc := 42) dX7_mend_42 ?_
    refine PW.iastN (pc := 43) rfl rfl (by omega) (by decide) dX7_mend_43 ?_
    refine PW.aload_n (pc := 44) dX7_mend_44 rfl ?_
    refine gf_X7_25 (pc := 45) dX7_mend_45 ?_
    refine PW.iload_n (pc := 48) dX7_mend_48 rfl ?_
    refine PW.ialdN (pc := 49) rfl rfl (by omega) (by decide) dX7_mend_49 ?_
    refine PW.iret (pc := 50) hY ?_ dX7_mend_50
    refine x_ri ?_
    rw [if_pos G, if_pos c_28]
    refine ⟨?_, rfl⟩
    simp [xup_1]
  · refine PW.bipush (pc := 31) (v := (-3)) dX7_mend_31 (by decide) ?_
    refine PW.iret (pc := 33) hY ?_ dX7_mend_33
    refine x_ri ?_
    rw [if_pos G, if_neg c_28]
    exact ⟨rfl, rfl⟩
set_option maxHeartbeats 4000000 in
set_option maxRecDepth 20000 in
theorem c_X7_about {f w : Int32} {n : Nat} {M : xM} (hn : M.1 32 6 = nI n) (h10 : n ≤ 10) : K_X7_about [.ref 32, .int f, .int w] M (xRi (fun x u => (x = if okF f n ∧ inr w (nI 0) (nI 6) then tellv (mv M) (na f) (na w) else (-2)) ∧ u = M)) := by
  refine xMet.of (own := RX7) rfl (by decide) (Nat.le_of_ble_eq_true rfl) rfl (fun Y hY => ?_)
  have bad : ¬ (okF f n ∧ inr w (nI 0) (nI 6)) → P_X7_about Y 27 [] [] M := by
    intro h
    refine PW.bipush (pc := 27) (v := (-2)) dX7_about_27 (by decide) ?_
    refine PW.iret (pc := 29) hY ?_ dX7_about_29
    refine x_ri ?_
    rw [if_neg h]; exact ⟨rfl, rfl⟩
  refine PW.aload_n (pc := 0) dX7_about_0 rfl ?_
  refine PW.iload_n (pc := 1) dX7_about_1 rfl ?_
  refine cs_X7_99 (pc := 2) hY.rm (c_X7_isField hn h10) ⟨Nat.le_of_ble_eq_true rfl, Nat.le_of_ble_eq_true rfl⟩ dX7_about_2 (Nat.le_of_ble_eq_true rfl) (fun x_2 u_2 h_2 => ?_)
  obtain ⟨rfl, hu_2⟩ := h_2
  replace hu_2 := hu_2.symm
  subst hu_2
  refine PW.if_eq (pc := 5) (tgt := 27) dX7_about_5 (by decide) (fun c_5 => PW.st rfl rfl rfl (bad (fun h => bool_f c_5 h.1))) (fun c_5 => ?_)
  refine PW.iload_n (pc := 8) dX7_about_8 rfl ?_
  refine PW.iconst (pc := 9) (v := nI 0) dX7_about_9 (by decide) ?_
  refine PW.bipush (pc := 10) (v := nI 6) dX7_about_10 (by decide) ?_
  refine cs_X7_83 (pc := 12) hY.rm (c_X7_in) ⟨Nat.le_of_ble_eq_true rfl, Nat.le_of_ble_eq_true rfl⟩ dX7_about_12 (Nat.le_of_ble_eq_true rfl) (fun x_12 u_12 h_12 => ?_)
  obtain ⟨rfl, hu_12⟩ := h_12
  replace hu_12 := hu_12.symm
  subst hu_12
  refine PW.if_eq (pc := 15) (tgt := 27) dX7_about_15 (by decide) (fun c_15 => PW.st rfl rfl rfl (bad (fun h => bool_f c_15 h.2))) (fun c_15 => ?_)
  have hf := bool_t c_5
  have hw := bool_t c_15
  have f1 := x_pos hf.1
  have f2 := na_lt hf.1 hf.2 (by omega)
  have w1 := x_pos hw.1
  have w2 := na_le hw.1 hw.2 (by omega)
  clear c_5 c_15 bad
  revert f1 w1
  generalize na f = fN at *
  generalize na w = wN at *
  intro f1 w1
  subst f1
  subst w1
  refine PW.aload_n (pc := 18) dX7_about_18 rfl ?_
  refine PW.iload_n (pc := 19) dX7_about_19 rfl ?_
  refine PW.iload_n (pc := 20) dX7_about_20 rfl ?_
  refine cs_X7_123 (pc := 21) hY.rm (c_X7_aboutOf (by omega) w2) ⟨Nat.le_of_ble_eq_true rfl, Nat.le_of_ble_eq_true rfl⟩ dX7_about_21 (Nat.le_of_ble_eq_true rfl) (fun x_21 u_21 h_21 => ?_)
  obtain ⟨rfl, hu_21⟩ := h_21
  replace hu_21 := hu_21.symm
  subst hu_21
  refine PW.goto (pc := 24) (tgt := 29) dX7_about_24 (by decide) ?_
  refine PW.iret (pc := 29) hY ?_ dX7_about_29
  refine x_ri ?_
  rw [if_pos ⟨hf, hw⟩]
  exact ⟨rfl, rfl⟩
set_option maxHeartbeats 4000000 in
set_option maxRecDepth 20000 in
theorem c_X7_bays {g s : Int32} {M : xM} : K_X7_bays [.ref 32, .int g, .int s] M (xRi (fun x u => (x = if inr g (nI 1) (nI 5000) ∧ inr s (nI 4) (nI 60) then (g + s - nI 1) / s else (-2)) ∧ u = M)) := by
  refine xMet.of (own := RX7) rfl (by decide) (Nat.le_of_ble_eq_true rfl) rfl (fun Y hY => ?_)
  have bad : ¬ (inr g (nI 1) (nI 5000) ∧ inr s (nI 4) (nI 60)) → P_X7_bays Y 27 [] [] M := by
    intro h
    refine PW.bipush (pc := 27) (v := (-2)) dX7_bays_27 (by decide) ?_
    refine PW.iret (pc := 29) hY ?_ dX7_bays_29
    refine x_ri ?_
    rw [if_neg h]; exact ⟨rfl, rfl⟩
  refine PW.iload_n (pc := 0) dX7_bays_0 rfl ?_
  refine cs_X7_138 (pc := 1) hY.rm (c_X7_isGuests) ⟨Nat.le_of_ble_eq_true rfl, Nat.le_of_ble_eq_true rfl⟩ dX7_bays_1 (Nat.le_of_ble_eq_true rfl) (fun x_1 u_1 h_1 => ?_)
  obtain ⟨rfl, hu_1⟩ := h_1
  replace hu_1 := hu_1.symm
  subst hu_1
  refine PW.if_eq (pc := 4) (tgt := 27) dX7_bays_4 (by decide) (fun c_4 => PW.st rfl rfl rfl (bad (fun h => bool_f c_4 h.1))) (fun c_4 => ?_)
  refine PW.iload_n (pc := 7) dX7_bays_7 rfl ?_
  refine PW.iconst (pc := 8) (v := nI 4) dX7_bays_8 (by decide) ?_
  refine PW.bipush (pc := 9) (v := nI 60) dX7_bays_9 (by decide) ?_
  refine cs_X7_83 (pc := 11) hY.rm (c_X7_in) ⟨Nat.le_of_ble_eq_true rfl, Nat.le_of_ble_eq_true rfl⟩ dX7_bays_11 (Nat.le_of_ble_eq_true rfl) (fun x_11 u_11 h_11 => ?_)
  obtain ⟨rfl, hu_11⟩ := h_11
  replace hu_11 := hu_11.symm
  subst hu_11
  refine PW.if_eq (pc := 14) (tgt := 27) dX7_bays_14 (by decide) (fun c_14 => PW.st rfl rfl rfl (bad (fun h => bool_f c_14 h.2))) (fun c_14 => ?_)
  have h4 := bool_t c_14
  have h0 : ¬ s = 0 := by
    intro q
    rw [q] at h4
    exact absurd h4.1 (by decide)
  refine PW.iload_n (pc := 17) dX7_bays_17 rfl ?_
  refine PW.iload_n (pc := 18) dX7_bays_18 rfl ?_
  refine PW.iadd (pc := 19) dX7_bays_19 ?_
  refine PW.iconst (pc := 20) (v := nI 1) dX7_bays_20 (by decide) ?_
  refine PW.isub (pc := 21) dX7_bays_21 ?_
  refine PW.iload_n (pc := 22) dX7_bays_22 rfl ?_
  refine PW.idiv (pc := 23) dX7_bays_23 h0 ?_
  refine PW.goto (pc := 24) (tgt := 29) dX7_bays_24 (by decide) ?_
  refine PW.iret (pc := 29) hY ?_ dX7_bays_29
  refine x_ri ?_
  rw [if_pos ⟨bool_t c_4, h4⟩]
  exact ⟨rfl, rfl⟩
set_option maxHeartbeats 4000000 in
set_option maxRecDepth 20000 in
theorem c_X7_law {g d : Int32} {n : Nat} {M : xM} (hn : M.1 32 18 = nI n) (h6 : n ≤ 6) : K_X7_law [.ref 32, .int g, .int d] M (xRi (fun x u => if inr g (nI 1) (nI 5000) ∧ inr d (nI 1) (nI 200) then (if 0 < n ∧ (g ≤ M.1 49 (n - 1) ∨ d ≤ M.1 50 (n - 1)) then x = (-3) ∧ u = M else if n < 6 then x = nI (n + 1) ∧ u = xup (xup (xup M 49 n g) 50 n d) 32 18 (nI (n + 1)) else x = (-4) ∧ u = M) else x = (-2) ∧ u = M)) := by
  refine xMet.of (own := RX7) rfl (by decide) (Nat.le_of_ble_eq_true rfl) rfl (fun Y hY => ?_)
  have bad : ¬ (inr g (nI 1) (nI 5000) ∧ inr d (nI 1) (nI 200)) → P_X7_law Y 18 [] [] M := by
    intro h
    refine PW.bipush (pc := 18) (v := (-2)) dX7_law_18 (by decide) ?_
    refine PW.iret (pc := 20) hY ?_ dX7_law_20
    refine x_ri ?_
    rw [if_neg h]; exact ⟨rfl, rfl⟩
  refine PW.iload_n (pc := 0) dX7_law_0 rfl ?_
  refine cs_X7_138 (pc := 1) hY.rm (c_X7_isGuests) ⟨Nat.le_of_ble_eq_true rfl, Nat.le_of_ble_eq_true rfl⟩ dX7_law_1 (Nat.le_of_ble_eq_true rfl) (fun x_1 u_1 h_1 => ?_)
  obtain ⟨rfl, hu_1⟩ := h_1
  replace hu_1 := hu_1.symm
  subst hu_1
  refine PW.if_eq (pc := 4) (tgt := 18) dX7_law_4 (by decide) (fun c_4 => PW.st rfl rfl rfl (bad (fun h => bool_f c_4 h.1))) (fun c_4 => ?_)
  refine PW.iload_n (pc := 7) dX7_law_7 rfl ?_
  refine PW.iconst (pc := 8) (v := nI 1) dX7_law_8 (by decide) ?_
  refine PW.sipush (pc := 9) (v := nI 200) dX7_law_9 (by decide) ?_
  refine cs_X7_83 (pc := 12) hY.rm (c_X7_in) ⟨Nat.le_of_ble_eq_true rfl, Nat.le_of_ble_eq_true rfl⟩ dX7_law_12 (Nat.le_of_ble_eq_true rfl) (fun x_12 u_12 h_12 => ?_)
  obtain ⟨rfl, hu_12⟩ := h_12
  replace hu_12 := hu_12.symm
  subst hu_12
  refine PW.if_ne (pc := 15) (tgt := 21) dX7_law_15 (by decide) (fun c_15 => ?_) (fun c_15 => PW.st rfl rfl rfl (bad (fun h => bool_f c_15 h.2)))
  have G : inr g (nI 1) (nI 5000) ∧ inr d (nI 1) (nI 200) := ⟨bool_t c_4, bool_t c_15⟩
  have tail : ¬ (0 < n ∧ (g ≤ M.1 49 (n - 1) ∨ d ≤ M.1 50 (n - 1))) → P_X7_law Y 61 [(0, .ref 32), (1, .int g), (2, .int d)] [] M := by
    intro hno
    refine PW.aload_n (pc := 61) dX7_law_61 rfl ?_
    refine gf_X7_141 (pc := 62) dX7_law_62 ?_
    refine PW.bipush (pc := 65) (v := nI 6) dX7_law_65 (by decide) ?_
    refine PW.icmp_ne (pc := 67) (tgt := 73) dX7_law_67 (by decide) (fun c_67 => ?_) (fun c_67 => ?_)
    · rw [hn, nI_eq (by omega) (by omega)] at c_67
      have h : n < 6 := by omega
      refine PW.aload_n (pc := 73) dX7_law_73 rfl ?_
      refine gf_X7_59 (pc := 74) dX7_law_74 ?_
      refine PW.aload_n (pc := 77) dX7_law_77 rfl ?_
      refine gf_X7_141 (pc := 78) dX7_law_78 ?_
      refine PW.iload_n (pc := 81) dX7_law_81 rfl ?_
      refine PW.iastN (pc := 82) rfl hn h (by decide) dX7_law_82 ?_
      refine PW.aload_n (pc := 83) dX7_law_83 rfl ?_
      refine gf_X7_62 (pc := 84) dX7_law_84 ?_
      refine PW.aload_n (pc := 87) dX7_law_87 rfl ?_
      refine gf_X7_141 (pc := 88) dX7_law_88 ?_
      refine PW.iload_n (pc := 91) dX7_law_91 rfl ?_
      refine PW.iastN (pc := 92) rfl (by simp only [xup_1]; exact hn) h (by decide) dX7_law_92 ?_
      refine PW.aload_n (pc := 93) dX7_law_93 rfl ?_
      refine PW.dup (pc := 94) dX7_law_94 rfl ?_
      refine gf_X7_141 (pc := 95) dX7_law_95 ?_
      refine PW.iconst (pc := 98) (v := nI 1) dX7_law_98 (by decide) ?_
      refine PW.iadd (pc := 99) dX7_law_99 ?_
      refine pf_X7_141 (pc := 100) dX7_law_100 ?_
      refine PW.aload_n (pc := 103) dX7_law_103 rfl ?_
      refine gf_X7_141 (pc := 104) dX7_law_104 ?_
      refine PW.iret (pc := 107) hY ?_ dX7_law_107
      refine x_ri ?_
      rw [if_pos G, if_neg hno, if_pos h]
      simp only [xup_1]
      refine ⟨?_, ?_⟩
      · simp [hn, nI_add]
      · congr 1
        simp [hn, nI_add]
    · rw [hn, nI_eq (by omega) (by omega)] at c_67
      refine PW.bipush (pc := 70) (v := (-4)) dX7_law_70 (by decide) ?_
      refine PW.iret (pc := 72) hY ?_ dX7_law_72
      refine x_ri ?_
      rw [if_pos G, if_neg hno, if_neg (by omega)]
      exact ⟨rfl, rfl⟩
  refine PW.aload_n (pc := 21) dX7_law_21 rfl ?_
  refine gf_X7_141 (pc := 22) dX7_law_22 ?_
  refine PW.if_le (pc := 25) (tgt := 61) dX7_law_25 (by decide) (fun c_25 => ?_) (fun c_25 => ?_)
  · rw [hn] at c_25
    exact PW.st rfl rfl rfl (tail (fun q => nI_nle q.1 (by omega) c_25))
  · rw [hn] at c_25
    have h0 : 0 < n := by
      rcases Nat.eq_zero_or_pos n with h | h
      · subst h; exact absurd (Int32.le_refl _) c_25
      · exact h
    have hi : M.1 32 18 - nI 1 = nI (n - 1) := by rw [hn, pk_sub h0]
    refine PW.iload_n (pc := 28) dX7_law_28 rfl ?_
    refine PW.aload_n (pc := 29) dX7_law_29 rfl ?_
    refine gf_X7_59 (pc := 30) dX7_law_30 ?_
    refine PW.aload_n (pc := 33) dX7_law_33 rfl ?_
    refine gf_X7_141 (pc := 34) dX7_law_34 ?_
    refine PW.iconst (pc := 37) (v := nI 1) dX7_law_37 (by decide) ?_
    refine PW.isub (pc := 38) dX7_law_38 ?_
    refine PW.ialdN (pc := 39) rfl hi (by omega) (by decide) dX7_law_39 ?_
    refine PW.icmp_le (pc := 40) (tgt := 58) dX7_law_40 (by decide) (fun c_40 => ?_) (fun c_40 => ?_)
    · refine PW.bipush (pc := 58) (v := (-3)) dX7_law_58 (by decide) ?_
      refine PW.iret (pc := 60) hY ?_ dX7_law_60
      refine x_ri ?_
      rw [if_pos G, if_pos ⟨h0, Or.inl c_40⟩]
      exact ⟨rfl, rfl⟩
    · refine PW.iload_n (pc := 43) dX7_law_43 rfl ?_
      refine PW.aload_n (pc := 44) dX7_law_44 rfl ?_
      refine gf_X7_62 (pc := 45) dX7_law_45 ?_
      refine PW.aload_n (pc := 48) dX7_law_48 rfl ?_
      refine gf_X7_141 (pc := 49) dX7_law_49 ?_
      refine PW.iconst (pc := 52) (v := nI 1) dX7_law_52 (by decide) ?_
      refine PW.isub (pc := 53) dX7_law_53 ?_
      refine PW.ialdN (pc := 54) rfl hi (by omega) (by decide) dX7_law_54 ?_
      refine PW.icmp_gt (pc := 55) (tgt := 61) dX7_law_55 (by decide) (fun c_55 => ?_) (fun c_55 => ?_)
      · exact PW.st rfl rfl rfl (tail (fun q => q.2.elim c_40 (x_nl c_55)))
      · refine PW.bipush (pc := 58) (v := (-3)) dX7_law_58 (by decide) ?_
        refine PW.iret (pc := 60) hY ?_ dX7_law_60
        refine x_ri ?_
        rw [if_pos G, if_pos ⟨h0, Or.inr (x_ge c_55)⟩]
        exact ⟨rfl, rfl⟩
set_option maxHeartbeats 4000000 in
set_option maxRecDepth 20000 in
theorem c_X7_unlaw {M : xM} : K_X7_unlaw [.ref 32] M (xRi (fun x u => x = M.1 32 18 ∧ u = xup M 32 18 (nI 0))) := by
  refine xMet.of (own := RX7) rfl (by decide) (Nat.le_of_ble_eq_true rfl) rfl (fun Y hY => ?_)
  refine PW.aload_n (pc := 0) dX7_unlaw_0 rfl ?_
  refine gf_X7_141 (pc := 1) dX7_unlaw_1 ?_
  refine PW.istore_n (pc := 4) (i := 1) dX7_unlaw_4 rfl (by decide) rfl ?_
  refine PW.aload_n (pc := 5) dX7_unlaw_5 rfl ?_
  refine PW.iconst (pc := 6) (v := nI 0) dX7_unlaw_6 (by decide) ?_
  refine pf_X7_141 (pc := 7) dX7_unlaw_7 ?_
  refine PW.iload_n (pc := 10) dX7_unlaw_10 rfl ?_
  refine PW.iret (pc := 11) hY ?_ dX7_unlaw_11
  exact x_ri ⟨rfl, rfl⟩
set_option maxHeartbeats 4000000 in
set_option maxRecDepth 20000 in
theorem c_X7_doors {g : Int32} {n : Nat} {M : xM} (hn : M.1 32 18 = nI n) (h6 : n ≤ 6) : K_X7_doors [.ref 32, .int g] M (xRi (fun x u => (x = if inr g (nI 1) (nI 5000) then dfor (M.1 49) (M.1 50) g n else (-2)) ∧ u = M)) := by
  refine xMet.of (own := RX7) rfl (by decide) (Nat.le_of_ble_eq_true rfl) rfl (fun Y hY => ?_)
  refine PW.iload_n (pc := 0) dX7_doors_0 rfl ?_
  refine cs_X7_138 (pc := 1) hY.rm (c_X7_isGuests) ⟨Nat.le_of_ble_eq_true rfl, Nat.le_of_ble_eq_true rfl⟩ dX7_doors_1 (Nat.le_of_ble_eq_true rfl) (fun x_1 u_1 h_1 => ?_)
  obtain ⟨rfl, hu_1⟩ := h_1
  replace hu_1 := hu_1.symm
  subst hu_1
  refine PW.if_eq (pc := 4) (tgt := 15) dX7_doors_4 (by decide) (fun c_4 => ?_) (fun c_4 => ?_)
  · refine PW.bipush (pc := 15) (v := (-2)) dX7_doors_15 (by decide) ?_
    refine PW.iret (pc := 17) hY ?_ dX7_doors_17
    refine x_ri ?_
    rw [if_neg (bool_f c_4)]
    exact ⟨rfl, rfl⟩
  · refine PW.aload_n (pc := 7) dX7_doors_7 rfl ?_
    refine PW.iload_n (pc := 8) dX7_doors_8 rfl ?_
    refine cs_X7_144 (pc := 9) hY.rm (c_X7_doorsFor hn h6) ⟨Nat.le_of_ble_eq_true rfl, Nat.le_of_ble_eq_true rfl⟩ dX7_doors_9 (Nat.le_of_ble_eq_true rfl) (fun x_9 u_9 h_9 => ?_)
    obtain ⟨rfl, hu_9⟩ := h_9
    replace hu_9 := hu_9.symm
    subst hu_9
    refine PW.goto (pc := 12) (tgt := 17) dX7_doors_12 (by decide) ?_
    refine PW.iret (pc := 17) hY ?_ dX7_doors_17
    refine x_ri ?_
    rw [if_pos (bool_t c_4)]
    exact ⟨rfl, rfl⟩
set_option maxHeartbeats 4000000 in
set_option maxRecDepth 20000 in
theorem c_X7_keeps {g b : Int32} {n : Nat} {M : xM} (hn : M.1 32 18 = nI n) (h6 : n ≤ 6) : K_X7_keeps [.ref 32, .int g, .int b] M (xRi (fun x u => (x = if inr g (nI 1) (nI 5000) ∧ inr b (nI 1) (nI 2000) then xB (dfor (M.1 49) (M.1 50) g n ≤ nI 2 * b + nI 2) else (-2)) ∧ u = M)) := by
  refine xMet.of (own := RX7) rfl (by decide) (Nat.le_of_ble_eq_true rfl) rfl (fun Y hY => ?_)
  have bad : ¬ (inr g (nI 1) (nI 5000) ∧ inr b (nI 1) (nI 2000)) → P_X7_keeps Y 18 [] [] M := by
    intro h
    refine PW.bipush (pc := 18) (v := (-2)) dX7_keeps_18 (by decide) ?_
    refine PW.goto (pc := 20) (tgt := 41) dX7_keeps_20 (by decide) ?_
    refine PW.iret (pc := 41) hY ?_ dX7_keeps_41
    refine x_ri ?_
    rw [if_neg h]; exact ⟨rfl, rfl⟩
  refine PW.iload_n (pc := 0) dX7_keeps_0 rfl ?_
  refine cs_X7_138 (pc := 1) hY.rm (c_X7_isGuests) ⟨Nat.le_of_ble_eq_true rfl, Nat.le_of_ble_eq_true rfl⟩ dX7_keeps_1 (Nat.le_of_ble_eq_true rfl) (fun x_1 u_1 h_1 => ?_)
  obtain ⟨rfl, hu_1⟩ := h_1
  replace hu_1 := hu_1.symm
  subst hu_1
  refine PW.if_eq (pc := 4) (tgt := 18) dX7_keeps_4 (by decide) (fun c_4 => PW.st rfl rfl rfl (bad (fun h => bool_f c_4 h.1))) (fun c_4 => ?_)
  refine PW.iload_n (pc := 7) dX7_keeps_7 rfl ?_
  refine PW.iconst (pc := 8) (v := nI 1) dX7_keeps_8 (by decide) ?_
  refine PW.sipush (pc := 9) (v := nI 2000) dX7_keeps_9 (by decide) ?_
  refine cs_X7_83 (pc := 12) hY.rm (c_X7_in) ⟨Nat.le_of_ble_eq_true rfl, Nat.le_of_ble_eq_true rfl⟩ dX7_keeps_12 (Nat.le_of_ble_eq_true rfl) (fun x_12 u_12 h_12 => ?_)
  obtain ⟨rfl, hu_12⟩ := h_12
  replace hu_12 := hu_12.symm
  subst hu_12
  refine PW.if_ne (pc := 15) (tgt := 23) dX7_keeps_15 (by decide) (fun c_15 => ?_) (fun c_15 => PW.st rfl rfl rfl (bad (fun h => bool_f c_15 h.2)))
  have G : inr g (nI 1) (nI 5000) ∧ inr b (nI 1) (nI 2000) := ⟨bool_t c_4, bool_t c_15⟩
  refine PW.aload_n (pc := 23) dX7_keeps_23 rfl ?_
  refine PW.iload_n (pc := 24) dX7_keeps_24 rfl ?_
  refine cs_X7_144 (pc := 25) hY.rm (c_X7_doorsFor hn h6) ⟨Nat.le_of_ble_eq_true rfl, Nat.le_of_ble_eq_true rfl⟩ dX7_keeps_25 (Nat.le_of_ble_eq_true rfl) (fun x_25 u_25 h_25 => ?_)
  obtain ⟨rfl, hu_25⟩ := h_25
  replace hu_25 := hu_25.symm
  subst hu_25
  refine PW.iconst (pc := 28) (v := nI 2) dX7_keeps_28 (by decide) ?_
  refine PW.iload_n (pc := 29) dX7_keeps_29 rfl ?_
  refine PW.imul (pc := 30) dX7_keeps_30 ?_
  refine PW.iconst (pc := 31) (v := nI 2) dX7_keeps_31 (by decide) ?_
  refine PW.iadd (pc := 32) dX7_keeps_32 ?_
  refine PW.icmp_gt (pc := 33) (tgt := 40) dX7_keeps_33 (by decide) (fun c_33 => ?_) (fun c_33 => ?_)
  · refine PW.iconst (pc := 40) (v := nI 0) dX7_keeps_40 (by decide) ?_
    refine PW.iret (pc := 41) hY ?_ dX7_keeps_41
    refine x_ri ?_
    rw [if_pos G, xB_f (x_nl c_33)]
    exact ⟨rfl, rfl⟩
  · refine PW.iconst (pc := 36) (v := nI 1) dX7_keeps_36 (by decide) ?_
    refine PW.goto (pc := 37) (tgt := 41) dX7_keeps_37 (by decide) ?_
    refine PW.iret (pc := 41) hY ?_ dX7_keeps_41
    refine x_ri ?_
    rw [if_pos G, xB_t (x_ge c_33)]
    exact ⟨rfl, rfl⟩
set_option maxHeartbeats 4000000 in
set_option maxRecDepth 20000 in
theorem c_X7_soil {s h : Int32} {M : xM} : K_X7_soil [.ref 32, .int s, .int h] M (xRi (fun x u => if inr s (nI 0) (nI 3) ∧ inr h (nI 1) (nI 1000) then x = M.1 51 (na s) ∧ u = xup M 51 (na s) h else x = (-2) ∧ u = M)) := by
  refine xMet.of (own := RX7) rfl (by decide) (Nat.le_of_ble_eq_true rfl) rfl (fun Y hY => ?_)
  have bad : ¬ (inr s (nI 0) (nI 3) ∧ inr h (nI 1) (nI 1000)) → P_X7_soil Y 20 [] [] M := by
    intro hx
    refine PW.bipush (pc := 20) (v := (-2)) dX7_soil_20 (by decide) ?_
    refine PW.iret (pc := 22) hY ?_ dX7_soil_22
    refine x_ri ?_
    rw [if_neg hx]; exact ⟨rfl, rfl⟩
  refine PW.iload_n (pc := 0) dX7_soil_0 rfl ?_
  refine PW.iconst (pc := 1) (v := nI 0) dX7_soil_1 (by decide) ?_
  refine PW.iconst (pc := 2) (v := nI 3) dX7_soil_2 (by decide) ?_
  refine cs_X7_83 (pc := 3) hY.rm (c_X7_in) ⟨Nat.le_of_ble_eq_true rfl, Nat.le_of_ble_eq_true rfl⟩ dX7_soil_3 (Nat.le_of_ble_eq_true rfl) (fun x_3 u_3 h_3 => ?_)
  obtain ⟨rfl, hu_3⟩ := h_3
  replace hu_3 := hu_3.symm
  subst hu_3
  refine PW.if_eq (pc := 6) (tgt := 20) dX7_soil_6 (by decide) (fun c_6 => PW.st rfl rfl rfl (bad (fun q => bool_f c_6 q.1))) (fun c_6 => ?_)
  refine PW.iload_n (pc := 9) dX7_soil_9 rfl ?_
  refine PW.iconst (pc := 10) (v := nI 1) dX7_soil_10 (by decide) ?_
  refine PW.sipush (pc := 11) (v := nI 1000) dX7_soil_11 (by decide) ?_
  refine cs_X7_83 (pc := 14) hY.rm (c_X7_in) ⟨Nat.le_of_ble_eq_true rfl, Nat.le_of_ble_eq_true rfl⟩ dX7_soil_14 (Nat.le_of_ble_eq_true rfl) (fun x_14 u_14 h_14 => ?_)
  obtain ⟨rfl, hu_14⟩ := h_14
  replace hu_14 := hu_14.symm
  subst hu_14
  refine PW.if_ne (pc := 17) (tgt := 23) dX7_soil_17 (by decide) (fun c_17 => ?_) (fun c_17 => PW.st rfl rfl rfl (bad (fun q => bool_f c_17 q.2)))
  have hs := bool_t c_6
  have s1 := x_pos hs.1
  have s2 := na_le hs.1 hs.2 (by omega)
  refine PW.aload_n (pc := 23) dX7_soil_23 rfl ?_
  refine gf_X7_65 (pc := 24) dX7_soil_24 ?_
  refine PW.iload_n (pc := 27) dX7_soil_27 rfl ?_
  refine PW.ialdN (pc := 28) rfl s1 (by omega) (by decide) dX7_soil_28 ?_
  refine PW.istore_n (pc := 29) (i := 3) dX7_soil_29 rfl (by decide) rfl ?_
  refine PW.aload_n (pc := 30) dX7_soil_30 rfl ?_
  refine gf_X7_65 (pc := 31) dX7_soil_31 ?_
  refine PW.iload_n (pc := 34) dX7_soil_34 rfl ?_
  refine PW.iload_n (pc := 35) dX7_soil_35 rfl ?_
  refine PW.iastN (pc := 36) rfl s1 (by omega) (by decide) dX7_soil_36 ?_
  refine PW.iload_n (pc := 37) dX7_soil_37 rfl ?_
  refine PW.iret (pc := 38) hY ?_ dX7_soil_38
  refine x_ri ?_
  rw [if_pos ⟨hs, bool_t c_17⟩]
  exact ⟨rfl, rfl⟩
set_option maxHeartbeats 4000000 in
set_option maxRecDepth 20000 in
theorem c_X7_pitch {f s b k : Int32} {n : Nat} {M : xM} (hn : M.1 32 6 = nI n) (h10 : n ≤ 10) : K_X7_pitch [.ref 32, .int f, .int s, .int b, .int k] M (xRi (fun x u => if okF f n ∧ inr s (nI 0) (nI 3) ∧ inr b (nI 0) (nI 99) ∧ inr k (nI 0) (nI 999) then x = nI 1 ∧ u = xup (xup (xup M 45 (na f) s) 46 (na f) b) 47 (na f) k else x = (-2) ∧ u = M)) := by
  refine xMet.of (own := RX7) rfl (by decide) (Nat.le_of_ble_eq_true rfl) rfl (fun Y hY => ?_)
  have bad : ¬ (okF f n ∧ inr s (nI 0) (nI 3) ∧ inr b (nI 0) (nI 99) ∧ inr k (nI 0) (nI 999)) → P_X7_pitch Y 39 [] [] M := by
    intro h
    refine PW.bipush (pc := 39) (v := (-2)) dX7_pitch_39 (by decide) ?_
    refine PW.iret (pc := 41) hY ?_ dX7_pitch_41
    refine x_ri ?_
    rw [if_neg h]; exact ⟨rfl, rfl⟩
  refine PW.aload_n (pc := 0) dX7_pitch_0 rfl ?_
  refine PW.iload_n (pc := 1) dX7_pitch_1 rfl ?_
  refine cs_X7_99 (pc := 2) hY.rm (c_X7_isField hn h10) ⟨Nat.le_of_ble_eq_true rfl, Nat.le_of_ble_eq_true rfl⟩ dX7_pitch_2 (Nat.le_of_ble_eq_true rfl) (fun x_2 u_2 h_2 => ?_)
  obtain ⟨rfl, hu_2⟩ := h_2
  replace hu_2 := hu_2.symm
  subst hu_2
  refine PW.if_eq (pc := 5) (tgt := 39) dX7_pitch_5 (by decide) (fun c_5 => PW.st rfl rfl rfl (bad (fun h => bool_f c_5 h.1))) (fun c_5 => ?_)
  refine PW.iload_n (pc := 8) dX7_pitch_8 rfl ?_
  refine PW.iconst (pc := 9) (v := nI 0) dX7_pitch_9 (by decide) ?_
  refine PW.iconst (pc := 10) (v := nI 3) dX7_pitch_10 (by decide) ?_
  refine cs_X7_83 (pc := 11) hY.rm (c_X7_in) ⟨Nat.le_of_ble_eq_true rfl, Nat.le_of_ble_eq_true rfl⟩ dX7_pitch_11 (Nat.le_of_ble_eq_true rfl) (fun x_11 u_11 h_11 => ?_)
  obtain ⟨rfl, hu_11⟩ := h_11
  replace hu_11 := hu_11.symm
  subst hu_11
  refine PW.if_eq (pc := 14) (tgt := 39) dX7_pitch_14 (by decide) (fun c_14 => PW.st rfl rfl rfl (bad (fun h => bool_f c_14 h.2.1))) (fun c_14 => ?_)
  refine PW.iload_n (pc := 17) dX7_pitch_17 rfl ?_
  refine PW.iconst (pc := 18) (v := nI 0) dX7_pitch_18 (by decide) ?_
  refine PW.bipush (pc := 19) (v := nI 99) dX7_pitch_19 (by decide) ?_
  refine cs_X7_83 (pc := 21) hY.rm (c_X7_in) ⟨Nat.le_of_ble_eq_true rfl, Nat.le_of_ble_eq_true rfl⟩ dX7_pitch_21 (Nat.le_of_ble_eq_true rfl) (fun x_21 u_21 h_21 => ?_)
  obtain ⟨rfl, hu_21⟩ := h_21
  replace hu_21 := hu_21.symm
  subst hu_21
  refine PW.if_eq (pc := 24) (tgt := 39) dX7_pitch_24 (by decide) (fun c_24 => PW.st rfl rfl rfl (bad (fun h => bool_f c_24 h.2.2.1))) (fun c_24 => ?_)
  refine PW.iload (pc := 27) dX7_pitch_27 rfl ?_
  refine PW.iconst (pc := 29) (v := nI 0) dX7_pitch_29 (by decide) ?_
  refine PW.sipush (pc := 30) (v := nI 999) dX7_pitch_30 (by decide) ?_
  refine cs_X7_83 (pc := 33) hY.rm (c_X7_in) ⟨Nat.le_of_ble_eq_true rfl, Nat.le_of_ble_eq_true rfl⟩ dX7_pitch_33 (Nat.le_of_ble_eq_true rfl) (fun x_33 u_33 h_33 => ?_)
  obtain ⟨rfl, hu_33⟩ := h_33
  replace hu_33 := hu_33.symm
  subst hu_33
  refine PW.if_ne (pc := 36) (tgt := 42) dX7_pitch_36 (by decide) (fun c_36 => ?_) (fun c_36 => PW.st rfl rfl rfl (bad (fun h => bool_f c_36 h.2.2.2)))
  have hf := bool_t c_5
  obtain ⟨f1, f2⟩ := okF_nat hf h10
  refine PW.aload_n (pc := 42) dX7_pitch_42 rfl ?_
  refine gf_X7_47 (pc := 43) dX7_pitch_43 ?_
  refine PW.iload_n (pc := 46) dX7_pitch_46 rfl ?_
  refine PW.iload_n (pc := 47) dX7_pitch_47 rfl ?_
  refine PW.iastN (pc := 48) rfl f1 (by omega) (by decide) dX7_pitch_48 ?_
  refine PW.aload_n (pc := 49) dX7_pitch_49 rfl ?_
  refine gf_X7_50 (pc := 50) dX7_pitch_50 ?_
  refine PW.iload_n (pc := 53) dX7_pitch_53 rfl ?_
  refine PW.iload_n (pc := 54) dX7_pitch_54 rfl ?_
  refine PW.iastN (pc := 55) rfl f1 (by omega) (by decide) dX7_pitch_55 ?_
  refine PW.aload_n (pc := 56) dX7_pitch_56 rfl ?_
  refine gf_X7_53 (pc := 57) dX7_pitch_57 ?_
  refine PW.iload_n (pc := 60) dX7_pitch_60 rfl ?_
  refine PW.iload (pc := 61) dX7_pitch_61 rfl ?_
  refine PW.iastN (pc := 63) rfl f1 (by omega) (by decide) dX7_pitch_63 ?_
  refine PW.iconst (pc := 64) (v := nI 1) dX7_pitch_64 (by decide) ?_
  refine PW.iret (pc := 65) hY ?_ dX7_pitch_65
  refine x_ri ?_
  rw [if_pos ⟨hf, bool_t c_14, bool_t c_24, bool_t c_36⟩]
  exact ⟨rfl, rfl⟩
