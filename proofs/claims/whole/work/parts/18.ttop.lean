/-! the class's calls: things, fields, needs, rain, what comes back -/
abbrev inr (v a b : Int32) : Prop := a ≤ v ∧ v ≤ b
abbrev isT (k : Int32) : Prop := 0 ≤ k ∧ k < nI 6
abbrev okF (f : Int32) (n : Nat) : Prop := 0 ≤ f ∧ f < nI n
theorem out_t {v a b : Int32} (c : ¬ xB (v < a ∨ b < v) = 0) : ¬ inr v a b := by
  have h := xB_ne rfl c
  rintro ⟨h1, h2⟩
  rcases h with h | h
  · exact x_ng h1 h
  · exact x_ng h2 h
theorem out_f {v a b : Int32} (c : xB (v < a ∨ b < v) = 0) : inr v a b := by
  have h := xB_eq rfl c
  exact ⟨x_ge (fun q => h (Or.inl q)), x_ge (fun q => h (Or.inr q))⟩
theorem bool_t {P : Prop} [Decidable P] (c : ¬ xB P = 0) : P := xB_ne rfl c
theorem bool_f {P : Prop} [Decidable P] (c : xB P = 0) : ¬ P := xB_eq rfl c
theorem has_t {f v : Int32} {n : Nat} (hn : v = nI n) (c : ¬ xB (0 ≤ f ∧ f < v) = 0) : okF f n := by rw [hn] at c; exact xB_ne rfl c
theorem has_f {f v : Int32} {n : Nat} (hn : v = nI n) (c : xB (0 ≤ f ∧ f < v) = 0) : ¬ okF f n := by rw [hn] at c; exact xB_eq rfl c
theorem x_pos {x : Int32} (h : 0 ≤ x) : x = nI (na x) := by
  obtain ⟨j, h1, h2⟩ := nI_of (x_ng h)
  rw [h2, na_nI h1]
theorem na_lt {x : Int32} {n : Nat} (h : 0 ≤ x) (h2 : x < nI n) (hn : n < 2 ^ 31) : na x < n := by
  obtain ⟨j, h1, rfl⟩ := nI_of (x_ng h)
  rw [na_nI h1]
  exact (nI_ltI h1 hn).mp h2
theorem na_le {x : Int32} {n : Nat} (h : 0 ≤ x) (h2 : x ≤ nI n) (hn : n < 2 ^ 31) : na x ≤ n := by
  obtain ⟨j, h1, rfl⟩ := nI_of (x_ng h)
  rw [na_nI h1]
  exact (nI_leI h1 hn).mp h2
set_option maxHeartbeats 4000000 in
set_option maxRecDepth 20000 in
theorem c_X6_thing {k ow dr we hi co : Int32} {M : xM} : K_X6_thing [.ref 0, .int k, .int ow, .int dr, .int we, .int hi, .int co] M (xRi (fun x u => if isT k ∧ inr ow (nI 0) (nI 1000) ∧ inr dr (nI 0) (nI 5) ∧ inr we (nI 1) (nI 100) ∧ inr hi (nI 0) (nI 1000) ∧ inr co (nI 0) (nI 10000) then x = nI 1 ∧ u = xup (xup (xup (xup (xup M 2 (na k) ow) 3 (na k) dr) 4 (na k) we) 5 (na k) hi) 6 (na k) co else x = (-2) ∧ u = M)) := by
  refine xMet.of (own := RX6) rfl (by decide) (Nat.le_of_ble_eq_true rfl) rfl (fun Y hY => ?_)
  have bad27 : ¬ (isT k ∧ inr ow (nI 0) (nI 1000) ∧ inr dr (nI 0) (nI 5) ∧ inr we (nI 1) (nI 100) ∧ inr hi (nI 0) (nI 1000) ∧ inr co (nI 0) (nI 10000)) → P_X6_thing Y 27 [] [] M := by
    intro h
    refine PW.bipush (pc := 27) (v := (-2)) dX6_thing_27 (by decide) ?_
    refine PW.iret (pc := 29) hY ?_ dX6_thing_29
    refine x_ri ?_
    rw [if_neg h]; exact ⟨rfl, rfl⟩
  have bad65 : ¬ (isT k ∧ inr ow (nI 0) (nI 1000) ∧ inr dr (nI 0) (nI 5) ∧ inr we (nI 1) (nI 100) ∧ inr hi (nI 0) (nI 1000) ∧ inr co (nI 0) (nI 10000)) → P_X6_thing Y 65 [] [] M := by
    intro h
    refine PW.bipush (pc := 65) (v := (-2)) dX6_thing_65 (by decide) ?_
    refine PW.iret (pc := 67) hY ?_ dX6_thing_67
    refine x_ri ?_
    rw [if_neg h]; exact ⟨rfl, rfl⟩
  refine PW.iload_n (pc := 0) dX6_thing_0 rfl ?_
  refine cs_X6_65 (pc := 1) hY.rm (c_X6_isThing) ⟨Nat.le_of_ble_eq_true rfl, Nat.le_of_ble_eq_true rfl⟩ dX6_thing_1 (Nat.le_of_ble_eq_true rfl) (fun x_1 u_1 h_1 => ?_)
  obtain ⟨rfl, hu_1⟩ := h_1
  replace hu_1 := hu_1.symm
  subst hu_1
  refine PW.if_eq (pc := 4) (tgt := 27) dX6_thing_4 (by decide) (fun c_4 => PW.st rfl rfl rfl (bad27 (fun h => bool_f c_4 h.1))) (fun c_4 => ?_)
  refine PW.iload_n (pc := 7) dX6_thing_7 rfl ?_
  refine PW.iconst (pc := 8) (v := nI 0) dX6_thing_8 (by decide) ?_
  refine PW.sipush (pc := 9) (v := nI 1000) dX6_thing_9 (by decide) ?_
  refine cs_X6_69 (pc := 12) hY.rm (c_X6_outside) ⟨Nat.le_of_ble_eq_true rfl, Nat.le_of_ble_eq_true rfl⟩ dX6_thing_12 (Nat.le_of_ble_eq_true rfl) (fun x_12 u_12 h_12 => ?_)
  obtain ⟨rfl, hu_12⟩ := h_12
  replace hu_12 := hu_12.symm
  subst hu_12
  refine PW.if_ne (pc := 15) (tgt := 27) dX6_thing_15 (by decide) (fun c_15 => PW.st rfl rfl rfl (bad27 (fun h => out_t c_15 h.2.1))) (fun c_15 => ?_)
  refine PW.iload_n (pc := 18) dX6_thing_18 rfl ?_
  refine PW.iconst (pc := 19) (v := nI 0) dX6_thing_19 (by decide) ?_
  refine PW.iconst (pc := 20) (v := nI 5) dX6_thing_20 (by decide) ?_
  refine cs_X6_69 (pc := 21) hY.rm (c_X6_outside) ⟨Nat.le_of_ble_eq_true rfl, Nat.le_of_ble_eq_true rfl⟩ dX6_thing_21 (Nat.le_of_ble_eq_true rfl) (fun x_21 u_21 h_21 => ?_)
  obtain ⟨rfl, hu_21⟩ := h_21
  replace hu_21 := hu_21.symm
  subst hu_21
  refine PW.if_eq (pc := 24) (tgt := 30) dX6_thing_24 (by decide) (fun c_24 => ?_) (fun c_24 => PW.st rfl rfl rfl (bad27 (fun h => out_t c_24 h.2.2.1)))
  refine PW.iload (pc := 30) dX6_thing_30 rfl ?_
  refine PW.iconst (pc := 32) (v := nI 1) dX6_thing_32 (by decide) ?_
  refine PW.bipush (pc := 33) (v := nI 100) dX6_thing_33 (by decide) ?_
  refine cs_X6_69 (pc := 35) hY.rm (c_X6_outside) ⟨Nat.le_of_ble_eq_true rfl, Nat.le_of_ble_eq_true rfl⟩ dX6_thing_35 (Nat.le_of_ble_eq_true rfl) (fun x_35 u_35 h_35 => ?_)
  obtain ⟨rfl, hu_35⟩ := h_35
  replace hu_35 := hu_35.symm
  subst hu_35
  refine PW.if_ne (pc := 38) (tgt := 65) dX6_thing_38 (by decide) (fun c_38 => PW.st rfl rfl rfl (bad65 (fun h => out_t c_38 h.2.2.2.1))) (fun c_38 => ?_)
  refine PW.iload (pc := 41) dX6_thing_41 rfl ?_
  refine PW.iconst (pc := 43) (v := nI 0) dX6_thing_43 (by decide) ?_
  refine PW.sipush (pc := 44) (v := nI 1000) dX6_thing_44 (by decide) ?_
  refine cs_X6_69 (pc := 47) hY.rm (c_X6_outside) ⟨Nat.le_of_ble_eq_true rfl, Nat.le_of_ble_eq_true rfl⟩ dX6_thing_47 (Nat.le_of_ble_eq_true rfl) (fun x_47 u_47 h_47 => ?_)
  obtain ⟨rfl, hu_47⟩ := h_47
  replace hu_47 := hu_47.symm
  subst hu_47
  refine PW.if_ne (pc := 50) (tgt := 65) dX6_thing_50 (by decide) (fun c_50 => PW.st rfl rfl rfl (bad65 (fun h => out_t c_50 h.2.2.2.2.1))) (fun c_50 => ?_)
  refine PW.iload (pc := 53) dX6_thing_53 rfl ?_
  refine PW.iconst (pc := 55) (v := nI 0) dX6_thing_55 (by decide) ?_
  refine PW.sipush (pc := 56) (v := nI 10000) dX6_thing_56 (by decide) ?_
  refine cs_X6_69 (pc := 59) hY.rm (c_X6_outside) ⟨Nat.le_of_ble_eq_true rfl, Nat.le_of_ble_eq_true rfl⟩ dX6_thing_59 (Nat.le_of_ble_eq_true rfl) (fun x_59 u_59 h_59 => ?_)
  obtain ⟨rfl, hu_59⟩ := h_59
  replace hu_59 := hu_59.symm
  subst hu_59
  refine PW.if_eq (pc := 62) (tgt := 68) dX6_thing_62 (by decide) (fun c_62 => ?_) (fun c_62 => PW.st rfl rfl rfl (bad65 (fun h => out_t c_62 h.2.2.2.2.2)))
  have hk := bool_t c_4
  have h1 := x_pos hk.1
  have h2 := na_lt hk.1 hk.2 (by omega)
  refine PW.aload_n (pc := 68) dX6_thing_68 rfl ?_
  refine gf_X6_12 (pc := 69) dX6_thing_69 ?_
  refine gf_X6_73 (pc := 72) dX6_thing_72 ?_
  refine PW.iload_n (pc := 75) dX6_thing_75 rfl ?_
  refine PW.iload_n (pc := 76) dX6_thing_76 rfl ?_
  refine PW.iastN (pc := 77) rfl h1 h2 (by decide) dX6_thing_77 ?_
  refine PW.aload_n (pc := 78) dX6_thing_78 rfl ?_
  refine gf_X6_12 (pc := 79) dX6_thing_79 ?_
  refine gf_X6_76 (pc := 82) dX6_thing_82 ?_
  refine PW.iload_n (pc := 85) dX6_thing_85 rfl ?_
  refine PW.iload_n (pc := 86) dX6_thing_86 rfl ?_
  refine PW.iastN (pc := 87) rfl h1 h2 (by decide) dX6_thing_87 ?_
  refine PW.aload_n (pc := 88) dX6_thing_88 rfl ?_
  refine gf_X6_12 (pc := 89) dX6_thing_89 ?_
  refine gf_X6_79 (pc := 92) dX6_thing_92 ?_
  refine PW.iload_n (pc := 95) dX6_thing_95 rfl ?_
  refine PW.iload (pc := 96) dX6_thing_96 rfl ?_
  refine PW.iastN (pc := 98) rfl h1 h2 (by decide) dX6_thing_98 ?_
  refine PW.aload_n (pc := 99) dX6_thing_99 rfl ?_
  refine gf_X6_12 (pc := 100) dX6_thing_100 ?_
  refine gf_X6_82 (pc := 103) dX6_thing_103 ?_
  refine PW.iload_n (pc := 106) dX6_thing_106 rfl ?_
  refine PW.iload (pc := 107) dX6_thing_107 rfl ?_
  refine PW.iastN (pc := 109) rfl h1 h2 (by decide) dX6_thing_109 ?_
  refine PW.aload_n (pc := 110) dX6_thing_110 rfl ?_
  refine gf_X6_12 (pc := 111) dX6_thing_111 ?_
  refine gf_X6_85 (pc := 114) dX6_thing_114 ?_
  refine PW.iload_n (pc := 117) dX6_thing_117 rfl ?_
  refine PW.iload (pc := 118) dX6_thing_118 rfl ?_
  refine PW.iastN (pc := 120) rfl h1 h2 (by decide) dX6_thing_120 ?_
  refine PW.iconst (pc := 121) (v := nI 1) dX6_thing_121 (by decide) ?_
  refine PW.iret (pc := 122) hY ?_ dX6_thing_122
  refine x_ri ?_
  rw [if_pos ⟨hk, out_f c_15, out_f c_24, out_f c_38, out_f c_50, out_f c_62⟩]
  exact ⟨rfl, rfl⟩
set_option maxHeartbeats 4000000 in
set_option maxRecDepth 20000 in
theorem c_X6_field {a b v : Int32} {n : Nat} {M : xM} (hn : M.1 8 9 = nI n) (h10 : n ≤ 10) : K_X6_field [.ref 0, .int a, .int b, .int v] M (xRi (fun x u => if inr a (nI 0) (nI 60) ∧ inr b a (nI 60) ∧ inr v (nI 0) (nI 100000) then (if n < 10 then x = nI n ∧ u = xup (xup (xup (xup M 9 n a) 10 n b) 11 n v) 8 9 (nI (n + 1)) else x = (-4) ∧ u = M) else x = (-2) ∧ u = M)) := by
  refine xMet.of (own := RX6) rfl (by decide) (Nat.le_of_ble_eq_true rfl) rfl (fun Y hY => ?_)
  have bad30 : ¬ (inr a (nI 0) (nI 60) ∧ inr b a (nI 60) ∧ inr v (nI 0) (nI 100000)) → P_X6_field Y 30 [] [] M := by
    intro h
    refine PW.bipush (pc := 30) (v := (-2)) dX6_field_30 (by decide) ?_
    refine PW.iret (pc := 32) hY ?_ dX6_field_32
    refine x_ri ?_
    rw [if_neg h]; exact ⟨rfl, rfl⟩
  refine PW.iload_n (pc := 0) dX6_field_0 rfl ?_
  refine PW.iconst (pc := 1) (v := nI 0) dX6_field_1 (by decide) ?_
  refine PW.bipush (pc := 2) (v := nI 60) dX6_field_2 (by decide) ?_
  refine cs_X6_69 (pc := 4) hY.rm (c_X6_outside) ⟨Nat.le_of_ble_eq_true rfl, Nat.le_of_ble_eq_true rfl⟩ dX6_field_4 (Nat.le_of_ble_eq_true rfl) (fun x_4 u_4 h_4 => ?_)
  obtain ⟨rfl, hu_4⟩ := h_4
  replace hu_4 := hu_4.symm
  subst hu_4
  refine PW.if_ne (pc := 7) (tgt := 30) dX6_field_7 (by decide) (fun c_7 => PW.st rfl rfl rfl (bad30 (fun h => out_t c_7 h.1))) (fun c_7 => ?_)
  refine PW.iload_n (pc := 10) dX6_field_10 rfl ?_
  refine PW.iload_n (pc := 11) dX6_field_11 rfl ?_
  refine PW.bipush (pc := 12) (v := nI 60) dX6_field_12 (by decide) ?_
  refine cs_X6_69 (pc := 14) hY.rm (c_X6_outside) ⟨Nat.le_of_ble_eq_true rfl, Nat.le_of_ble_eq_true rfl⟩ dX6_field_14 (Nat.le_of_ble_eq_true rfl) (fun x_14 u_14 h_14 => ?_)
  obtain ⟨rfl, hu_14⟩ := h_14
  replace hu_14 := hu_14.symm
  subst hu_14
  refine PW.if_ne (pc := 17) (tgt := 30) dX6_field_17 (by decide) (fun c_17 => PW.st rfl rfl rfl (bad30 (fun h => out_t c_17 h.2.1))) (fun c_17 => ?_)
  refine PW.iload_n (pc := 20) dX6_field_20 rfl ?_
  refine PW.iconst (pc := 21) (v := nI 0) dX6_field_21 (by decide) ?_
  refine PW.ldc (pc := 22) (v := nI 100000) (by decide +kernel) dX6_field_22 ?_
  refine cs_X6_69 (pc := 24) hY.rm (c_X6_outside) ⟨Nat.le_of_ble_eq_true rfl, Nat.le_of_ble_eq_true rfl⟩ dX6_field_24 (Nat.le_of_ble_eq_true rfl) (fun x_24 u_24 h_24 => ?_)
  obtain ⟨rfl, hu_24⟩ := h_24
  replace hu_24 := hu_24.symm
  subst hu_24
  refine PW.if_eq (pc := 27) (tgt := 33) dX6_field_27 (by decide) (fun c_27 => ?_) (fun c_27 => PW.st rfl rfl rfl (bad30 (fun h => out_t c_27 h.2.2)))
  refine PW.aload_n (pc := 33) dX6_field_33 rfl ?_
  refine gf_X6_19 (pc := 34) dX6_field_34 ?_
  refine PW.iload_n (pc := 37) dX6_field_37 rfl ?_
  refine PW.iload_n (pc := 38) dX6_field_38 rfl ?_
  refine PW.iload_n (pc := 39) dX6_field_39 rfl ?_
  refine cs_X6_89 (pc := 40) hY.rm (c_X1_ask hn h10) ⟨Nat.le_of_ble_eq_true rfl, Nat.le_of_ble_eq_true rfl⟩ dX6_field_40 (Nat.le_of_ble_eq_true rfl) (fun x_40 u_40 h_40 => ?_)
  refine PW.iret (pc := 43) hY ?_ dX6_field_43
  refine x_ri ?_
  rw [if_pos ⟨out_f c_7, out_f c_17, out_f c_27⟩]
  exact h_40
set_option maxHeartbeats 4000000 in
set_option maxRecDepth 20000 in
theorem c_X6_need {f k v : Int32} {n : Nat} {M : xM} (hn : M.1 8 9 = nI n) (h10 : n ≤ 10) : K_X6_need [.ref 0, .int f, .int k, .int v] M (xRi (fun x u => if okF f n ∧ isT k ∧ inr v (nI 0) (nI 500) then (if M.1 12 (na f) = 0 then x = M.1 16 (na f * 6 + na k) ∧ u = xup M 16 (na f * 6 + na k) v else x = (-3) ∧ u = M) else x = (-2) ∧ u = M)) := by
  refine xMet.of (own := RX6) rfl (by decide) (Nat.le_of_ble_eq_true rfl) rfl (fun Y hY => ?_)
  have bad29 : ¬ (okF f n ∧ isT k ∧ inr v (nI 0) (nI 500)) → P_X6_need Y 29 [] [] M := by
    intro h
    refine PW.bipush (pc := 29) (v := (-2)) dX6_need_29 (by decide) ?_
    refine PW.iret (pc := 31) hY ?_ dX6_need_31
    refine x_ri ?_
    rw [if_neg h]; exact ⟨rfl, rfl⟩
  refine PW.aload_n (pc := 0) dX6_need_0 rfl ?_
  refine gf_X6_19 (pc := 1) dX6_need_1 ?_
  refine PW.iload_n (pc := 4) dX6_need_4 rfl ?_
  refine cs_X6_93 (pc := 5) hY.rm (c_X1_has) ⟨Nat.le_of_ble_eq_true rfl, Nat.le_of_ble_eq_true rfl⟩ dX6_need_5 (Nat.le_of_ble_eq_true rfl) (fun x_5 u_5 h_5 => ?_)
  obtain ⟨rfl, hu_5⟩ := h_5
  replace hu_5 := hu_5.symm
  subst hu_5
  refine PW.if_eq (pc := 8) (tgt := 29) dX6_need_8 (by decide) (fun c_8 => PW.st rfl rfl rfl (bad29 (fun h => has_f hn c_8 h.1))) (fun c_8 => ?_)
  refine PW.iload_n (pc := 11) dX6_need_11 rfl ?_
  refine cs_X6_65 (pc := 12) hY.rm (c_X6_isThing) ⟨Nat.le_of_ble_eq_true rfl, Nat.le_of_ble_eq_true rfl⟩ dX6_need_12 (Nat.le_of_ble_eq_true rfl) (fun x_12 u_12 h_12 => ?_)
  obtain ⟨rfl, hu_12⟩ := h_12
  replace hu_12 := hu_12.symm
  subst hu_12
  refine PW.if_eq (pc := 15) (tgt := 29) dX6_need_15 (by decide) (fun c_15 => PW.st rfl rfl rfl (bad29 (fun h => bool_f c_15 h.2.1))) (fun c_15 => ?_)
  refine PW.iload_n (pc := 18) dX6_need_18 rfl ?_
  refine PW.iconst (pc := 19) (v := nI 0) dX6_need_19 (by decide) ?_
  refine PW.sipush (pc := 20) (v := nI 500) dX6_need_20 (by decide) ?_
  refine cs_X6_69 (pc := 23) hY.rm (c_X6_outside) ⟨Nat.le_of_ble_eq_true rfl, Nat.le_of_ble_eq_true rfl⟩ dX6_need_23 (Nat.le_of_ble_eq_true rfl) (fun x_23 u_23 h_23 => ?_)
  obtain ⟨rfl, hu_23⟩ := h_23
  replace hu_23 := hu_23.symm
  subst hu_23
  refine PW.if_eq (pc := 26) (tgt := 32) dX6_need_26 (by decide) (fun c_26 => ?_) (fun c_26 => PW.st rfl rfl rfl (bad29 (fun h => out_t c_26 h.2.2)))
  have hf := has_t hn c_8
  have hk := bool_t c_15
  have f1 := x_pos hf.1
  have f2 := na_lt hf.1 hf.2 (by omega)
  have k1 := x_pos hk.1
  have k2 := na_lt hk.1 hk.2 (by omega)
  have G : okF f n ∧ isT k ∧ inr v (nI 0) (nI 500) := ⟨hf, hk, out_f c_26⟩
  clear bad29 c_8 c_15 c_26
  revert f1 k1
  generalize na f = fN at *
  generalize na k = kN at *
  intro f1 k1
  refine PW.aload_n (pc := 32) dX6_need_32 rfl ?_
  refine gf_X6_19 (pc := 33) dX6_need_33 ?_
  refine gf_X6_96 (pc := 36) dX6_need_36 ?_
  refine PW.iload_n (pc := 39) dX6_need_39 rfl ?_
  refine PW.ialdN (pc := 40) rfl f1 (by omega) (by decide) dX6_need_40 ?_
  refine PW.if_eq (pc := 41) (tgt := 47) dX6_need_41 (by decide) (fun c_41 => ?_) (fun c_41 => ?_)
  · subst f1
    subst k1
    refine PW.aload_n (pc := 47) dX6_need_47 rfl ?_
    refine gf_X6_19 (pc := 48) dX6_need_48 ?_
    refine gf_X6_99 (pc := 51) dX6_need_51 ?_
    refine PW.iload_n (pc := 54) dX6_need_54 rfl ?_
    refine PW.iload_n (pc := 55) dX6_need_55 rfl ?_
    refine cs_X6_102 (pc := 56) hY.rm (c_X6_cell) ⟨Nat.le_of_ble_eq_true rfl, Nat.le_of_ble_eq_true rfl⟩ dX6_need_56 (Nat.le_of_ble_eq_true rfl) (fun x_56 u_56 h_56 => ?_)
    obtain ⟨rfl, hu_56⟩ := h_56
    replace hu_56 := hu_56.symm
    subst hu_56
    refine PW.ialdN (pc := 59) rfl rfl (by omega) (by decide) dX6_need_59 ?_
    refine PW.istore (pc := 60) dX6_need_60 (by decide) rfl ?_
    refine PW.aload_n (pc := 62) dX6_need_62 rfl ?_
    refine gf_X6_19 (pc := 63) dX6_need_63 ?_
    refine gf_X6_99 (pc := 66) dX6_need_66 ?_
    refine PW.iload_n (pc := 69) dX6_need_69 rfl ?_
    refine PW.iload_n (pc := 70) dX6_need_70 rfl ?_
    refine cs_X6_102 (pc := 71) hY.rm (c_X6_cell) ⟨Nat.le_of_ble_eq_true rfl, Nat.le_of_ble_eq_true rfl⟩ dX6_need_71 (Nat.le_of_ble_eq_true rfl) (fun x_71 u_71 h_71 => ?_)
    obtain ⟨rfl, hu_71⟩ := h_71
    replace hu_71 := hu_71.symm
    subst hu_71
    refine PW.iload_n (pc := 74) dX6_need_74 rfl ?_
    refine PW.iastN (pc := 75) rfl rfl (by omega) (by decide) dX6_need_75 ?_
    refine PW.iload (pc := 76) dX6_need_76 rfl ?_
    refine PW.iret (pc := 78) hY ?_ dX6_need_78
    refine x_ri ?_
    rw [if_pos G, if_pos c_41]
    exact ⟨rfl, rfl⟩
  · refine PW.bipush (pc := 44) (v := (-3)) dX6_need_44 (by decide) ?_
    refine PW.iret (pc := 46) hY ?_ dX6_need_46
    refine x_ri ?_
    rw [if_pos G, if_neg c_41]
    exact ⟨rfl, rfl⟩
