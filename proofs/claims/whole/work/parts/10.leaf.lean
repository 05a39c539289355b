/-! leaves of the class: contracts -/
theorem x_loop {n : Nat} {P : Nat → Prop} {Q : Prop} (hQ : P 0 → Q) (h0 : P n) (hs : ∀ f, f < n → P (f + 1) → P f) : Q := hQ (x_down h0 hs 0 (Nat.zero_le _))
theorem x_zt {P : Prop} [Decidable P] {M : xM} (h : P) : xRi (fun x u => x = xB P ∧ u = M) (some (.int (nI 1))) M := ⟨_, rfl, (xB_t h).symm, rfl⟩
theorem x_zf {P : Prop} [Decidable P] {M : xM} (h : ¬ P) : xRi (fun x u => x = xB P ∧ u = M) (some (.int (nI 0))) M := ⟨_, rfl, (xB_f h).symm, rfl⟩
theorem x_gt {a b : Int32} (h : ¬ a ≤ b) : b < a := Int32.not_le.mp h
theorem x_ge {a b : Int32} (h : ¬ a < b) : b ≤ a := Int32.not_lt.mp h
theorem x_ng {a b : Int32} (h : a ≤ b) : ¬ b < a := Int32.not_lt.mpr h
theorem x_nl {a b : Int32} (h : a < b) : ¬ b ≤ a := Int32.not_le.mpr h
theorem x_0 : (0 : Int32) = nI 0 := rfl
set_option maxHeartbeats 4000000 in
set_option maxRecDepth 20000 in
theorem c_X6_outside {v a b : Int32} {M : xM} : K_X6_outside [.int v, .int a, .int b] M (xRi (fun x u => x = xB (v < a ∨ b < v) ∧ u = M)) := by
  refine xMet.of (own := RX6) rfl (by decide) (Nat.le_of_ble_eq_true rfl) rfl (fun Y hY => ?_)
  refine PW.iload_n (pc := 0) dX6_outside_0 rfl ?_
  refine PW.iload_n (pc := 1) dX6_outside_1 rfl ?_
  refine PW.icmp_lt (pc := 2) (tgt := 10) dX6_outside_2 (by decide) (fun c_2 => ?_) (fun c_2 => ?_)
  · refine PW.iconst (pc := 10) (v := nI 1) dX6_outside_10 (by decide) ?_
    refine PW.goto (pc := 11) (tgt := 15) dX6_outside_11 (by decide) ?_
    refine PW.zret (pc := 15) hY (by decide) ?_ dX6_outside_15
    exact x_zt (Or.inl c_2)
  · refine PW.iload_n (pc := 5) dX6_outside_5 rfl ?_
    refine PW.iload_n (pc := 6) dX6_outside_6 rfl ?_
    refine PW.icmp_le (pc := 7) (tgt := 14) dX6_outside_7 (by decide) (fun c_7 => ?_) (fun c_7 => ?_)
    · refine PW.iconst (pc := 14) (v := nI 0) dX6_outside_14 (by decide) ?_
      refine PW.zret (pc := 15) hY (by decide) ?_ dX6_outside_15
      exact x_zf (fun h => h.elim c_2 (x_ng c_7))
    · refine PW.iconst (pc := 10) (v := nI 1) dX6_outside_10 (by decide) ?_
      refine PW.goto (pc := 11) (tgt := 15) dX6_outside_11 (by decide) ?_
      refine PW.zret (pc := 15) hY (by decide) ?_ dX6_outside_15
      exact x_zt (Or.inr (x_gt c_7))
set_option maxHeartbeats 4000000 in
set_option maxRecDepth 20000 in
theorem c_X6_isThing {v : Int32} {M : xM} : K_X6_isThing [.int v] M (xRi (fun x u => x = xB (0 ≤ v ∧ v < nI 6) ∧ u = M)) := by
  refine xMet.of (own := RX6) rfl (by decide) (Nat.le_of_ble_eq_true rfl) rfl (fun Y hY => ?_)
  refine PW.iload_n (pc := 0) dX6_isThing_0 rfl ?_
  refine PW.if_lt (pc := 1) (tgt := 14) dX6_isThing_1 (by decide) (fun c_1 => ?_) (fun c_1 => ?_)
  · refine PW.iconst (pc := 14) (v := nI 0) dX6_isThing_14 (by decide) ?_
    refine PW.zret (pc := 15) hY (by decide) ?_ dX6_isThing_15
    exact x_zf (fun h => x_nl c_1 h.1)
  · refine PW.iload_n (pc := 4) dX6_isThing_4 rfl ?_
    refine PW.bipush (pc := 5) (v := nI 6) dX6_isThing_5 (by decide) ?_
    refine PW.icmp_ge (pc := 7) (tgt := 14) dX6_isThing_7 (by decide) (fun c_7 => ?_) (fun c_7 => ?_)
    · refine PW.iconst (pc := 14) (v := nI 0) dX6_isThing_14 (by decide) ?_
      refine PW.zret (pc := 15) hY (by decide) ?_ dX6_isThing_15
      exact x_zf (fun h => x_nl h.2 c_7)
    · refine PW.iconst (pc := 10) (v := nI 1) dX6_isThing_10 (by decide) ?_
      refine PW.goto (pc := 11) (tgt := 15) dX6_isThing_11 (by decide) ?_
      refine PW.zret (pc := 15) hY (by decide) ?_ dX6_isThing_15
      exact x_zt ⟨x_ge c_1, x_gt c_7⟩
set_option maxHeartbeats 4000000 in
set_option maxRecDepth 20000 in
theorem c_X6_bit {v : Int32} {M : xM} : K_X6_bit [.int v] M (xRi (fun x u => x = xB (¬ v = 0) ∧ u = M)) := by
  refine xMet.of (own := RX6) rfl (by decide) (Nat.le_of_ble_eq_true rfl) rfl (fun Y hY => ?_)
  refine PW.iload_n (pc := 0) dX6_bit_0 rfl ?_
  refine PW.if_eq (pc := 1) (tgt := 8) dX6_bit_1 (by decide) (fun c_1 => ?_) (fun c_1 => ?_)
  · refine PW.iconst (pc := 8) (v := nI 0) dX6_bit_8 (by decide) ?_
    refine PW.iret (pc := 9) hY ?_ dX6_bit_9
    exact x_zf (fun h => h c_1)
  · refine PW.iconst (pc := 4) (v := nI 1) dX6_bit_4 (by decide) ?_
    refine PW.goto (pc := 5) (tgt := 9) dX6_bit_5 (by decide) ?_
    refine PW.iret (pc := 9) hY ?_ dX6_bit_9
    exact x_zt c_1
set_option maxHeartbeats 4000000 in
set_option maxRecDepth 20000 in
theorem c_X6_cell {f t : Nat} {M : xM} : K_X6_cell [.int (nI f), .int (nI t)] M (xRi (fun x u => x = nI (f * 6 + t) ∧ u = M)) := by
  refine xMet.of (own := RX6) rfl (by decide) (Nat.le_of_ble_eq_true rfl) rfl (fun Y hY => ?_)
  refine PW.iload_n (pc := 0) dX6_cell_0 rfl ?_
  refine PW.bipush (pc := 1) (v := nI 6) dX6_cell_1 (by decide) ?_
  refine PW.imul (pc := 3) dX6_cell_3 ?_
  refine PW.iload_n (pc := 4) dX6_cell_4 rfl ?_
  refine PW.iadd (pc := 5) dX6_cell_5 ?_
  refine PW.iret (pc := 6) hY ?_ dX6_cell_6
  exact ⟨_, rfl, by rw [pk_mul, nI_add], rfl⟩
set_option maxHeartbeats 4000000 in
set_option maxRecDepth 20000 in
theorem c_X6_cutUp {a b : Int32} {M : xM} : K_X6_cutUp [.int a, .int b] M (xRi (fun x u => x = (if b < nI 1 then nI 0 else (a + b - nI 1) / b) ∧ u = M)) := by
  refine xMet.of (own := RX6) rfl (by decide) (Nat.le_of_ble_eq_true rfl) rfl (fun Y hY => ?_)
  refine PW.iload_n (pc := 0) dX6_cutUp_0 rfl ?_
  refine PW.iconst (pc := 1) (v := nI 1) dX6_cutUp_1 (by decide) ?_
  refine PW.icmp_ge (pc := 2) (tgt := 9) dX6_cutUp_2 (by decide) (fun c_2 => ?_) (fun c_2 => ?_)
  · have hb : ¬ b = 0 := fun h => by rw [h] at c_2; exact absurd c_2 (by decide)
    refine PW.iload_n (pc := 9) dX6_cutUp_9 rfl ?_
    refine PW.iload_n (pc := 10) dX6_cutUp_10 rfl ?_
    refine PW.iadd (pc := 11) dX6_cutUp_11 ?_
    refine PW.iconst (pc := 12) (v := nI 1) dX6_cutUp_12 (by decide) ?_
    refine PW.isub (pc := 13) dX6_cutUp_13 ?_
    refine PW.iload_n (pc := 14) dX6_cutUp_14 rfl ?_
    refine PW.idiv (pc := 15) dX6_cutUp_15 (by assumption) ?_
    refine PW.iret (pc := 16) hY ?_ dX6_cutUp_16
    exact ⟨_, rfl, (if_neg (x_ng c_2)).symm, rfl⟩
  · refine PW.iconst (pc := 5) (v := nI 0) dX6_cutUp_5 (by decide) ?_
    refine PW.goto (pc := 6) (tgt := 16) dX6_cutUp_6 (by decide) ?_
    refine PW.iret (pc := 16) hY ?_ dX6_cutUp_16
    exact ⟨_, rfl, (if_pos (x_gt c_2)).symm, rfl⟩
set_option maxHeartbeats 4000000 in
set_option maxRecDepth 20000 in
theorem c_X1_has {f : Int32} {M : xM} : K_X1_has [.ref 8, .int f] M (xRi (fun x u => x = xB (0 ≤ f ∧ f < M.1 8 9) ∧ u = M)) := by
  refine xMet.of (own := RX1) rfl (by decide) (Nat.le_of_ble_eq_true rfl) rfl (fun Y hY => ?_)
  refine PW.iload_n (pc := 0) dX1_has_0 rfl ?_
  refine PW.if_lt (pc := 1) (tgt := 16) dX1_has_1 (by decide) (fun c_1 => ?_) (fun c_1 => ?_)
  · refine PW.iconst (pc := 16) (v := nI 0) dX1_has_16 (by decide) ?_
    refine PW.zret (pc := 17) hY (by decide) ?_ dX1_has_17
    exact x_zf (fun h => x_nl c_1 h.1)
  · refine PW.iload_n (pc := 4) dX1_has_4 rfl ?_
    refine PW.aload_n (pc := 5) dX1_has_5 rfl ?_
    refine gf_X1_40 (pc := 6) dX1_has_6 ?_
    refine PW.icmp_ge (pc := 9) (tgt := 16) dX1_has_9 (by decide) (fun c_9 => ?_) (fun c_9 => ?_)
    · refine PW.iconst (pc := 16) (v := nI 0) dX1_has_16 (by decide) ?_
      refine PW.zret (pc := 17) hY (by decide) ?_ dX1_has_17
      exact x_zf (fun h => x_nl h.2 c_9)
    · refine PW.iconst (pc := 12) (v := nI 1) dX1_has_12 (by decide) ?_
      refine PW.goto (pc := 13) (tgt := 17) dX1_has_13 (by decide) ?_
      refine PW.zret (pc := 17) hY (by decide) ?_ dX1_has_17
      exact x_zt ⟨x_ge c_1, x_gt c_9⟩
set_option maxHeartbeats 4000000 in
set_option maxRecDepth 20000 in
theorem c_X1_hasAll {f : Int32} {M : xM} : K_X1_hasAll [.ref 8, .int f] M (xRi (fun x u => x = xB (0 ≤ f ∧ f < (nI 1 <<< (M.1 8 9 &&& 31))) ∧ u = M)) := by
  refine xMet.of (own := RX1) rfl (by decide) (Nat.le_of_ble_eq_true rfl) rfl (fun Y hY => ?_)
  refine PW.iload_n (pc := 0) dX1_hasAll_0 rfl ?_
  refine PW.if_lt (pc := 1) (tgt := 18) dX1_hasAll_1 (by decide) (fun c_1 => ?_) (fun c_1 => ?_)
  · refine PW.iconst (pc := 18) (v := nI 0) dX1_hasAll_18 (by decide) ?_
    refine PW.zret (pc := 19) hY (by decide) ?_ dX1_hasAll_19
    exact x_zf (fun h => x_nl c_1 h.1)
  · refine PW.iload_n (pc := 4) dX1_hasAll_4 rfl ?_
    refine PW.iconst (pc := 5) (v := nI 1) dX1_hasAll_5 (by decide) ?_
    refine PW.aload_n (pc := 6) dX1_hasAll_6 rfl ?_
    refine gf_X1_40 (pc := 7) dX1_hasAll_7 ?_
    refine PW.ishl (pc := 10) dX1_hasAll_10 ?_
    refine PW.icmp_ge (pc := 11) (tgt := 18) dX1_hasAll_11 (by decide) (fun c_11 => ?_) (fun c_11 => ?_)
    · refine PW.iconst (pc := 18) (v := nI 0) dX1_hasAll_18 (by decide) ?_
      refine PW.zret (pc := 19) hY (by decide) ?_ dX1_hasAll_19
      exact x_zf (fun h => x_nl h.2 c_11)
    · refine PW.iconst (pc := 14) (v := nI 1) dX1_hasAll_14 (by decide) ?_
      refine PW.goto (pc := 15) (tgt := 19) dX1_hasAll_15 (by decide) ?_
      refine PW.zret (pc := 19) hY (by decide) ?_ dX1_hasAll_19
      exact x_zt ⟨x_ge c_1, x_gt c_11⟩
set_option maxHeartbeats 4000000 in
set_option maxRecDepth 20000 in
theorem c_X1_ask {a b v : Int32} {n : Nat} {M : xM} (hn : M.1 8 9 = nI n) (h10 : n ≤ 10) : K_X1_ask [.ref 8, .int a, .int b, .int v] M (xRi (fun x u => if n < 10 then x = nI n ∧ u = xup (xup (xup (xup M 9 n a) 10 n b) 11 n v) 8 9 (nI (n + 1)) else x = (-4) ∧ u = M)) := by
  refine xMet.of (own := RX1) rfl (by decide) (Nat.le_of_ble_eq_true rfl) rfl (fun Y hY => ?_)
  refine PW.aload_n (pc := 0) dX1_ask_0 rfl ?_
  refine gf_X1_40 (pc := 1) dX1_ask_1 ?_
  refine PW.bipush (pc := 4) (v := nI 10) dX1_ask_4 (by decide) ?_
  refine PW.icmp_lt (pc := 6) (tgt := 12) dX1_ask_6 (by decide) (fun c_6 => ?_) (fun c_6 => ?_)
  · rw [hn] at c_6
    have h : n < 10 := (nI_ltI (by omega) (by omega)).mp c_6
    refine PW.aload_n (pc := 12) dX1_ask_12 rfl ?_
    refine gf_X1_9 (pc := 13) dX1_ask_13 ?_
    refine PW.aload_n (pc := 16) dX1_ask_16 rfl ?_
    refine gf_X1_40 (pc := 17) dX1_ask_17 ?_
    refine PW.iload_n (pc := 20) dX1_ask_20 rfl ?_
    refine PW.iastN (pc := 21) rfl hn h (by decide) dX1_ask_21 ?_
    refine PW.aload_n (pc := 22) dX1_ask_22 rfl ?_
    refine gf_X1_15 (pc := 23) dX1_ask_23 ?_
    refine PW.aload_n (pc := 26) dX1_ask_26 rfl ?_
    refine gf_X1_40 (pc := 27) dX1_ask_27 ?_
    refine PW.iload_n (pc := 30) dX1_ask_30 rfl ?_
    refine PW.iastN (pc := 31) rfl (by simp only [xup_1]; exact hn) h (by decide) dX1_ask_31 ?_
    refine PW.aload_n (pc := 32) dX1_ask_32 rfl ?_
    refine gf_X1_18 (pc := 33) dX1_ask_33 ?_
    refine PW.aload_n (pc := 36) dX1_ask_36 rfl ?_
    refine gf_X1_40 (pc := 37) dX1_ask_37 ?_
    refine PW.iload_n (pc := 40) dX1_ask_40 rfl ?_
    refine PW.iastN (pc := 41) rfl (by simp only [xup_1]; exact hn) h (by decide) dX1_ask_41 ?_
    refine PW.aload_n (pc := 42) dX1_ask_42 rfl ?_
    refine PW.dup (pc := 43) dX1_ask_43 rfl ?_
    refine gf_X1_40 (pc := 44) dX1_ask_44 ?_
    refine PW.iconst (pc := 47) (v := nI 1) dX1_ask_47 (by decide) ?_
    refine PW.iadd (pc := 48) dX1_ask_48 ?_
    refine pf_X1_40 (pc := 49) dX1_ask_49 ?_
    refine PW.aload_n (pc := 52) dX1_ask_52 rfl ?_
    refine gf_X1_40 (pc := 53) dX1_ask_53 ?_
    refine PW.iconst (pc := 56) (v := nI 1) dX1_ask_56 (by decide) ?_
    refine PW.isub (pc := 57) dX1_ask_57 ?_
    refine PW.iret (pc := 58) hY ?_ dX1_ask_58
    refine x_ri ?_
    rw [if_pos h]
    simp only [xup_1]
    refine ⟨?_, ?_⟩
    · simp [hn, pk_sub, nI_add]
    · congr 1
      simp [hn, nI_add]
  · rw [hn] at c_6
    have h : ¬ n < 10 := fun q => c_6 ((nI_ltI (by omega) (by omega)).mpr q)
    refine PW.bipush (pc := 9) (v := (-4)) dX1_ask_9 (by decide) ?_
    refine PW.iret (pc := 11) hY ?_ dX1_ask_11
    refine x_ri ?_
    rw [if_neg h]
    exact ⟨rfl, rfl⟩
set_option maxHeartbeats 4000000 in
set_option maxRecDepth 20000 in
theorem c_X1_setOf {w : Int32} {n : Nat} {M : xM} (hn : M.1 8 9 = nI n) (h10 : n ≤ 10) : K_X1_setOf [.ref 8, .int w] M (xRi (fun x u => x = nI (xset (M.1 12) w n) ∧ u = M)) := by
  refine xMet.of (own := RX1) rfl (by decide) (Nat.le_of_ble_eq_true rfl) rfl (fun Y hY => ?_)
  have h0 : P_X1_setOf Y 4 [(0, .ref 8), (1, .int w), (2, .int (nI (xset (M.1 12) w n))), (3, .int (nI n))] [] M := by
    refine PW.iload_n (pc := 4) dX1_setOf_4 rfl ?_
    refine PW.aload_n (pc := 5) dX1_setOf_5 rfl ?_
    refine gf_X1_40 (pc := 6) dX1_setOf_6 ?_
    refine PW.icmp_ge (pc := 9) (tgt := 34) dX1_setOf_9 (by decide) (fun _ => ?_) (fun c => absurd ((by rw [hn]; exact nI_le (Nat.le_refl _) (by omega))) c)
    refine PW.iload_n (pc := 34) dX1_setOf_34 rfl ?_
    refine PW.iret (pc := 35) hY ?_ dX1_setOf_35
    exact x_ri ⟨rfl, rfl⟩
  have hs : ∀ f, f < n → P_X1_setOf Y 4 [(0, .ref 8), (1, .int w), (2, .int (nI (xset (M.1 12) w (f + 1)))), (3, .int (nI (f + 1)))] [] M → P_X1_setOf Y 4 [(0, .ref 8), (1, .int w), (2, .int (nI (xset (M.1 12) w f))), (3, .int (nI f))] [] M := by
    intro f hf ih
    refine PW.iload_n (pc := 4) dX1_setOf_4 rfl ?_
    refine PW.aload_n (pc := 5) dX1_setOf_5 rfl ?_
    refine gf_X1_40 (pc := 6) dX1_setOf_6 ?_
    refine PW.icmp_ge (pc := 9) (tgt := 34) dX1_setOf_9 (by decide) (fun c => absurd c ((by rw [hn]; exact nI_ge hf (by omega)))) (fun _ => ?_)
    refine PW.aload_n (pc := 12) dX1_setOf_12 rfl ?_
    refine gf_X1_21 (pc := 13) dX1_setOf_13 ?_
    refine PW.iload_n (pc := 16) dX1_setOf_16 rfl ?_
    refine PW.ialdN (pc := 17) rfl rfl (by omega) (by decide) dX1_setOf_17 ?_
    refine PW.iload_n (pc := 18) dX1_setOf_18 rfl ?_
    refine PW.icmp_ne (pc := 19) (tgt := 28) dX1_setOf_19 (by decide) (fun c_19 => ?_) (fun c_19 => ?_)
    · refine PW.iinc (pc := 28) dX1_setOf_28 rfl (x_inc1 _) (by decide) rfl ?_
      refine PW.goto (pc := 31) (tgt := 4) dX1_setOf_31 (by decide) ?_
      refine PW.st rfl rfl ?_ ih
      have e : xset (M.1 12) w (f + 1) = xset (M.1 12) w f := by simp [xset, bset, c_19]
      rw [e]; rfl
    · refine PW.iload_n (pc := 22) dX1_setOf_22 rfl ?_
      refine PW.iconst (pc := 23) (v := nI 1) dX1_setOf_23 (by decide) ?_
      refine PW.iload_n (pc := 24) dX1_setOf_24 rfl ?_
      refine PW.ishl (pc := 25) dX1_setOf_25 ?_
      refine PW.ior (pc := 26) dX1_setOf_26 ?_
      refine PW.istore_n (pc := 27) (i := 2) dX1_setOf_27 rfl (by decide) rfl ?_
      refine PW.iinc (pc := 28) dX1_setOf_28 rfl (x_inc1 _) (by decide) rfl ?_
      refine PW.goto (pc := 31) (tgt := 4) dX1_setOf_31 (by decide) ?_
      refine PW.st rfl rfl ?_ ih
      have e : xset (M.1 12) w (f + 1) = xset (M.1 12) w f ||| 2 ^ f := by simp [xset, bset, c_19]
      rw [e, x_shl1 (by omega), fa_or]; rfl
  refine PW.iconst (pc := 0) (v := nI 0) dX1_setOf_0 (by decide) ?_
  refine PW.istore_n (pc := 1) (i := 2) dX1_setOf_1 rfl (by decide) rfl ?_
  refine PW.iconst (pc := 2) (v := nI 0) dX1_setOf_2 (by decide) ?_
  refine PW.istore_n (pc := 3) (i := 3) dX1_setOf_3 rfl (by decide) rfl ?_
  exact PW.st rfl rfl rfl (x_down (P := fun f => P_X1_setOf Y 4 [(0, .ref 8), (1, .int w), (2, .int (nI (xset (M.1 12) w f))), (3, .int (nI f))] [] M) h0 hs 0 (Nat.zero_le _))
set_option maxHeartbeats 4000000 in
set_option maxRecDepth 20000 in
theorem c_X1_priceOf {s n : Nat} {M : xM} (hn : M.1 8 9 = nI n) (h10 : n ≤ 10) (h : s < 2 ^ 31) : K_X1_priceOf [.ref 8, .int (nI s)] M (xRi (fun x u => x = prs (M.1 11) s n ∧ u = M)) := by
  refine xMet.of (own := RX1) rfl (by decide) (Nat.le_of_ble_eq_true rfl) rfl (fun Y hY => ?_)
  have h0 : P_X1_priceOf Y 4 [(0, .ref 8), (1, .int (nI s)), (2, .int (prs (M.1 11) s n)), (3, .int (nI n))] [] M := by
    refine PW.iload_n (pc := 4) dX1_priceOf_4 rfl ?_
    refine PW.aload_n (pc := 5) dX1_priceOf_5 rfl ?_
    refine gf_X1_40 (pc := 6) dX1_priceOf_6 ?_
    refine PW.icmp_ge (pc := 9) (tgt := 36) dX1_priceOf_9 (by decide) (fun _ => ?_) (fun c => absurd ((by rw [hn]; exact nI_le (Nat.le_refl _) (by omega))) c)
    refine PW.iload_n (pc := 36) dX1_priceOf_36 rfl ?_
    refine PW.iret (pc := 37) hY ?_ dX1_priceOf_37
    exact x_ri ⟨rfl, rfl⟩
  have hs : ∀ f, f < n → P_X1_priceOf Y 4 [(0, .ref 8), (1, .int (nI s)), (2, .int (prs (M.1 11) s (f + 1))), (3, .int (nI (f + 1)))] [] M → P_X1_priceOf Y 4 [(0, .ref 8), (1, .int (nI s)), (2, .int (prs (M.1 11) s f)), (3, .int (nI f))] [] M := by
    intro f hf ih
    refine PW.iload_n (pc := 4) dX1_priceOf_4 rfl ?_
    refine PW.aload_n (pc := 5) dX1_priceOf_5 rfl ?_
    refine gf_X1_40 (pc := 6) dX1_priceOf_6 ?_
    refine PW.icmp_ge (pc := 9) (tgt := 36) dX1_priceOf_9 (by decide) (fun c => absurd c ((by rw [hn]; exact nI_ge hf (by omega)))) (fun _ => ?_)
    refine PW.iload_n (pc := 12) dX1_priceOf_12 rfl ?_
    refine PW.iload_n (pc := 13) dX1_priceOf_13 rfl ?_
    refine PW.ishr (pc := 14) dX1_priceOf_14 ?_
    refine PW.iconst (pc := 15) (v := nI 1) dX1_priceOf_15 (by decide) ?_
    refine PW.iand (pc := 16) dX1_priceOf_16 ?_
    refine PW.iconst (pc := 17) (v := nI 1) dX1_priceOf_17 (by decide) ?_
    refine PW.icmp_ne (pc := 18) (tgt := 30) dX1_priceOf_18 (by decide) (fun c_18 => ?_) (fun c_18 => ?_)
    · rw [x_bit h (by omega)] at c_18
      refine PW.iinc (pc := 30) dX1_priceOf_30 rfl (x_inc1 _) (by decide) rfl ?_
      refine PW.goto (pc := 33) (tgt := 4) dX1_priceOf_33 (by decide) ?_
      refine PW.st rfl rfl ?_ ih
      rw [prs, if_neg c_18]; rfl
    · rw [x_bit h (by omega)] at c_18
      refine PW.iload_n (pc := 21) dX1_priceOf_21 rfl ?_
      refine PW.aload_n (pc := 22) dX1_priceOf_22 rfl ?_
      refine gf_X1_18 (pc := 23) dX1_priceOf_23 ?_
      refine PW.iload_n (pc := 26) dX1_priceOf_26 rfl ?_
      refine PW.ialdN (pc := 27) rfl rfl (by omega) (by decide) dX1_priceOf_27 ?_
      refine PW.iadd (pc := 28) dX1_priceOf_28 ?_
      refine PW.istore_n (pc := 29) (i := 2) dX1_priceOf_29 rfl (by decide) rfl ?_
      refine PW.iinc (pc := 30) dX1_priceOf_30 rfl (x_inc1 _) (by decide) rfl ?_
      refine PW.goto (pc := 33) (tgt := 4) dX1_priceOf_33 (by decide) ?_
      refine PW.st rfl rfl ?_ ih
      rw [prs, if_pos c_18]; rfl
  refine PW.iconst (pc := 0) (v := nI 0) dX1_priceOf_0 (by decide) ?_
  refine PW.istore_n (pc := 1) (i := 2) dX1_priceOf_1 rfl (by decide) rfl ?_
  refine PW.iconst (pc := 2) (v := nI 0) dX1_priceOf_2 (by decide) ?_
  refine PW.istore_n (pc := 3) (i := 3) dX1_priceOf_3 rfl (by decide) rfl ?_
  exact PW.st rfl rfl rfl (x_down (P := fun f => P_X1_priceOf Y 4 [(0, .ref 8), (1, .int (nI s)), (2, .int (prs (M.1 11) s f)), (3, .int (nI f))] [] M) h0 hs 0 (Nat.zero_le _))
set_option maxHeartbeats 4000000 in
set_option maxRecDepth 20000 in
theorem c_X1_worksOn {f : Nat} {d : Int32} {M : xM} (hf : f < 10) : K_X1_worksOn [.ref 8, .int (nI f), .int d] M (xRi (fun x u => x = xB (M.1 12 f = nI 1 ∧ (M.1 9 f = d ∨ M.1 10 f = d)) ∧ u = M)) := by
  refine xMet.of (own := RX1) rfl (by decide) (Nat.le_of_ble_eq_true rfl) rfl (fun Y hY => ?_)
  refine PW.aload_n (pc := 0) dX1_worksOn_0 rfl ?_
  refine gf_X1_21 (pc := 1) dX1_worksOn_1 ?_
  refine PW.iload_n (pc := 4) dX1_worksOn_4 rfl ?_
  refine PW.ialdN (pc := 5) rfl rfl (by omega) (by decide) dX1_worksOn_5 ?_
  refine PW.iconst (pc := 6) (v := nI 1) dX1_worksOn_6 (by decide) ?_
  refine PW.icmp_ne (pc := 7) (tgt := 34) dX1_worksOn_7 (by decide) (fun c_7 => ?_) (fun c_7 => ?_)
  · refine PW.iconst (pc := 34) (v := nI 0) dX1_worksOn_34 (by decide) ?_
    refine PW.zret (pc := 35) hY (by decide) ?_ dX1_worksOn_35
    exact x_zf (fun h => c_7 h.1)
  · refine PW.aload_n (pc := 10) dX1_worksOn_10 rfl ?_
    refine gf_X1_9 (pc := 11) dX1_worksOn_11 ?_
    refine PW.iload_n (pc := 14) dX1_worksOn_14 rfl ?_
    refine PW.ialdN (pc := 15) rfl rfl (by omega) (by decide) dX1_worksOn_15 ?_
    refine PW.iload_n (pc := 16) dX1_worksOn_16 rfl ?_
    refine PW.icmp_eq (pc := 17) (tgt := 30) dX1_worksOn_17 (by decide) (fun c_17 => ?_) (fun c_17 => ?_)
    · refine PW.iconst (pc := 30) (v := nI 1) dX1_worksOn_30 (by decide) ?_
      refine PW.goto (pc := 31) (tgt := 35) dX1_worksOn_31 (by decide) ?_
      refine PW.zret (pc := 35) hY (by decide) ?_ dX1_worksOn_35
      exact x_zt ⟨c_7, Or.inl c_17⟩
    · refine PW.aload_n (pc := 20) dX1_worksOn_20 rfl ?_
      refine gf_X1_15 (pc := 21) dX1_worksOn_21 ?_
      refine PW.iload_n (pc := 24) dX1_worksOn_24 rfl ?_
      refine PW.ialdN (pc := 25) rfl rfl (by omega) (by decide) dX1_worksOn_25 ?_
      refine PW.iload_n (pc := 26) dX1_worksOn_26 rfl ?_
      refine PW.icmp_ne (pc := 27) (tgt := 34) dX1_worksOn_27 (by decide) (fun c_27 => ?_) (fun c_27 => ?_)
      · refine PW.iconst (pc := 34) (v := nI 0) dX1_worksOn_34 (by decide) ?_
        refine PW.zret (pc := 35) hY (by decide) ?_ dX1_worksOn_35
        exact x_zf (fun h => h.2.elim c_17 c_27)
      · refine PW.iconst (pc := 30) (v := nI 1) dX1_worksOn_30 (by decide) ?_
        refine PW.goto (pc := 31) (tgt := 35) dX1_worksOn_31 (by decide) ?_
        refine PW.zret (pc := 35) hY (by decide) ?_ dX1_worksOn_35
        exact x_zt ⟨c_7, Or.inr c_27⟩
set_option maxHeartbeats 4000000 in
set_option maxRecDepth 20000 in
theorem c_X5_have {t : Nat} {M : xM} (ht : t < 6) : K_X5_have [.ref 1, .int (nI t)] M (xRi (fun x u => x = hv (M.1 2 t) (M.1 7 t) ∧ u = M)) := by
  refine xMet.of (own := RX5) rfl (by decide) (Nat.le_of_ble_eq_true rfl) rfl (fun Y hY => ?_)
  refine PW.iconst (pc := 0) (v := nI 0) dX5_have_0 (by decide) ?_
  refine PW.aload_n (pc := 1) dX5_have_1 rfl ?_
  refine gf_X5_9 (pc := 2) dX5_have_2 ?_
  refine PW.iload_n (pc := 5) dX5_have_5 rfl ?_
  refine PW.ialdN (pc := 6) rfl rfl (by omega) (by decide) dX5_have_6 ?_
  refine PW.aload_n (pc := 7) dX5_have_7 rfl ?_
  refine gf_X5_27 (pc := 8) dX5_have_8 ?_
  refine PW.iload_n (pc := 11) dX5_have_11 rfl ?_
  refine PW.ialdN (pc := 12) rfl rfl (by omega) (by decide) dX5_have_12 ?_
  refine PW.isub (pc := 13) dX5_have_13 ?_
  refine PW.mmax (pc := 14) (idx := 36) hY.rm (by decide) (by decide) (by decide +kernel) dX5_have_14 (Nat.le_of_ble_eq_true rfl) ?_
  refine PW.iret (pc := 17) hY ?_ dX5_have_17
  exact x_ri ⟨rfl, rfl⟩
set_option maxHeartbeats 4000000 in
set_option maxRecDepth 20000 in
theorem c_X5_allGone {M : xM} : K_X5_allGone [.ref 1] M (xRi (fun x u => x = gsum (M.1 7) 6 ∧ u = M)) := by
  refine xMet.of (own := RX5) rfl (by decide) (Nat.le_of_ble_eq_true rfl) rfl (fun Y hY => ?_)
  have h0 : P_X5_allGone Y 4 [(0, .ref 1), (1, .int (gsum (M.1 7) 6)), (2, .int (nI 6))] [] M := by
    refine PW.iload_n (pc := 4) dX5_allGone_4 rfl ?_
    refine PW.bipush (pc := 5) (v := nI 6) dX5_allGone_5 (by decide) ?_
    refine PW.icmp_ge (pc := 7) (tgt := 25) dX5_allGone_7 (by decide) (fun _ => ?_) (fun c => absurd ((nI_le (Nat.le_refl _) (by omega))) c)
    refine PW.iload_n (pc := 25) dX5_allGone_25 rfl ?_
    refine PW.iret (pc := 26) hY ?_ dX5_allGone_26
    exact x_ri ⟨rfl, rfl⟩
  have hs : ∀ f, f < 6 → P_X5_allGone Y 4 [(0, .ref 1), (1, .int (gsum (M.1 7) (f + 1))), (2, .int (nI (f + 1)))] [] M → P_X5_allGone Y 4 [(0, .ref 1), (1, .int (gsum (M.1 7) f)), (2, .int (nI f))] [] M := by
    intro f hf ih
    refine PW.iload_n (pc := 4) dX5_allGone_4 rfl ?_
    refine PW.bipush (pc := 5) (v := nI 6) dX5_allGone_5 (by decide) ?_
    refine PW.icmp_ge (pc := 7) (tgt := 25) dX5_allGone_7 (by decide) (fun c => absurd c ((nI_ge hf (by omega)))) (fun _ => ?_)
    refine PW.iload_n (pc := 10) dX5_allGone_10 rfl ?_
    refine PW.aload_n (pc := 11) dX5_allGone_11 rfl ?_
    refine gf_X5_27 (pc := 12) dX5_allGone_12 ?_
    refine PW.iload_n (pc := 15) dX5_allGone_15 rfl ?_
    refine PW.ialdN (pc := 16) rfl rfl (by omega) (by decide) dX5_allGone_16 ?_
    refine PW.iadd (pc := 17) dX5_allGone_17 ?_
    refine PW.istore_n (pc := 18) (i := 1) dX5_allGone_18 rfl (by decide) rfl ?_
    refine PW.iinc (pc := 19) dX5_allGone_19 rfl (x_inc1 _) (by decide) rfl ?_
    refine PW.goto (pc := 22) (tgt := 4) dX5_allGone_22 (by decide) ?_
    exact PW.st rfl rfl rfl ih
  refine PW.iconst (pc := 0) (v := nI 0) dX5_allGone_0 (by decide) ?_
  refine PW.istore_n (pc := 1) (i := 1) dX5_allGone_1 rfl (by decide) rfl ?_
  refine PW.iconst (pc := 2) (v := nI 0) dX5_allGone_2 (by decide) ?_
  refine PW.istore_n (pc := 3) (i := 2) dX5_allGone_3 rfl (by decide) rfl ?_
  exact PW.st rfl rfl rfl (x_down (P := fun f => P_X5_allGone Y 4 [(0, .ref 1), (1, .int (gsum (M.1 7) f)), (2, .int (nI f))] [] M) h0 hs 0 (Nat.zero_le _))
set_option maxHeartbeats 4000000 in
set_option maxRecDepth 20000 in
theorem c_X4_on {d : Nat} {M : xM} (hd : d ≤ 60) : K_X4_on [.ref 18, .int (nI d)] M (xRi (fun x u => x = xB (¬ M.1 19 d = 0) ∧ u = M)) := by
  refine xMet.of (own := RX4) rfl (by decide) (Nat.le_of_ble_eq_true rfl) rfl (fun Y hY => ?_)
  refine PW.iload_n (pc := 0) dX4_on_0 rfl ?_
  refine PW.if_lt (pc := 1) (tgt := 23) dX4_on_1 (by decide) (fun c => absurd c ((nI_pos (by omega)))) (fun _ => ?_)
  refine PW.iload_n (pc := 4) dX4_on_4 rfl ?_
  refine PW.bipush (pc := 5) (v := nI 60) dX4_on_5 (by decide) ?_
  refine PW.icmp_gt (pc := 7) (tgt := 23) dX4_on_7 (by decide) (fun c => absurd c ((x_ng (nI_le hd (by omega))))) (fun _ => ?_)
  refine PW.aload_n (pc := 10) dX4_on_10 rfl ?_
  refine gf_X4_9 (pc := 11) dX4_on_11 ?_
  refine PW.iload_n (pc := 14) dX4_on_14 rfl ?_
  refine PW.zaldN (pc := 15) rfl rfl (by omega) (by decide) dX4_on_15 ?_
  refine PW.if_eq (pc := 16) (tgt := 23) dX4_on_16 (by decide) (fun c_16 => ?_) (fun c_16 => ?_)
  · refine PW.iconst (pc := 23) (v := nI 0) dX4_on_23 (by decide) ?_
    refine PW.zret (pc := 24) hY (by decide) ?_ dX4_on_24
    exact x_zf (fun h => h c_16)
  · refine PW.iconst (pc := 19) (v := nI 1) dX4_on_19 (by decide) ?_
    refine PW.goto (pc := 20) (tgt := 24) dX4_on_20 (by decide) ?_
    refine PW.zret (pc := 24) hY (by decide) ?_ dX4_on_24
    exact x_zt c_16
set_option maxHeartbeats 4000000 in
set_option maxRecDepth 20000 in
theorem c_X4_tell {d : Nat} {b : Int32} {M : xM} (hd : d ≤ 60) (hb : b = 0 ∨ b = 1) : K_X4_tell [.ref 18, .int (nI d), .int b] M (xRv (fun u => u = if M.1 19 d = b then M else xup (xup M 19 d b) 18 1 (M.1 18 1 + (if b = 0 then (-1) else nI 1)))) := by
  refine xMet.of (own := RX4) rfl (by decide) (Nat.le_of_ble_eq_true rfl) rfl (fun Y hY => ?_)
  refine PW.iload_n (pc := 0) dX4_tell_0 rfl ?_
  refine PW.if_lt (pc := 1) (tgt := 20) dX4_tell_1 (by decide) (fun c => absurd c ((nI_pos (by omega)))) (fun _ => ?_)
  refine PW.iload_n (pc := 4) dX4_tell_4 rfl ?_
  refine PW.bipush (pc := 5) (v := nI 60) dX4_tell_5 (by decide) ?_
  refine PW.icmp_gt (pc := 7) (tgt := 20) dX4_tell_7 (by decide) (fun c => absurd c ((x_ng (nI_le hd (by omega))))) (fun _ => ?_)
  refine PW.aload_n (pc := 10) dX4_tell_10 rfl ?_
  refine gf_X4_9 (pc := 11) dX4_tell_11 ?_
  refine PW.iload_n (pc := 14) dX4_tell_14 rfl ?_
  refine PW.zaldN (pc := 15) rfl rfl (by omega) (by decide) dX4_tell_15 ?_
  refine PW.iload_n (pc := 16) dX4_tell_16 rfl ?_
  refine PW.icmp_ne (pc := 17) (tgt := 21) dX4_tell_17 (by decide) (fun c_17 => ?_) (fun c_17 => ?_)
  · refine PW.aload_n (pc := 21) dX4_tell_21 rfl ?_
    refine gf_X4_9 (pc := 22) dX4_tell_22 ?_
    refine PW.iload_n (pc := 25) dX4_tell_25 rfl ?_
    refine PW.iload_n (pc := 26) dX4_tell_26 rfl ?_
    refine PW.zastN (pc := 27) rfl rfl (by omega) (by decide) (by first | assumption | decide) dX4_tell_27 ?_
    refine PW.aload_n (pc := 28) dX4_tell_28 rfl ?_
    refine PW.dup (pc := 29) dX4_tell_29 rfl ?_
    refine gf_X4_15 (pc := 30) dX4_tell_30 ?_
    refine PW.iload_n (pc := 33) dX4_tell_33 rfl ?_
    refine PW.if_eq (pc := 34) (tgt := 41) dX4_tell_34 (by decide) (fun c_34 => ?_) (fun c_34 => ?_)
    · refine PW.iconst (pc := 41) (v := (-1)) dX4_tell_41 (by decide) ?_
      refine PW.iadd (pc := 42) dX4_tell_42 ?_
      refine pf_X4_15 (pc := 43) dX4_tell_43 ?_
      refine PW.vret (pc := 46) hY ?_ dX4_tell_46
      refine x_rv ?_
      rw [if_neg c_17, if_pos c_34]
      simp [xup_1]
    · refine PW.iconst (pc := 37) (v := nI 1) dX4_tell_37 (by decide) ?_
      refine PW.goto (pc := 38) (tgt := 42) dX4_tell_38 (by decide) ?_
      refine PW.iadd (pc := 42) dX4_tell_42 ?_
      refine pf_X4_15 (pc := 43) dX4_tell_43 ?_
      refine PW.vret (pc := 46) hY ?_ dX4_tell_46
      refine x_rv ?_
      rw [if_neg c_17, if_neg c_34]
      simp [xup_1]
  · refine PW.vret (pc := 20) hY ?_ dX4_tell_20
    refine x_rv ?_
    rw [if_pos c_17]
set_option maxHeartbeats 4000000 in
set_option maxRecDepth 20000 in
theorem c_X2_doorsFor {g : Int32} {n : Nat} {M : xM} (hn : M.1 22 2 = nI n) (h6 : n ≤ 6) : K_X2_doorsFor [.ref 22, .int g] M (xRi (fun x u => x = dfor (M.1 23) (M.1 24) g n ∧ u = M)) := by
  refine xMet.of (own := RX2) rfl (by decide) (Nat.le_of_ble_eq_true rfl) rfl (fun Y hY => ?_)
  have h0 : P_X2_doorsFor Y 4 [(0, .ref 22), (1, .int g), (2, .int (dfor (M.1 23) (M.1 24) g n)), (3, .int (nI n))] [] M := by
    refine PW.iload_n (pc := 4) dX2_doorsFor_4 rfl ?_
    refine PW.aload_n (pc := 5) dX2_doorsFor_5 rfl ?_
    refine gf_X2_18 (pc := 6) dX2_doorsFor_6 ?_
    refine PW.icmp_ge (pc := 9) (tgt := 35) dX2_doorsFor_9 (by decide) (fun _ => ?_) (fun c => absurd ((by rw [hn]; exact nI_le (Nat.le_refl _) (by omega))) c)
    refine PW.iload_n (pc := 35) dX2_doorsFor_35 rfl ?_
    refine PW.iret (pc := 36) hY ?_ dX2_doorsFor_36
    exact x_ri ⟨rfl, rfl⟩
  have hs : ∀ f, f < n → P_X2_doorsFor Y 4 [(0, .ref 22), (1, .int g), (2, .int (dfor (M.1 23) (M.1 24) g (f + 1))), (3, .int (nI (f + 1)))] [] M → P_X2_doorsFor Y 4 [(0, .ref 22), (1, .int g), (2, .int (dfor (M.1 23) (M.1 24) g f)), (3, .int (nI f))] [] M := by
    intro f hf ih
    refine PW.iload_n (pc := 4) dX2_doorsFor_4 rfl ?_
    refine PW.aload_n (pc := 5) dX2_doorsFor_5 rfl ?_
    refine gf_X2_18 (pc := 6) dX2_doorsFor_6 ?_
    refine PW.icmp_ge (pc := 9) (tgt := 35) dX2_doorsFor_9 (by decide) (fun c => absurd c ((by rw [hn]; exact nI_ge hf (by omega)))) (fun _ => ?_)
    refine PW.iload_n (pc := 12) dX2_doorsFor_12 rfl ?_
    refine PW.aload_n (pc := 13) dX2_doorsFor_13 rfl ?_
    refine gf_X2_9 (pc := 14) dX2_doorsFor_14 ?_
    refine PW.iload_n (pc := 17) dX2_doorsFor_17 rfl ?_
    refine PW.ialdN (pc := 18) rfl rfl (by omega) (by decide) dX2_doorsFor_18 ?_
    refine PW.icmp_lt (pc := 19) (tgt := 29) dX2_doorsFor_19 (by decide) (fun c_19 => ?_) (fun c_19 => ?_)
    · refine PW.iinc (pc := 29) dX2_doorsFor_29 rfl (x_inc1 _) (by decide) rfl ?_
      refine PW.goto (pc := 32) (tgt := 4) dX2_doorsFor_32 (by decide) ?_
      refine PW.st rfl rfl ?_ ih
      rw [dfor, if_neg (x_nl c_19)]; rfl
    · refine PW.aload_n (pc := 22) dX2_doorsFor_22 rfl ?_
      refine gf_X2_15 (pc := 23) dX2_doorsFor_23 ?_
      refine PW.iload_n (pc := 26) dX2_doorsFor_26 rfl ?_
      refine PW.ialdN (pc := 27) rfl rfl (by omega) (by decide) dX2_doorsFor_27 ?_
      refine PW.istore_n (pc := 28) (i := 2) dX2_doorsFor_28 rfl (by decide) rfl ?_
      refine PW.iinc (pc := 29) dX2_doorsFor_29 rfl (x_inc1 _) (by decide) rfl ?_
      refine PW.goto (pc := 32) (tgt := 4) dX2_doorsFor_32 (by decide) ?_
      refine PW.st rfl rfl ?_ ih
      rw [dfor, if_pos (x_ge c_19)]; rfl
  refine PW.iconst (pc := 0) (v := nI 1) dX2_doorsFor_0 (by decide) ?_
  refine PW.istore_n (pc := 1) (i := 2) dX2_doorsFor_1 rfl (by decide) rfl ?_
  refine PW.iconst (pc := 2) (v := nI 0) dX2_doorsFor_2 (by decide) ?_
  refine PW.istore_n (pc := 3) (i := 3) dX2_doorsFor_3 rfl (by decide) rfl ?_
  exact PW.st rfl rfl rfl (x_down (P := fun f => P_X2_doorsFor Y 4 [(0, .ref 22), (1, .int g), (2, .int (dfor (M.1 23) (M.1 24) g f)), (3, .int (nI f))] [] M) h0 hs 0 (Nat.zero_le _))
set_option maxHeartbeats 4000000 in
set_option maxRecDepth 20000 in
theorem c_J6_bitCount_0f7a4 {s : Nat} {M : xM} (hs : s < 1024) : K_J6_bitCount_0f7a4 [.int (nI s)] M (xRi (fun x u => x = nI (pcn s 10) ∧ u = M)) := by
  refine xMet.of (own := RJ6) rfl (by decide) (Nat.le_of_ble_eq_true rfl) rfl (fun Y hY => ?_)
  refine PW.iload_n (pc := 0) dJ6_bitCount_0f7a4_0 rfl ?_
  refine PW.iload_n (pc := 1) dJ6_bitCount_0f7a4_1 rfl ?_
  refine PW.iconst (pc := 2) (v := nI 1) dJ6_bitCount_0f7a4_2 (by decide) ?_
  refine PW.iushr (pc := 3) dJ6_bitCount_0f7a4_3 ?_
  refine PW.ldc_w (pc := 4) (v := nI 1431655765) (by decide +kernel) dJ6_bitCount_0f7a4_4 ?_
  refine PW.iand (pc := 7) dJ6_bitCount_0f7a4_7 ?_
  refine PW.isub (pc := 8) dJ6_bitCount_0f7a4_8 ?_
  refine PW.istore_n (pc := 9) (i := 0) dJ6_bitCount_0f7a4_9 rfl (by decide) rfl ?_
  refine PW.iload_n (pc := 10) dJ6_bitCount_0f7a4_10 rfl ?_
  refine PW.ldc_w (pc := 11) (v := nI 858993459) (by decide +kernel) dJ6_bitCount_0f7a4_11 ?_
  refine PW.iand (pc := 14) dJ6_bitCount_0f7a4_14 ?_
  refine PW.iload_n (pc := 15) dJ6_bitCount_0f7a4_15 rfl ?_
  refine PW.iconst (pc := 16) (v := nI 2) dJ6_bitCount_0f7a4_16 (by decide) ?_
  refine PW.iushr (pc := 17) dJ6_bitCount_0f7a4_17 ?_
  refine PW.ldc_w (pc := 18) (v := nI 858993459) (by decide +kernel) dJ6_bitCount_0f7a4_18 ?_
  refine PW.iand (pc := 21) dJ6_bitCount_0f7a4_21 ?_
  refine PW.iadd (pc := 22) dJ6_bitCount_0f7a4_22 ?_
  refine PW.istore_n (pc := 23) (i := 0) dJ6_bitCount_0f7a4_23 rfl (by decide) rfl ?_
  refine PW.iload_n (pc := 24) dJ6_bitCount_0f7a4_24 rfl ?_
  refine PW.iload_n (pc := 25) dJ6_bitCount_0f7a4_25 rfl ?_
  refine PW.iconst (pc := 26) (v := nI 4) dJ6_bitCount_0f7a4_26 (by decide) ?_
  refine PW.iushr (pc := 27) dJ6_bitCount_0f7a4_27 ?_
  refine PW.iadd (pc := 28) dJ6_bitCount_0f7a4_28 ?_
  refine PW.ldc_w (pc := 29) (v := nI 252645135) (by decide +kernel) dJ6_bitCount_0f7a4_29 ?_
  refine PW.iand (pc := 32) dJ6_bitCount_0f7a4_32 ?_
  refine PW.istore_n (pc := 33) (i := 0) dJ6_bitCount_0f7a4_33 rfl (by decide) rfl ?_
  refine PW.iload_n (pc := 34) dJ6_bitCount_0f7a4_34 rfl ?_
  refine PW.iload_n (pc := 35) dJ6_bitCount_0f7a4_35 rfl ?_
  refine PW.bipush (pc := 36) (v := nI 8) dJ6_bitCount_0f7a4_36 (by decide) ?_
  refine PW.iushr (pc := 38) dJ6_bitCount_0f7a4_38 ?_
  refine PW.iadd (pc := 39) dJ6_bitCount_0f7a4_39 ?_
  refine PW.istore_n (pc := 40) (i := 0) dJ6_bitCount_0f7a4_40 rfl (by decide) rfl ?_
  refine PW.iload_n (pc := 41) dJ6_bitCount_0f7a4_41 rfl ?_
  refine PW.iload_n (pc := 42) dJ6_bitCount_0f7a4_42 rfl ?_
  refine PW.bipush (pc := 43) (v := nI 16) dJ6_bitCount_0f7a4_43 (by decide) ?_
  refine PW.iushr (pc := 45) dJ6_bitCount_0f7a4_45 ?_
  refine PW.iadd (pc := 46) dJ6_bitCount_0f7a4_46 ?_
  refine PW.istore_n (pc := 47) (i := 0) dJ6_bitCount_0f7a4_47 rfl (by decide) rfl ?_
  refine PW.iload_n (pc := 48) dJ6_bitCount_0f7a4_48 rfl ?_
  refine PW.bipush (pc := 49) (v := nI 63) dJ6_bitCount_0f7a4_49 (by decide) ?_
  refine PW.iand (pc := 51) dJ6_bitCount_0f7a4_51 ?_
  refine PW.iret (pc := 52) hY ?_ dJ6_bitCount_0f7a4_52
  exact x_ri ⟨bcI_pcn s hs, rfl⟩
set_option maxHeartbeats 4000000 in
set_option maxRecDepth 20000 in
theorem c_J7_fill_53178 {b n : Nat} {v : Int32} {M : xM} (hb : xSH[b]? = some (.inl (0, n))) (hn : n < 2 ^ 31) : K_J7_fill_53178 [.ref b, .int v] M (xRv (fun u => u = xupA M b (fun j => if j < n then v else M.1 b j))) := by
  refine xMet.of (own := RJ7) rfl (by decide) (Nat.le_of_ble_eq_true rfl) rfl (fun Y hY => ?_)
  have h0 : P_J7_fill_53178 Y 5 [(0, .ref b), (1, .int v), (2, .int (nI n)), (3, .int (nI n))] [] (xupA M b (fun j => if j < n then v else M.1 b j)) := by
    refine PW.iload_n (pc := 5) dJ7_fill_53178_5 rfl ?_
    refine PW.iload_n (pc := 6) dJ7_fill_53178_6 rfl ?_
    refine PW.icmp_ge (pc := 7) (tgt := 20) dJ7_fill_53178_7 (by decide) (fun _ => ?_) (fun c => absurd ((nI_le (Nat.le_refl _) hn)) c)
    refine PW.vret (pc := 20) hY ?_ dJ7_fill_53178_20
    exact x_rv rfl
  have hs : ∀ f, f < n → P_J7_fill_53178 Y 5 [(0, .ref b), (1, .int v), (2, .int (nI (f + 1))), (3, .int (nI n))] [] (xupA M b (fun j => if j < f + 1 then v else M.1 b j)) → P_J7_fill_53178 Y 5 [(0, .ref b), (1, .int v), (2, .int (nI f)), (3, .int (nI n))] [] (xupA M b (fun j => if j < f then v else M.1 b j)) := by
    intro f hf ih
    refine PW.iload_n (pc := 5) dJ7_fill_53178_5 rfl ?_
    refine PW.iload_n (pc := 6) dJ7_fill_53178_6 rfl ?_
    refine PW.icmp_ge (pc := 7) (tgt := 20) dJ7_fill_53178_7 (by decide) (fun c => absurd c ((nI_ge hf hn))) (fun _ => ?_)
    refine PW.aload_n (pc := 10) dJ7_fill_53178_10 rfl ?_
    refine PW.iload_n (pc := 11) dJ7_fill_53178_11 rfl ?_
    refine PW.iload_n (pc := 12) dJ7_fill_53178_12 rfl ?_
    refine PW.iastN (pc := 13) hb rfl hf hn dJ7_fill_53178_13 ?_
    refine PW.iinc (pc := 14) dJ7_fill_53178_14 rfl (x_inc1 _) (by decide) rfl ?_
    refine PW.goto (pc := 17) (tgt := 5) dJ7_fill_53178_17 (by decide) ?_
    refine PW.st ?_ rfl rfl ih
    refine xM_ext (fun p j => ?_) rfl
    simp only [xup_1, xupA_1]
    by_cases hp : p = b
    · subst hp
      by_cases hj : j = f
      · subst hj; simp
      · have e : (j < f + 1) ↔ j < f := by omega
        simp [hj, e]
    · simp [hp]
  refine PW.iconst (pc := 0) (v := nI 0) dJ7_fill_53178_0 (by decide) ?_
  refine PW.istore_n (pc := 1) (i := 2) dJ7_fill_53178_1 rfl (by decide) rfl ?_
  refine PW.aload_n (pc := 2) dJ7_fill_53178_2 rfl ?_
  refine PW.alen (pc := 3) hb (by decide) dJ7_fill_53178_3 ?_
  refine PW.istore_n (pc := 4) (i := 3) dJ7_fill_53178_4 rfl (by decide) rfl ?_
  refine PW.st ?_ rfl rfl (x_down (P := fun f => P_J7_fill_53178 Y 5 [(0, .ref b), (1, .int v), (2, .int (nI f)), (3, .int (nI n))] [] (xupA M b (fun j => if j < f then v else M.1 b j))) h0 hs 0 (Nat.zero_le _))
  refine xM_ext (fun p j => ?_) rfl
  simp only [xupA_1]
  by_cases hp : p = b
  · subst hp; simp
  · simp [hp]
set_option maxHeartbeats 4000000 in
set_option maxRecDepth 20000 in
theorem c_X3_clear {M : xM} : K_X3_clear [.ref 20] M (xRv (fun u => u = xupL (xup (xup (xupA M 21 (fun j => if j < 396 then nI 0 else M.1 21 j)) 20 1 (nI 0)) 20 2 (nI 0)) 20 3 (lN 0))) := by
  refine xMet.of (own := RX3) rfl (by decide) (Nat.le_of_ble_eq_true rfl) rfl (fun Y hY => ?_)
  refine PW.aload_n (pc := 0) dX3_clear_0 rfl ?_
  refine gf_X3_9 (pc := 1) dX3_clear_1 ?_
  refine PW.iconst (pc := 4) (v := nI 0) dX3_clear_4 (by decide) ?_
  refine cs_X3_26 (pc := 5) hY.rm (c_J7_fill_53178 rfl (by decide)) ⟨Nat.le_of_ble_eq_true rfl, Nat.le_of_ble_eq_true rfl⟩ dX3_clear_5 (Nat.le_of_ble_eq_true rfl) (fun u_5 h_5 => ?_)
  subst h_5
  refine PW.aload_n (pc := 8) dX3_clear_8 rfl ?_
  refine PW.iconst (pc := 9) (v := nI 0) dX3_clear_9 (by decide) ?_
  refine pf_X3_15 (pc := 10) dX3_clear_10 ?_
  refine PW.aload_n (pc := 13) dX3_clear_13 rfl ?_
  refine PW.iconst (pc := 14) (v := nI 0) dX3_clear_14 (by decide) ?_
  refine pf_X3_19 (pc := 15) dX3_clear_15 ?_
  refine PW.aload_n (pc := 18) dX3_clear_18 rfl ?_
  refine PW.lconst (pc := 19) (v := lN 0) dX3_clear_19 rfl ?_
  refine pf_X3_22 (pc := 20) dX3_clear_20 ?_
  refine PW.vret (pc := 23) hY ?_ dX3_clear_23
  exact x_rv rfl
set_option maxHeartbeats 4000000 in
set_option maxRecDepth 20000 in
theorem c_X1_tell {f w : Nat} {M : xM} (hf : f < 10) (hw : w ≤ 6) : K_X1_tell [.ref 8, .int (nI f), .int (nI w)] M (xRi (fun x u => x = tellv M f w ∧ u = M)) := by
  refine xMet.of (own := RX1) rfl (by decide) (Nat.le_of_ble_eq_true rfl) rfl (fun Y hY => ?_)
  refine PW.iload_n (pc := 0) dX1_tell_0 rfl ?_
  have e : (nI w).toInt = (w : Int) := nI_toInt (by omega)
  rcases (show w = 0 ∨ w = 1 ∨ w = 2 ∨ w = 3 ∨ w = 4 ∨ w = 5 ∨ w = 6 by omega) with rfl | rfl | rfl | rfl | rfl | rfl | rfl
  · refine PW.tswIn (pc := 1) (tgt := 40) dX1_tell_1 (by rw [e]; decide) (by rw [e]; decide) (by rw [e]; rfl) (by decide) ?_
    refine PW.aload_n (pc := 40) dX1_tell_40 rfl ?_
    refine gf_X1_21 (pc := 41) dX1_tell_41 ?_
    refine PW.iload_n (pc := 44) dX1_tell_44 rfl ?_
    refine PW.ialdN (pc := 45) rfl rfl (by omega) (by decide) dX1_tell_45 ?_
    refine PW.iret (pc := 46) hY ?_ dX1_tell_46
    exact x_ri ⟨rfl, rfl⟩
  · refine PW.tswIn (pc := 1) (tgt := 47) dX1_tell_1 (by rw [e]; decide) (by rw [e]; decide) (by rw [e]; rfl) (by decide) ?_
    refine PW.aload_n (pc := 47) dX1_tell_47 rfl ?_
    refine gf_X1_9 (pc := 48) dX1_tell_48 ?_
    refine PW.iload_n (pc := 51) dX1_tell_51 rfl ?_
    refine PW.ialdN (pc := 52) rfl rfl (by omega) (by decide) dX1_tell_52 ?_
    refine PW.iret (pc := 53) hY ?_ dX1_tell_53
    exact x_ri ⟨rfl, rfl⟩
  · refine PW.tswIn (pc := 1) (tgt := 54) dX1_tell_1 (by rw [e]; decide) (by rw [e]; decide) (by rw [e]; rfl) (by decide) ?_
    refine PW.aload_n (pc := 54) dX1_tell_54 rfl ?_
    refine gf_X1_15 (pc := 55) dX1_tell_55 ?_
    refine PW.iload_n (pc := 58) dX1_tell_58 rfl ?_
    refine PW.ialdN (pc := 59) rfl rfl (by omega) (by decide) dX1_tell_59 ?_
    refine PW.iret (pc := 60) hY ?_ dX1_tell_60
    exact x_ri ⟨rfl, rfl⟩
  · refine PW.tswIn (pc := 1) (tgt := 61) dX1_tell_1 (by rw [e]; decide) (by rw [e]; decide) (by rw [e]; rfl) (by decide) ?_
    refine PW.aload_n (pc := 61) dX1_tell_61 rfl ?_
    refine gf_X1_18 (pc := 62) dX1_tell_62 ?_
    refine PW.iload_n (pc := 65) dX1_tell_65 rfl ?_
    refine PW.ialdN (pc := 66) rfl rfl (by omega) (by decide) dX1_tell_66 ?_
    refine PW.iret (pc := 67) hY ?_ dX1_tell_67
    exact x_ri ⟨rfl, rfl⟩
  · refine PW.tswIn (pc := 1) (tgt := 68) dX1_tell_1 (by rw [e]; decide) (by rw [e]; decide) (by rw [e]; rfl) (by decide) ?_
    refine PW.aload_n (pc := 68) dX1_tell_68 rfl ?_
    refine gf_X1_24 (pc := 69) dX1_tell_69 ?_
    refine PW.iload_n (pc := 72) dX1_tell_72 rfl ?_
    refine PW.ialdN (pc := 73) rfl rfl (by omega) (by decide) dX1_tell_73 ?_
    refine PW.iret (pc := 74) hY ?_ dX1_tell_74
    exact x_ri ⟨rfl, rfl⟩
  · refine PW.tswIn (pc := 1) (tgt := 75) dX1_tell_1 (by rw [e]; decide) (by rw [e]; decide) (by rw [e]; rfl) (by decide) ?_
    refine PW.aload_n (pc := 75) dX1_tell_75 rfl ?_
    refine gf_X1_27 (pc := 76) dX1_tell_76 ?_
    refine PW.iload_n (pc := 79) dX1_tell_79 rfl ?_
    refine PW.ialdN (pc := 80) rfl rfl (by omega) (by decide) dX1_tell_80 ?_
    refine PW.iret (pc := 81) hY ?_ dX1_tell_81
    exact x_ri ⟨rfl, rfl⟩
  · refine PW.tswOut (pc := 1) (tgt := 82) dX1_tell_1 (by rw [e]; decide) (by decide) ?_
    refine PW.aload_n (pc := 82) dX1_tell_82 rfl ?_
    refine gf_X1_30 (pc := 83) dX1_tell_83 ?_
    refine PW.iload_n (pc := 86) dX1_tell_86 rfl ?_
    refine PW.ialdN (pc := 87) rfl rfl (by omega) (by decide) dX1_tell_87 ?_
    refine PW.iret (pc := 88) hY ?_ dX1_tell_88
    exact x_ri ⟨rfl, rfl⟩
set_option maxHeartbeats 4000000 in
set_option maxRecDepth 20000 in
theorem c_X2_write {g dd : Int32} {n : Nat} {M : xM} (hn : M.1 22 2 = nI n) (h6 : n ≤ 6) : K_X2_write [.ref 22, .int g, .int dd] M (xRi (fun x u => if 0 < n ∧ (g ≤ M.1 23 (n - 1) ∨ dd ≤ M.1 24 (n - 1)) then x = (-3) ∧ u = M else if n < 6 then x = nI (n + 1) ∧ u = xup (xup (xup M 23 n g) 24 n dd) 22 2 (nI (n + 1)) else x = (-4) ∧ u = M)) := by
  refine xMet.of (own := RX2) rfl (by decide) (Nat.le_of_ble_eq_true rfl) rfl (fun Y hY => ?_)
  have tail : ¬ (0 < n ∧ (g ≤ M.1 23 (n - 1) ∨ dd ≤ M.1 24 (n - 1))) → P_X2_write Y 40 [(0, .ref 22), (1, .int g), (2, .int dd)] [] M := by
    intro hno
    refine PW.aload_n (pc := 40) dX2_write_40 rfl ?_
    refine gf_X2_18 (pc := 41) dX2_write_41 ?_
    refine PW.bipush (pc := 44) (v := nI 6) dX2_write_44 (by decide) ?_
    refine PW.icmp_lt (pc := 46) (tgt := 52) dX2_write_46 (by decide) (fun c_46 => ?_) (fun c_46 => ?_)
    · rw [hn] at c_46
      have h : n < 6 := (nI_ltI (by omega) (by omega)).mp c_46
      refine PW.aload_n (pc := 52) dX2_write_52 rfl ?_
      refine gf_X2_9 (pc := 53) dX2_write_53 ?_
      refine PW.aload_n (pc := 56) dX2_write_56 rfl ?_
      refine gf_X2_18 (pc := 57) dX2_write_57 ?_
      refine PW.iload_n (pc := 60) dX2_write_60 rfl ?_
      refine PW.iastN (pc := 61) rfl hn h (by decide) dX2_write_61 ?_
      refine PW.aload_n (pc := 62) dX2_write_62 rfl ?_
      refine gf_X2_15 (pc := 63) dX2_write_63 ?_
      refine PW.aload_n (pc := 66) dX2_write_66 rfl ?_
      refine gf_X2_18 (pc := 67) dX2_write_67 ?_
      refine PW.iload_n (pc := 70) dX2_write_70 rfl ?_
      refine PW.iastN (pc := 71) rfl (by simp only [xup_1]; exact hn) h (by decide) dX2_write_71 ?_
      refine PW.aload_n (pc := 72) dX2_write_72 rfl ?_
      refine PW.dup (pc := 73) dX2_write_73 rfl ?_
      refine gf_X2_18 (pc := 74) dX2_write_74 ?_
      refine PW.iconst (pc := 77) (v := nI 1) dX2_write_77 (by decide) ?_
      refine PW.iadd (pc := 78) dX2_write_78 ?_
      refine pf_X2_18 (pc := 79) dX2_write_79 ?_
      refine PW.aload_n (pc := 82) dX2_write_82 rfl ?_
      refine gf_X2_18 (pc := 83) dX2_write_83 ?_
      refine PW.iret (pc := 86) hY ?_ dX2_write_86
      refine x_ri ?_
      rw [if_neg hno, if_pos h]
      simp only [xup_1]
      refine ⟨?_, ?_⟩
      · simp [hn, nI_add]
      · congr 1
        simp [hn, nI_add]
    · rw [hn] at c_46
      have h : ¬ n < 6 := fun q => c_46 ((nI_ltI (by omega) (by omega)).mpr q)
      refine PW.bipush (pc := 49) (v := (-4)) dX2_write_49 (by decide) ?_
      refine PW.iret (pc := 51) hY ?_ dX2_write_51
      refine x_ri ?_
      rw [if_neg hno, if_neg h]
      exact ⟨rfl, rfl⟩
  refine PW.aload_n (pc := 0) dX2_write_0 rfl ?_
  refine gf_X2_18 (pc := 1) dX2_write_1 ?_
  refine PW.if_le (pc := 4) (tgt := 40) dX2_write_4 (by decide) (fun c_4 => ?_) (fun c_4 => ?_)
  · rw [hn] at c_4
    refine PW.st rfl rfl rfl (tail (fun q => ?_))
    exact nI_nle q.1 (by omega) c_4
  · rw [hn] at c_4
    have h0 : 0 < n := by
      rcases Nat.eq_zero_or_pos n with h | h
      · subst h; exact absurd (Int32.le_refl _) c_4
      · exact h
    have hi : M.1 22 2 - nI 1 = nI (n - 1) := by rw [hn, pk_sub h0]
    refine PW.iload_n (pc := 7) dX2_write_7 rfl ?_
    refine PW.aload_n (pc := 8) dX2_write_8 rfl ?_
    refine gf_X2_9 (pc := 9) dX2_write_9 ?_
    refine PW.aload_n (pc := 12) dX2_write_12 rfl ?_
    refine gf_X2_18 (pc := 13) dX2_write_13 ?_
    refine PW.iconst (pc := 16) (v := nI 1) dX2_write_16 (by decide) ?_
    refine PW.isub (pc := 17) dX2_write_17 ?_
    refine PW.ialdN (pc := 18) rfl hi (by omega) (by decide) dX2_write_18 ?_
    refine PW.icmp_le (pc := 19) (tgt := 37) dX2_write_19 (by decide) (fun c_19 => ?_) (fun c_19 => ?_)
    · refine PW.bipush (pc := 37) (v := (-3)) dX2_write_37 (by decide) ?_
      refine PW.iret (pc := 39) hY ?_ dX2_write_39
      refine x_ri ?_
      rw [if_pos ⟨h0, Or.inl c_19⟩]
      exact ⟨rfl, rfl⟩
    · refine PW.iload_n (pc := 22) dX2_write_22 rfl ?_
      refine PW.aload_n (pc := 23) dX2_write_23 rfl ?_
      refine gf_X2_15 (pc := 24) dX2_write_24 ?_
      refine PW.aload_n (pc := 27) dX2_write_27 rfl ?_
      refine gf_X2_18 (pc := 28) dX2_write_28 ?_
      refine PW.iconst (pc := 31) (v := nI 1) dX2_write_31 (by decide) ?_
      refine PW.isub (pc := 32) dX2_write_32 ?_
      refine PW.ialdN (pc := 33) rfl hi (by omega) (by decide) dX2_write_33 ?_
      refine PW.icmp_gt (pc := 34) (tgt := 40) dX2_write_34 (by decide) (fun c_34 => ?_) (fun c_34 => ?_)
      · exact PW.st rfl rfl rfl (tail (fun q => q.2.elim c_19 (x_nl c_34)))
      · refine PW.bipush (pc := 37) (v := (-3)) dX2_write_37 (by decide) ?_
        refine PW.iret (pc := 39) hY ?_ dX2_write_39
        refine x_ri ?_
        rw [if_pos ⟨h0, Or.inr (x_ge c_34)⟩]
        exact ⟨rfl, rfl⟩
