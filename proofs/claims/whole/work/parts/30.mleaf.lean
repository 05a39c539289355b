/-! the reference: its data seen as the class's places (mv); leaves -/
def mvP : Nat → Nat
  | 2 => 33
  | 3 => 34
  | 4 => 35
  | 5 => 36
  | 6 => 37
  | 7 => 38
  | 9 => 39
  | 10 => 40
  | 11 => 41
  | 12 => 42
  | 13 => 45
  | 14 => 46
  | 15 => 47
  | 16 => 43
  | 17 => 44
  | 19 => 48
  | 23 => 49
  | 24 => 50
  | 31 => 51
  | _ => 99
def mv (M : xM) : xM := (fun p => if p = 8 then (fun j => if j = 9 then M.1 32 6 else nI 0) else if p = 22 then (fun j => if j = 2 then M.1 32 18 else nI 0) else M.1 (mvP p), M.2)
theorem x_cell (f k : Nat) : nI 6 * nI f + nI k = nI (f * 6 + k) := by rw [pk_mul, nI_add, Nat.mul_comm]
theorem x_use (f d k : Nat) : nI 396 * nI f + nI 6 * nI d + nI k = nI (396 * f + 6 * d + k) := by rw [pk_mul, pk_mul, nI_add, nI_add]
set_option maxHeartbeats 4000000 in
set_option maxRecDepth 20000 in
theorem c_X7_in {v a b : Int32} {M : xM} : K_X7_in [.int v, .int a, .int b] M (xRi (fun x u => x = xB (inr v a b) ∧ u = M)) := by
  refine xMet.of (own := RX7) rfl (by decide) (Nat.le_of_ble_eq_true rfl) rfl (fun Y hY => ?_)
  refine PW.iload_n (pc := 0) dX7_in_0 rfl ?_
  refine PW.iload_n (pc := 1) dX7_in_1 rfl ?_
  refine PW.icmp_lt (pc := 2) (tgt := 14) dX7_in_2 (by decide) (fun c_2 => ?_) (fun c_2 => ?_)
  · refine PW.iconst (pc := 14) (v := nI 0) dX7_in_14 (by decide) ?_
    refine PW.zret (pc := 15) hY (by decide) ?_ dX7_in_15
    exact x_zf (fun h => x_ng h.1 c_2)
  · refine PW.iload_n (pc := 5) dX7_in_5 rfl ?_
    refine PW.iload_n (pc := 6) dX7_in_6 rfl ?_
    refine PW.icmp_gt (pc := 7) (tgt := 14) dX7_in_7 (by decide) (fun c_7 => ?_) (fun c_7 => ?_)
    · refine PW.iconst (pc := 14) (v := nI 0) dX7_in_14 (by decide) ?_
      refine PW.zret (pc := 15) hY (by decide) ?_ dX7_in_15
      exact x_zf (fun h => x_ng h.2 c_7)
    · refine PW.iconst (pc := 10) (v := nI 1) dX7_in_10 (by decide) ?_
      refine PW.goto (pc := 11) (tgt := 15) dX7_in_11 (by decide) ?_
      refine PW.zret (pc := 15) hY (by decide) ?_ dX7_in_15
      exact x_zt ⟨x_ge c_2, x_ge c_7⟩
theorem isT_iff {k : Int32} : inr k (nI 0) (nI 5) ↔ isT k := by
  have e5 : (nI 5).toInt = 5 := rfl
  have e6 : (nI 6).toInt = 6 := rfl
  unfold inr isT
  rw [Int32.le_iff_toInt_le, Int32.le_iff_toInt_le, Int32.lt_iff_toInt_lt, Int32.le_iff_toInt_le, e5, e6]
  have e0 : (nI 0).toInt = 0 := rfl
  have e00 : (0 : Int32).toInt = 0 := rfl
  rw [e0, e00]
  omega
theorem okF_iff {f : Int32} {n : Nat} (h : n ≤ 10) : inr f (nI 0) (nI n - nI 1) ↔ okF f n := by
  have e : (nI n - nI 1).toInt = (n : Int) - 1 := pk_sub_toInt (by omega) (by omega)
  have en : (nI n).toInt = (n : Int) := nI_toInt (by omega)
  unfold inr okF
  rw [Int32.le_iff_toInt_le, Int32.le_iff_toInt_le, Int32.lt_iff_toInt_lt, Int32.le_iff_toInt_le, e, en]
  have e0 : (nI 0).toInt = 0 := rfl
  have e00 : (0 : Int32).toInt = 0 := rfl
  rw [e0, e00]
  omega
theorem okS_iff {s : Int32} {n : Nat} (h : n ≤ 10) : inr s (nI 0) (nI (2 ^ n) - nI 1) ↔ okS s n := by
  have hp : 2 ^ n ≤ 1024 := Nat.pow_le_pow_right (show 0 < 2 by omega) h
  have e : (nI (2 ^ n) - nI 1).toInt = ((2 ^ n : Nat) : Int) - 1 := pk_sub_toInt (by omega) (by omega)
  have en : (nI (2 ^ n)).toInt = ((2 ^ n : Nat) : Int) := nI_toInt (by omega)
  unfold inr okS
  rw [Int32.le_iff_toInt_le, Int32.le_iff_toInt_le, Int32.lt_iff_toInt_lt, Int32.le_iff_toInt_le, e, en]
  have e0 : (nI 0).toInt = 0 := rfl
  have e00 : (0 : Int32).toInt = 0 := rfl
  rw [e0, e00]
  omega
theorem x_zx {P Q : Prop} [Decidable P] [Decidable Q] {M : xM} (h : P ↔ Q) : xRi (fun x u => x = xB Q ∧ u = M) (some (.int (xB P))) M := ⟨_, rfl, xB_iff h, rfl⟩
set_option maxHeartbeats 4000000 in
set_option maxRecDepth 20000 in
theorem c_X7_isThing {k : Int32} {M : xM} : K_X7_isThing [.int k] M (xRi (fun x u => x = xB (isT k) ∧ u = M)) := by
  refine xMet.of (own := RX7) rfl (by decide) (Nat.le_of_ble_eq_true rfl) rfl (fun Y hY => ?_)
  refine PW.iload_n (pc := 0) dX7_isThing_0 rfl ?_
  refine PW.iconst (pc := 1) (v := nI 0) dX7_isThing_1 (by decide) ?_
  refine PW.iconst (pc := 2) (v := nI 5) dX7_isThing_2 (by decide) ?_
  refine cs_X7_83 (pc := 3) hY.rm (c_X7_in) ⟨Nat.le_of_ble_eq_true rfl, Nat.le_of_ble_eq_true rfl⟩ dX7_isThing_3 (Nat.le_of_ble_eq_true rfl) (fun x_3 u_3 h_3 => ?_)
  obtain ⟨rfl, hu_3⟩ := h_3
  replace hu_3 := hu_3.symm
  subst hu_3
  refine PW.zret (pc := 6) hY xB_01 ?_ dX7_isThing_6
  exact x_zx isT_iff
set_option maxHeartbeats 4000000 in
set_option maxRecDepth 20000 in
theorem c_X7_isField {f : Int32} {n : Nat} {M : xM} (hn : M.1 32 6 = nI n) (h10 : n ≤ 10) : K_X7_isField [.ref 32, .int f] M (xRi (fun x u => x = xB (okF f n) ∧ u = M)) := by
  refine xMet.of (own := RX7) rfl (by decide) (Nat.le_of_ble_eq_true rfl) rfl (fun Y hY => ?_)
  refine PW.iload_n (pc := 0) dX7_isField_0 rfl ?_
  refine PW.iconst (pc := 1) (v := nI 0) dX7_isField_1 (by decide) ?_
  refine PW.aload_n (pc := 2) dX7_isField_2 rfl ?_
  refine gf_X7_87 (pc := 3) dX7_isField_3 ?_
  refine PW.iconst (pc := 6) (v := nI 1) dX7_isField_6 (by decide) ?_
  refine PW.isub (pc := 7) dX7_isField_7 ?_
  rw [hn]
  refine cs_X7_83 (pc := 8) hY.rm (c_X7_in) ⟨Nat.le_of_ble_eq_true rfl, Nat.le_of_ble_eq_true rfl⟩ dX7_isField_8 (Nat.le_of_ble_eq_true rfl) (fun x_8 u_8 h_8 => ?_)
  obtain ⟨rfl, hu_8⟩ := h_8
  replace hu_8 := hu_8.symm
  subst hu_8
  refine PW.zret (pc := 11) hY xB_01 ?_ dX7_isField_11
  exact x_zx (okF_iff h10)
set_option maxHeartbeats 4000000 in
set_option maxRecDepth 20000 in
theorem c_X7_isDay {d : Int32} {M : xM} : K_X7_isDay [.int d] M (xRi (fun x u => x = xB (inr d (nI 0) (nI 60)) ∧ u = M)) := by
  refine xMet.of (own := RX7) rfl (by decide) (Nat.le_of_ble_eq_true rfl) rfl (fun Y hY => ?_)
  refine PW.iload_n (pc := 0) dX7_isDay_0 rfl ?_
  refine PW.iconst (pc := 1) (v := nI 0) dX7_isDay_1 (by decide) ?_
  refine PW.bipush (pc := 2) (v := nI 60) dX7_isDay_2 (by decide) ?_
  refine cs_X7_83 (pc := 4) hY.rm (c_X7_in) ⟨Nat.le_of_ble_eq_true rfl, Nat.le_of_ble_eq_true rfl⟩ dX7_isDay_4 (Nat.le_of_ble_eq_true rfl) (fun x_4 u_4 h_4 => ?_)
  obtain ⟨rfl, hu_4⟩ := h_4
  replace hu_4 := hu_4.symm
  subst hu_4
  refine PW.zret (pc := 7) hY xB_01 ?_ dX7_isDay_7
  exact x_zx Iff.rfl
set_option maxHeartbeats 4000000 in
set_option maxRecDepth 20000 in
theorem c_X7_isSet {s : Int32} {n : Nat} {M : xM} (hn : M.1 32 6 = nI n) (h10 : n ≤ 10) : K_X7_isSet [.ref 32, .int s] M (xRi (fun x u => x = xB (okS s n) ∧ u = M)) := by
  refine xMet.of (own := RX7) rfl (by decide) (Nat.le_of_ble_eq_true rfl) rfl (fun Y hY => ?_)
  refine PW.iload_n (pc := 0) dX7_isSet_0 rfl ?_
  refine PW.iconst (pc := 1) (v := nI 0) dX7_isSet_1 (by decide) ?_
  refine PW.iconst (pc := 2) (v := nI 1) dX7_isSet_2 (by decide) ?_
  refine PW.aload_n (pc := 3) dX7_isSet_3 rfl ?_
  refine gf_X7_87 (pc := 4) dX7_isSet_4 ?_
  refine PW.ishl (pc := 7) dX7_isSet_7 ?_
  rw [hn, x_shl1 (by omega)]
  refine PW.iconst (pc := 8) (v := nI 1) dX7_isSet_8 (by decide) ?_
  refine PW.isub (pc := 9) dX7_isSet_9 ?_
  refine cs_X7_83 (pc := 10) hY.rm (c_X7_in) ⟨Nat.le_of_ble_eq_true rfl, Nat.le_of_ble_eq_true rfl⟩ dX7_isSet_10 (Nat.le_of_ble_eq_true rfl) (fun x_10 u_10 h_10 => ?_)
  obtain ⟨rfl, hu_10⟩ := h_10
  replace hu_10 := hu_10.symm
  subst hu_10
  refine PW.zret (pc := 13) hY xB_01 ?_ dX7_isSet_13
  exact x_zx (okS_iff h10)
set_option maxHeartbeats 4000000 in
set_option maxRecDepth 20000 in
theorem c_X7_isGuests {g : Int32} {M : xM} : K_X7_isGuests [.int g] M (xRi (fun x u => x = xB (inr g (nI 1) (nI 5000)) ∧ u = M)) := by
  refine xMet.of (own := RX7) rfl (by decide) (Nat.le_of_ble_eq_true rfl) rfl (fun Y hY => ?_)
  refine PW.iload_n (pc := 0) dX7_isGuests_0 rfl ?_
  refine PW.iconst (pc := 1) (v := nI 1) dX7_isGuests_1 (by decide) ?_
  refine PW.sipush (pc := 2) (v := nI 5000) dX7_isGuests_2 (by decide) ?_
  refine cs_X7_83 (pc := 5) hY.rm (c_X7_in) ⟨Nat.le_of_ble_eq_true rfl, Nat.le_of_ble_eq_true rfl⟩ dX7_isGuests_5 (Nat.le_of_ble_eq_true rfl) (fun x_5 u_5 h_5 => ?_)
  obtain ⟨rfl, hu_5⟩ := h_5
  replace hu_5 := hu_5.symm
  subst hu_5
  refine PW.zret (pc := 8) hY xB_01 ?_ dX7_isGuests_8
  exact x_zx Iff.rfl
set_option maxHeartbeats 4000000 in
set_option maxRecDepth 20000 in
theorem c_X7_all {w : Int32} {n : Nat} {M : xM} (hn : M.1 32 6 = nI n) (h10 : n ≤ 10) : K_X7_all [.ref 32, .int w] M (xRi (fun x u => x = nI (xset (M.1 42) w n) ∧ u = M)) := by
  refine xMet.of (own := RX7) rfl (by decide) (Nat.le_of_ble_eq_true rfl) rfl (fun Y hY => ?_)
  refine x_loop (n := n) (P := fun f => P_X7_all Y 4 [(0, .ref 32), (1, .int w), (2, .int (nI (xset (M.1 42) w f))), (3, .int (nI f))] [] M) (fun h => ?_) ?_ (fun f hf ih => ?_)
  · refine PW.iconst (pc := 0) (v := nI 0) dX7_all_0 (by decide) ?_
    refine PW.istore_n (pc := 1) (i := 2) dX7_all_1 rfl (by decide) rfl ?_
    refine PW.iconst (pc := 2) (v := nI 0) dX7_all_2 (by decide) ?_
    refine PW.istore_n (pc := 3) (i := 3) dX7_all_3 rfl (by decide) rfl ?_
    exact PW.st rfl rfl rfl h
  · refine PW.iload_n (pc := 4) dX7_all_4 rfl ?_
    refine PW.aload_n (pc := 5) dX7_all_5 rfl ?_
    refine gf_X7_87 (pc := 6) dX7_all_6 ?_
    refine PW.icmp_ge (pc := 9) (tgt := 38) dX7_all_9 (by decide) (fun _ => ?_) (fun c => absurd ((by rw [hn]; exact nI_le (Nat.le_refl _) (by omega))) c)
    refine PW.iload_n (pc := 38) dX7_all_38 rfl ?_
    refine PW.iret (pc := 39) hY ?_ dX7_all_39
    exact x_ri ⟨rfl, rfl⟩
  · refine PW.iload_n (pc := 4) dX7_all_4 rfl ?_
    refine PW.aload_n (pc := 5) dX7_all_5 rfl ?_
    refine gf_X7_87 (pc := 6) dX7_all_6 ?_
    refine PW.icmp_ge (pc := 9) (tgt := 38) dX7_all_9 (by decide) (fun c => absurd c ((by rw [hn]; exact nI_ge hf (by omega)))) (fun _ => ?_)
    refine PW.iload_n (pc := 12) dX7_all_12 rfl ?_
    refine PW.aload_n (pc := 13) dX7_all_13 rfl ?_
    refine gf_X7_37 (pc := 14) dX7_all_14 ?_
    refine PW.iload_n (pc := 17) dX7_all_17 rfl ?_
    refine PW.ialdN (pc := 18) rfl rfl (by omega) (by decide) dX7_all_18 ?_
    refine PW.iload_n (pc := 19) dX7_all_19 rfl ?_
    refine PW.icmp_ne (pc := 20) (tgt := 29) dX7_all_20 (by decide) (fun c_20 => ?_) (fun c_20 => ?_)
    · refine PW.iconst (pc := 29) (v := nI 0) dX7_all_29 (by decide) ?_
      refine PW.ior (pc := 30) dX7_all_30 ?_
      rw [fa_or]
      refine PW.istore_n (pc := 31) (i := 2) dX7_all_31 rfl (by decide) rfl ?_
      refine PW.iinc (pc := 32) dX7_all_32 rfl (x_inc1 _) (by decide) rfl ?_
      refine PW.goto (pc := 35) (tgt := 4) dX7_all_35 (by decide) ?_
      refine PW.st rfl rfl ?_ ih
      have e : xset (M.1 42) w (f + 1) = xset (M.1 42) w f ||| 0 := by simp [xset, bset, c_20]
      rw [e]; rfl
    · refine PW.iconst (pc := 23) (v := nI 1) dX7_all_23 (by decide) ?_
      refine PW.iload_n (pc := 24) dX7_all_24 rfl ?_
      refine PW.ishl (pc := 25) dX7_all_25 ?_
      rw [x_shl1 (by omega)]
      refine PW.goto (pc := 26) (tgt := 30) dX7_all_26 (by decide) ?_
      refine PW.ior (pc := 30) dX7_all_30 ?_
      rw [fa_or]
      refine PW.istore_n (pc := 31) (i := 2) dX7_all_31 rfl (by decide) rfl ?_
      refine PW.iinc (pc := 32) dX7_all_32 rfl (x_inc1 _) (by decide) rfl ?_
      refine PW.goto (pc := 35) (tgt := 4) dX7_all_35 (by decide) ?_
      refine PW.st rfl rfl ?_ ih
      have e : xset (M.1 42) w (f + 1) = xset (M.1 42) w f ||| 2 ^ f := by simp [xset, bset, c_20]
      rw [e]; rfl
set_option maxHeartbeats 4000000 in
set_option maxRecDepth 20000 in
theorem c_X7_prices {s n : Nat} {M : xM} (hn : M.1 32 6 = nI n) (h10 : n ≤ 10) (h : s < 2 ^ 31) : K_X7_prices [.ref 32, .int (nI s)] M (xRi (fun x u => x = prs (M.1 41) s n ∧ u = M)) := by
  refine xMet.of (own := RX7) rfl (by decide) (Nat.le_of_ble_eq_true rfl) rfl (fun Y hY => ?_)
  refine x_loop (n := n) (P := fun f => P_X7_prices Y 4 [(0, .ref 32), (1, .int (nI s)), (2, .int (prs (M.1 41) s f)), (3, .int (nI f))] [] M) (fun h => ?_) ?_ (fun f hf ih => ?_)
  · refine PW.iconst (pc := 0) (v := nI 0) dX7_prices_0 (by decide) ?_
    refine PW.istore_n (pc := 1) (i := 2) dX7_prices_1 rfl (by decide) rfl ?_
    refine PW.iconst (pc := 2) (v := nI 0) dX7_prices_2 (by decide) ?_
    refine PW.istore_n (pc := 3) (i := 3) dX7_prices_3 rfl (by decide) rfl ?_
    exact PW.st rfl rfl rfl h
  · refine PW.iload_n (pc := 4) dX7_prices_4 rfl ?_
    refine PW.aload_n (pc := 5) dX7_prices_5 rfl ?_
    refine gf_X7_87 (pc := 6) dX7_prices_6 ?_
    refine PW.icmp_ge (pc := 9) (tgt := 40) dX7_prices_9 (by decide) (fun _ => ?_) (fun c => absurd ((by rw [hn]; exact nI_le (Nat.le_refl _) (by omega))) c)
    refine PW.iload_n (pc := 40) dX7_prices_40 rfl ?_
    refine PW.iret (pc := 41) hY ?_ dX7_prices_41
    exact x_ri ⟨rfl, rfl⟩
  · refine PW.iload_n (pc := 4) dX7_prices_4 rfl ?_
    refine PW.aload_n (pc := 5) dX7_prices_5 rfl ?_
    refine gf_X7_87 (pc := 6) dX7_prices_6 ?_
    refine PW.icmp_ge (pc := 9) (tgt := 40) dX7_prices_9 (by decide) (fun c => absurd c ((by rw [hn]; exact nI_ge hf (by omega)))) (fun _ => ?_)
    refine PW.iload_n (pc := 12) dX7_prices_12 rfl ?_
    refine PW.iload_n (pc := 13) dX7_prices_13 rfl ?_
    refine PW.iload_n (pc := 14) dX7_prices_14 rfl ?_
    refine PW.ishr (pc := 15) dX7_prices_15 ?_
    refine PW.iconst (pc := 16) (v := nI 1) dX7_prices_16 (by decide) ?_
    refine PW.iand (pc := 17) dX7_prices_17 ?_
    refine PW.iconst (pc := 18) (v := nI 1) dX7_prices_18 (by decide) ?_
    refine PW.icmp_ne (pc := 19) (tgt := 31) dX7_prices_19 (by decide) (fun c_19 => ?_) (fun c_19 => ?_)
    · rw [x_bit h (by omega)] at c_19
      refine PW.iconst (pc := 31) (v := nI 0) dX7_prices_31 (by decide) ?_
      refine PW.iadd (pc := 32) dX7_prices_32 ?_
      rw [show nI 0 = 0 from rfl, Int32.add_zero]
      refine PW.istore_n (pc := 33) (i := 2) dX7_prices_33 rfl (by decide) rfl ?_
      refine PW.iinc (pc := 34) dX7_prices_34 rfl (x_inc1 _) (by decide) rfl ?_
      refine PW.goto (pc := 37) (tgt := 4) dX7_prices_37 (by decide) ?_
      refine PW.st rfl rfl ?_ ih
      rw [prs, if_neg c_19]; rfl
    · rw [x_bit h (by omega)] at c_19
      refine PW.aload_n (pc := 22) dX7_prices_22 rfl ?_
      refine gf_X7_34 (pc := 23) dX7_prices_23 ?_
      refine PW.iload_n (pc := 26) dX7_prices_26 rfl ?_
      refine PW.ialdN (pc := 27) rfl rfl (by omega) (by decide) dX7_prices_27 ?_
      refine PW.goto (pc := 28) (tgt := 32) dX7_prices_28 (by decide) ?_
      refine PW.iadd (pc := 32) dX7_prices_32 ?_
      refine PW.istore_n (pc := 33) (i := 2) dX7_prices_33 rfl (by decide) rfl ?_
      refine PW.iinc (pc := 34) dX7_prices_34 rfl (x_inc1 _) (by decide) rfl ?_
      refine PW.goto (pc := 37) (tgt := 4) dX7_prices_37 (by decide) ?_
      refine PW.st rfl rfl ?_ ih
      rw [prs, if_pos c_19]; rfl
theorem pcn_shift (s : Nat) : ∀ n, pcn s (n + 1) = s % 2 + pcn (s / 2) n
  | 0 => by
    simp [pcn]
    rcases Nat.mod_two_eq_zero_or_one s with h | h <;> simp [h]
  | n + 1 => by
    rw [pcn, pcn_shift s n, pcn]
    have : (s / 2).testBit n = s.testBit (n + 1) := by rw [Nat.testBit_succ]
    rw [this]
    omega
theorem pcn_zero_up {s : Nat} : ∀ (k : Nat), s < 2 ^ k → ∀ j, pcn s (k + j) = pcn s k
  | k, h, 0 => rfl
  | k, h, j + 1 => by
    rw [show k + (j + 1) = (k + j) + 1 by omega, pcn, pcn_zero_up k h j]
    have : s.testBit (k + j) = false := Nat.testBit_lt_two_pow (Nat.lt_of_lt_of_le h (Nat.pow_le_pow_right (by omega) (by omega)))
    rw [this]; simp
set_option maxHeartbeats 4000000 in
set_option maxRecDepth 20000 in
theorem c_X7_many {s : Nat} {M : xM} (hs : s < 1024) : K_X7_many [.int (nI s)] M (xRi (fun x u => x = nI (pcn s 10) ∧ u = M)) := by
  refine xMet.of (own := RX7) rfl (by decide) (Nat.le_of_ble_eq_true rfl) rfl (fun Y hY => ?_)
  have loop : ∀ (k v c : Nat), v < 2 ^ k → k ≤ 10 → c ≤ 10 → c + pcn v k = pcn s 10 → P_X7_many Y 4 [(0, .int (nI s)), (1, .int (nI c)), (2, .int (nI v))] [] M := by
    intro k
    induction k with
    | zero =>
      intro v c hv _ _ he
      have h0 : v = 0 := by omega
      subst h0
      refine PW.iload_n (pc := 4) dX7_many_4 rfl ?_
      refine PW.if_le (pc := 5) (tgt := 21) dX7_many_5 (by decide) (fun _ => ?_) (fun c => absurd ((Int32.le_refl _)) c)
      refine PW.iload_n (pc := 21) dX7_many_21 rfl ?_
      refine PW.iret (pc := 22) hY ?_ dX7_many_22
      refine x_ri ⟨?_, rfl⟩
      rw [← he]; rfl
    | succ k ih =>
      intro v c hv hk hc he
      have hp : 2 ^ (k + 1) ≤ 1024 := Nat.pow_le_pow_right (show 0 < 2 by omega) hk
      refine PW.iload_n (pc := 4) dX7_many_4 rfl ?_
      refine PW.if_le (pc := 5) (tgt := 21) dX7_many_5 (by decide) (fun c_5 => ?_) (fun c_5 => ?_)
      · have h0 : v = 0 := by
          rcases Nat.eq_zero_or_pos v with h | h
          · exact h
          · exact absurd c_5 (nI_nle h (by omega))
        refine PW.iload_n (pc := 21) dX7_many_21 rfl ?_
        refine PW.iret (pc := 22) hY ?_ dX7_many_22
        refine x_ri ⟨?_, rfl⟩
        rw [← he, h0, pcn_0]; rfl
      · have hsh := pcn_shift v k
        have hle := pcn_le s 10
        refine PW.iload_n (pc := 8) dX7_many_8 rfl ?_
        refine PW.iload_n (pc := 9) dX7_many_9 rfl ?_
        refine PW.iconst (pc := 10) (v := nI 1) dX7_many_10 (by decide) ?_
        refine PW.iand (pc := 11) dX7_many_11 ?_
        rw [fa_and, Nat.and_one_is_mod]
        refine PW.iadd (pc := 12) dX7_many_12 ?_
        rw [nI_add]
        refine PW.istore_n (pc := 13) (i := 1) dX7_many_13 rfl (by decide) rfl ?_
        refine PW.iload_n (pc := 14) dX7_many_14 rfl ?_
        refine PW.iconst (pc := 15) (v := nI 1) dX7_many_15 (by decide) ?_
        refine PW.ishr (pc := 16) dX7_many_16 ?_
        rw [pk_shrN (by omega) (nI 1 &&& 31) 1 (s_l 1 (by omega))]
        refine PW.istore_n (pc := 17) (i := 2) dX7_many_17 rfl (by decide) rfl ?_
        refine PW.goto (pc := 18) (tgt := 4) dX7_many_18 (by decide) ?_
        exact PW.st rfl rfl rfl (ih (v / 2 ^ 1) (c + v % 2) (by rw [Nat.pow_one]; omega) (by omega) (by rw [hsh] at he; omega) (by rw [Nat.pow_one, ← he, hsh]; omega))
  refine PW.iconst (pc := 0) (v := nI 0) dX7_many_0 (by decide) ?_
  refine PW.istore_n (pc := 1) (i := 1) dX7_many_1 rfl (by decide) rfl ?_
  refine PW.iload_n (pc := 2) dX7_many_2 rfl ?_
  refine PW.istore_n (pc := 3) (i := 2) dX7_many_3 rfl (by decide) rfl ?_
  exact PW.st rfl rfl rfl (loop 10 s 0 hs (Nat.le_refl _) (Nat.zero_le _) (by omega))
set_option maxHeartbeats 4000000 in
set_option maxRecDepth 20000 in
theorem c_X7_doorsFor {g : Int32} {n : Nat} {M : xM} (hn : M.1 32 18 = nI n) (h6 : n ≤ 6) : K_X7_doorsFor [.ref 32, .int g] M (xRi (fun x u => x = dfor (M.1 49) (M.1 50) g n ∧ u = M)) := by
  refine xMet.of (own := RX7) rfl (by decide) (Nat.le_of_ble_eq_true rfl) rfl (fun Y hY => ?_)
  refine x_loop (n := n) (P := fun f => P_X7_doorsFor Y 4 [(0, .ref 32), (1, .int g), (2, .int (dfor (M.1 49) (M.1 50) g f)), (3, .int (nI f))] [] M) (fun h => ?_) ?_ (fun f hf ih => ?_)
  · refine PW.iconst (pc := 0) (v := nI 1) dX7_doorsFor_0 (by decide) ?_
    refine PW.istore_n (pc := 1) (i := 2) dX7_doorsFor_1 rfl (by decide) rfl ?_
    refine PW.iconst (pc := 2) (v := nI 0) dX7_doorsFor_2 (by decide) ?_
    refine PW.istore_n (pc := 3) (i := 3) dX7_doorsFor_3 rfl (by decide) rfl ?_
    exact PW.st rfl rfl rfl h
  · refine PW.iload_n (pc := 4) dX7_doorsFor_4 rfl ?_
    refine PW.aload_n (pc := 5) dX7_doorsFor_5 rfl ?_
    refine gf_X7_141 (pc := 6) dX7_doorsFor_6 ?_
    refine PW.icmp_ge (pc := 9) (tgt := 39) dX7_doorsFor_9 (by decide) (fun _ => ?_) (fun c => absurd ((by rw [hn]; exact nI_le (Nat.le_refl _) (by omega))) c)
    refine PW.iload_n (pc := 39) dX7_doorsFor_39 rfl ?_
    refine PW.iret (pc := 40) hY ?_ dX7_doorsFor_40
    exact x_ri ⟨rfl, rfl⟩
  · refine PW.iload_n (pc := 4) dX7_doorsFor_4 rfl ?_
    refine PW.aload_n (pc := 5) dX7_doorsFor_5 rfl ?_
    refine gf_X7_141 (pc := 6) dX7_doorsFor_6 ?_
    refine PW.icmp_ge (pc := 9) (tgt := 39) dX7_doorsFor_9 (by decide) (fun c => absurd c ((by rw [hn]; exact nI_ge hf (by omega)))) (fun _ => ?_)
    refine PW.aload_n (pc := 12) dX7_doorsFor_12 rfl ?_
    refine gf_X7_59 (pc := 13) dX7_doorsFor_13 ?_
    refine PW.iload_n (pc := 16) dX7_doorsFor_16 rfl ?_
    refine PW.ialdN (pc := 17) rfl rfl (by omega) (by decide) dX7_doorsFor_17 ?_
    refine PW.iload_n (pc := 18) dX7_doorsFor_18 rfl ?_
    refine PW.icmp_gt (pc := 19) (tgt := 31) dX7_doorsFor_19 (by decide) (fun c_19 => ?_) (fun c_19 => ?_)
    · refine PW.iload_n (pc := 31) dX7_doorsFor_31 rfl ?_
      refine PW.istore_n (pc := 32) (i := 2) dX7_doorsFor_32 rfl (by decide) rfl ?_
      refine PW.iinc (pc := 33) dX7_doorsFor_33 rfl (x_inc1 _) (by decide) rfl ?_
      refine PW.goto (pc := 36) (tgt := 4) dX7_doorsFor_36 (by decide) ?_
      refine PW.st rfl rfl ?_ ih
      rw [dfor, if_neg (x_nl c_19)]; rfl
    · refine PW.aload_n (pc := 22) dX7_doorsFor_22 rfl ?_
      refine gf_X7_62 (pc := 23) dX7_doorsFor_23 ?_
      refine PW.iload_n (pc := 26) dX7_doorsFor_26 rfl ?_
      refine PW.ialdN (pc := 27) rfl rfl (by omega) (by decide) dX7_doorsFor_27 ?_
      refine PW.goto (pc := 28) (tgt := 32) dX7_doorsFor_28 (by decide) ?_
      refine PW.istore_n (pc := 32) (i := 2) dX7_doorsFor_32 rfl (by decide) rfl ?_
      refine PW.iinc (pc := 33) dX7_doorsFor_33 rfl (x_inc1 _) (by decide) rfl ?_
      refine PW.goto (pc := 36) (tgt := 4) dX7_doorsFor_36 (by decide) ?_
      refine PW.st rfl rfl ?_ ih
      rw [dfor, if_pos (x_ge c_19)]; rfl
set_option maxHeartbeats 4000000 in
set_option maxRecDepth 20000 in
theorem c_X7_doesBear {j : Nat} {v : Int32} {M : xM} (hC : TC (mv M)) (hj : j < 10) : K_X7_doesBear [.ref 32, .int (nI j), .int v] M (xRi (fun x u => x = xB (stP (M.1 46) (M.1 51) (M.1 45) (M.1 47) j v) ∧ u = M)) := by
  refine xMet.of (own := RX7) rfl (by decide) (Nat.le_of_ble_eq_true rfl) rfl (fun Y hY => ?_)
  obtain ⟨s1, s2⟩ := (hC.1 j hj).1
  refine PW.iload_n (pc := 0) dX7_doesBear_0 rfl ?_
  refine PW.iload_n (pc := 1) dX7_doesBear_1 rfl ?_
  refine PW.imul (pc := 2) dX7_doesBear_2 ?_
  refine PW.aload_n (pc := 3) dX7_doesBear_3 rfl ?_
  refine gf_X7_50 (pc := 4) dX7_doesBear_4 ?_
  refine PW.iload_n (pc := 7) dX7_doesBear_7 rfl ?_
  refine PW.ialdN (pc := 8) rfl rfl (by omega) (by decide) dX7_doesBear_8 ?_
  refine PW.imul (pc := 9) dX7_doesBear_9 ?_
  refine PW.aload_n (pc := 10) dX7_doesBear_10 rfl ?_
  refine gf_X7_65 (pc := 11) dX7_doesBear_11 ?_
  refine PW.aload_n (pc := 14) dX7_doesBear_14 rfl ?_
  refine gf_X7_47 (pc := 15) dX7_doesBear_15 ?_
  refine PW.iload_n (pc := 18) dX7_doesBear_18 rfl ?_
  refine PW.ialdN (pc := 19) rfl rfl (by omega) (by decide) dX7_doesBear_19 ?_
  refine PW.ialdN (pc := 20) rfl s1 (by omega) (by decide) dX7_doesBear_20 ?_
  refine PW.aload_n (pc := 21) dX7_doesBear_21 rfl ?_
  refine gf_X7_53 (pc := 22) dX7_doesBear_22 ?_
  refine PW.iload_n (pc := 25) dX7_doesBear_25 rfl ?_
  refine PW.ialdN (pc := 26) rfl rfl (by omega) (by decide) dX7_doesBear_26 ?_
  refine PW.imul (pc := 27) dX7_doesBear_27 ?_
  refine PW.icmp_gt (pc := 28) (tgt := 35) dX7_doesBear_28 (by decide) (fun c_28 => ?_) (fun c_28 => ?_)
  · refine PW.iconst (pc := 35) (v := nI 0) dX7_doesBear_35 (by decide) ?_
    refine PW.zret (pc := 36) hY (by decide) ?_ dX7_doesBear_36
    exact x_zf (x_nl c_28)
  · refine PW.iconst (pc := 31) (v := nI 1) dX7_doesBear_31 (by decide) ?_
    refine PW.goto (pc := 32) (tgt := 36) dX7_doesBear_32 (by decide) ?_
    refine PW.zret (pc := 36) hY (by decide) ?_ dX7_doesBear_36
    exact x_zt (x_ge c_28)
set_option maxHeartbeats 4000000 in
set_option maxRecDepth 20000 in
theorem c_X7_isOfDay {f : Nat} {d : Int32} {M : xM} (hf : f < 10) : K_X7_isOfDay [.ref 32, .int (nI f), .int d] M (xRi (fun x u => x = xB (wkP (M.1 42) (M.1 39) (M.1 40) d f) ∧ u = M)) := by
  refine xMet.of (own := RX7) rfl (by decide) (Nat.le_of_ble_eq_true rfl) rfl (fun Y hY => ?_)
  refine PW.aload_n (pc := 0) dX7_isOfDay_0 rfl ?_
  refine gf_X7_37 (pc := 1) dX7_isOfDay_1 ?_
  refine PW.iload_n (pc := 4) dX7_isOfDay_4 rfl ?_
  refine PW.ialdN (pc := 5) rfl rfl (by omega) (by decide) dX7_isOfDay_5 ?_
  refine PW.iconst (pc := 6) (v := nI 1) dX7_isOfDay_6 (by decide) ?_
  refine PW.icmp_ne (pc := 7) (tgt := 34) dX7_isOfDay_7 (by decide) (fun c_7 => ?_) (fun c_7 => ?_)
  · refine PW.iconst (pc := 34) (v := nI 0) dX7_isOfDay_34 (by decide) ?_
    refine PW.zret (pc := 35) hY (by decide) ?_ dX7_isOfDay_35
    exact x_zf (fun h => c_7 h.1)
  · refine PW.aload_n (pc := 10) dX7_isOfDay_10 rfl ?_
    refine gf_X7_28 (pc := 11) dX7_isOfDay_11 ?_
    refine PW.iload_n (pc := 14) dX7_isOfDay_14 rfl ?_
    refine PW.ialdN (pc := 15) rfl rfl (by omega) (by decide) dX7_isOfDay_15 ?_
    refine PW.iload_n (pc := 16) dX7_isOfDay_16 rfl ?_
    refine PW.icmp_eq (pc := 17) (tgt := 30) dX7_isOfDay_17 (by decide) (fun c_17 => ?_) (fun c_17 => ?_)
    · refine PW.iconst (pc := 30) (v := nI 1) dX7_isOfDay_30 (by decide) ?_
      refine PW.goto (pc := 31) (tgt := 35) dX7_isOfDay_31 (by decide) ?_
      refine PW.zret (pc := 35) hY (by decide) ?_ dX7_isOfDay_35
      exact x_zt ⟨c_7, Or.inl c_17⟩
    · refine PW.aload_n (pc := 20) dX7_isOfDay_20 rfl ?_
      refine gf_X7_31 (pc := 21) dX7_isOfDay_21 ?_
      refine PW.iload_n (pc := 24) dX7_isOfDay_24 rfl ?_
      refine PW.ialdN (pc := 25) rfl rfl (by omega) (by decide) dX7_isOfDay_25 ?_
      refine PW.iload_n (pc := 26) dX7_isOfDay_26 rfl ?_
      refine PW.icmp_ne (pc := 27) (tgt := 34) dX7_isOfDay_27 (by decide) (fun c_27 => ?_) (fun c_27 => ?_)
      · refine PW.iconst (pc := 34) (v := nI 0) dX7_isOfDay_34 (by decide) ?_
        refine PW.zret (pc := 35) hY (by decide) ?_ dX7_isOfDay_35
        exact x_zf (fun h => h.2.elim c_17 c_27)
      · refine PW.iconst (pc := 30) (v := nI 1) dX7_isOfDay_30 (by decide) ?_
        refine PW.goto (pc := 31) (tgt := 35) dX7_isOfDay_31 (by decide) ?_
        refine PW.zret (pc := 35) hY (by decide) ?_ dX7_isOfDay_35
        exact x_zt ⟨c_7, Or.inr c_27⟩
set_option maxHeartbeats 4000000 in
set_option maxRecDepth 20000 in
theorem c_X7_aboutOf {f w : Nat} {M : xM} (hf : f < 10) (hw : w ≤ 6) : K_X7_aboutOf [.ref 32, .int (nI f), .int (nI w)] M (xRi (fun x u => x = tellv (mv M) f w ∧ u = M)) := by
  refine xMet.of (own := RX7) rfl (by decide) (Nat.le_of_ble_eq_true rfl) rfl (fun Y hY => ?_)
  refine PW.iload_n (pc := 0) dX7_aboutOf_0 rfl ?_
  have e : (nI w).toInt = (w : Int) := nI_toInt (by omega)
  rcases (show w = 0 ∨ w = 1 ∨ w = 2 ∨ w = 3 ∨ w = 4 ∨ w = 5 ∨ w = 6 by omega) with rfl | rfl | rfl | rfl | rfl | rfl | rfl
  · refine PW.tswIn (pc := 1) (tgt := 40) dX7_aboutOf_1 (by rw [e]; decide) (by rw [e]; decide) (by rw [e]; rfl) (by decide) ?_
    refine PW.aload_n (pc := 40) dX7_aboutOf_40 rfl ?_
    refine gf_X7_37 (pc := 41) dX7_aboutOf_41 ?_
    refine PW.iload_n (pc := 44) dX7_aboutOf_44 rfl ?_
    refine PW.ialdN (pc := 45) rfl rfl (by omega) (by decide) dX7_aboutOf_45 ?_
    refine PW.iret (pc := 46) hY ?_ dX7_aboutOf_46
    exact x_ri ⟨rfl, rfl⟩
  · refine PW.tswIn (pc := 1) (tgt := 47) dX7_aboutOf_1 (by rw [e]; decide) (by rw [e]; decide) (by rw [e]; rfl) (by decide) ?_
    refine PW.aload_n (pc := 47) dX7_aboutOf_47 rfl ?_
    refine gf_X7_28 (pc := 48) dX7_aboutOf_48 ?_
    refine PW.iload_n (pc := 51) dX7_aboutOf_51 rfl ?_
    refine PW.ialdN (pc := 52) rfl rfl (by omega) (by decide) dX7_aboutOf_52 ?_
    refine PW.iret (pc := 53) hY ?_ dX7_aboutOf_53
    exact x_ri ⟨rfl, rfl⟩
  · refine PW.tswIn (pc := 1) (tgt := 54) dX7_aboutOf_1 (by rw [e]; decide) (by rw [e]; decide) (by rw [e]; rfl) (by decide) ?_
    refine PW.aload_n (pc := 54) dX7_aboutOf_54 rfl ?_
    refine gf_X7_31 (pc := 55) dX7_aboutOf_55 ?_
    refine PW.iload_n (pc := 58) dX7_aboutOf_58 rfl ?_
    refine PW.ialdN (pc := 59) rfl rfl (by omega) (by decide) dX7_aboutOf_59 ?_
    refine PW.iret (pc := 60) hY ?_ dX7_aboutOf_60
    exact x_ri ⟨rfl, rfl⟩
  · refine PW.tswIn (pc := 1) (tgt := 61) dX7_aboutOf_1 (by rw [e]; decide) (by rw [e]; decide) (by rw [e]; rfl) (by decide) ?_
    refine PW.aload_n (pc := 61) dX7_aboutOf_61 rfl ?_
    refine gf_X7_34 (pc := 62) dX7_aboutOf_62 ?_
    refine PW.iload_n (pc := 65) dX7_aboutOf_65 rfl ?_
    refine PW.ialdN (pc := 66) rfl rfl (by omega) (by decide) dX7_aboutOf_66 ?_
    refine PW.iret (pc := 67) hY ?_ dX7_aboutOf_67
    exact x_ri ⟨rfl, rfl⟩
  · refine PW.tswIn (pc := 1) (tgt := 68) dX7_aboutOf_1 (by rw [e]; decide) (by rw [e]; decide) (by rw [e]; rfl) (by decide) ?_
    refine PW.aload_n (pc := 68) dX7_aboutOf_68 rfl ?_
    refine gf_X7_47 (pc := 69) dX7_aboutOf_69 ?_
    refine PW.iload_n (pc := 72) dX7_aboutOf_72 rfl ?_
    refine PW.ialdN (pc := 73) rfl rfl (by omega) (by decide) dX7_aboutOf_73 ?_
    refine PW.iret (pc := 74) hY ?_ dX7_aboutOf_74
    exact x_ri ⟨rfl, rfl⟩
  · refine PW.tswIn (pc := 1) (tgt := 75) dX7_aboutOf_1 (by rw [e]; decide) (by rw [e]; decide) (by rw [e]; rfl) (by decide) ?_
    refine PW.aload_n (pc := 75) dX7_aboutOf_75 rfl ?_
    refine gf_X7_50 (pc := 76) dX7_aboutOf_76 ?_
    refine PW.iload_n (pc := 79) dX7_aboutOf_79 rfl ?_
    refine PW.ialdN (pc := 80) rfl rfl (by omega) (by decide) dX7_aboutOf_80 ?_
    refine PW.iret (pc := 81) hY ?_ dX7_aboutOf_81
    exact x_ri ⟨rfl, rfl⟩
  · refine PW.tswOut (pc := 1) (tgt := 82) dX7_aboutOf_1 (by rw [e]; decide) (by decide) ?_
    refine PW.aload_n (pc := 82) dX7_aboutOf_82 rfl ?_
    refine gf_X7_53 (pc := 83) dX7_aboutOf_83 ?_
    refine PW.iload_n (pc := 86) dX7_aboutOf_86 rfl ?_
    refine PW.ialdN (pc := 87) rfl rfl (by omega) (by decide) dX7_aboutOf_87 ?_
    refine PW.iret (pc := 88) hY ?_ dX7_aboutOf_88
    exact x_ri ⟨rfl, rfl⟩
/-! what is used, what lacks -/
def xFu (M u : xM) : Prop := ∀ q, q ≠ 52 → u.1 q = M.1 q
def UR (u M : xM) (n : Nat) : Prop := ∀ f d k, f < n → d < 66 → k < 6 → u.1 52 (396 * f + 6 * d + k) = nI (us (mv M) f k d)
theorem mv_fr {M u : xM} (h : ∀ q, q ∈ [32, 33, 34, 35, 36, 37, 38, 39, 40, 41, 42, 43, 44, 45, 46, 47, 48, 49, 50, 51, 99] → u.1 q = M.1 q) : (mv u).1 = (mv M).1 := by
  funext p
  unfold mv
  simp only
  rw [h 32 (by decide)]
  split
  · rfl
  · split
    · rfl
    · have : mvP p ∈ [32, 33, 34, 35, 36, 37, 38, 39, 40, 41, 42, 43, 44, 45, 46, 47, 48, 49, 50, 51, 99] := by
        unfold mvP
        split <;> decide
      exact h _ this
theorem mv_fu {M u : xM} (h : xFu M u) : (mv u).1 = (mv M).1 := mv_fr (fun q hq => h q (fun e => by subst e; revert hq; decide))
set_option maxHeartbeats 4000000 in
set_option maxRecDepth 20000 in
theorem c_X7_findUses {n : Nat} {M : xM} (hB : TB (mv M) n) : K_X7_findUses [.ref 32] M (xRv (fun u => xFu M u ∧ UR u M n)) := by
  refine xMet.of (own := RX7) rfl (by decide) (Nat.le_of_ble_eq_true rfl) rfl (fun Y hY => ?_)
  have hn : M.1 32 6 = nI n := hB.has
  have h10 := hB.n10
  refine x_loop (n := n) (P := fun f => ∀ M', xFu M M' → (∀ f' d k, f' < f → d < 66 → k < 6 → M'.1 52 (396 * f' + 6 * d + k) = nI (us (mv M) f' k d)) → P_X7_findUses Y 2 [(0, .ref 32), (1, .int (nI f))] [] M') (fun h => ?_) ?_ (fun f hf ih => ?_)
  · refine PW.iconst (pc := 0) (v := nI 0) dX7_findUses_0 (by decide) ?_
    refine PW.istore_n (pc := 1) (i := 1) dX7_findUses_1 rfl (by decide) rfl ?_
    exact PW.st rfl rfl rfl (h M (fun _ _ => rfl) (fun _ _ _ h _ _ => by omega))
  · intro M' hF hU
    refine PW.iload_n (pc := 2) dX7_findUses_2 rfl ?_
    refine PW.aload_n (pc := 3) dX7_findUses_3 rfl ?_
    refine gf_X7_87 (pc := 4) dX7_findUses_4 ?_
    refine PW.icmp_ge (pc := 7) (tgt := 148) dX7_findUses_7 (by decide) (fun _ => ?_) (fun c => absurd ((by rw [hF 32 (by decide), hn]; exact nI_le (Nat.le_refl _) (by omega))) c)
    refine PW.vret (pc := 148) hY ?_ dX7_findUses_148
    exact x_rv ⟨hF, hU⟩
  · intro M' hF hU
    have hFf := hB.2.2.1 f (by omega)
    have hla : M.1 40 f = nI (la (mv M) f) := hFf.2.1.1
    have hla60 : la (mv M) f ≤ 60 := hFf.2.1.2
    have hfi : M.1 39 f = nI (fi (mv M) f) := hFf.1.1
    have hfi60 : fi (mv M) f ≤ 60 := hFf.1.2
    refine x_loop (n := 66) (P := fun d => ∀ M', xFu M M' → (∀ f' d' k, (f' < f ∧ d' < 66 ∨ f' = f ∧ d' < d) → k < 6 → M'.1 52 (396 * f' + 6 * d' + k) = nI (us (mv M) f' k d')) → P_X7_findUses Y 12 [(0, .ref 32), (1, .int (nI f)), (2, .int (nI d))] [] M') (fun h => ?_) ?_ (fun d hd ih2 => ?_)
    · refine PW.iload_n (pc := 2) dX7_findUses_2 rfl ?_
      refine PW.aload_n (pc := 3) dX7_findUses_3 rfl ?_
      refine gf_X7_87 (pc := 4) dX7_findUses_4 ?_
      refine PW.icmp_ge (pc := 7) (tgt := 148) dX7_findUses_7 (by decide) (fun c => absurd c ((by rw [hF 32 (by decide), hn]; exact nI_ge hf (by omega)))) (fun _ => ?_)
      refine PW.iconst (pc := 10) (v := nI 0) dX7_findUses_10 (by decide) ?_
      refine PW.istore_n (pc := 11) (i := 2) dX7_findUses_11 rfl (by decide) rfl ?_
      exact PW.st rfl rfl rfl (h M' hF (fun f' d' k h hk => by
        rcases h with ⟨h1, h2⟩ | ⟨h1, h2⟩
        · exact hU f' d' k h1 h2 hk
        · omega))
    · intro M' hF hU
      refine PW.iload_n (pc := 12) dX7_findUses_12 rfl ?_
      refine PW.bipush (pc := 13) (v := nI 66) dX7_findUses_13 (by decide) ?_
      refine PW.icmp_ge (pc := 15) (tgt := 142) dX7_findUses_15 (by decide) (fun _ => ?_) (fun c => absurd ((nI_le (Nat.le_refl _) (by omega))) c)
      refine PW.iinc (pc := 142) dX7_findUses_142 rfl (x_inc1 _) (by decide) rfl ?_
      refine PW.goto (pc := 145) (tgt := 2) dX7_findUses_145 (by decide) ?_
      exact PW.st rfl rfl rfl (ih M' hF (fun f' d k h1 h2 h3 => hU f' d k (by omega) h3))
    · intro M' hF hU
      refine x_loop (n := 6) (P := fun k => ∀ M', xFu M M' → (∀ f' d' k', (f' < f ∧ d' < 66 ∧ k' < 6 ∨ f' = f ∧ d' < d ∧ k' < 6 ∨ f' = f ∧ d' = d ∧ k' < k) → M'.1 52 (396 * f' + 6 * d' + k') = nI (us (mv M) f' k' d')) → P_X7_findUses Y 20 [(0, .ref 32), (1, .int (nI f)), (2, .int (nI d)), (3, .int (nI k))] [] M') (fun h => ?_) ?_ (fun k hk ih3 => ?_)
      · refine PW.iload_n (pc := 12) dX7_findUses_12 rfl ?_
        refine PW.bipush (pc := 13) (v := nI 66) dX7_findUses_13 (by decide) ?_
        refine PW.icmp_ge (pc := 15) (tgt := 142) dX7_findUses_15 (by decide) (fun c => absurd c ((nI_ge hd (by omega)))) (fun _ => ?_)
        refine PW.iconst (pc := 18) (v := nI 0) dX7_findUses_18 (by decide) ?_
        refine PW.istore_n (pc := 19) (i := 3) dX7_findUses_19 rfl (by decide) rfl ?_
        exact PW.st rfl rfl rfl (h M' hF (fun f' d' k' h => hU f' d' k' (by omega) (by omega)))
      · intro M' hF hU
        refine PW.iload_n (pc := 20) dX7_findUses_20 rfl ?_
        refine PW.bipush (pc := 21) (v := nI 6) dX7_findUses_21 (by decide) ?_
        refine PW.icmp_ge (pc := 23) (tgt := 136) dX7_findUses_23 (by decide) (fun _ => ?_) (fun c => absurd ((nI_le (Nat.le_refl _) (by omega))) c)
        refine PW.iinc (pc := 136) dX7_findUses_136 rfl (x_inc1 _) (by decide) rfl ?_
        refine PW.goto (pc := 139) (tgt := 12) dX7_findUses_139 (by decide) ?_
        exact PW.st rfl rfl rfl (ih2 M' hF (fun f' d' k' h h2 => hU f' d' k' (by omega)))
      · intro M' hF hU
        have hdr : M.1 34 k = nI (na (M.1 34 k)) := (hB.2.2.2.1 k hk).2.1.1
        have hdr5 : na (M.1 34 k) ≤ 5 := (hB.2.2.2.1 k hk).2.1.2
        have hne : M.1 43 (f * 6 + k) = nI (ne (mv M) f k) := (hFf.2.2.2.2 k hk).1
        have e40 : M'.1 40 f = nI (la (mv M) f) := by rw [hF 40 (by decide)]; exact hla
        have e39 : M'.1 39 f = nI (fi (mv M) f) := by rw [hF 39 (by decide)]; exact hfi
        have next : ∀ v, v = nI (us (mv M) f k d) → P_X7_findUses Y 129 [(0, .ref 32), (1, .int (nI f)), (2, .int (nI d)), (3, .int (nI k))] [.int v, .int (nI 396 * nI f + nI 6 * nI d + nI k), .ref 52] M' := by
          intro v hv
          refine PW.iastN (pc := 129) rfl (x_use f d k) (by omega) (by decide) dX7_findUses_129 ?_
          refine PW.iinc (pc := 130) dX7_findUses_130 rfl (x_inc1 _) (by decide) rfl ?_
          refine PW.goto (pc := 133) (tgt := 20) dX7_findUses_133 (by decide) ?_
          refine PW.st rfl rfl rfl (ih3 _ ?_ ?_)
          · intro q hq
            funext j
            simp only [xup_1, hq, false_and, if_false]
            rw [hF q hq]
          · intro f' d' k' h
            rw [xup_1]
            by_cases e : 396 * f' + 6 * d' + k' = 396 * f + 6 * d + k
            · rw [if_pos ⟨rfl, e⟩, hv]
              have e1 : f' = f := by omega
              have e2 : d' = d := by omega
              have e3 : k' = k := by omega
              rw [e1, e2, e3]
            · rw [if_neg (fun z => e z.2)]
              exact hU f' d' k' (by omega)
        have at72 : ∀ w : Nat, (w = if ¬ M.1 48 (la (mv M) f) = 0 ∧ la (mv M) f < d ∧ d ≤ la (mv M) f + na (M.1 34 k) then 1 else 0) → P_X7_findUses Y 72 [(0, .ref 32), (1, .int (nI f)), (2, .int (nI d)), (3, .int (nI k))] [.int (nI w)] M' := by
          intro w hw
          have hus : us (mv M) f k d = if (fi (mv M) f ≤ d ∧ d ≤ la (mv M) f) ∨ (¬ M.1 48 (la (mv M) f) = 0 ∧ la (mv M) f < d ∧ d ≤ la (mv M) f + na (M.1 34 k)) then ne (mv M) f k else 0 := by
            have h1 : fi (mv M) f ≤ la (mv M) f := hFf.2.2.1
            have h2 : un (mv M) f k = la (mv M) f + (if M.1 48 (la (mv M) f) = 0 then 0 else na (M.1 34 k)) := rfl
            unfold us
            rw [h2]
            by_cases q : M.1 48 (la (mv M) f) = 0
            · rw [if_pos q]
              congr 1
              simp [q]
            · rw [if_neg q]
              congr 1
              simp only [q, not_false_iff, true_and]
              apply propext
              omega
          refine PW.istore (pc := 72) dX7_findUses_72 (by decide) rfl ?_
          refine PW.aload_n (pc := 74) dX7_findUses_74 rfl ?_
          refine gf_X7_68 (pc := 75) dX7_findUses_75 ?_
          refine PW.sipush (pc := 78) (v := nI 396) dX7_findUses_78 (by decide) ?_
          refine PW.iload_n (pc := 81) dX7_findUses_81 rfl ?_
          refine PW.imul (pc := 82) dX7_findUses_82 ?_
          refine PW.bipush (pc := 83) (v := nI 6) dX7_findUses_83 (by decide) ?_
          refine PW.iload_n (pc := 85) dX7_findUses_85 rfl ?_
          refine PW.imul (pc := 86) dX7_findUses_86 ?_
          refine PW.iadd (pc := 87) dX7_findUses_87 ?_
          refine PW.iload_n (pc := 88) dX7_findUses_88 rfl ?_
          refine PW.iadd (pc := 89) dX7_findUses_89 ?_
          refine PW.iload_n (pc := 90) dX7_findUses_90 rfl ?_
          refine PW.aload_n (pc := 91) dX7_findUses_91 rfl ?_
          refine gf_X7_28 (pc := 92) dX7_findUses_92 ?_
          refine PW.iload_n (pc := 95) dX7_findUses_95 rfl ?_
          refine PW.ialdN (pc := 96) rfl rfl (by omega) (by decide) dX7_findUses_96 ?_
          refine PW.aload_n (pc := 97) dX7_findUses_97 rfl ?_
          refine gf_X7_31 (pc := 98) dX7_findUses_98 ?_
          refine PW.iload_n (pc := 101) dX7_findUses_101 rfl ?_
          refine PW.ialdN (pc := 102) rfl rfl (by omega) (by decide) dX7_findUses_102 ?_
          rw [e39, e40]
          refine cs_X7_83 (pc := 103) hY.rm (c_X7_in) ⟨Nat.le_of_ble_eq_true rfl, Nat.le_of_ble_eq_true rfl⟩ dX7_findUses_103 (Nat.le_of_ble_eq_true rfl) (fun x_103 u_103 h_103 => ?_)
          obtain ⟨rfl, hu_103⟩ := h_103
          replace hu_103 := hu_103.symm
          subst hu_103
          have hin : inr (nI d) (nI (fi (mv M) f)) (nI (la (mv M) f)) ↔ (fi (mv M) f ≤ d ∧ d ≤ la (mv M) f) := by
            unfold inr
            rw [nI_leI (by omega) (by omega), nI_leI (by omega) (by omega)]
          have at114 : us (mv M) f k d = ne (mv M) f k → P_X7_findUses Y 114 [(0, .ref 32), (1, .int (nI f)), (2, .int (nI d)), (3, .int (nI k))] [.int (nI 396 * nI f + nI 6 * nI d + nI k), .ref 52] M' := by
            intro h
            refine PW.aload_n (pc := 114) dX7_findUses_114 rfl ?_
            refine gf_X7_40 (pc := 115) dX7_findUses_115 ?_
            refine PW.bipush (pc := 118) (v := nI 6) dX7_findUses_118 (by decide) ?_
            refine PW.iload_n (pc := 120) dX7_findUses_120 rfl ?_
            refine PW.imul (pc := 121) dX7_findUses_121 ?_
            refine PW.iload_n (pc := 122) dX7_findUses_122 rfl ?_
            refine PW.iadd (pc := 123) dX7_findUses_123 ?_
            refine PW.ialdN (pc := 124) rfl (x_cell f k) (by omega) (by decide) dX7_findUses_124 ?_
            refine PW.goto (pc := 125) (tgt := 129) dX7_findUses_125 (by decide) ?_
            refine PW.st rfl rfl rfl (next _ ?_)
            rw [hF 43 (by decide), hne, h]
          refine PW.if_ne (pc := 106) (tgt := 114) dX7_findUses_106 (by decide) (fun c_106 => ?_) (fun c_106 => ?_)
          · have h := hin.mp (bool_t c_106)
            exact PW.st rfl rfl rfl (at114 (by rw [hus, if_pos (Or.inl h)]))
          · have h := fun q => bool_f c_106 (hin.mpr q)
            refine PW.iload (pc := 109) dX7_findUses_109 rfl ?_
            refine PW.if_eq (pc := 111) (tgt := 128) dX7_findUses_111 (by decide) (fun c_111 => ?_) (fun c_111 => ?_)
            · have hw0 : ¬ (¬ M.1 48 (la (mv M) f) = 0 ∧ la (mv M) f < d ∧ d ≤ la (mv M) f + na (M.1 34 k)) := by
                intro q
                rw [if_pos q] at hw
                rw [hw] at c_111
                exact absurd c_111 (by decide)
              refine PW.iconst (pc := 128) (v := nI 0) dX7_findUses_128 (by decide) ?_
              refine PW.st rfl rfl rfl (next _ ?_)
              rw [hus, if_neg (fun q => q.elim h hw0)]
            · have hw1 : ¬ M.1 48 (la (mv M) f) = 0 ∧ la (mv M) f < d ∧ d ≤ la (mv M) f + na (M.1 34 k) := by
                refine Classical.byContradiction (fun q => ?_)
                rw [if_neg q] at hw
                rw [hw] at c_111
                exact absurd rfl c_111
              exact PW.st rfl rfl rfl (at114 (by rw [hus, if_pos (Or.inr hw1)]))
        refine PW.iload_n (pc := 20) dX7_findUses_20 rfl ?_
        refine PW.bipush (pc := 21) (v := nI 6) dX7_findUses_21 (by decide) ?_
        refine PW.icmp_ge (pc := 23) (tgt := 136) dX7_findUses_23 (by decide) (fun c => absurd c ((nI_ge hk (by omega)))) (fun _ => ?_)
        refine PW.aload_n (pc := 26) dX7_findUses_26 rfl ?_
        refine gf_X7_56 (pc := 27) dX7_findUses_27 ?_
        refine PW.aload_n (pc := 30) dX7_findUses_30 rfl ?_
        refine gf_X7_31 (pc := 31) dX7_findUses_31 ?_
        refine PW.iload_n (pc := 34) dX7_findUses_34 rfl ?_
        refine PW.ialdN (pc := 35) rfl rfl (by omega) (by decide) dX7_findUses_35 ?_
        rw [e40]
        refine PW.zaldN (pc := 36) rfl rfl (by omega) (by decide) dX7_findUses_36 ?_
        rw [hF 48 (by decide)]
        refine PW.if_eq (pc := 37) (tgt := 71) dX7_findUses_37 (by decide) (fun c_37 => ?_) (fun c_37 => ?_)
        · refine PW.iconst (pc := 71) (v := nI 0) dX7_findUses_71 (by decide) ?_
          exact PW.st rfl rfl rfl (at72 0 (by rw [if_neg (fun q => q.1 c_37)]))
        · refine PW.iload_n (pc := 40) dX7_findUses_40 rfl ?_
          refine PW.aload_n (pc := 41) dX7_findUses_41 rfl ?_
          refine gf_X7_31 (pc := 42) dX7_findUses_42 ?_
          refine PW.iload_n (pc := 45) dX7_findUses_45 rfl ?_
          refine PW.ialdN (pc := 46) rfl rfl (by omega) (by decide) dX7_findUses_46 ?_
          rw [e40]
          refine PW.icmp_le (pc := 47) (tgt := 71) dX7_findUses_47 (by decide) (fun c_47 => ?_) (fun c_47 => ?_)
          · rw [nI_leI (by omega) (by omega)] at c_47
            refine PW.iconst (pc := 71) (v := nI 0) dX7_findUses_71 (by decide) ?_
            exact PW.st rfl rfl rfl (at72 0 (by rw [if_neg (fun q => by omega)]))
          · rw [nI_leI (by omega) (by omega)] at c_47
            refine PW.iload_n (pc := 50) dX7_findUses_50 rfl ?_
            refine PW.aload_n (pc := 51) dX7_findUses_51 rfl ?_
            refine gf_X7_31 (pc := 52) dX7_findUses_52 ?_
            refine PW.iload_n (pc := 55) dX7_findUses_55 rfl ?_
            refine PW.ialdN (pc := 56) rfl rfl (by omega) (by decide) dX7_findUses_56 ?_
            refine PW.aload_n (pc := 57) dX7_findUses_57 rfl ?_
            refine gf_X7_13 (pc := 58) dX7_findUses_58 ?_
            refine PW.iload_n (pc := 61) dX7_findUses_61 rfl ?_
            refine PW.ialdN (pc := 62) rfl rfl (by omega) (by decide) dX7_findUses_62 ?_
            rw [e40, hF 34 (by decide), hdr]
            refine PW.iadd (pc := 63) dX7_findUses_63 ?_
            rw [nI_add]
            refine PW.icmp_gt (pc := 64) (tgt := 71) dX7_findUses_64 (by decide) (fun c_64 => ?_) (fun c_64 => ?_)
            · rw [nI_ltI (by omega) (by omega)] at c_64
              refine PW.iconst (pc := 71) (v := nI 0) dX7_findUses_71 (by decide) ?_
              exact PW.st rfl rfl rfl (at72 0 (by rw [if_neg (fun q => by omega)]))
            · rw [nI_ltI (by omega) (by omega)] at c_64
              refine PW.iconst (pc := 67) (v := nI 1) dX7_findUses_67 (by decide) ?_
              refine PW.goto (pc := 68) (tgt := 72) dX7_findUses_68 (by decide) ?_
              exact PW.st rfl rfl rfl (at72 1 (by rw [if_pos ⟨c_37, by omega, by omega⟩]))
