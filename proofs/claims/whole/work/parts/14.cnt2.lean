/-! countOn, countAnew, goTogether -/
/-- the ledger holds the set s -/
def LRS (u M : xM) (n s : Nat) : Prop := u.1 20 1 = nI s ∧ LR u (hh M) (pp M) (SU M n s)
def mixs (s s0 f : Nat) (g : Nat) : Bool := if g < f then s.testBit g else s0.testBit g
def mixU (M : xM) (n s s0 f t d : Nat) : Nat := nsum (fun g => if mixs s s0 f g = true then us M g t d else 0) n
theorem mixU_0 (M : xM) (n s s0 t d : Nat) : mixU M n s s0 0 t d = SU M n s0 t d := by
  unfold mixU SU mixs
  exact nsum_congr (fun g _ => by rw [if_neg (show ¬ g < 0 by omega)])
theorem mixU_n (M : xM) (n s s0 t d : Nat) : mixU M n s s0 n t d = SU M n s t d := by
  unfold mixU SU mixs
  exact nsum_congr (fun g hg => by rw [if_pos hg])
theorem mix_ne {s s0 f g : Nat} (h : g ≠ f) : mixs s s0 (f + 1) g = mixs s s0 f g := by
  unfold mixs
  have : (g < f + 1) ↔ g < f := by omega
  simp only [this]
theorem mixU_s {M : xM} {n s s0 f t d : Nat} (hf : f < n) : mixU M n s s0 (f + 1) t d + (if s0.testBit f = true then us M f t d else 0) = mixU M n s s0 f t d + (if s.testBit f = true then us M f t d else 0) := by
  have h := nsum_upd (f := fun g => if mixs s s0 f g = true then us M g t d else 0) (g := fun g => if mixs s s0 (f + 1) g = true then us M g t d else 0) hf (fun j hj => by rw [mix_ne hj])
  have e1 : mixs s s0 f f = s0.testBit f := if_neg (by omega)
  have e2 : mixs s s0 (f + 1) f = s.testBit f := if_pos (by omega)
  rw [e1, e2] at h
  exact h
theorem LRS.M20 {u M : xM} {n s : Nat} (h : LRS u M n s) : u.1 20 1 = nI s := h.1
theorem bits_us {M u : xM} {n : Nat} (hF : xFr M u) : (∀ f t d, us u f t d = us M f t d) ∧ hh u = hh M ∧ pp u = pp M := by
  refine ⟨fun f t d => ?_, ?_, ?_⟩
  · unfold us fi un la ne
    rw [hF 9 (by decide) (by decide), hF 10 (by decide) (by decide), hF 16 (by decide) (by decide), hF 3 (by decide) (by decide), hF 19 (by decide) (by decide)]
  · funext t
    unfold hh
    rw [hF 2 (by decide) (by decide), hF 7 (by decide) (by decide)]
  · funext t
    unfold pp
    rw [hF 5 (by decide) (by decide)]
theorem SU_fr {M u : xM} {n : Nat} (hF : xFr M u) (s : Nat) : SU u n s = SU M n s := by
  funext t d
  unfold SU
  exact nsum_congr (fun g _ => by rw [(bits_us (n := n) hF).1])
theorem LRS.fr {M u v : xM} {n s : Nat} (hF : xFr M u) : LRS v u n s ↔ LRS v M n s := by
  unfold LRS
  rw [SU_fr hF, (bits_us (n := n) hF).2.1, (bits_us (n := n) hF).2.2]
set_option maxHeartbeats 4000000 in
set_option maxRecDepth 20000 in
theorem c_X6_countOn {n s s0 : Nat} {M : xM} (hB : TB M n) (h1 : s < 1024) (h2 : s0 < 1024) (hL : LRS M M n s0) : K_X6_countOn [.ref 0, .int (nI s)] M (xRv (fun u => xFr M u ∧ LRS u M n s)) := by
  refine xMet.of (own := RX6) rfl (by decide) (Nat.le_of_ble_eq_true rfl) rfl (fun Y hY => ?_)
  have h10 := hB.2.1
  have hx : (s ^^^ s0) < 1024 := Nat.xor_lt_two_pow (n := 10) h1 h2
  have hsz := hB.1
  have hst : ∀ f, f ≤ n → ∀ M', xFr M M' → M'.1 20 1 = nI s0 → LR M' (hh M) (pp M) (mixU M n s s0 f) → P_X6_countOn Y 12 [(0, .ref 0), (1, .int (nI s)), (2, .int (nI (s ^^^ s0))), (3, .int (nI f))] [] M' := by
    intro f hfn
    refine x_down (n := n) (P := fun f => ∀ M', xFr M M' → M'.1 20 1 = nI s0 → LR M' (hh M) (pp M) (mixU M n s s0 f) → P_X6_countOn Y 12 [(0, .ref 0), (1, .int (nI s)), (2, .int (nI (s ^^^ s0))), (3, .int (nI f))] [] M') ?_ ?_ f hfn
    · intro M' hF hs hL'
      refine PW.iload_n (pc := 12) dX6_countOn_12 rfl ?_
      refine PW.aload_n (pc := 13) dX6_countOn_13 rfl ?_
      refine gf_X6_19 (pc := 14) dX6_countOn_14 ?_
      refine gf_X6_193 (pc := 17) dX6_countOn_17 ?_
      refine PW.icmp_ge (pc := 20) (tgt := 57) dX6_countOn_20 (by decide) (fun _ => ?_) (fun c => absurd ((by rw [hF 8 (by decide) (by decide), hsz]; exact nI_le (Nat.le_refl _) (by omega))) c)
      refine PW.aload_n (pc := 57) dX6_countOn_57 rfl ?_
      refine gf_X6_33 (pc := 58) dX6_countOn_58 ?_
      refine PW.iload_n (pc := 61) dX6_countOn_61 rfl ?_
      refine pf_X6_232 (pc := 62) dX6_countOn_62 ?_
      refine PW.vret (pc := 65) hY ?_ dX6_countOn_65
      refine x_rv ⟨?_, ?_, ?_⟩
      · intro q a b
        funext j
        simp only [xup_1, a, false_and, if_false]
        rw [hF q a b]
      · simp [xup_1]
      · obtain ⟨b1, b2, b3⟩ := hL'.cg (fun t d _ _ => mixU_n M n s s0 t d)
        exact ⟨fun t d ht hd => by simp only [xup_1]; exact b1 t d ht hd, by simp only [xup_1]; exact b2, b3⟩
    · intro f hf ih M' hF hs hL'
      have hB' := hB.fr hF
      have hus := bits_us (n := n) hF
      have hL2 : LR M' (hh M') (pp M') (mixU M n s s0 f) := by rw [hus.2.1, hus.2.2]; exact hL'
      have next : ∀ M2, xFr M M2 → M2.1 20 1 = nI s0 → LR M2 (hh M) (pp M) (mixU M n s s0 (f + 1)) → P_X6_countOn Y 51 [(0, .ref 0), (1, .int (nI s)), (2, .int (nI (s ^^^ s0))), (3, .int (nI f))] [] M2 := by
        intro M2 g1 g2 g3
        refine PW.iinc (pc := 51) dX6_countOn_51 rfl (x_inc1 _) (by decide) rfl ?_
        refine PW.goto (pc := 54) (tgt := 12) dX6_countOn_54 (by decide) ?_
        exact PW.st rfl rfl rfl (ih M2 g1 g2 g3)
      have hm := fun t d => mixU_s (M := M) (n := n) (s := s) (s0 := s0) (t := t) (d := d) hf
      refine PW.iload_n (pc := 12) dX6_countOn_12 rfl ?_
      refine PW.aload_n (pc := 13) dX6_countOn_13 rfl ?_
      refine gf_X6_19 (pc := 14) dX6_countOn_14 ?_
      refine gf_X6_193 (pc := 17) dX6_countOn_17 ?_
      refine PW.icmp_ge (pc := 20) (tgt := 57) dX6_countOn_20 (by decide) (fun c => absurd c ((by rw [hF 8 (by decide) (by decide), hsz]; exact nI_ge hf (by omega)))) (fun _ => ?_)
      refine PW.iload_n (pc := 23) dX6_countOn_23 rfl ?_
      refine PW.iload_n (pc := 24) dX6_countOn_24 rfl ?_
      refine PW.ishr (pc := 25) dX6_countOn_25 ?_
      refine PW.iconst (pc := 26) (v := nI 1) dX6_countOn_26 (by decide) ?_
      refine PW.iand (pc := 27) dX6_countOn_27 ?_
      refine PW.iconst (pc := 28) (v := nI 1) dX6_countOn_28 (by decide) ?_
      refine PW.icmp_ne (pc := 29) (tgt := 51) dX6_countOn_29 (by decide) (fun c_29 => ?_) (fun c_29 => ?_)
      · rw [x_bit (by omega) (by omega), Nat.testBit_xor] at c_29
        refine PW.st rfl rfl rfl (next M' hF hs (hL'.cg (fun t d _ _ => ?_)))
        have h := hm t d
        cases q1 : s.testBit f <;> cases q2 : s0.testBit f <;> simp_all
      · rw [x_bit (by omega) (by omega), Nat.testBit_xor] at c_29
        refine PW.aload_n (pc := 32) dX6_countOn_32 rfl ?_
        refine PW.iload_n (pc := 33) dX6_countOn_33 rfl ?_
        refine PW.iload_n (pc := 34) dX6_countOn_34 rfl ?_
        refine PW.iload_n (pc := 35) dX6_countOn_35 rfl ?_
        refine PW.ishr (pc := 36) dX6_countOn_36 ?_
        refine PW.iconst (pc := 37) (v := nI 1) dX6_countOn_37 (by decide) ?_
        refine PW.iand (pc := 38) dX6_countOn_38 ?_
        refine PW.iconst (pc := 39) (v := nI 1) dX6_countOn_39 (by decide) ?_
        refine PW.icmp_ne (pc := 40) (tgt := 47) dX6_countOn_40 (by decide) (fun c_40 => ?_) (fun c_40 => ?_)
        · rw [x_bit (by omega) (by omega)] at c_40
          refine PW.iconst (pc := 47) (v := (-1)) dX6_countOn_47 (by decide) ?_
          refine cs_X6_235 (pc := 48) hY.rm (c_X6_enter (U := mixU M n s s0 f) (U' := mixU M n s s0 (f + 1)) hB' hf (fun t d ht => psum_le hB _ ht) (fun t d ht hd => ⟨psum_le hB _ ht, by rw [hus.1]; refine i32_addm1 ?_; have h := hm t d; cases q1 : s.testBit f <;> cases q2 : s0.testBit f <;> simp_all⟩) hL2) ⟨Nat.le_of_ble_eq_true rfl, Nat.le_of_ble_eq_true rfl⟩ dX6_countOn_48 (Nat.le_of_ble_eq_true rfl) (fun u_48 h_48 => ?_)
          obtain ⟨g1, g2, g3⟩ := h_48
          rw [hus.2.1, hus.2.2] at g3
          exact PW.st rfl rfl rfl (next u_48 (hF.tr g1) (g2.trans hs) g3)
        · rw [x_bit (by omega) (by omega)] at c_40
          refine PW.iconst (pc := 43) (v := nI 1) dX6_countOn_43 (by decide) ?_
          refine PW.goto (pc := 44) (tgt := 48) dX6_countOn_44 (by decide) ?_
          refine cs_X6_235 (pc := 48) hY.rm (c_X6_enter (U := mixU M n s s0 f) (U' := mixU M n s s0 (f + 1)) hB' hf (fun t d ht => psum_le hB _ ht) (fun t d ht hd => ⟨psum_le hB _ ht, by rw [hus.1, pk_mul, Nat.one_mul, nI_add]; have h := hm t d; cases q1 : s.testBit f <;> cases q2 : s0.testBit f <;> simp_all⟩) hL2) ⟨Nat.le_of_ble_eq_true rfl, Nat.le_of_ble_eq_true rfl⟩ dX6_countOn_48 (Nat.le_of_ble_eq_true rfl) (fun u_48 h_48 => ?_)
          obtain ⟨g1, g2, g3⟩ := h_48
          rw [hus.2.1, hus.2.2] at g3
          exact PW.st rfl rfl rfl (next u_48 (hF.tr g1) (g2.trans hs) g3)
  refine PW.iload_n (pc := 0) dX6_countOn_0 rfl ?_
  refine PW.aload_n (pc := 1) dX6_countOn_1 rfl ?_
  refine gf_X6_33 (pc := 2) dX6_countOn_2 ?_
  refine gf_X6_232 (pc := 5) dX6_countOn_5 ?_
  refine PW.ixor (pc := 8) dX6_countOn_8 ?_
  rw [hL.1, fa_xor]
  refine PW.istore_n (pc := 9) (i := 2) dX6_countOn_9 rfl (by decide) rfl ?_
  refine PW.iconst (pc := 10) (v := nI 0) dX6_countOn_10 (by decide) ?_
  refine PW.istore_n (pc := 11) (i := 3) dX6_countOn_11 rfl (by decide) rfl ?_
  exact PW.st rfl rfl rfl (hst 0 (Nat.zero_le _) M xFr.rf hL.1 (hL.2.cg (fun t d _ _ => (mixU_0 M n s s0 t d).symm)))
theorem SU_zero (M : xM) (n t d : Nat) : SU M n 0 t d = 0 := by
  unfold SU
  rw [nsum_congr (g := fun _ => 0) (fun g _ => by simp), nsum_zero]
set_option maxHeartbeats 4000000 in
set_option maxRecDepth 20000 in
theorem c_X6_countAnew {n s : Nat} {M : xM} (hB : TB M n) (h1 : s < 1024) : K_X6_countAnew [.ref 0, .int (nI s)] M (xRv (fun u => xFr M u ∧ LRS u M n s)) := by
  refine xMet.of (own := RX6) rfl (by decide) (Nat.le_of_ble_eq_true rfl) rfl (fun Y hY => ?_)
  refine PW.aload_n (pc := 0) dX6_countAnew_0 rfl ?_
  refine gf_X6_33 (pc := 1) dX6_countAnew_1 ?_
  refine cs_X6_229 (pc := 4) hY.rm (c_X3_clear) ⟨Nat.le_of_ble_eq_true rfl, Nat.le_of_ble_eq_true rfl⟩ dX6_countAnew_4 (Nat.le_of_ble_eq_true rfl) (fun u_4 h_4 => ?_)
  have hF : xFr M u_4 := by
    intro q a b
    rw [h_4]
    funext j
    simp only [xupL_1, xup_1, xupA_1, a, b, false_and, if_false]
  have hL : LRS u_4 M n 0 := by
    refine ⟨by rw [h_4]; simp [xupL_1, xup_1], ?_, ?_, ?_⟩
    · intro t d ht hd
      rw [h_4, SU_zero]
      simp only [xupL_1, xup_1, xupA_1]
      have : t * 66 + d < 396 := by omega
      simp [this]
    · have : LKs (hh M) (SU M n 0) = 0 := dsum_eq0.mpr (fun t d _ _ => by rw [SU_zero]; simp)
      rw [this, h_4]
      simp [xupL_1, xup_1]
    · have : HSs (hh M) (pp M) (SU M n 0) = 0 := dsum_eq0.mpr (fun t d _ _ => by rw [SU_zero]; simp)
      rw [this, h_4]
      simp [xupL_2]
  refine PW.aload_n (pc := 7) dX6_countAnew_7 rfl ?_
  refine PW.iload_n (pc := 8) dX6_countAnew_8 rfl ?_
  refine cs_X6_155 (pc := 9) hY.rm (c_X6_countOn (s0 := 0) (hB.fr hF) h1 (by omega) ((LRS.fr hF).mpr hL)) ⟨Nat.le_of_ble_eq_true rfl, Nat.le_of_ble_eq_true rfl⟩ dX6_countAnew_9 (Nat.le_of_ble_eq_true rfl) (fun u_9 h_9 => ?_)
  refine PW.vret (pc := 12) hY ?_ dX6_countAnew_12
  exact x_rv ⟨hF.tr h_9.1, (LRS.fr hF).mp h_9.2⟩
/-- the set s fits: nothing lacks -/
def fitS (M : xM) (n s : Nat) : Prop := LKs (hh M) (SU M n s) = 0
theorem LRS.lack {u M : xM} {n s : Nat} (h : LRS u M n s) : u.1 20 2 = nI (LKs (hh M) (SU M n s)) := h.2.2.1
theorem LRS.fit {u M : xM} {n s : Nat} (h : LRS u M n s) : u.1 20 2 = 0 ↔ fitS M n s := by
  rw [h.lack]
  unfold fitS
  have := LKs_le (h := hh M) (U := SU M n s)
  rw [show (0 : Int32) = nI 0 from rfl, nI_eq (by omega) (by omega)]
set_option maxHeartbeats 4000000 in
set_option maxRecDepth 20000 in
theorem c_X6_goTogether {n s : Nat} {M : xM} (hB : TB M n) (h1 : s < 1024) : K_X6_goTogether [.ref 0, .int (nI s)] M (xRi (fun x u => x = xB (u.1 20 2 = 0) ∧ xFr M u ∧ LRS u M n s)) := by
  refine xMet.of (own := RX6) rfl (by decide) (Nat.le_of_ble_eq_true rfl) rfl (fun Y hY => ?_)
  refine PW.aload_n (pc := 0) dX6_goTogether_0 rfl ?_
  refine PW.iload_n (pc := 1) dX6_goTogether_1 rfl ?_
  refine cs_X6_117 (pc := 2) hY.rm (c_X6_countAnew hB h1) ⟨Nat.le_of_ble_eq_true rfl, Nat.le_of_ble_eq_true rfl⟩ dX6_goTogether_2 (Nat.le_of_ble_eq_true rfl) (fun u_2 h_2 => ?_)
  refine PW.aload_n (pc := 5) dX6_goTogether_5 rfl ?_
  refine gf_X6_33 (pc := 6) dX6_goTogether_6 ?_
  refine gf_X6_158 (pc := 9) dX6_goTogether_9 ?_
  refine PW.if_ne (pc := 12) (tgt := 19) dX6_goTogether_12 (by decide) (fun c_12 => ?_) (fun c_12 => ?_)
  · refine PW.iconst (pc := 19) (v := nI 0) dX6_goTogether_19 (by decide) ?_
    refine PW.zret (pc := 20) hY (by decide) ?_ dX6_goTogether_20
    exact x_ri ⟨(xB_f c_12).symm, h_2⟩
  · refine PW.iconst (pc := 15) (v := nI 1) dX6_goTogether_15 (by decide) ?_
    refine PW.goto (pc := 16) (tgt := 20) dX6_goTogether_16 (by decide) ?_
    refine PW.zret (pc := 20) hY (by decide) ?_ dX6_goTogether_20
    exact x_ri ⟨(xB_t c_12).symm, h_2⟩
