/-! the reference's lacks, fits, hire, searches -/
theorem LKn_eq0 {M : xM} {n s : Nat} : LKn M n s = 0 ↔ ∀ t d, t < 6 → d < 66 → ¬ hh M t < SU M n s t d := by
  unfold LKn LKs
  rw [dsum_eq0]
  constructor
  · intro h t d ht hd q
    have := h t d ht hd
    simp only [if_pos q] at this
    omega
  · intro h t d ht hd
    simp only [if_neg (h t d ht hd)]
theorem LKn_zero {M : xM} {n : Nat} : LKn M n 0 = 0 := LKn_eq0.mpr (fun t d _ _ => by rw [SU_zero]; omega)
theorem HSn_days (M : xM) (n s : Nat) : HSn M n s = nsum (fun d => nsum (fun t => pp M t * (SU M n s t d - hh M t)) 6) 66 := nsum_swap (fun t d => pp M t * (SU M n s t d - hh M t)) 66 6
set_option maxHeartbeats 4000000 in
set_option maxRecDepth 20000 in
theorem c_X7_lackOf {s k d n : Nat} {M M' : xM} (hB : TB (mv M) n) (hF : xFu M M') (hU : UR M' M n) (hs : s < 1024) (hk : k < 6) (hd : d < 66) : K_X7_lackOf [.ref 32, .int (nI s), .int (nI k), .int (nI d)] M' (xRi (fun x u => x = nI (SU (mv M) n s k d - hh (mv M) k) ∧ u = M')) := by
  refine xMet.of (own := RX7) rfl (by decide) (Nat.le_of_ble_eq_true rfl) rfl (fun Y hY => ?_)
  have hn : M'.1 32 6 = nI n := by rw [hF 32 (by decide)]; exact hB.has
  have h10 := hB.n10
  have e33 : M'.1 33 k = nI (na (M.1 33 k)) := by rw [hF 33 (by decide)]; exact (hB.2.2.2.1 k hk).1.1
  have e38 : M'.1 38 k = nI (na (M.1 38 k)) := by rw [hF 38 (by decide)]; exact (hB.2.2.2.1 k hk).2.2.2.1
  have o1 : na (M.1 33 k) ≤ 1000 := (hB.2.2.2.1 k hk).1.2
  have g1 : na (M.1 38 k) ≤ 1000000 := (hB.2.2.2.1 k hk).2.2.2.2
  have ehh : hh (mv M) k = na (M.1 33 k) - na (M.1 38 k) := rfl
  have hsu : SU (mv M) n s k d ≤ 5000 := psum_le (d := d) hB (fun g => s.testBit g) hk
  have fin : ∀ v : Nat, v = hh (mv M) k → P_X7_lackOf Y 90 [(0, .ref 32), (1, .int (nI s)), (2, .int (nI k)), (3, .int (nI d)), (4, .int (nI (SU (mv M) n s k d)))] [.int (nI v)] M' := by
    intro v hv
    refine PW.istore (pc := 90) dX7_lackOf_90 (by decide) rfl ?_
    refine PW.iload (pc := 92) dX7_lackOf_92 rfl ?_
    refine PW.iload (pc := 94) dX7_lackOf_94 rfl ?_
    refine PW.icmp_le (pc := 96) (tgt := 107) dX7_lackOf_96 (by decide) (fun c_96 => ?_) (fun c_96 => ?_)
    · rw [nI_leI (by omega) (by omega)] at c_96
      refine PW.iconst (pc := 107) (v := nI 0) dX7_lackOf_107 (by decide) ?_
      refine PW.iret (pc := 108) hY ?_ dX7_lackOf_108
      refine x_ri ⟨?_, rfl⟩
      rw [← hv, Nat.sub_eq_zero_of_le c_96]
    · rw [nI_leI (by omega) (by omega)] at c_96
      refine PW.iload (pc := 99) dX7_lackOf_99 rfl ?_
      refine PW.iload (pc := 101) dX7_lackOf_101 rfl ?_
      refine PW.isub (pc := 103) dX7_lackOf_103 ?_
      rw [pk_sub (by omega), hv]
      refine PW.goto (pc := 104) (tgt := 108) dX7_lackOf_104 (by decide) ?_
      refine PW.iret (pc := 108) hY ?_ dX7_lackOf_108
      exact x_ri ⟨rfl, rfl⟩
  refine x_loop (n := n) (P := fun f => P_X7_lackOf Y 6 [(0, .ref 32), (1, .int (nI s)), (2, .int (nI k)), (3, .int (nI d)), (4, .int (nI (nsum (fun g => if s.testBit g = true then us (mv M) g k d else 0) f))), (5, .int (nI f))] [] M') (fun h => ?_) ?_ (fun f hf ih => ?_)
  · refine PW.iconst (pc := 0) (v := nI 0) dX7_lackOf_0 (by decide) ?_
    refine PW.istore (pc := 1) dX7_lackOf_1 (by decide) rfl ?_
    refine PW.iconst (pc := 3) (v := nI 0) dX7_lackOf_3 (by decide) ?_
    refine PW.istore (pc := 4) dX7_lackOf_4 (by decide) rfl ?_
    exact PW.st rfl rfl rfl h
  · refine PW.iload (pc := 6) dX7_lackOf_6 rfl ?_
    refine PW.aload_n (pc := 8) dX7_lackOf_8 rfl ?_
    refine gf_X7_87 (pc := 9) dX7_lackOf_9 ?_
    refine PW.icmp_ge (pc := 12) (tgt := 58) dX7_lackOf_12 (by decide) (fun _ => ?_) (fun c => absurd ((by rw [hn]; exact nI_le (Nat.le_refl _) (by omega))) c)
    refine PW.aload_n (pc := 58) dX7_lackOf_58 rfl ?_
    refine gf_X7_7 (pc := 59) dX7_lackOf_59 ?_
    refine PW.iload_n (pc := 62) dX7_lackOf_62 rfl ?_
    refine PW.ialdN (pc := 63) rfl rfl (by omega) (by decide) dX7_lackOf_63 ?_
    refine PW.aload_n (pc := 64) dX7_lackOf_64 rfl ?_
    refine gf_X7_25 (pc := 65) dX7_lackOf_65 ?_
    refine PW.iload_n (pc := 68) dX7_lackOf_68 rfl ?_
    refine PW.ialdN (pc := 69) rfl rfl (by omega) (by decide) dX7_lackOf_69 ?_
    rw [e33, e38]
    refine PW.icmp_le (pc := 70) (tgt := 89) dX7_lackOf_70 (by decide) (fun c_70 => ?_) (fun c_70 => ?_)
    · rw [nI_leI (by omega) (by omega)] at c_70
      refine PW.iconst (pc := 89) (v := nI 0) dX7_lackOf_89 (by decide) ?_
      refine PW.st rfl rfl rfl (fin 0 ?_)
      rw [ehh]; omega
    · rw [nI_leI (by omega) (by omega)] at c_70
      refine PW.aload_n (pc := 73) dX7_lackOf_73 rfl ?_
      refine gf_X7_7 (pc := 74) dX7_lackOf_74 ?_
      refine PW.iload_n (pc := 77) dX7_lackOf_77 rfl ?_
      refine PW.ialdN (pc := 78) rfl rfl (by omega) (by decide) dX7_lackOf_78 ?_
      refine PW.aload_n (pc := 79) dX7_lackOf_79 rfl ?_
      refine gf_X7_25 (pc := 80) dX7_lackOf_80 ?_
      refine PW.iload_n (pc := 83) dX7_lackOf_83 rfl ?_
      refine PW.ialdN (pc := 84) rfl rfl (by omega) (by decide) dX7_lackOf_84 ?_
      rw [e33, e38]
      refine PW.isub (pc := 85) dX7_lackOf_85 ?_
      rw [pk_sub (by omega)]
      refine PW.goto (pc := 86) (tgt := 90) dX7_lackOf_86 (by decide) ?_
      exact PW.st rfl rfl rfl (fin _ ehh.symm)
  · refine PW.iload (pc := 6) dX7_lackOf_6 rfl ?_
    refine PW.aload_n (pc := 8) dX7_lackOf_8 rfl ?_
    refine gf_X7_87 (pc := 9) dX7_lackOf_9 ?_
    refine PW.icmp_ge (pc := 12) (tgt := 58) dX7_lackOf_12 (by decide) (fun c => absurd c ((by rw [hn]; exact nI_ge hf (by omega)))) (fun _ => ?_)
    refine PW.iload (pc := 15) dX7_lackOf_15 rfl ?_
    refine PW.iload_n (pc := 17) dX7_lackOf_17 rfl ?_
    refine PW.iload (pc := 18) dX7_lackOf_18 rfl ?_
    refine PW.ishr (pc := 20) dX7_lackOf_20 ?_
    refine PW.iconst (pc := 21) (v := nI 1) dX7_lackOf_21 (by decide) ?_
    refine PW.iand (pc := 22) dX7_lackOf_22 ?_
    refine PW.iconst (pc := 23) (v := nI 1) dX7_lackOf_23 (by decide) ?_
    refine PW.icmp_ne (pc := 24) (tgt := 48) dX7_lackOf_24 (by decide) (fun c_24 => ?_) (fun c_24 => ?_)
    · rw [x_bit (by omega) (by omega)] at c_24
      refine PW.iconst (pc := 48) (v := nI 0) dX7_lackOf_48 (by decide) ?_
      refine PW.iadd (pc := 49) dX7_lackOf_49 ?_
      rw [nI_add]
      refine PW.istore (pc := 50) dX7_lackOf_50 (by decide) rfl ?_
      refine PW.iinc (pc := 52) dX7_lackOf_52 rfl (x_inc1 _) (by decide) rfl ?_
      refine PW.goto (pc := 55) (tgt := 6) dX7_lackOf_55 (by decide) ?_
      refine PW.st rfl rfl ?_ ih
      rw [nsum, if_neg c_24]; rfl
    · rw [x_bit (by omega) (by omega)] at c_24
      refine PW.aload_n (pc := 27) dX7_lackOf_27 rfl ?_
      refine gf_X7_68 (pc := 28) dX7_lackOf_28 ?_
      refine PW.sipush (pc := 31) (v := nI 396) dX7_lackOf_31 (by decide) ?_
      refine PW.iload (pc := 34) dX7_lackOf_34 rfl ?_
      refine PW.imul (pc := 36) dX7_lackOf_36 ?_
      refine PW.bipush (pc := 37) (v := nI 6) dX7_lackOf_37 (by decide) ?_
      refine PW.iload_n (pc := 39) dX7_lackOf_39 rfl ?_
      refine PW.imul (pc := 40) dX7_lackOf_40 ?_
      refine PW.iadd (pc := 41) dX7_lackOf_41 ?_
      refine PW.iload_n (pc := 42) dX7_lackOf_42 rfl ?_
      refine PW.iadd (pc := 43) dX7_lackOf_43 ?_
      refine PW.ialdN (pc := 44) rfl (x_use f d k) (by omega) (by decide) dX7_lackOf_44 ?_
      rw [hU f d k hf hd hk]
      refine PW.goto (pc := 45) (tgt := 49) dX7_lackOf_45 (by decide) ?_
      refine PW.iadd (pc := 49) dX7_lackOf_49 ?_
      rw [nI_add]
      refine PW.istore (pc := 50) dX7_lackOf_50 (by decide) rfl ?_
      refine PW.iinc (pc := 52) dX7_lackOf_52 rfl (x_inc1 _) (by decide) rfl ?_
      refine PW.goto (pc := 55) (tgt := 6) dX7_lackOf_55 (by decide) ?_
      refine PW.st rfl rfl ?_ ih
      rw [nsum, if_pos c_24]; rfl
set_option maxHeartbeats 4000000 in
set_option maxRecDepth 20000 in
theorem c_X7_isFit {s n : Nat} {M M' : xM} (hB : TB (mv M) n) (hF : xFu M M') (hU : UR M' M n) (hs : s < 1024) : K_X7_isFit [.ref 32, .int (nI s)] M' (xRi (fun x u => x = xB (LKn (mv M) n s = 0) ∧ u = M')) := by
  refine xMet.of (own := RX7) rfl (by decide) (Nat.le_of_ble_eq_true rfl) rfl (fun Y hY => ?_)
  rcases Nat.eq_zero_or_pos s with rfl | hs0
  · refine PW.iconst (pc := 0) (v := nI 0) dX7_isFit_0 (by decide) ?_
    refine PW.istore_n (pc := 1) (i := 2) dX7_isFit_1 rfl (by decide) rfl ?_
    refine PW.iload_n (pc := 2) dX7_isFit_2 rfl ?_
    refine PW.bipush (pc := 3) (v := nI 66) dX7_isFit_3 (by decide) ?_
    refine PW.icmp_ge (pc := 5) (tgt := 44) dX7_isFit_5 (by decide) (fun c => absurd c ((by decide))) (fun _ => ?_)
    refine PW.iload_n (pc := 8) dX7_isFit_8 rfl ?_
    refine PW.if_le (pc := 9) (tgt := 44) dX7_isFit_9 (by decide) (fun _ => ?_) (fun c => absurd ((Int32.le_refl _)) c)
    refine PW.iconst (pc := 44) (v := nI 1) dX7_isFit_44 (by decide) ?_
    refine PW.zret (pc := 45) hY (by decide) ?_ dX7_isFit_45
    exact x_zt LKn_zero
  · refine x_loop (n := 66) (P := fun d => (∀ t d', t < 6 → d' < d → ¬ hh (mv M) t < SU (mv M) n s t d') → P_X7_isFit Y 2 [(0, .ref 32), (1, .int (nI s)), (2, .int (nI d))] [] M') (fun h => ?_) ?_ (fun d hd ih => ?_)
    · refine PW.iconst (pc := 0) (v := nI 0) dX7_isFit_0 (by decide) ?_
      refine PW.istore_n (pc := 1) (i := 2) dX7_isFit_1 rfl (by decide) rfl ?_
      exact PW.st rfl rfl rfl (h (fun t d' _ h => by omega))
    · intro hno
      refine PW.iload_n (pc := 2) dX7_isFit_2 rfl ?_
      refine PW.bipush (pc := 3) (v := nI 66) dX7_isFit_3 (by decide) ?_
      refine PW.icmp_ge (pc := 5) (tgt := 44) dX7_isFit_5 (by decide) (fun _ => ?_) (fun c => absurd ((nI_le (Nat.le_refl _) (by omega))) c)
      refine PW.iconst (pc := 44) (v := nI 1) dX7_isFit_44 (by decide) ?_
      refine PW.zret (pc := 45) hY (by decide) ?_ dX7_isFit_45
      exact x_zt (LKn_eq0.mpr hno)
    · intro hno
      refine x_loop (n := 6) (P := fun k => (∀ t, t < k → ¬ hh (mv M) t < SU (mv M) n s t d) → P_X7_isFit Y 14 [(0, .ref 32), (1, .int (nI s)), (2, .int (nI d)), (3, .int (nI k))] [] M') (fun h => ?_) ?_ (fun k hk ih2 => ?_)
      · refine PW.iload_n (pc := 2) dX7_isFit_2 rfl ?_
        refine PW.bipush (pc := 3) (v := nI 66) dX7_isFit_3 (by decide) ?_
        refine PW.icmp_ge (pc := 5) (tgt := 44) dX7_isFit_5 (by decide) (fun c => absurd c ((nI_ge hd (by omega)))) (fun _ => ?_)
        refine PW.iload_n (pc := 8) dX7_isFit_8 rfl ?_
        refine PW.if_le (pc := 9) (tgt := 44) dX7_isFit_9 (by decide) (fun c => absurd c ((nI_nle hs0 (by omega)))) (fun _ => ?_)
        refine PW.iconst (pc := 12) (v := nI 0) dX7_isFit_12 (by decide) ?_
        refine PW.istore_n (pc := 13) (i := 3) dX7_isFit_13 rfl (by decide) rfl ?_
        exact PW.st rfl rfl rfl (h (fun t h => by omega))
      · intro hno2
        refine PW.iload_n (pc := 14) dX7_isFit_14 rfl ?_
        refine PW.bipush (pc := 15) (v := nI 6) dX7_isFit_15 (by decide) ?_
        refine PW.icmp_ge (pc := 17) (tgt := 38) dX7_isFit_17 (by decide) (fun _ => ?_) (fun c => absurd ((nI_le (Nat.le_refl _) (by omega))) c)
        refine PW.iinc (pc := 38) dX7_isFit_38 rfl (x_inc1 _) (by decide) rfl ?_
        refine PW.goto (pc := 41) (tgt := 2) dX7_isFit_41 (by decide) ?_
        refine PW.st rfl rfl rfl (ih (fun t d' ht hd' => ?_))
        by_cases e : d' = d
        · rw [e]; exact hno2 t ht
        · exact hno t d' ht (by omega)
      · intro hno2
        have hsu : SU (mv M) n s k d ≤ 5000 := psum_le (d := d) hB (fun g => s.testBit g) hk
        refine PW.iload_n (pc := 14) dX7_isFit_14 rfl ?_
        refine PW.bipush (pc := 15) (v := nI 6) dX7_isFit_15 (by decide) ?_
        refine PW.icmp_ge (pc := 17) (tgt := 38) dX7_isFit_17 (by decide) (fun c => absurd c ((nI_ge hk (by omega)))) (fun _ => ?_)
        refine PW.aload_n (pc := 20) dX7_isFit_20 rfl ?_
        refine PW.iload_n (pc := 21) dX7_isFit_21 rfl ?_
        refine PW.iload_n (pc := 22) dX7_isFit_22 rfl ?_
        refine PW.iload_n (pc := 23) dX7_isFit_23 rfl ?_
        refine cs_X7_102 (pc := 24) hY.rm (c_X7_lackOf hB hF hU hs hk hd) ⟨Nat.le_of_ble_eq_true rfl, Nat.le_of_ble_eq_true rfl⟩ dX7_isFit_24 (Nat.le_of_ble_eq_true rfl) (fun x_24 u_24 h_24 => ?_)
        obtain ⟨rfl, hu_24⟩ := h_24
        replace hu_24 := hu_24.symm
        subst hu_24
        refine PW.if_le (pc := 27) (tgt := 32) dX7_isFit_27 (by decide) (fun c_27 => ?_) (fun c_27 => ?_)
        · have h : ¬ hh (mv M) k < SU (mv M) n s k d := by
            intro q
            exact nI_nle (n := SU (mv M) n s k d - hh (mv M) k) (by omega) (by omega) c_27
          refine PW.iinc (pc := 32) dX7_isFit_32 rfl (x_inc1 _) (by decide) rfl ?_
          refine PW.goto (pc := 35) (tgt := 14) dX7_isFit_35 (by decide) ?_
          refine PW.st rfl rfl rfl (ih2 (fun t ht => ?_))
          by_cases e : t = k
          · rw [e]; exact h
          · exact hno2 t (by omega)
        · have h : hh (mv M) k < SU (mv M) n s k d := by
            refine Classical.byContradiction (fun q => c_27 ?_)
            rw [show SU (mv M) n s k d - hh (mv M) k = 0 by omega]
            exact Int32.le_refl _
          refine PW.iconst (pc := 30) (v := nI 0) dX7_isFit_30 (by decide) ?_
          refine PW.zret (pc := 31) hY (by decide) ?_ dX7_isFit_31
          exact x_zf (fun q => LKn_eq0.mp q k d hk hd h)
set_option maxHeartbeats 4000000 in
set_option maxRecDepth 20000 in
theorem c_X7_hiredFor {s n : Nat} {M M' : xM} (hB : TB (mv M) n) (hF : xFu M M') (hU : UR M' M n) (hs : s < 1024) : K_X7_hiredFor [.ref 32, .int (nI s)] M' (xRl (fun x u => x = lN (HSn (mv M) n s) ∧ u = M')) := by
  refine xMet.of (own := RX7) rfl (by decide) (Nat.le_of_ble_eq_true rfl) rfl (fun Y hY => ?_)
  rw [HSn_days] at hY
  refine x_loop (n := 66) (P := fun d => P_X7_hiredFor Y 5 [(0, .ref 32), (1, .int (nI s)), (2, .long (lN (nsum (fun d => nsum (fun t => pp (mv M) t * (SU (mv M) n s t d - hh (mv M) t)) 6) d))), (4, .int (nI d))] [] M') (fun h => ?_) ?_ (fun d hd ih => ?_)
  · refine PW.lconst (pc := 0) (v := lN 0) dX7_hiredFor_0 rfl ?_
    refine PW.lstore_n (pc := 1) (i := 2) dX7_hiredFor_1 rfl (by decide) rfl rfl ?_
    refine PW.iconst (pc := 2) (v := nI 0) dX7_hiredFor_2 (by decide) ?_
    refine PW.istore (pc := 3) dX7_hiredFor_3 (by decide) rfl ?_
    exact PW.st rfl rfl rfl h
  · refine PW.iload (pc := 5) dX7_hiredFor_5 rfl ?_
    refine PW.bipush (pc := 7) (v := nI 66) dX7_hiredFor_7 (by decide) ?_
    refine PW.icmp_ge (pc := 9) (tgt := 56) dX7_hiredFor_9 (by decide) (fun _ => ?_) (fun c => absurd ((nI_le (Nat.le_refl _) (by omega))) c)
    refine PW.lload_n (pc := 56) dX7_hiredFor_56 rfl ?_
    refine PW.lret (pc := 57) hY ?_ dX7_hiredFor_57
    exact x_rl ⟨rfl, rfl⟩
  · refine x_loop (n := 6) (P := fun k => P_X7_hiredFor Y 15 [(0, .ref 32), (1, .int (nI s)), (2, .long (lN (nsum (fun d => nsum (fun t => pp (mv M) t * (SU (mv M) n s t d - hh (mv M) t)) 6) d + nsum (fun t => pp (mv M) t * (SU (mv M) n s t d - hh (mv M) t)) k))), (4, .int (nI d)), (5, .int (nI k))] [] M') (fun h => ?_) ?_ (fun k hk ih2 => ?_)
    · refine PW.iload (pc := 5) dX7_hiredFor_5 rfl ?_
      refine PW.bipush (pc := 7) (v := nI 66) dX7_hiredFor_7 (by decide) ?_
      refine PW.icmp_ge (pc := 9) (tgt := 56) dX7_hiredFor_9 (by decide) (fun c => absurd c ((nI_ge hd (by omega)))) (fun _ => ?_)
      refine PW.iconst (pc := 12) (v := nI 0) dX7_hiredFor_12 (by decide) ?_
      refine PW.istore (pc := 13) dX7_hiredFor_13 (by decide) rfl ?_
      exact PW.st rfl rfl rfl h
    · refine PW.iload (pc := 15) dX7_hiredFor_15 rfl ?_
      refine PW.bipush (pc := 17) (v := nI 6) dX7_hiredFor_17 (by decide) ?_
      refine PW.icmp_ge (pc := 19) (tgt := 50) dX7_hiredFor_19 (by decide) (fun _ => ?_) (fun c => absurd ((nI_le (Nat.le_refl _) (by omega))) c)
      refine PW.iinc (pc := 50) dX7_hiredFor_50 rfl (x_inc1 _) (by decide) rfl ?_
      refine PW.goto (pc := 53) (tgt := 5) dX7_hiredFor_53 (by decide) ?_
      exact PW.st rfl rfl rfl ih
    · have hsu : SU (mv M) n s k d ≤ 5000 := psum_le (d := d) hB (fun g => s.testBit g) hk
      have hpp := pp_le hB hk
      have e36 : M'.1 36 k = nI (pp (mv M) k) := by rw [hF 36 (by decide)]; exact nI_pp hB hk
      refine PW.iload (pc := 15) dX7_hiredFor_15 rfl ?_
      refine PW.bipush (pc := 17) (v := nI 6) dX7_hiredFor_17 (by decide) ?_
      refine PW.icmp_ge (pc := 19) (tgt := 50) dX7_hiredFor_19 (by decide) (fun c => absurd c ((nI_ge hk (by omega)))) (fun _ => ?_)
      refine PW.lload_n (pc := 22) dX7_hiredFor_22 rfl ?_
      refine PW.aload_n (pc := 23) dX7_hiredFor_23 rfl ?_
      refine PW.iload_n (pc := 24) dX7_hiredFor_24 rfl ?_
      refine PW.iload (pc := 25) dX7_hiredFor_25 rfl ?_
      refine PW.iload (pc := 27) dX7_hiredFor_27 rfl ?_
      refine cs_X7_102 (pc := 29) hY.rm (c_X7_lackOf hB hF hU hs hk hd) ⟨Nat.le_of_ble_eq_true rfl, Nat.le_of_ble_eq_true rfl⟩ dX7_hiredFor_29 (Nat.le_of_ble_eq_true rfl) (fun x_29 u_29 h_29 => ?_)
      obtain ⟨rfl, hu_29⟩ := h_29
      replace hu_29 := hu_29.symm
      subst hu_29
      refine PW.i2l (pc := 32) dX7_hiredFor_32 ?_
      refine PW.aload_n (pc := 33) dX7_hiredFor_33 rfl ?_
      refine gf_X7_19 (pc := 34) dX7_hiredFor_34 ?_
      refine PW.iload (pc := 37) dX7_hiredFor_37 rfl ?_
      refine PW.ialdN (pc := 39) rfl rfl (by omega) (by decide) dX7_hiredFor_39 ?_
      rw [e36]
      refine PW.i2l (pc := 40) dX7_hiredFor_40 ?_
      refine PW.lmul (pc := 41) dX7_hiredFor_41 ?_
      refine PW.ladd (pc := 42) dX7_hiredFor_42 ?_
      rw [nI_l (n := SU (mv M) n s k d - hh (mv M) k) (by omega), nI_l (n := pp (mv M) k) (by omega), lN_mul, lN_add, Nat.mul_comm]
      refine PW.lstore_n (pc := 43) (i := 2) dX7_hiredFor_43 rfl (by decide) rfl rfl ?_
      refine PW.iinc (pc := 44) dX7_hiredFor_44 rfl (x_inc1 _) (by decide) rfl ?_
      refine PW.goto (pc := 47) (tgt := 15) dX7_hiredFor_47 (by decide) ?_
      refine PW.st rfl rfl ?_ ih2
      rw [nsum.eq_2 (fun t => pp (mv M) t * (SU (mv M) n s t d - hh (mv M) t)) k, Nat.add_assoc]
      rfl
