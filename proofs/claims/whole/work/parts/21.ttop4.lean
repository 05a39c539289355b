/-! gusts, loads, counts, the digest -/
def TC (M : xM) : Prop := (∀ j, j < 10 → rng (M.1 13 j) 3 ∧ rng (M.1 14 j) 99 ∧ rng (M.1 15 j) 999) ∧ ∀ s, s < 4 → rng (M.1 31 s) 1000
abbrev stP (ba ho so sk : Nat → Int32) (j : Nat) (v : Int32) : Prop := v * v * ba j ≤ ho (na (so j)) * sk j
set_option maxHeartbeats 4000000 in
set_option maxRecDepth 20000 in
theorem c_X6_stands {j : Nat} {v : Int32} {M : xM} (hC : TC M) (hj : j < 10) : K_X6_stands [.ref 0, .int (nI j), .int v] M (xRi (fun x u => x = xB (stP (M.1 14) (M.1 31) (M.1 13) (M.1 15) j v) ∧ u = M)) := by
  refine xMet.of (own := RX6) rfl (by decide) (Nat.le_of_ble_eq_true rfl) rfl (fun Y hY => ?_)
  obtain ⟨s1, s2⟩ := (hC.1 j hj).1
  refine PW.iload_n (pc := 0) dX6_stands_0 rfl ?_
  refine PW.iload_n (pc := 1) dX6_stands_1 rfl ?_
  refine PW.imul (pc := 2) dX6_stands_2 ?_
  refine PW.aload_n (pc := 3) dX6_stands_3 rfl ?_
  refine gf_X6_19 (pc := 4) dX6_stands_4 ?_
  refine gf_X6_183 (pc := 7) dX6_stands_7 ?_
  refine PW.iload_n (pc := 10) dX6_stands_10 rfl ?_
  refine PW.ialdN (pc := 11) rfl rfl (by omega) (by decide) dX6_stands_11 ?_
  refine PW.imul (pc := 12) dX6_stands_12 ?_
  refine PW.aload_n (pc := 13) dX6_stands_13 rfl ?_
  refine gf_X6_51 (pc := 14) dX6_stands_14 ?_
  refine PW.aload_n (pc := 17) dX6_stands_17 rfl ?_
  refine gf_X6_19 (pc := 18) dX6_stands_18 ?_
  refine gf_X6_180 (pc := 21) dX6_stands_21 ?_
  refine PW.iload_n (pc := 24) dX6_stands_24 rfl ?_
  refine PW.ialdN (pc := 25) rfl rfl (by omega) (by decide) dX6_stands_25 ?_
  refine PW.ialdN (pc := 26) rfl s1 (by omega) (by decide) dX6_stands_26 ?_
  refine PW.aload_n (pc := 27) dX6_stands_27 rfl ?_
  refine gf_X6_19 (pc := 28) dX6_stands_28 ?_
  refine gf_X6_186 (pc := 31) dX6_stands_31 ?_
  refine PW.iload_n (pc := 34) dX6_stands_34 rfl ?_
  refine PW.ialdN (pc := 35) rfl rfl (by omega) (by decide) dX6_stands_35 ?_
  refine PW.imul (pc := 36) dX6_stands_36 ?_
  refine PW.icmp_gt (pc := 37) (tgt := 44) dX6_stands_37 (by decide) (fun c_37 => ?_) (fun c_37 => ?_)
  · refine PW.iconst (pc := 44) (v := nI 0) dX6_stands_44 (by decide) ?_
    refine PW.zret (pc := 45) hY (by decide) ?_ dX6_stands_45
    exact x_zf (x_nl c_37)
  · refine PW.iconst (pc := 40) (v := nI 1) dX6_stands_40 (by decide) ?_
    refine PW.goto (pc := 41) (tgt := 45) dX6_stands_41 (by decide) ?_
    refine PW.zret (pc := 45) hY (by decide) ?_ dX6_stands_45
    exact x_zt (x_ge c_37)
/-- the greatest v at most k of which P holds, 0 if none -/
def topF (P : Nat → Bool) : Nat → Nat
  | 0 => 0
  | v + 1 => if P (v + 1) = true then v + 1 else topF P v
set_option maxHeartbeats 4000000 in
set_option maxRecDepth 20000 in
theorem c_X6_bears {f : Int32} {n : Nat} {M : xM} (hn : M.1 8 9 = nI n) (h10 : n ≤ 10) (hC : TC M) : K_X6_bears [.ref 0, .int f] M (xRi (fun x u => (x = if okF f n then nI (topF (fun v => decide (stP (M.1 14) (M.1 31) (M.1 13) (M.1 15) (na f) (nI v))) 60) else (-2)) ∧ u = M)) := by
  refine xMet.of (own := RX6) rfl (by decide) (Nat.le_of_ble_eq_true rfl) rfl (fun Y hY => ?_)
  have bad : ¬ okF f n → P_X6_bears Y 11 [] [] M := by
    intro h
    refine PW.bipush (pc := 11) (v := (-2)) dX6_bears_11 (by decide) ?_
    refine PW.iret (pc := 13) hY ?_ dX6_bears_13
    refine x_ri ?_
    rw [if_neg h]; exact ⟨rfl, rfl⟩
  refine PW.aload_n (pc := 0) dX6_bears_0 rfl ?_
  refine gf_X6_19 (pc := 1) dX6_bears_1 ?_
  refine PW.iload_n (pc := 4) dX6_bears_4 rfl ?_
  refine cs_X6_93 (pc := 5) hY.rm (c_X1_has) ⟨Nat.le_of_ble_eq_true rfl, Nat.le_of_ble_eq_true rfl⟩ dX6_bears_5 (Nat.le_of_ble_eq_true rfl) (fun x_5 u_5 h_5 => ?_)
  obtain ⟨rfl, hu_5⟩ := h_5
  replace hu_5 := hu_5.symm
  subst hu_5
  refine PW.if_ne (pc := 8) (tgt := 14) dX6_bears_8 (by decide) (fun c_8 => ?_) (fun c_8 => PW.st rfl rfl rfl (bad (has_f hn c_8)))
  have G := has_t hn c_8
  obtain ⟨f1, f2⟩ := okF_nat G h10
  clear c_8 bad
  revert f1 f2
  generalize na f = fN at *
  intro f1 f2
  subst f1
  have loop : ∀ v, v ≤ 60 → topF (fun v => decide (stP (M.1 14) (M.1 31) (M.1 13) (M.1 15) fN (nI v))) v = topF (fun v => decide (stP (M.1 14) (M.1 31) (M.1 13) (M.1 15) fN (nI v))) 60 → P_X6_bears Y 17 [(0, .ref 0), (1, .int (nI fN)), (2, .int (nI v))] [] M := by
    intro v
    induction v with
    | zero =>
      intro _ e
      refine PW.iload_n (pc := 17) dX6_bears_17 rfl ?_
      refine PW.if_le (pc := 18) (tgt := 36) dX6_bears_18 (by decide) (fun _ => ?_) (fun c => absurd ((Int32.le_refl _)) c)
      refine PW.iload_n (pc := 36) dX6_bears_36 rfl ?_
      refine PW.iret (pc := 37) hY ?_ dX6_bears_37
      refine x_ri ?_
      rw [if_pos G, ← e]
      exact ⟨rfl, rfl⟩
    | succ v ih =>
      intro hv e
      refine PW.iload_n (pc := 17) dX6_bears_17 rfl ?_
      refine PW.if_le (pc := 18) (tgt := 36) dX6_bears_18 (by decide) (fun c => absurd c ((nI_nle (by omega) (by omega)))) (fun _ => ?_)
      refine PW.aload_n (pc := 21) dX6_bears_21 rfl ?_
      refine PW.iload_n (pc := 22) dX6_bears_22 rfl ?_
      refine PW.iload_n (pc := 23) dX6_bears_23 rfl ?_
      refine cs_X6_189 (pc := 24) hY.rm (c_X6_stands hC (by omega)) ⟨Nat.le_of_ble_eq_true rfl, Nat.le_of_ble_eq_true rfl⟩ dX6_bears_24 (Nat.le_of_ble_eq_true rfl) (fun x_24 u_24 h_24 => ?_)
      obtain ⟨rfl, hu_24⟩ := h_24
      replace hu_24 := hu_24.symm
      subst hu_24
      refine PW.if_ne (pc := 27) (tgt := 36) dX6_bears_27 (by decide) (fun c_27 => ?_) (fun c_27 => ?_)
      · have k := bool_t c_27
        refine PW.iload_n (pc := 36) dX6_bears_36 rfl ?_
        refine PW.iret (pc := 37) hY ?_ dX6_bears_37
        refine x_ri ?_
        rw [if_pos G, ← e, topF, if_pos (by simp [k])]
        exact ⟨rfl, rfl⟩
      · have k := bool_f c_27
        refine PW.iinc (pc := 30) dX6_bears_30 rfl (x_dec1 v) (by decide) rfl ?_
        refine PW.goto (pc := 33) (tgt := 17) dX6_bears_33 (by decide) ?_
        refine PW.st rfl rfl rfl (ih (by omega) ?_)
        rw [← e, topF, if_neg (by simp [k])]
  refine PW.bipush (pc := 14) (v := nI 60) dX6_bears_14 (by decide) ?_
  refine PW.istore_n (pc := 16) (i := 2) dX6_bears_16 rfl (by decide) rfl ?_
  exact PW.st rfl rfl rfl (loop 60 (Nat.le_refl _) rfl)
def guP (st fr ls ba ho so sk : Nat → Int32) (d v : Int32) (g : Nat) : Bool := decide (st g = nI 1 ∧ fr g ≤ d ∧ d ≤ ls g ∧ ¬ stP ba ho so sk g v)
set_option maxHeartbeats 4000000 in
set_option maxRecDepth 20000 in
theorem c_X6_gust {d v : Int32} {n : Nat} {M : xM} (hn : M.1 8 9 = nI n) (h10 : n ≤ 10) (hC : TC M) : K_X6_gust [.ref 0, .int d, .int v] M (xRi (fun x u => (x = if inr d (nI 0) (nI 60) ∧ inr v (nI 0) (nI 60) then nI (bset (guP (M.1 12) (M.1 9) (M.1 10) (M.1 14) (M.1 31) (M.1 13) (M.1 15) d v) n) else (-2)) ∧ u = M)) := by
  refine xMet.of (own := RX6) rfl (by decide) (Nat.le_of_ble_eq_true rfl) rfl (fun Y hY => ?_)
  have bad : ¬ (inr d (nI 0) (nI 60) ∧ inr v (nI 0) (nI 60)) → P_X6_gust Y 20 [] [] M := by
    intro h
    refine PW.bipush (pc := 20) (v := (-2)) dX6_gust_20 (by decide) ?_
    refine PW.iret (pc := 22) hY ?_ dX6_gust_22
    refine x_ri ?_
    rw [if_neg h]; exact ⟨rfl, rfl⟩
  refine PW.iload_n (pc := 0) dX6_gust_0 rfl ?_
  refine PW.iconst (pc := 1) (v := nI 0) dX6_gust_1 (by decide) ?_
  refine PW.bipush (pc := 2) (v := nI 60) dX6_gust_2 (by decide) ?_
  refine cs_X6_69 (pc := 4) hY.rm (c_X6_outside) ⟨Nat.le_of_ble_eq_true rfl, Nat.le_of_ble_eq_true rfl⟩ dX6_gust_4 (Nat.le_of_ble_eq_true rfl) (fun x_4 u_4 h_4 => ?_)
  obtain ⟨rfl, hu_4⟩ := h_4
  replace hu_4 := hu_4.symm
  subst hu_4
  refine PW.if_ne (pc := 7) (tgt := 20) dX6_gust_7 (by decide) (fun c_7 => PW.st rfl rfl rfl (bad (fun h => out_t c_7 h.1))) (fun c_7 => ?_)
  refine PW.iload_n (pc := 10) dX6_gust_10 rfl ?_
  refine PW.iconst (pc := 11) (v := nI 0) dX6_gust_11 (by decide) ?_
  refine PW.bipush (pc := 12) (v := nI 60) dX6_gust_12 (by decide) ?_
  refine cs_X6_69 (pc := 14) hY.rm (c_X6_outside) ⟨Nat.le_of_ble_eq_true rfl, Nat.le_of_ble_eq_true rfl⟩ dX6_gust_14 (Nat.le_of_ble_eq_true rfl) (fun x_14 u_14 h_14 => ?_)
  obtain ⟨rfl, hu_14⟩ := h_14
  replace hu_14 := hu_14.symm
  subst hu_14
  refine PW.if_eq (pc := 17) (tgt := 23) dX6_gust_17 (by decide) (fun c_17 => ?_) (fun c_17 => PW.st rfl rfl rfl (bad (fun h => out_t c_17 h.2)))
  have G : inr d (nI 0) (nI 60) ∧ inr v (nI 0) (nI 60) := ⟨out_f c_7, out_f c_17⟩
  clear bad c_7 c_17
  generalize hP : guP (M.1 12) (M.1 9) (M.1 10) (M.1 14) (M.1 31) (M.1 13) (M.1 15) d v = P at *
  have loop : ∀ g, g ≤ n → P_X6_gust Y 28 [(0, .ref 0), (1, .int d), (2, .int v), (3, .int (nI (bset P g))), (4, .int (nI g))] [] M := by
    refine x_down ?_ ?_
    · refine PW.iload (pc := 28) dX6_gust_28 rfl ?_
      refine PW.aload_n (pc := 30) dX6_gust_30 rfl ?_
      refine gf_X6_19 (pc := 31) dX6_gust_31 ?_
      refine gf_X6_193 (pc := 34) dX6_gust_34 ?_
      refine PW.icmp_ge (pc := 37) (tgt := 117) dX6_gust_37 (by decide) (fun _ => ?_) (fun c => absurd ((by rw [hn]; exact nI_le (Nat.le_refl _) (by omega))) c)
      refine PW.iload_n (pc := 117) dX6_gust_117 rfl ?_
      refine PW.iret (pc := 118) hY ?_ dX6_gust_118
      refine x_ri ?_
      rw [if_pos G]
      exact ⟨rfl, rfl⟩
    · intro g hg ih
      have at111 : ∀ w, nI w = nI (bset P (g + 1)) → P_X6_gust Y 111 [(0, .ref 0), (1, .int d), (2, .int v), (3, .int (nI w)), (4, .int (nI g))] [] M := by
        intro w hw
        rw [hw]
        refine PW.iinc (pc := 111) dX6_gust_111 rfl (x_inc1 _) (by decide) rfl ?_
        refine PW.goto (pc := 114) (tgt := 28) dX6_gust_114 (by decide) ?_
        exact PW.st rfl rfl rfl ih
      have no : P g = false → nI (bset P g) = nI (bset P (g + 1)) := by
        intro q
        rw [bset, if_neg (by rw [q]; simp), Nat.or_zero]
      have at86 : P g = false → P_X6_gust Y 86 [(0, .ref 0), (1, .int d), (2, .int v), (3, .int (nI (bset P g))), (4, .int (nI g))] [] M := by
        intro q
        refine PW.iconst (pc := 86) (v := nI 0) dX6_gust_86 (by decide) ?_
        refine PW.istore (pc := 87) dX6_gust_87 (by decide) rfl ?_
        refine PW.iload (pc := 89) dX6_gust_89 rfl ?_
        refine PW.if_eq (pc := 91) (tgt := 111) dX6_gust_91 (by decide) (fun _ => ?_) (fun c => absurd (rfl) c)
        exact PW.st rfl rfl rfl (at111 _ (no q))
      refine PW.iload (pc := 28) dX6_gust_28 rfl ?_
      refine PW.aload_n (pc := 30) dX6_gust_30 rfl ?_
      refine gf_X6_19 (pc := 31) dX6_gust_31 ?_
      refine gf_X6_193 (pc := 34) dX6_gust_34 ?_
      refine PW.icmp_ge (pc := 37) (tgt := 117) dX6_gust_37 (by decide) (fun c => absurd c ((by rw [hn]; exact nI_ge hg (by omega)))) (fun _ => ?_)
      refine PW.aload_n (pc := 40) dX6_gust_40 rfl ?_
      refine gf_X6_19 (pc := 41) dX6_gust_41 ?_
      refine gf_X6_96 (pc := 44) dX6_gust_44 ?_
      refine PW.iload (pc := 47) dX6_gust_47 rfl ?_
      refine PW.ialdN (pc := 49) rfl rfl (by omega) (by decide) dX6_gust_49 ?_
      refine PW.iconst (pc := 50) (v := nI 1) dX6_gust_50 (by decide) ?_
      refine PW.icmp_ne (pc := 51) (tgt := 86) dX6_gust_51 (by decide) (fun c_51 => ?_) (fun c_51 => ?_)
      · exact PW.st rfl rfl rfl (at86 (by rw [← hP]; simp [guP, c_51]))
      · refine PW.aload_n (pc := 54) dX6_gust_54 rfl ?_
        refine gf_X6_19 (pc := 55) dX6_gust_55 ?_
        refine gf_X6_194 (pc := 58) dX6_gust_58 ?_
        refine PW.iload (pc := 61) dX6_gust_61 rfl ?_
        refine PW.ialdN (pc := 63) rfl rfl (by omega) (by decide) dX6_gust_63 ?_
        refine PW.iload_n (pc := 64) dX6_gust_64 rfl ?_
        refine PW.icmp_gt (pc := 65) (tgt := 86) dX6_gust_65 (by decide) (fun c_65 => ?_) (fun c_65 => ?_)
        · exact PW.st rfl rfl rfl (at86 (by rw [← hP]; simp [guP, x_nl c_65]))
        · refine PW.iload_n (pc := 68) dX6_gust_68 rfl ?_
          refine PW.aload_n (pc := 69) dX6_gust_69 rfl ?_
          refine gf_X6_19 (pc := 70) dX6_gust_70 ?_
          refine gf_X6_197 (pc := 73) dX6_gust_73 ?_
          refine PW.iload (pc := 76) dX6_gust_76 rfl ?_
          refine PW.ialdN (pc := 78) rfl rfl (by omega) (by decide) dX6_gust_78 ?_
          refine PW.icmp_gt (pc := 79) (tgt := 86) dX6_gust_79 (by decide) (fun c_79 => ?_) (fun c_79 => ?_)
          · exact PW.st rfl rfl rfl (at86 (by rw [← hP]; simp [guP, x_nl c_79]))
          · refine PW.iconst (pc := 82) (v := nI 1) dX6_gust_82 (by decide) ?_
            refine PW.goto (pc := 83) (tgt := 87) dX6_gust_83 (by decide) ?_
            refine PW.istore (pc := 87) dX6_gust_87 (by decide) rfl ?_
            refine PW.iload (pc := 89) dX6_gust_89 rfl ?_
            refine PW.if_eq (pc := 91) (tgt := 111) dX6_gust_91 (by decide) (fun c => absurd c ((by decide))) (fun _ => ?_)
            refine PW.aload_n (pc := 94) dX6_gust_94 rfl ?_
            refine PW.iload (pc := 95) dX6_gust_95 rfl ?_
            refine PW.iload_n (pc := 97) dX6_gust_97 rfl ?_
            refine cs_X6_189 (pc := 98) hY.rm (c_X6_stands hC (by omega)) ⟨Nat.le_of_ble_eq_true rfl, Nat.le_of_ble_eq_true rfl⟩ dX6_gust_98 (Nat.le_of_ble_eq_true rfl) (fun x_98 u_98 h_98 => ?_)
            obtain ⟨rfl, hu_98⟩ := h_98
            replace hu_98 := hu_98.symm
            subst hu_98
            refine PW.if_ne (pc := 101) (tgt := 111) dX6_gust_101 (by decide) (fun c_101 => ?_) (fun c_101 => ?_)
            · have k := bool_t c_101
              exact PW.st rfl rfl rfl (at111 _ (no (by rw [← hP]; simp [guP, k])))
            · have k := bool_f c_101
              refine PW.iload_n (pc := 104) dX6_gust_104 rfl ?_
              refine PW.iconst (pc := 105) (v := nI 1) dX6_gust_105 (by decide) ?_
              refine PW.iload (pc := 106) dX6_gust_106 rfl ?_
              refine PW.ishl (pc := 108) dX6_gust_108 ?_
              refine PW.ior (pc := 109) dX6_gust_109 ?_
              rw [x_shl1 (by omega), fa_or]
              refine PW.istore_n (pc := 110) (i := 3) dX6_gust_110 rfl (by decide) rfl ?_
              refine PW.st rfl rfl rfl (at111 _ ?_)
              rw [bset, if_pos (by rw [← hP]; simp only [guP, decide_eq_true_eq]; exact ⟨c_51, x_ge c_65, x_ge c_79, k⟩)]
  refine PW.iconst (pc := 23) (v := nI 0) dX6_gust_23 (by decide) ?_
  refine PW.istore_n (pc := 24) (i := 3) dX6_gust_24 rfl (by decide) rfl ?_
  refine PW.iconst (pc := 25) (v := nI 0) dX6_gust_25 (by decide) ?_
  refine PW.istore (pc := 26) dX6_gust_26 (by decide) rfl ?_
  exact PW.st rfl rfl rfl (loop 0 (Nat.zero_le _))
/-- weights of what a field needs -/
def wgt (nd we : Nat → Int32) (f : Nat) : Nat → Int32
  | 0 => nI 0
  | t + 1 => wgt nd we f t + nd (f * 6 + t) * we t
set_option maxHeartbeats 4000000 in
set_option maxRecDepth 20000 in
theorem c_X6_weightOf {f : Nat} {M : xM} (hf : f < 10) : K_X6_weightOf [.ref 0, .int (nI f)] M (xRi (fun x u => x = wgt (M.1 16) (M.1 4) f 6 ∧ u = M)) := by
  refine xMet.of (own := RX6) rfl (by decide) (Nat.le_of_ble_eq_true rfl) rfl (fun Y hY => ?_)
  refine x_loop (n := 6) (P := fun t => P_X6_weightOf Y 4 [(0, .ref 0), (1, .int (nI f)), (2, .int (wgt (M.1 16) (M.1 4) f t)), (3, .int (nI t))] [] M) (fun h => ?_) ?_ (fun t ht ih => ?_)
  · refine PW.iconst (pc := 0) (v := nI 0) dX6_weightOf_0 (by decide) ?_
    refine PW.istore_n (pc := 1) (i := 2) dX6_weightOf_1 rfl (by decide) rfl ?_
    refine PW.iconst (pc := 2) (v := nI 0) dX6_weightOf_2 (by decide) ?_
    refine PW.istore_n (pc := 3) (i := 3) dX6_weightOf_3 rfl (by decide) rfl ?_
    exact PW.st rfl rfl rfl h
  · refine PW.iload_n (pc := 4) dX6_weightOf_4 rfl ?_
    refine PW.bipush (pc := 5) (v := nI 6) dX6_weightOf_5 (by decide) ?_
    refine PW.icmp_ge (pc := 7) (tgt := 42) dX6_weightOf_7 (by decide) (fun _ => ?_) (fun c => absurd ((nI_le (Nat.le_refl _) (by omega))) c)
    refine PW.iload_n (pc := 42) dX6_weightOf_42 rfl ?_
    refine PW.iret (pc := 43) hY ?_ dX6_weightOf_43
    exact x_ri ⟨rfl, rfl⟩
  · refine PW.iload_n (pc := 4) dX6_weightOf_4 rfl ?_
    refine PW.bipush (pc := 5) (v := nI 6) dX6_weightOf_5 (by decide) ?_
    refine PW.icmp_ge (pc := 7) (tgt := 42) dX6_weightOf_7 (by decide) (fun c => absurd c ((nI_ge ht (by omega)))) (fun _ => ?_)
    refine PW.iload_n (pc := 10) dX6_weightOf_10 rfl ?_
    refine PW.aload_n (pc := 11) dX6_weightOf_11 rfl ?_
    refine gf_X6_19 (pc := 12) dX6_weightOf_12 ?_
    refine gf_X6_99 (pc := 15) dX6_weightOf_15 ?_
    refine PW.iload_n (pc := 18) dX6_weightOf_18 rfl ?_
    refine PW.iload_n (pc := 19) dX6_weightOf_19 rfl ?_
    refine cs_X6_102 (pc := 20) hY.rm (c_X6_cell) ⟨Nat.le_of_ble_eq_true rfl, Nat.le_of_ble_eq_true rfl⟩ dX6_weightOf_20 (Nat.le_of_ble_eq_true rfl) (fun x_20 u_20 h_20 => ?_)
    obtain ⟨rfl, hu_20⟩ := h_20
    replace hu_20 := hu_20.symm
    subst hu_20
    refine PW.ialdN (pc := 23) rfl rfl (by omega) (by decide) dX6_weightOf_23 ?_
    refine PW.aload_n (pc := 24) dX6_weightOf_24 rfl ?_
    refine gf_X6_12 (pc := 25) dX6_weightOf_25 ?_
    refine gf_X6_79 (pc := 28) dX6_weightOf_28 ?_
    refine PW.iload_n (pc := 31) dX6_weightOf_31 rfl ?_
    refine PW.ialdN (pc := 32) rfl rfl (by omega) (by decide) dX6_weightOf_32 ?_
    refine PW.imul (pc := 33) dX6_weightOf_33 ?_
    refine PW.iadd (pc := 34) dX6_weightOf_34 ?_
    refine PW.istore_n (pc := 35) (i := 2) dX6_weightOf_35 rfl (by decide) rfl ?_
    refine PW.iinc (pc := 36) dX6_weightOf_36 rfl (x_inc1 _) (by decide) rfl ?_
    refine PW.goto (pc := 39) (tgt := 4) dX6_weightOf_39 (by decide) ?_
    exact PW.st rfl rfl rfl ih
abbrev wkP (st fr ls : Nat → Int32) (d : Int32) (g : Nat) : Prop := st g = nI 1 ∧ (fr g = d ∨ ls g = d)
def lds (st fr ls nd we : Nat → Int32) (d : Int32) : Nat → Int32
  | 0 => nI 0
  | g + 1 => if wkP st fr ls d g then lds st fr ls nd we d g + wgt nd we g 6 else lds st fr ls nd we d g
set_option maxHeartbeats 4000000 in
set_option maxRecDepth 20000 in
theorem c_X6_loads {d r : Int32} {n : Nat} {M : xM} (hn : M.1 8 9 = nI n) (h10 : n ≤ 10) : K_X6_loads [.ref 0, .int d, .int r] M (xRi (fun x u => (x = if inr d (nI 0) (nI 60) ∧ inr r (nI 1) (nI 100000) then (lds (M.1 12) (M.1 9) (M.1 10) (M.1 16) (M.1 4) d n + r - nI 1) / r else (-2)) ∧ u = M)) := by
  refine xMet.of (own := RX6) rfl (by decide) (Nat.le_of_ble_eq_true rfl) rfl (fun Y hY => ?_)
  have bad : ¬ (inr d (nI 0) (nI 60) ∧ inr r (nI 1) (nI 100000)) → P_X6_loads Y 20 [] [] M := by
    intro h
    refine PW.bipush (pc := 20) (v := (-2)) dX6_loads_20 (by decide) ?_
    refine PW.iret (pc := 22) hY ?_ dX6_loads_22
    refine x_ri ?_
    rw [if_neg h]; exact ⟨rfl, rfl⟩
  refine PW.iload_n (pc := 0) dX6_loads_0 rfl ?_
  refine PW.iconst (pc := 1) (v := nI 0) dX6_loads_1 (by decide) ?_
  refine PW.bipush (pc := 2) (v := nI 60) dX6_loads_2 (by decide) ?_
  refine cs_X6_69 (pc := 4) hY.rm (c_X6_outside) ⟨Nat.le_of_ble_eq_true rfl, Nat.le_of_ble_eq_true rfl⟩ dX6_loads_4 (Nat.le_of_ble_eq_true rfl) (fun x_4 u_4 h_4 => ?_)
  obtain ⟨rfl, hu_4⟩ := h_4
  replace hu_4 := hu_4.symm
  subst hu_4
  refine PW.if_ne (pc := 7) (tgt := 20) dX6_loads_7 (by decide) (fun c_7 => PW.st rfl rfl rfl (bad (fun h => out_t c_7 h.1))) (fun c_7 => ?_)
  refine PW.iload_n (pc := 10) dX6_loads_10 rfl ?_
  refine PW.iconst (pc := 11) (v := nI 1) dX6_loads_11 (by decide) ?_
  refine PW.ldc (pc := 12) (v := nI 100000) (by decide +kernel) dX6_loads_12 ?_
  refine cs_X6_69 (pc := 14) hY.rm (c_X6_outside) ⟨Nat.le_of_ble_eq_true rfl, Nat.le_of_ble_eq_true rfl⟩ dX6_loads_14 (Nat.le_of_ble_eq_true rfl) (fun x_14 u_14 h_14 => ?_)
  obtain ⟨rfl, hu_14⟩ := h_14
  replace hu_14 := hu_14.symm
  subst hu_14
  refine PW.if_eq (pc := 17) (tgt := 23) dX6_loads_17 (by decide) (fun c_17 => ?_) (fun c_17 => PW.st rfl rfl rfl (bad (fun h => out_t c_17 h.2)))
  have G : inr d (nI 0) (nI 60) ∧ inr r (nI 1) (nI 100000) := ⟨out_f c_7, out_f c_17⟩
  clear bad c_7 c_17
  refine x_loop (n := n) (P := fun g => P_X6_loads Y 28 [(0, .ref 0), (1, .int d), (2, .int r), (3, .int (lds (M.1 12) (M.1 9) (M.1 10) (M.1 16) (M.1 4) d g)), (4, .int (nI g))] [] M) (fun h => ?_) ?_ (fun g hg ih => ?_)
  · refine PW.iconst (pc := 23) (v := nI 0) dX6_loads_23 (by decide) ?_
    refine PW.istore_n (pc := 24) (i := 3) dX6_loads_24 rfl (by decide) rfl ?_
    refine PW.iconst (pc := 25) (v := nI 0) dX6_loads_25 (by decide) ?_
    refine PW.istore (pc := 26) dX6_loads_26 (by decide) rfl ?_
    exact PW.st rfl rfl rfl h
  · refine PW.iload (pc := 28) dX6_loads_28 rfl ?_
    refine PW.aload_n (pc := 30) dX6_loads_30 rfl ?_
    refine gf_X6_19 (pc := 31) dX6_loads_31 ?_
    refine gf_X6_193 (pc := 34) dX6_loads_34 ?_
    refine PW.icmp_ge (pc := 37) (tgt := 68) dX6_loads_37 (by decide) (fun _ => ?_) (fun c => absurd ((by rw [hn]; exact nI_le (Nat.le_refl _) (by omega))) c)
    refine PW.iload_n (pc := 68) dX6_loads_68 rfl ?_
    refine PW.iload_n (pc := 69) dX6_loads_69 rfl ?_
    refine cs_X6_168 (pc := 70) hY.rm (c_X6_cutUp) ⟨Nat.le_of_ble_eq_true rfl, Nat.le_of_ble_eq_true rfl⟩ dX6_loads_70 (Nat.le_of_ble_eq_true rfl) (fun x_70 u_70 h_70 => ?_)
    obtain ⟨rfl, hu_70⟩ := h_70
    replace hu_70 := hu_70.symm
    subst hu_70
    rw [if_neg (x_ng G.2.1)]
    refine PW.iret (pc := 73) hY ?_ dX6_loads_73
    refine x_ri ?_
    rw [if_pos G]
    exact ⟨rfl, rfl⟩
  · refine PW.iload (pc := 28) dX6_loads_28 rfl ?_
    refine PW.aload_n (pc := 30) dX6_loads_30 rfl ?_
    refine gf_X6_19 (pc := 31) dX6_loads_31 ?_
    refine gf_X6_193 (pc := 34) dX6_loads_34 ?_
    refine PW.icmp_ge (pc := 37) (tgt := 68) dX6_loads_37 (by decide) (fun c => absurd c ((by rw [hn]; exact nI_ge hg (by omega)))) (fun _ => ?_)
    refine PW.aload_n (pc := 40) dX6_loads_40 rfl ?_
    refine gf_X6_19 (pc := 41) dX6_loads_41 ?_
    refine PW.iload (pc := 44) dX6_loads_44 rfl ?_
    refine PW.iload_n (pc := 46) dX6_loads_46 rfl ?_
    refine cs_X6_210 (pc := 47) hY.rm (c_X1_worksOn (by omega)) ⟨Nat.le_of_ble_eq_true rfl, Nat.le_of_ble_eq_true rfl⟩ dX6_loads_47 (Nat.le_of_ble_eq_true rfl) (fun x_47 u_47 h_47 => ?_)
    obtain ⟨rfl, hu_47⟩ := h_47
    replace hu_47 := hu_47.symm
    subst hu_47
    refine PW.if_eq (pc := 50) (tgt := 62) dX6_loads_50 (by decide) (fun c_50 => ?_) (fun c_50 => ?_)
    · have k := bool_f c_50
      refine PW.iinc (pc := 62) dX6_loads_62 rfl (x_inc1 _) (by decide) rfl ?_
      refine PW.goto (pc := 65) (tgt := 28) dX6_loads_65 (by decide) ?_
      refine PW.st rfl rfl ?_ ih
      rw [lds, if_neg k]; rfl
    · have k := bool_t c_50
      refine PW.iload_n (pc := 53) dX6_loads_53 rfl ?_
      refine PW.aload_n (pc := 54) dX6_loads_54 rfl ?_
      refine PW.iload (pc := 55) dX6_loads_55 rfl ?_
      refine cs_X6_213 (pc := 57) hY.rm (c_X6_weightOf (by omega)) ⟨Nat.le_of_ble_eq_true rfl, Nat.le_of_ble_eq_true rfl⟩ dX6_loads_57 (Nat.le_of_ble_eq_true rfl) (fun x_57 u_57 h_57 => ?_)
      obtain ⟨rfl, hu_57⟩ := h_57
      replace hu_57 := hu_57.symm
      subst hu_57
      refine PW.iadd (pc := 60) dX6_loads_60 ?_
      refine PW.istore_n (pc := 61) (i := 3) dX6_loads_61 rfl (by decide) rfl ?_
      refine PW.iinc (pc := 62) dX6_loads_62 rfl (x_inc1 _) (by decide) rfl ?_
      refine PW.goto (pc := 65) (tgt := 28) dX6_loads_65 (by decide) ?_
      refine PW.st rfl rfl ?_ ih
      rw [lds, if_pos k]; rfl
def totv (M : xM) (n : Nat) : Nat → Int32
  | 0 => M.1 8 9
  | 1 => nI (pcn (TK M n) 10)
  | 2 => M.1 22 2
  | 3 => M.1 18 1
  | 4 => gsum (M.1 7) 6
  | _ => M.1 0 7
set_option maxHeartbeats 4000000 in
set_option maxRecDepth 20000 in
theorem c_X6_total {w n : Nat} {M : xM} (hn : M.1 8 9 = nI n) (h10 : n ≤ 10) (hw : w ≤ 5) : K_X6_total [.ref 0, .int (nI w)] M (xRi (fun x u => x = totv M n w ∧ u = M)) := by
  refine xMet.of (own := RX6) rfl (by decide) (Nat.le_of_ble_eq_true rfl) rfl (fun Y hY => ?_)
  refine PW.iload_n (pc := 0) dX6_total_0 rfl ?_
  have e : (nI w).toInt = (w : Int) := nI_toInt (by omega)
  rcases (show w = 0 ∨ w = 1 ∨ w = 2 ∨ w = 3 ∨ w = 4 ∨ w = 5 by omega) with rfl | rfl | rfl | rfl | rfl | rfl
  · refine PW.tswIn (pc := 1) (tgt := 36) dX6_total_1 (by rw [e]; decide) (by rw [e]; decide) (by rw [e]; rfl) (by decide) ?_
    refine PW.aload_n (pc := 36) dX6_total_36 rfl ?_
    refine gf_X6_19 (pc := 37) dX6_total_37 ?_
    refine gf_X6_193 (pc := 40) dX6_total_40 ?_
    refine PW.iret (pc := 43) hY ?_ dX6_total_43
    exact x_ri ⟨rfl, rfl⟩
  · refine PW.tswIn (pc := 1) (tgt := 44) dX6_total_1 (by rw [e]; decide) (by rw [e]; decide) (by rw [e]; rfl) (by decide) ?_
    refine PW.aload_n (pc := 44) dX6_total_44 rfl ?_
    refine gf_X6_19 (pc := 45) dX6_total_45 ?_
    refine PW.iconst (pc := 48) (v := nI 1) dX6_total_48 (by decide) ?_
    refine cs_X6_110 (pc := 49) hY.rm (c_X1_setOf hn h10) ⟨Nat.le_of_ble_eq_true rfl, Nat.le_of_ble_eq_true rfl⟩ dX6_total_49 (Nat.le_of_ble_eq_true rfl) (fun x_49 u_49 h_49 => ?_)
    obtain ⟨rfl, hu_49⟩ := h_49
    replace hu_49 := hu_49.symm
    subst hu_49
    refine cs_X6_163 (pc := 52) hY.rm (c_J6_bitCount_0f7a4 (xset_lt _ _ h10)) ⟨Nat.le_of_ble_eq_true rfl, Nat.le_of_ble_eq_true rfl⟩ dX6_total_52 (Nat.le_of_ble_eq_true rfl) (fun x_52 u_52 h_52 => ?_)
    obtain ⟨rfl, hu_52⟩ := h_52
    replace hu_52 := hu_52.symm
    subst hu_52
    refine PW.iret (pc := 55) hY ?_ dX6_total_55
    exact x_ri ⟨rfl, rfl⟩
  · refine PW.tswIn (pc := 1) (tgt := 56) dX6_total_1 (by rw [e]; decide) (by rw [e]; decide) (by rw [e]; rfl) (by decide) ?_
    refine PW.aload_n (pc := 56) dX6_total_56 rfl ?_
    refine gf_X6_40 (pc := 57) dX6_total_57 ?_
    refine gf_X6_174 (pc := 60) dX6_total_60 ?_
    refine PW.iret (pc := 63) hY ?_ dX6_total_63
    exact x_ri ⟨rfl, rfl⟩
  · refine PW.tswIn (pc := 1) (tgt := 64) dX6_total_1 (by rw [e]; decide) (by rw [e]; decide) (by rw [e]; rfl) (by decide) ?_
    refine PW.aload_n (pc := 64) dX6_total_64 rfl ?_
    refine gf_X6_26 (pc := 65) dX6_total_65 ?_
    refine gf_X6_251 (pc := 68) dX6_total_68 ?_
    refine PW.iret (pc := 71) hY ?_ dX6_total_71
    exact x_ri ⟨rfl, rfl⟩
  · refine PW.tswIn (pc := 1) (tgt := 72) dX6_total_1 (by rw [e]; decide) (by rw [e]; decide) (by rw [e]; rfl) (by decide) ?_
    refine PW.aload_n (pc := 72) dX6_total_72 rfl ?_
    refine gf_X6_12 (pc := 73) dX6_total_73 ?_
    refine cs_X6_254 (pc := 76) hY.rm (c_X5_allGone) ⟨Nat.le_of_ble_eq_true rfl, Nat.le_of_ble_eq_true rfl⟩ dX6_total_76 (Nat.le_of_ble_eq_true rfl) (fun x_76 u_76 h_76 => ?_)
    obtain ⟨rfl, hu_76⟩ := h_76
    replace hu_76 := hu_76.symm
    subst hu_76
    refine PW.iret (pc := 79) hY ?_ dX6_total_79
    exact x_ri ⟨rfl, rfl⟩
  · refine PW.tswOut (pc := 1) (tgt := 80) dX6_total_1 (by rw [e]; decide) (by decide) ?_
    refine PW.aload_n (pc := 80) dX6_total_80 rfl ?_
    refine gf_X6_61 (pc := 81) dX6_total_81 ?_
    refine PW.iret (pc := 84) hY ?_ dX6_total_84
    exact x_ri ⟨rfl, rfl⟩
set_option maxHeartbeats 4000000 in
set_option maxRecDepth 20000 in
theorem c_X6_count {w : Int32} {n : Nat} {M : xM} (hn : M.1 8 9 = nI n) (h10 : n ≤ 10) : K_X6_count [.ref 0, .int w] M (xRi (fun x u => (x = if inr w (nI 0) (nI 5) then totv M n (na w) else (-2)) ∧ u = M)) := by
  refine xMet.of (own := RX6) rfl (by decide) (Nat.le_of_ble_eq_true rfl) rfl (fun Y hY => ?_)
  refine PW.iload_n (pc := 0) dX6_count_0 rfl ?_
  refine PW.iconst (pc := 1) (v := nI 0) dX6_count_1 (by decide) ?_
  refine PW.iconst (pc := 2) (v := nI 5) dX6_count_2 (by decide) ?_
  refine cs_X6_69 (pc := 3) hY.rm (c_X6_outside) ⟨Nat.le_of_ble_eq_true rfl, Nat.le_of_ble_eq_true rfl⟩ dX6_count_3 (Nat.le_of_ble_eq_true rfl) (fun x_3 u_3 h_3 => ?_)
  obtain ⟨rfl, hu_3⟩ := h_3
  replace hu_3 := hu_3.symm
  subst hu_3
  refine PW.if_eq (pc := 6) (tgt := 14) dX6_count_6 (by decide) (fun c_6 => ?_) (fun c_6 => ?_)
  · have G := out_f c_6
    have w1 := x_pos G.1
    have w2 := na_le G.1 G.2 (by omega)
    clear c_6
    revert w1 w2
    generalize na w = wN at *
    intro w1 w2
    subst w1
    refine PW.aload_n (pc := 14) dX6_count_14 rfl ?_
    refine PW.iload_n (pc := 15) dX6_count_15 rfl ?_
    refine cs_X6_216 (pc := 16) hY.rm (c_X6_total hn h10 w2) ⟨Nat.le_of_ble_eq_true rfl, Nat.le_of_ble_eq_true rfl⟩ dX6_count_16 (Nat.le_of_ble_eq_true rfl) (fun x_16 u_16 h_16 => ?_)
    obtain ⟨rfl, hu_16⟩ := h_16
    replace hu_16 := hu_16.symm
    subst hu_16
    refine PW.iret (pc := 19) hY ?_ dX6_count_19
    refine x_ri ?_
    rw [if_pos G]
    exact ⟨rfl, rfl⟩
  · refine PW.bipush (pc := 9) (v := (-2)) dX6_count_9 (by decide) ?_
    refine PW.goto (pc := 11) (tgt := 19) dX6_count_11 (by decide) ?_
    refine PW.iret (pc := 19) hY ?_ dX6_count_19
    refine x_ri ?_
    rw [if_neg (out_t c_6)]
    exact ⟨rfl, rfl⟩
/-- a chain of numbers -/
def itr (g : Nat → Int64 → Int64) (h : Int64) : Nat → Int64
  | 0 => h
  | k + 1 => g k (itr g h k)
def dgs (f : Nat → Int32) (j : Nat) (h : Int64) : Int64 := lN 31 * h + (f j).toInt64
def dg2 (f g : Nat → Int32) (j : Nat) (h : Int64) : Int64 := lN 31 * (lN 31 * h + (f j).toInt64) + (g j).toInt64
def dgF (tel nd : Nat → Nat → Int32) (f : Nat) (h : Int64) : Int64 := itr (dgs (nd f)) (itr (dgs (tel f)) h 7) 6
def dg (n k : Nat) (tot : Nat → Int32) (tel nd : Nat → Nat → Int32) (ow go fr dd ho : Nat → Int32) : Int64 :=
  itr (dgs ho) (itr (dg2 fr dd) (itr (dg2 ow go) (itr (dgF tel nd) (itr (dgs tot) (lN 179) 6) n) 6) k) 4
set_option maxHeartbeats 4000000 in
set_option maxRecDepth 20000 in
theorem c_X6_digest {n k : Nat} {M : xM} (hn : M.1 8 9 = nI n) (h10 : n ≤ 10) (hk : M.1 22 2 = nI k) (h6 : k ≤ 6) : K_X6_digest [.ref 0] M (xRl (fun x u => x = dg n k (totv M n) (tellv M) (fun f t => M.1 16 (f * 6 + t)) (M.1 2) (M.1 7) (M.1 23) (M.1 24) (M.1 31) ∧ u = M)) := by
  unfold dg
  refine xMet.of (own := RX6) rfl (by decide) (Nat.le_of_ble_eq_true rfl) rfl (fun Y hY => ?_)
  generalize hh1 : itr (dgs (totv M n)) (lN 179) 6 = h1 at *
  generalize hh2 : itr (dgF (tellv M) (fun f t => M.1 16 (f * 6 + t))) h1 n = h2 at *
  generalize hh3 : itr (dg2 (M.1 2) (M.1 7)) h2 6 = h3 at *
  generalize hh4 : itr (dg2 (M.1 23) (M.1 24)) h3 k = h4 at *
  refine x_loop (n := 6) (P := fun j => P_X6_digest Y 6 [(0, .ref 0), (1, .long (itr (dgs (totv M n)) (lN 179) j)), (3, .int (nI j))] [] M) (fun h => ?_) ?_ (fun j hj ih => ?_)
  · refine PW.ldc2 (pc := 0) (v := lN 179) (by decide +kernel) dX6_digest_0 ?_
    refine PW.lstore_n (pc := 3) (i := 1) dX6_digest_3 rfl (by decide) rfl rfl ?_
    refine PW.iconst (pc := 4) (v := nI 0) dX6_digest_4 (by decide) ?_
    refine PW.istore_n (pc := 5) (i := 3) dX6_digest_5 rfl (by decide) rfl ?_
    exact PW.st rfl rfl rfl h
  · rw [hh1]
    refine x_loop (n := n) (P := fun j => P_X6_digest Y 32 [(0, .ref 0), (1, .long (itr (dgF (tellv M) (fun f t => M.1 16 (f * 6 + t))) h1 j)), (3, .int (nI j))] [] M) (fun h => ?_) ?_ (fun j hj ih => ?_)
    · refine PW.iload_n (pc := 6) dX6_digest_6 rfl ?_
      refine PW.iconst (pc := 7) (v := nI 5) dX6_digest_7 (by decide) ?_
      refine PW.icmp_gt (pc := 8) (tgt := 30) dX6_digest_8 (by decide) (fun _ => ?_) (fun c => absurd ((nI_lt (by omega) (by omega))) c)
      refine PW.iconst (pc := 30) (v := nI 0) dX6_digest_30 (by decide) ?_
      refine PW.istore_n (pc := 31) (i := 3) dX6_digest_31 rfl (by decide) rfl ?_
      exact PW.st rfl rfl rfl h
    · rw [hh2]
      refine x_loop (n := 6) (P := fun j => P_X6_digest Y 123 [(0, .ref 0), (1, .long (itr (dg2 (M.1 2) (M.1 7)) h2 j)), (3, .int (nI j))] [] M) (fun h => ?_) ?_ (fun j hj ih => ?_)
      · refine PW.iload_n (pc := 32) dX6_digest_32 rfl ?_
        refine PW.aload_n (pc := 33) dX6_digest_33 rfl ?_
        refine gf_X6_19 (pc := 34) dX6_digest_34 ?_
        refine gf_X6_193 (pc := 37) dX6_digest_37 ?_
        refine PW.icmp_ge (pc := 40) (tgt := 121) dX6_digest_40 (by decide) (fun _ => ?_) (fun c => absurd ((by rw [hn]; exact nI_le (Nat.le_refl _) (by omega))) c)
        refine PW.iconst (pc := 121) (v := nI 0) dX6_digest_121 (by decide) ?_
        refine PW.istore_n (pc := 122) (i := 3) dX6_digest_122 rfl (by decide) rfl ?_
        exact PW.st rfl rfl rfl h
      · rw [hh3]
        refine x_loop (n := k) (P := fun j => P_X6_digest Y 169 [(0, .ref 0), (1, .long (itr (dg2 (M.1 23) (M.1 24)) h3 j)), (3, .int (nI j))] [] M) (fun h => ?_) ?_ (fun j hj ih => ?_)
        · refine PW.iload_n (pc := 123) dX6_digest_123 rfl ?_
          refine PW.bipush (pc := 124) (v := nI 6) dX6_digest_124 (by decide) ?_
          refine PW.icmp_ge (pc := 126) (tgt := 167) dX6_digest_126 (by decide) (fun _ => ?_) (fun c => absurd ((nI_le (Nat.le_refl _) (by omega))) c)
          refine PW.iconst (pc := 167) (v := nI 0) dX6_digest_167 (by decide) ?_
          refine PW.istore_n (pc := 168) (i := 3) dX6_digest_168 rfl (by decide) rfl ?_
          exact PW.st rfl rfl rfl h
        · rw [hh4]
          refine x_loop (n := 4) (P := fun j => P_X6_digest Y 220 [(0, .ref 0), (1, .long (itr (dgs (M.1 31)) h4 j)), (3, .int (nI j))] [] M) (fun h => ?_) ?_ (fun j hj ih => ?_)
          · refine PW.iload_n (pc := 169) dX6_digest_169 rfl ?_
            refine PW.aload_n (pc := 170) dX6_digest_170 rfl ?_
            refine gf_X6_40 (pc := 171) dX6_digest_171 ?_
            refine gf_X6_174 (pc := 174) dX6_digest_174 ?_
            refine PW.icmp_ge (pc := 177) (tgt := 218) dX6_digest_177 (by decide) (fun _ => ?_) (fun c => absurd ((by rw [hk]; exact nI_le (Nat.le_refl _) (by omega))) c)
            refine PW.iconst (pc := 218) (v := nI 0) dX6_digest_218 (by decide) ?_
            refine PW.istore_n (pc := 219) (i := 3) dX6_digest_219 rfl (by decide) rfl ?_
            exact PW.st rfl rfl rfl h
          · refine PW.iload_n (pc := 220) dX6_digest_220 rfl ?_
            refine PW.iconst (pc := 221) (v := nI 4) dX6_digest_221 (by decide) ?_
            refine PW.icmp_ge (pc := 222) (tgt := 245) dX6_digest_222 (by decide) (fun _ => ?_) (fun c => absurd ((nI_le (Nat.le_refl _) (by omega))) c)
            refine PW.lload_n (pc := 245) dX6_digest_245 rfl ?_
            refine PW.lret (pc := 246) hY ?_ dX6_digest_246
            exact x_rl ⟨rfl, rfl⟩
          · refine PW.iload_n (pc := 220) dX6_digest_220 rfl ?_
            refine PW.iconst (pc := 221) (v := nI 4) dX6_digest_221 (by decide) ?_
            refine PW.icmp_ge (pc := 222) (tgt := 245) dX6_digest_222 (by decide) (fun c => absurd c ((nI_ge hj (by omega)))) (fun _ => ?_)
            refine PW.ldc2 (pc := 225) (v := lN 31) (by decide +kernel) dX6_digest_225 ?_
            refine PW.lload_n (pc := 228) dX6_digest_228 rfl ?_
            refine PW.lmul (pc := 229) dX6_digest_229 ?_
            refine PW.aload_n (pc := 230) dX6_digest_230 rfl ?_
            refine gf_X6_51 (pc := 231) dX6_digest_231 ?_
            refine PW.iload_n (pc := 234) dX6_digest_234 rfl ?_
            refine PW.ialdN (pc := 235) rfl rfl (by omega) (by decide) dX6_digest_235 ?_
            refine PW.i2l (pc := 236) dX6_digest_236 ?_
            refine PW.ladd (pc := 237) dX6_digest_237 ?_
            refine PW.lstore_n (pc := 238) (i := 1) dX6_digest_238 rfl (by decide) rfl rfl ?_
            refine PW.iinc (pc := 239) dX6_digest_239 rfl (x_inc1 _) (by decide) rfl ?_
            refine PW.goto (pc := 242) (tgt := 220) dX6_digest_242 (by decide) ?_
            exact PW.st rfl rfl rfl ih
        · refine PW.iload_n (pc := 169) dX6_digest_169 rfl ?_
          refine PW.aload_n (pc := 170) dX6_digest_170 rfl ?_
          refine gf_X6_40 (pc := 171) dX6_digest_171 ?_
          refine gf_X6_174 (pc := 174) dX6_digest_174 ?_
          refine PW.icmp_ge (pc := 177) (tgt := 218) dX6_digest_177 (by decide) (fun c => absurd c ((by rw [hk]; exact nI_ge hj (by omega)))) (fun _ => ?_)
          refine PW.ldc2 (pc := 180) (v := lN 31) (by decide +kernel) dX6_digest_180 ?_
          refine PW.ldc2 (pc := 183) (v := lN 31) (by decide +kernel) dX6_digest_183 ?_
          refine PW.lload_n (pc := 186) dX6_digest_186 rfl ?_
          refine PW.lmul (pc := 187) dX6_digest_187 ?_
          refine PW.aload_n (pc := 188) dX6_digest_188 rfl ?_
          refine gf_X6_40 (pc := 189) dX6_digest_189 ?_
          refine gf_X6_223 (pc := 192) dX6_digest_192 ?_
          refine PW.iload_n (pc := 195) dX6_digest_195 rfl ?_
          refine PW.ialdN (pc := 196) rfl rfl (by omega) (by decide) dX6_digest_196 ?_
          refine PW.i2l (pc := 197) dX6_digest_197 ?_
          refine PW.ladd (pc := 198) dX6_digest_198 ?_
          refine PW.lmul (pc := 199) dX6_digest_199 ?_
          refine PW.aload_n (pc := 200) dX6_digest_200 rfl ?_
          refine gf_X6_40 (pc := 201) dX6_digest_201 ?_
          refine gf_X6_226 (pc := 204) dX6_digest_204 ?_
          refine PW.iload_n (pc := 207) dX6_digest_207 rfl ?_
          refine PW.ialdN (pc := 208) rfl rfl (by omega) (by decide) dX6_digest_208 ?_
          refine PW.i2l (pc := 209) dX6_digest_209 ?_
          refine PW.ladd (pc := 210) dX6_digest_210 ?_
          refine PW.lstore_n (pc := 211) (i := 1) dX6_digest_211 rfl (by decide) rfl rfl ?_
          refine PW.iinc (pc := 212) dX6_digest_212 rfl (x_inc1 _) (by decide) rfl ?_
          refine PW.goto (pc := 215) (tgt := 169) dX6_digest_215 (by decide) ?_
          exact PW.st rfl rfl rfl ih
      · refine PW.iload_n (pc := 123) dX6_digest_123 rfl ?_
        refine PW.bipush (pc := 124) (v := nI 6) dX6_digest_124 (by decide) ?_
        refine PW.icmp_ge (pc := 126) (tgt := 167) dX6_digest_126 (by decide) (fun c => absurd c ((nI_ge hj (by omega)))) (fun _ => ?_)
        refine PW.ldc2 (pc := 129) (v := lN 31) (by decide +kernel) dX6_digest_129 ?_
        refine PW.ldc2 (pc := 132) (v := lN 31) (by decide +kernel) dX6_digest_132 ?_
        refine PW.lload_n (pc := 135) dX6_digest_135 rfl ?_
        refine PW.lmul (pc := 136) dX6_digest_136 ?_
        refine PW.aload_n (pc := 137) dX6_digest_137 rfl ?_
        refine gf_X6_12 (pc := 138) dX6_digest_138 ?_
        refine gf_X6_73 (pc := 141) dX6_digest_141 ?_
        refine PW.iload_n (pc := 144) dX6_digest_144 rfl ?_
        refine PW.ialdN (pc := 145) rfl rfl (by omega) (by decide) dX6_digest_145 ?_
        refine PW.i2l (pc := 146) dX6_digest_146 ?_
        refine PW.ladd (pc := 147) dX6_digest_147 ?_
        refine PW.lmul (pc := 148) dX6_digest_148 ?_
        refine PW.aload_n (pc := 149) dX6_digest_149 rfl ?_
        refine gf_X6_12 (pc := 150) dX6_digest_150 ?_
        refine gf_X6_133 (pc := 153) dX6_digest_153 ?_
        refine PW.iload_n (pc := 156) dX6_digest_156 rfl ?_
        refine PW.ialdN (pc := 157) rfl rfl (by omega) (by decide) dX6_digest_157 ?_
        refine PW.i2l (pc := 158) dX6_digest_158 ?_
        refine PW.ladd (pc := 159) dX6_digest_159 ?_
        refine PW.lstore_n (pc := 160) (i := 1) dX6_digest_160 rfl (by decide) rfl rfl ?_
        refine PW.iinc (pc := 161) dX6_digest_161 rfl (x_inc1 _) (by decide) rfl ?_
        refine PW.goto (pc := 164) (tgt := 123) dX6_digest_164 (by decide) ?_
        exact PW.st rfl rfl rfl ih
    · refine x_loop (n := 7) (P := fun i => P_X6_digest Y 46 [(0, .ref 0), (1, .long (itr (dgs (tellv M j)) (itr (dgF (tellv M) (fun f t => M.1 16 (f * 6 + t))) h1 j) i)), (3, .int (nI j)), (4, .int (nI i))] [] M) (fun h => ?_) ?_ (fun i hi ih2 => ?_)
      · refine PW.iload_n (pc := 32) dX6_digest_32 rfl ?_
        refine PW.aload_n (pc := 33) dX6_digest_33 rfl ?_
        refine gf_X6_19 (pc := 34) dX6_digest_34 ?_
        refine gf_X6_193 (pc := 37) dX6_digest_37 ?_
        refine PW.icmp_ge (pc := 40) (tgt := 121) dX6_digest_40 (by decide) (fun c => absurd c ((by rw [hn]; exact nI_ge hj (by omega)))) (fun _ => ?_)
        refine PW.iconst (pc := 43) (v := nI 0) dX6_digest_43 (by decide) ?_
        refine PW.istore (pc := 44) dX6_digest_44 (by decide) rfl ?_
        exact PW.st rfl rfl rfl h
      · refine x_loop (n := 6) (P := fun i => P_X6_digest Y 80 [(0, .ref 0), (1, .long (itr (dgs (fun t => M.1 16 (j * 6 + t))) (itr (dgs (tellv M j)) (itr (dgF (tellv M) (fun f t => M.1 16 (f * 6 + t))) h1 j) 7) i)), (3, .int (nI j)), (4, .int (nI i))] [] M) (fun h => ?_) ?_ (fun i hi ih2 => ?_)
        · refine PW.iload (pc := 46) dX6_digest_46 rfl ?_
          refine PW.bipush (pc := 48) (v := nI 6) dX6_digest_48 (by decide) ?_
          refine PW.icmp_gt (pc := 50) (tgt := 77) dX6_digest_50 (by decide) (fun _ => ?_) (fun c => absurd ((nI_lt (by omega) (by omega))) c)
          refine PW.iconst (pc := 77) (v := nI 0) dX6_digest_77 (by decide) ?_
          refine PW.istore (pc := 78) dX6_digest_78 (by decide) rfl ?_
          exact PW.st rfl rfl rfl h
        · refine PW.iload (pc := 80) dX6_digest_80 rfl ?_
          refine PW.bipush (pc := 82) (v := nI 6) dX6_digest_82 (by decide) ?_
          refine PW.icmp_ge (pc := 84) (tgt := 115) dX6_digest_84 (by decide) (fun _ => ?_) (fun c => absurd ((nI_le (Nat.le_refl _) (by omega))) c)
          refine PW.iinc (pc := 115) dX6_digest_115 rfl (x_inc1 _) (by decide) rfl ?_
          refine PW.goto (pc := 118) (tgt := 32) dX6_digest_118 (by decide) ?_
          exact PW.st rfl rfl rfl ih
        · refine PW.iload (pc := 80) dX6_digest_80 rfl ?_
          refine PW.bipush (pc := 82) (v := nI 6) dX6_digest_82 (by decide) ?_
          refine PW.icmp_ge (pc := 84) (tgt := 115) dX6_digest_84 (by decide) (fun c => absurd c ((nI_ge hi (by omega)))) (fun _ => ?_)
          refine PW.ldc2 (pc := 87) (v := lN 31) (by decide +kernel) dX6_digest_87 ?_
          refine PW.lload_n (pc := 90) dX6_digest_90 rfl ?_
          refine PW.lmul (pc := 91) dX6_digest_91 ?_
          refine PW.aload_n (pc := 92) dX6_digest_92 rfl ?_
          refine gf_X6_19 (pc := 93) dX6_digest_93 ?_
          refine gf_X6_99 (pc := 96) dX6_digest_96 ?_
          refine PW.iload_n (pc := 99) dX6_digest_99 rfl ?_
          refine PW.iload (pc := 100) dX6_digest_100 rfl ?_
          refine cs_X6_102 (pc := 102) hY.rm (c_X6_cell) ⟨Nat.le_of_ble_eq_true rfl, Nat.le_of_ble_eq_true rfl⟩ dX6_digest_102 (Nat.le_of_ble_eq_true rfl) (fun x_102 u_102 h_102 => ?_)
          obtain ⟨rfl, hu_102⟩ := h_102
          replace hu_102 := hu_102.symm
          subst hu_102
          refine PW.ialdN (pc := 105) rfl rfl (by omega) (by decide) dX6_digest_105 ?_
          refine PW.i2l (pc := 106) dX6_digest_106 ?_
          refine PW.ladd (pc := 107) dX6_digest_107 ?_
          refine PW.lstore_n (pc := 108) (i := 1) dX6_digest_108 rfl (by decide) rfl rfl ?_
          refine PW.iinc (pc := 109) dX6_digest_109 rfl (x_inc1 _) (by decide) rfl ?_
          refine PW.goto (pc := 112) (tgt := 80) dX6_digest_112 (by decide) ?_
          exact PW.st rfl rfl rfl ih2
      · refine PW.iload (pc := 46) dX6_digest_46 rfl ?_
        refine PW.bipush (pc := 48) (v := nI 6) dX6_digest_48 (by decide) ?_
        refine PW.icmp_gt (pc := 50) (tgt := 77) dX6_digest_50 (by decide) (fun c => absurd c ((nI_nlt (by omega) (by omega)))) (fun _ => ?_)
        refine PW.ldc2 (pc := 53) (v := lN 31) (by decide +kernel) dX6_digest_53 ?_
        refine PW.lload_n (pc := 56) dX6_digest_56 rfl ?_
        refine PW.lmul (pc := 57) dX6_digest_57 ?_
        refine PW.aload_n (pc := 58) dX6_digest_58 rfl ?_
        refine gf_X6_19 (pc := 59) dX6_digest_59 ?_
        refine PW.iload_n (pc := 62) dX6_digest_62 rfl ?_
        refine PW.iload (pc := 63) dX6_digest_63 rfl ?_
        refine cs_X6_136 (pc := 65) hY.rm (c_X1_tell (by omega) (by omega)) ⟨Nat.le_of_ble_eq_true rfl, Nat.le_of_ble_eq_true rfl⟩ dX6_digest_65 (Nat.le_of_ble_eq_true rfl) (fun x_65 u_65 h_65 => ?_)
        obtain ⟨rfl, hu_65⟩ := h_65
        replace hu_65 := hu_65.symm
        subst hu_65
        refine PW.i2l (pc := 68) dX6_digest_68 ?_
        refine PW.ladd (pc := 69) dX6_digest_69 ?_
        refine PW.lstore_n (pc := 70) (i := 1) dX6_digest_70 rfl (by decide) rfl rfl ?_
        refine PW.iinc (pc := 71) dX6_digest_71 rfl (x_inc1 _) (by decide) rfl ?_
        refine PW.goto (pc := 74) (tgt := 46) dX6_digest_74 (by decide) ?_
        exact PW.st rfl rfl rfl ih2
  · refine PW.iload_n (pc := 6) dX6_digest_6 rfl ?_
    refine PW.iconst (pc := 7) (v := nI 5) dX6_digest_7 (by decide) ?_
    refine PW.icmp_gt (pc := 8) (tgt := 30) dX6_digest_8 (by decide) (fun c => absurd c ((nI_nlt (by omega) (by omega)))) (fun _ => ?_)
    refine PW.ldc2 (pc := 11) (v := lN 31) (by decide +kernel) dX6_digest_11 ?_
    refine PW.lload_n (pc := 14) dX6_digest_14 rfl ?_
    refine PW.lmul (pc := 15) dX6_digest_15 ?_
    refine PW.aload_n (pc := 16) dX6_digest_16 rfl ?_
    refine PW.iload_n (pc := 17) dX6_digest_17 rfl ?_
    refine cs_X6_216 (pc := 18) hY.rm (c_X6_total hn h10 (by omega)) ⟨Nat.le_of_ble_eq_true rfl, Nat.le_of_ble_eq_true rfl⟩ dX6_digest_18 (Nat.le_of_ble_eq_true rfl) (fun x_18 u_18 h_18 => ?_)
    obtain ⟨rfl, hu_18⟩ := h_18
    replace hu_18 := hu_18.symm
    subst hu_18
    refine PW.i2l (pc := 21) dX6_digest_21 ?_
    refine PW.ladd (pc := 22) dX6_digest_22 ?_
    refine PW.lstore_n (pc := 23) (i := 1) dX6_digest_23 rfl (by decide) rfl rfl ?_
    refine PW.iinc (pc := 24) dX6_digest_24 rfl (x_inc1 _) (by decide) rfl ?_
    refine PW.goto (pc := 27) (tgt := 6) dX6_digest_27 (by decide) ?_
    exact PW.st rfl rfl rfl ih
