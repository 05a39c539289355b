/-! the ledger: entering a run of days -/
theorem i32_canc {a b c : Int32} (h : a + c = b + c) : a = b := by
  have h1 := congrArg (fun z => z - c) h
  simpa only [Int32.add_sub_cancel] using h1
theorem i64_canc {a b c : Int64} (h : a + c = b + c) : a = b := by
  have h1 := congrArg (fun z => z - c) h
  simpa only [Int64.add_sub_cancel] using h1
theorem LR_step {M M' : xM} {h p : Nat → Nat} {U V : Nat → Nat → Nat} {t d w : Nat} (ht : t < 6) (hd : d < 66) (hL : LR M h p U) (h1 : M'.1 21 = upd (M.1 21) (t * 66 + d) (nI w)) (hV : V t d = w) (hVo : ∀ t' d', ¬ (t' = t ∧ d' = d) → V t' d' = U t' d')
    (h2 : M'.1 20 2 + nI (if h t < U t d then 1 else 0) = M.1 20 2 + nI (if h t < w then 1 else 0)) (h3 : M'.2 20 3 + lN (p t * (U t d - h t)) = M.2 20 3 + lN (p t * (w - h t))) : LR M' h p V := by
  obtain ⟨a1, a2, a3⟩ := hL
  refine ⟨fun t' d' ht' hd' => ?_, ?_, ?_⟩
  · rw [h1, upd]
    by_cases e : t' = t ∧ d' = d
    · obtain ⟨rfl, rfl⟩ := e
      rw [if_pos rfl, hV]
    · rw [if_neg (by omega), a1 t' d' ht' hd', hVo t' d' e]
  · have e := dsum_upd (F := fun t d => if h t < U t d then 1 else 0) (G := fun t d => if h t < V t d then 1 else 0) ht hd (fun t' d' q => by simp only [hVo t' d' q])
    simp only [hV] at e
    rw [a2, nI_add] at h2
    have e2 : LKs h V + (if h t < U t d then 1 else 0) = LKs h U + (if h t < w then 1 else 0) := e
    rw [← e2, ← nI_add] at h2
    exact i32_canc h2
  · have e := dsum_upd (F := fun t d => p t * (U t d - h t)) (G := fun t d => p t * (V t d - h t)) ht hd (fun t' d' q => by simp only [hVo t' d' q])
    simp only [hV] at e
    rw [a3, lN_add] at h3
    have e2 : HSs h p V + p t * (U t d - h t) = HSs h p U + p t * (w - h t) := e
    rw [← e2, ← lN_add] at h3
    exact i64_canc h3
theorem x_bitv {P : Prop} [Decidable P] {x : Int32} (hx : x = xB (¬ (xB P = 0))) : x = nI (if P then 1 else 0) := by
  subst hx
  by_cases h : P
  · rw [if_pos h, xB_t h, xB_t (by decide)]
  · rw [if_neg h, xB_f h, xB_f (by decide)]
set_option maxHeartbeats 4000000 in
theorem LR_iter {M M2 : xM} {h p : Nat → Nat} {U V : Nat → Nat → Nat} {t d w u0 : Nat} {v : Int32} (ht : t < 6) (hd : d < 66) (hh : h t ≤ 1000) (hp : p t ≤ 1000) (hu0 : U t d = u0) (hu : u0 ≤ 5000) (hw : w ≤ 5000) (hv : nI u0 + v = nI w) (hL : LR M h p U) (hV : V t d = w) (hVo : ∀ t' d', ¬ (t' = t ∧ d' = d) → V t' d' = U t' d')
    (e1 : M2.1 21 = upd (M.1 21) (t * 66 + d) (M.1 21 (t * 66 + d) + v))
    (hc : (¬ h t < u0 ∧ ¬ h t < w ∧ M2.1 20 2 = M.1 20 2 ∧ M2.2 20 3 = M.2 20 3) ∨ (M2.1 20 2 = M.1 20 2 + (nI (if h t < w then 1 else 0) - nI (if h t < u0 then 1 else 0)) ∧ M2.2 20 3 = M.2 20 3 + (nI (p t)).toInt64 * (nI (w - h t) - nI (u0 - h t)).toInt64)) : LR M2 h p V := by
  subst hu0
  refine LR_step ht hd hL (by rw [e1, hL.1 t d ht hd, hv]) hV hVo ?_ ?_
  · rcases hc with ⟨c1, c2, c3, c4⟩ | ⟨c3, c4⟩
    · rw [c3, if_neg c1, if_neg c2]
    · rw [c3]
      rw [Int32.add_assoc, Int32.sub_add_cancel]
  · rcases hc with ⟨c1, c2, c3, c4⟩ | ⟨c3, c4⟩
    · rw [c4, show U t d - h t = 0 by omega, show w - h t = 0 by omega]
    · rw [c4, x_dif (by omega) (by omega), nI_l (by omega), Int64.mul_sub, lN_mul, lN_mul, Int64.add_assoc, Int64.sub_add_cancel]
theorem x_leI {a b : Nat} (ha : a < 2 ^ 30) (hb : b < 2 ^ 30) : (nI a - nI b ≤ 0) ↔ ¬ b < a := by
  rw [← x_subI ha hb]
  exact Int32.not_lt.symm
set_option maxHeartbeats 4000000 in
set_option maxRecDepth 20000 in
theorem c_X3_enter {t a b : Nat} {v : Int32} {h p : Nat → Nat} {U : Nat → Nat → Nat} {W : Nat → Nat} {M : xM} (ht : t < 6) (hab : a ≤ b) (hb : b < 66) (hh : h t ≤ 1000) (hp : p t ≤ 1000) (hU : ∀ d, U t d ≤ 5000) (hW : ∀ d, a ≤ d → d ≤ b → W d ≤ 5000 ∧ nI (U t d) + v = nI (W d)) (hL : LR M h p U) : K_X3_enter [.ref 20, .int (nI t), .int (nI a), .int (nI b), .int v, .int (nI (h t)), .int (nI (p t))] M (xRv (fun u => xFr M u ∧ u.1 20 1 = M.1 20 1 ∧ LR u h p (fun t' d' => if t' = t ∧ a ≤ d' ∧ d' ≤ b then W d' else U t' d'))) := by
  refine xMet.of (own := RX3) rfl (by decide) (Nat.le_of_ble_eq_true rfl) rfl (fun Y hY => ?_)
  have h0 : ∀ M', xFr M M' → M'.1 20 1 = M.1 20 1 → LR M' h p (fun t' d' => if t' = t ∧ a ≤ d' ∧ d' < b + 1 then W d' else U t' d') → P_X3_enter Y 27 [(0, .ref 20), (1, .int (nI t)), (2, .int (nI a)), (3, .int (nI b)), (4, .int v), (5, .int (nI (h t))), (6, .int (nI (p t))), (7, .int (nI (t * 66))), (8, .int (nI (b + 1)))] [] M' := by
    intro M' hF hs hL'
    refine PW.iload (pc := 27) dX3_enter_27 rfl ?_
    refine PW.iload_n (pc := 29) dX3_enter_29 rfl ?_
    refine PW.icmp_gt (pc := 30) (tgt := 152) dX3_enter_30 (by decide) (fun _ => ?_) (fun c => absurd ((nI_lt (by omega) (by omega))) c)
    refine PW.vret (pc := 152) hY ?_ dX3_enter_152
    refine x_rv ⟨hF, hs, ?_⟩
    have e : (fun t' d' => if t' = t ∧ a ≤ d' ∧ d' ≤ b then W d' else U t' d') = (fun t' d' => if t' = t ∧ a ≤ d' ∧ d' < b + 1 then W d' else U t' d') := by
      funext t' d'
      have : (d' ≤ b) ↔ (d' < b + 1) := by omega
      simp only [this]
    rw [e]; exact hL'
  have hs : ∀ d, d < b + 1 → (a ≤ d + 1 → ∀ M', xFr M M' → M'.1 20 1 = M.1 20 1 → LR M' h p (fun t' d' => if t' = t ∧ a ≤ d' ∧ d' < d + 1 then W d' else U t' d') → P_X3_enter Y 27 [(0, .ref 20), (1, .int (nI t)), (2, .int (nI a)), (3, .int (nI b)), (4, .int v), (5, .int (nI (h t))), (6, .int (nI (p t))), (7, .int (nI (t * 66))), (8, .int (nI (d + 1)))] [] M') → (a ≤ d → ∀ M', xFr M M' → M'.1 20 1 = M.1 20 1 → LR M' h p (fun t' d' => if t' = t ∧ a ≤ d' ∧ d' < d then W d' else U t' d') → P_X3_enter Y 27 [(0, .ref 20), (1, .int (nI t)), (2, .int (nI a)), (3, .int (nI b)), (4, .int v), (5, .int (nI (h t))), (6, .int (nI (p t))), (7, .int (nI (t * 66))), (8, .int (nI d))] [] M') := by
    intro d hd ih had M' hF hs' hL'
    obtain ⟨w5, wv⟩ := hW d had (by omega)
    have hUd : (fun t' d' => if t' = t ∧ a ≤ d' ∧ d' < d then W d' else U t' d') t d = U t d := by
      show (if t = t ∧ a ≤ d ∧ d < d then W d else U t d) = U t d
      rw [if_neg (by omega)]
    have hVd : (fun t' d' => if t' = t ∧ a ≤ d' ∧ d' < d + 1 then W d' else U t' d') t d = W d := by
      show (if t = t ∧ a ≤ d ∧ d < d + 1 then W d else U t d) = W d
      rw [if_pos ⟨rfl, had, by omega⟩]
    have hVo : ∀ t' d', ¬ (t' = t ∧ d' = d) → (fun t' d' => if t' = t ∧ a ≤ d' ∧ d' < d + 1 then W d' else U t' d') t' d' = (fun t' d' => if t' = t ∧ a ≤ d' ∧ d' < d then W d' else U t' d') t' d' := by
      intro t' d' q
      show (if t' = t ∧ a ≤ d' ∧ d' < d + 1 then W d' else U t' d') = (if t' = t ∧ a ≤ d' ∧ d' < d then W d' else U t' d')
      have : (t' = t ∧ a ≤ d' ∧ d' < d + 1) ↔ (t' = t ∧ a ≤ d' ∧ d' < d) := by omega
      simp only [this]
    have hM21 : M'.1 21 (t * 66 + d) = nI (U t d) := by
      rw [hL'.1 t d ht (by omega), hUd]
    have hUt := hU d
    have aft : M'.1 21 (t * 66 + d) - nI (h t) + v = nI (W d) - nI (h t) := by rw [hM21, i32_aft, wv]
    have bef : M'.1 21 (t * 66 + d) - nI (h t) = nI (U t d) - nI (h t) := by rw [hM21]
    have next : ∀ M2, xFr M M2 → M2.1 20 1 = M.1 20 1 → M2.1 21 = upd (M'.1 21) (t * 66 + d) (M'.1 21 (t * 66 + d) + v) → ((¬ h t < U t d ∧ ¬ h t < W d ∧ M2.1 20 2 = M'.1 20 2 ∧ M2.2 20 3 = M'.2 20 3) ∨ (M2.1 20 2 = M'.1 20 2 + (nI (if h t < W d then 1 else 0) - nI (if h t < U t d then 1 else 0)) ∧ M2.2 20 3 = M'.2 20 3 + (nI (p t)).toInt64 * (nI (W d - h t) - nI (U t d - h t)).toInt64)) → ∀ L, L.lookup 0 = some (.ref 20) → L.lookup 1 = some (.int (nI t)) → L.lookup 2 = some (.int (nI a)) → L.lookup 3 = some (.int (nI b)) → L.lookup 4 = some (.int v) → L.lookup 5 = some (.int (nI (h t))) → L.lookup 6 = some (.int (nI (p t))) → L.lookup 7 = some (.int (nI (t * 66))) → L.lookup 8 = some (.int (nI d)) → xcat1 L 8 = true → P_X3_enter Y 146 L [] M2 := by
      intro M2 g1 g2 g3 g4 L q0 q1 q2 q3 q4 q5 q6 q7 q8 qc
      refine PW.iinc (pc := 146) dX3_enter_146 q8 (x_inc1 _) (by decide) qc ?_
      refine PW.goto (pc := 149) (tgt := 27) dX3_enter_149 (by decide) ?_
      refine PW.locs ?_ (ih (by omega) M2 g1 g2 (LR_iter ht (by omega) hh hp hUd hUt w5 wv hL' hVd hVo g3 g4))
      simp only [List.map, List.lookup, q0, q1, q2, q3, q4, q5, q6, q7]
      rfl
    refine PW.iload (pc := 27) dX3_enter_27 rfl ?_
    refine PW.iload_n (pc := 29) dX3_enter_29 rfl ?_
    refine PW.icmp_gt (pc := 30) (tgt := 152) dX3_enter_30 (by decide) (fun c => absurd c ((nI_nlt (by omega) (by omega)))) (fun _ => ?_)
    refine PW.aload_n (pc := 33) dX3_enter_33 rfl ?_
    refine gf_X3_9 (pc := 34) dX3_enter_34 ?_
    refine PW.iload (pc := 37) dX3_enter_37 rfl ?_
    refine PW.iload (pc := 39) dX3_enter_39 rfl ?_
    refine PW.iadd (pc := 41) dX3_enter_41 ?_
    refine PW.ialdN (pc := 42) rfl (nI_add _ _) (by omega) (by decide) dX3_enter_42 ?_
    refine PW.iload (pc := 43) dX3_enter_43 rfl ?_
    refine PW.isub (pc := 45) dX3_enter_45 ?_
    refine PW.istore (pc := 46) dX3_enter_46 (by decide) rfl ?_
    refine PW.iload (pc := 48) dX3_enter_48 rfl ?_
    refine PW.iload (pc := 50) dX3_enter_50 rfl ?_
    refine PW.iadd (pc := 52) dX3_enter_52 ?_
    refine PW.istore (pc := 53) dX3_enter_53 (by decide) rfl ?_
    refine PW.aload_n (pc := 55) dX3_enter_55 rfl ?_
    refine gf_X3_9 (pc := 56) dX3_enter_56 ?_
    refine PW.iload (pc := 59) dX3_enter_59 rfl ?_
    refine PW.iload (pc := 61) dX3_enter_61 rfl ?_
    refine PW.iadd (pc := 63) dX3_enter_63 ?_
    refine PW.dup2 (pc := 64) dX3_enter_64 rfl rfl ?_
    refine PW.ialdN (pc := 65) rfl (nI_add _ _) (by omega) (by decide) dX3_enter_65 ?_
    refine PW.iload (pc := 66) dX3_enter_66 rfl ?_
    refine PW.iadd (pc := 68) dX3_enter_68 ?_
    refine PW.iastN (pc := 69) rfl (nI_add _ _) (by omega) (by decide) dX3_enter_69 ?_
    have tail83 : P_X3_enter Y 83 ((10, .int (M'.1 21 (t * 66 + d) - nI (h t) + v)) :: (9, .int (M'.1 21 (t * 66 + d) - nI (h t))) :: [(0, .ref 20), (1, .int (nI t)), (2, .int (nI a)), (3, .int (nI b)), (4, .int v), (5, .int (nI (h t))), (6, .int (nI (p t))), (7, .int (nI (t * 66))), (8, .int (nI d))]) [] (xup M' 21 (t * 66 + d) (M'.1 21 (t * 66 + d) + v)) := by
      have at138 : P_X3_enter Y 138 ((10, .int (M'.1 21 (t * 66 + d) - nI (h t) + v)) :: (9, .int (M'.1 21 (t * 66 + d) - nI (h t))) :: [(0, .ref 20), (1, .int (nI t)), (2, .int (nI a)), (3, .int (nI b)), (4, .int v), (5, .int (nI (h t))), (6, .int (nI (p t))), (7, .int (nI (t * 66))), (8, .int (nI d))]) [.int (xB (h t < U t d)), .int (nI (if h t < W d then 1 else 0)), .int (M'.1 20 2), .ref 20] (xupL (xup M' 21 (t * 66 + d) (M'.1 21 (t * 66 + d) + v)) 20 3 (M'.2 20 3 + (nI (p t)).toInt64 * (nI (W d - h t) - nI (U t d - h t)).toInt64)) := by
        refine cs_X3_42 (pc := 138) hY.rm (c_X6_bit) ⟨Nat.le_of_ble_eq_true rfl, Nat.le_of_ble_eq_true rfl⟩ dX3_enter_138 (Nat.le_of_ble_eq_true rfl) (fun x_138 u_138 h_138 => ?_)
        obtain ⟨h_138, rfl⟩ := h_138
        rw [x_bitv h_138]
        refine PW.isub (pc := 141) dX3_enter_141 ?_
        refine PW.iadd (pc := 142) dX3_enter_142 ?_
        refine pf_X3_19 (pc := 143) dX3_enter_143 ?_
        refine next _ ?_ ?_ ?_ (Or.inr ⟨?_, ?_⟩) _ rfl rfl rfl rfl rfl rfl rfl rfl rfl rfl
        · intro q a1 a2
          funext j
          simp only [xup_1, xupL_1, a1, a2, false_and, if_false]
          rw [hF q a1 a2]
        · simp [xup_1, xupL_1, hs']
        · funext j
          simp [xup_1, xupL_1, upd]
        · simp [xup_1, xupL_1]
        · simp [xup_2, xupL_2]
      have at125 : P_X3_enter Y 125 ((10, .int (M'.1 21 (t * 66 + d) - nI (h t) + v)) :: (9, .int (M'.1 21 (t * 66 + d) - nI (h t))) :: [(0, .ref 20), (1, .int (nI t)), (2, .int (nI a)), (3, .int (nI b)), (4, .int v), (5, .int (nI (h t))), (6, .int (nI (p t))), (7, .int (nI (t * 66))), (8, .int (nI d))]) [.int (xB (h t < W d)), .int (M'.1 20 2), .ref 20] (xupL (xup M' 21 (t * 66 + d) (M'.1 21 (t * 66 + d) + v)) 20 3 (M'.2 20 3 + (nI (p t)).toInt64 * (nI (W d - h t) - nI (U t d - h t)).toInt64)) := by
        refine cs_X3_42 (pc := 125) hY.rm (c_X6_bit) ⟨Nat.le_of_ble_eq_true rfl, Nat.le_of_ble_eq_true rfl⟩ dX3_enter_125 (Nat.le_of_ble_eq_true rfl) (fun x_125 u_125 h_125 => ?_)
        obtain ⟨h_125, rfl⟩ := h_125
        rw [x_bitv h_125]
        refine PW.iload (pc := 128) dX3_enter_128 rfl ?_
        refine PW.if_le (pc := 130) (tgt := 137) dX3_enter_130 (by decide) (fun c_130 => ?_) (fun c_130 => ?_)
        · rw [bef] at c_130
          have k1 : ¬ h t < U t d := (x_leI (by omega) (by omega)).mp c_130
          refine PW.iconst (pc := 137) (v := nI 0) dX3_enter_137 (by decide) ?_
          rw [xB_f k1] at at138
          exact at138
        · rw [bef] at c_130
          have k1 : h t < U t d := (x_subI (by omega) (by omega)).mp (x_gt c_130)
          refine PW.iconst (pc := 133) (v := nI 1) dX3_enter_133 (by decide) ?_
          refine PW.goto (pc := 134) (tgt := 138) dX3_enter_134 (by decide) ?_
          rw [xB_t k1] at at138
          exact at138
      refine PW.aload_n (pc := 83) dX3_enter_83 rfl ?_
      refine PW.dup (pc := 84) dX3_enter_84 rfl ?_
      refine gf_X3_22 (pc := 85) dX3_enter_85 ?_
      refine PW.iload (pc := 88) dX3_enter_88 rfl ?_
      refine PW.i2l (pc := 90) dX3_enter_90 ?_
      refine PW.iconst (pc := 91) (v := nI 0) dX3_enter_91 (by decide) ?_
      refine PW.iload (pc := 92) dX3_enter_92 rfl ?_
      refine PW.mmax (pc := 94) (idx := 36) hY.rm (by decide) (by decide) (by decide +kernel) dX3_enter_94 (Nat.le_of_ble_eq_true rfl) ?_
      refine PW.iconst (pc := 97) (v := nI 0) dX3_enter_97 (by decide) ?_
      refine PW.iload (pc := 98) dX3_enter_98 rfl ?_
      refine PW.mmax (pc := 100) (idx := 36) hY.rm (by decide) (by decide) (by decide +kernel) dX3_enter_100 (Nat.le_of_ble_eq_true rfl) ?_
      refine PW.isub (pc := 103) dX3_enter_103 ?_
      refine PW.i2l (pc := 104) dX3_enter_104 ?_
      refine PW.lmul (pc := 105) dX3_enter_105 ?_
      refine PW.ladd (pc := 106) dX3_enter_106 ?_
      refine pf_X3_22 (pc := 107) dX3_enter_107 ?_
      refine PW.aload_n (pc := 110) dX3_enter_110 rfl ?_
      refine PW.dup (pc := 111) dX3_enter_111 rfl ?_
      refine gf_X3_19 (pc := 112) dX3_enter_112 ?_
      refine PW.iload (pc := 115) dX3_enter_115 rfl ?_
      have e1 : (if nI 0 < M'.1 21 (t * 66 + d) - nI (h t) + v then M'.1 21 (t * 66 + d) - nI (h t) + v else nI 0) = nI (W d - h t) := by
        rw [aft]; exact x_max0 (by omega) (by omega)
      have e2 : (if nI 0 < M'.1 21 (t * 66 + d) - nI (h t) then M'.1 21 (t * 66 + d) - nI (h t) else nI 0) = nI (U t d - h t) := by
        rw [bef]; exact x_max0 (by omega) (by omega)
      rw [e1, e2]
      refine PW.if_le (pc := 117) (tgt := 124) dX3_enter_117 (by decide) (fun c_117 => ?_) (fun c_117 => ?_)
      · rw [aft] at c_117
        have k1 : ¬ h t < W d := (x_leI (by omega) (by omega)).mp c_117
        refine PW.iconst (pc := 124) (v := nI 0) dX3_enter_124 (by decide) ?_
        rw [xB_f k1] at at125
        refine PW.st rfl ?_ rfl at125
        simp [xup_1, xupL_1]
      · rw [aft] at c_117
        have k1 : h t < W d := (x_subI (by omega) (by omega)).mp (x_gt c_117)
        refine PW.iconst (pc := 120) (v := nI 1) dX3_enter_120 (by decide) ?_
        refine PW.goto (pc := 121) (tgt := 125) dX3_enter_121 (by decide) ?_
        rw [xB_t k1] at at125
        refine PW.st rfl ?_ rfl at125
        simp [xup_1, xupL_1]
    refine PW.iload (pc := 70) dX3_enter_70 rfl ?_
    refine PW.if_gt (pc := 72) (tgt := 83) dX3_enter_72 (by decide) (fun c_72 => ?_) (fun c_72 => ?_)
    · exact tail83
    · refine PW.iload (pc := 75) dX3_enter_75 rfl ?_
      refine PW.if_gt (pc := 77) (tgt := 83) dX3_enter_77 (by decide) (fun c_77 => ?_) (fun c_77 => ?_)
      · exact tail83
      · refine PW.goto (pc := 80) (tgt := 146) dX3_enter_80 (by decide) ?_
        rw [bef] at c_72
        rw [aft] at c_77
        have k1 := fun q => c_72 ((x_subI (by omega) (by omega)).mpr q)
        have k2 := fun q => c_77 ((x_subI (by omega) (by omega)).mpr q)
        refine next _ ?_ ?_ ?_ (Or.inl ⟨k1, k2, ?_, ?_⟩) _ rfl rfl rfl rfl rfl rfl rfl rfl rfl rfl
        · intro q a1 a2
          funext j
          simp only [xup_1, a2, false_and, if_false]
          rw [hF q a1 a2]
        · simp [xup_1, hs']
        · simp [xup]
        · simp [xup_1]
        · rfl
  refine PW.iload_n (pc := 0) dX3_enter_0 rfl ?_
  refine cs_X3_32 (pc := 1) hY.rm (c_X6_isThing) ⟨Nat.le_of_ble_eq_true rfl, Nat.le_of_ble_eq_true rfl⟩ dX3_enter_1 (Nat.le_of_ble_eq_true rfl) (fun x_1 u_1 h_1 => ?_)
  obtain ⟨h_1, rfl⟩ := h_1
  have k1 : x_1 = nI 1 := h_1.trans (xB_t ⟨nI_pos' (by omega), nI_lt ht (by omega)⟩)
  subst k1
  refine PW.if_eq (pc := 4) (tgt := 17) dX3_enter_4 (by decide) (fun c => absurd c ((by decide))) (fun _ => ?_)
  refine PW.iload_n (pc := 7) dX3_enter_7 rfl ?_
  refine PW.if_lt (pc := 8) (tgt := 17) dX3_enter_8 (by decide) (fun c => absurd c ((nI_pos (by omega)))) (fun _ => ?_)
  refine PW.iload_n (pc := 11) dX3_enter_11 rfl ?_
  refine PW.bipush (pc := 12) (v := nI 66) dX3_enter_12 (by decide) ?_
  refine PW.icmp_lt (pc := 14) (tgt := 18) dX3_enter_14 (by decide) (fun _ => ?_) (fun c => absurd ((nI_lt hb (by omega))) c)
  refine PW.iload_n (pc := 18) dX3_enter_18 rfl ?_
  refine PW.bipush (pc := 19) (v := nI 66) dX3_enter_19 (by decide) ?_
  refine PW.imul (pc := 21) dX3_enter_21 ?_
  refine PW.istore (pc := 22) dX3_enter_22 (by decide) rfl ?_
  refine PW.iload_n (pc := 24) dX3_enter_24 rfl ?_
  refine PW.istore (pc := 25) dX3_enter_25 (by decide) rfl ?_
  refine PW.st rfl rfl ?_ (x_down (n := b + 1) (P := fun d => a ≤ d → ∀ M', xFr u_1 M' → M'.1 20 1 = u_1.1 20 1 → LR M' h p (fun t' d' => if t' = t ∧ a ≤ d' ∧ d' < d then W d' else U t' d') → P_X3_enter Y 27 [(0, .ref 20), (1, .int (nI t)), (2, .int (nI a)), (3, .int (nI b)), (4, .int v), (5, .int (nI (h t))), (6, .int (nI (p t))), (7, .int (nI (t * 66))), (8, .int (nI d))] [] M') (fun _ => h0) hs a (by omega) (Nat.le_refl _) u_1 xFr.rf rfl ?_)
  · rw [show nI (t * 66) = nI t * nI 66 from (pk_mul t 66).symm]
    rfl
  · have e : (fun t' d' => if t' = t ∧ a ≤ d' ∧ d' < a then W d' else U t' d') = U := by
      funext t' d'
      rw [if_neg (by omega)]
    rw [e]; exact hL
