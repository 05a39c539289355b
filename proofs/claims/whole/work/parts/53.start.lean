/-! the world that the two constructors make; the law from its entry; printed by wip/start.py -/
def M00 : xM := (fun p => if p = 4 then (fun j => if j < 6 then nI 1 else 0) else if p = 31 then (fun j => if j < 4 then nI 100 else 0) else if p = 35 then (upd (upd (upd (upd (upd (upd (fun _ => 0) 0 (nI 1)) 1 (nI 1)) 2 (nI 1)) 3 (nI 1)) 4 (nI 1)) 5 (nI 1)) else if p = 51 then (upd (upd (upd (upd (fun _ => 0) 0 (nI 100)) 1 (nI 100)) 2 (nI 100)) 3 (nI 100)) else fun _ => 0, fun _ _ => lN 0)
theorem M00_z {p : Nat} (h1 : p ≠ 4) (h2 : p ≠ 31) (h3 : p ≠ 35) (h4 : p ≠ 51) : M00.1 p = fun _ => 0 := by simp [M00, h1, h2, h3, h4]
theorem M00_35 : M00.1 35 = M00.1 4 := by
  funext j
  show (upd (upd (upd (upd (upd (upd (fun _ => 0) 0 (nI 1)) 1 (nI 1)) 2 (nI 1)) 3 (nI 1)) 4 (nI 1)) 5 (nI 1)) j = if j < 6 then nI 1 else 0
  by_cases h : j < 6
  · rcases (show j = 0 ∨ j = 1 ∨ j = 2 ∨ j = 3 ∨ j = 4 ∨ j = 5 by omega) with rfl | rfl | rfl | rfl | rfl | rfl <;> rfl
  · rw [if_neg h]
    simp [upd, show ¬ j = 0 by omega, show ¬ j = 1 by omega, show ¬ j = 2 by omega, show ¬ j = 3 by omega, show ¬ j = 4 by omega, show ¬ j = 5 by omega]
theorem M00_51 : M00.1 51 = M00.1 31 := by
  funext j
  show (upd (upd (upd (upd (fun _ => 0) 0 (nI 100)) 1 (nI 100)) 2 (nI 100)) 3 (nI 100)) j = if j < 4 then nI 100 else 0
  by_cases h : j < 4
  · rcases (show j = 0 ∨ j = 1 ∨ j = 2 ∨ j = 3 by omega) with rfl | rfl | rfl | rfl <;> rfl
  · rw [if_neg h]
    simp [upd, show ¬ j = 0 by omega, show ¬ j = 1 by omega, show ¬ j = 2 by omega, show ¬ j = 3 by omega]
theorem rng_0 (b : Nat) : rng 0 b := ⟨rfl, Nat.zero_le _⟩
theorem rdy_0 : ∀ k, rdy (fun _ => 0) k = 0
  | 0 => rfl
  | k + 1 => by rw [rdy, rdy_0 k]; rfl
theorem CI_0 : CI 0 0 0 M00 := by
  have z : ∀ p, p ≠ 4 → p ≠ 31 → p ≠ 35 → p ≠ 51 → M00.1 p = fun _ => 0 := fun p h1 h2 h3 h4 => M00_z h1 h2 h3 h4
  refine ⟨⟨?_, ?_, M00_35, ?_, ?_, ?_, ?_, ?_, ?_, ?_, ?_, ?_, ?_, ?_, ?_, ?_, ?_, ?_, M00_51⟩, ⟨?_, ?_, ?_, ?_, Nat.zero_le _, ?_⟩, ⟨?_, Nat.zero_le _, ?_, ?_, ?_⟩, ⟨?_, ?_⟩, ?_, ?_⟩
  · rw [z 33 (by decide) (by decide) (by decide) (by decide), z 2 (by decide) (by decide) (by decide) (by decide)]
  · rw [z 34 (by decide) (by decide) (by decide) (by decide), z 3 (by decide) (by decide) (by decide) (by decide)]
  · rw [z 36 (by decide) (by decide) (by decide) (by decide), z 5 (by decide) (by decide) (by decide) (by decide)]
  · rw [z 37 (by decide) (by decide) (by decide) (by decide), z 6 (by decide) (by decide) (by decide) (by decide)]
  · rw [z 38 (by decide) (by decide) (by decide) (by decide), z 7 (by decide) (by decide) (by decide) (by decide)]
  · rw [z 39 (by decide) (by decide) (by decide) (by decide), z 9 (by decide) (by decide) (by decide) (by decide)]
  · rw [z 40 (by decide) (by decide) (by decide) (by decide), z 10 (by decide) (by decide) (by decide) (by decide)]
  · rw [z 41 (by decide) (by decide) (by decide) (by decide), z 11 (by decide) (by decide) (by decide) (by decide)]
  · rw [z 42 (by decide) (by decide) (by decide) (by decide), z 12 (by decide) (by decide) (by decide) (by decide)]
  · rw [z 43 (by decide) (by decide) (by decide) (by decide), z 16 (by decide) (by decide) (by decide) (by decide)]
  · rw [z 44 (by decide) (by decide) (by decide) (by decide), z 17 (by decide) (by decide) (by decide) (by decide)]
  · rw [z 45 (by decide) (by decide) (by decide) (by decide), z 13 (by decide) (by decide) (by decide) (by decide)]
  · rw [z 46 (by decide) (by decide) (by decide) (by decide), z 14 (by decide) (by decide) (by decide) (by decide)]
  · rw [z 47 (by decide) (by decide) (by decide) (by decide), z 15 (by decide) (by decide) (by decide) (by decide)]
  · rw [z 48 (by decide) (by decide) (by decide) (by decide), z 19 (by decide) (by decide) (by decide) (by decide)]
  · rw [z 49 (by decide) (by decide) (by decide) (by decide), z 23 (by decide) (by decide) (by decide) (by decide)]
  · rw [z 50 (by decide) (by decide) (by decide) (by decide), z 24 (by decide) (by decide) (by decide) (by decide)]
  · rw [z 32 (by decide) (by decide) (by decide) (by decide)]; rfl
  · rw [z 32 (by decide) (by decide) (by decide) (by decide)]; rfl
  · rw [z 32 (by decide) (by decide) (by decide) (by decide), z 0 (by decide) (by decide) (by decide) (by decide)]
  · rw [z 22 (by decide) (by decide) (by decide) (by decide)]; rfl
  · rw [z 18 (by decide) (by decide) (by decide) (by decide), z 19 (by decide) (by decide) (by decide) (by decide), rdy_0]; rfl
  · rw [z 8 (by decide) (by decide) (by decide) (by decide)]; rfl
  · intro f hf
    unfold FB
    rw [z 9 (by decide) (by decide) (by decide) (by decide), z 10 (by decide) (by decide) (by decide) (by decide), z 11 (by decide) (by decide) (by decide) (by decide), z 16 (by decide) (by decide) (by decide) (by decide)]
    exact ⟨rng_0 _, rng_0 _, Nat.le_refl _, rng_0 _, fun t ht => rng_0 _⟩
  · intro t ht
    unfold ThB
    rw [z 2 (by decide) (by decide) (by decide) (by decide), z 3 (by decide) (by decide) (by decide) (by decide), z 5 (by decide) (by decide) (by decide) (by decide), z 7 (by decide) (by decide) (by decide) (by decide)]
    exact ⟨rng_0 _, rng_0 _, rng_0 _, rng_0 _⟩
  · intro d hd
    rw [z 19 (by decide) (by decide) (by decide) (by decide)]
    exact Or.inl rfl
  · intro f hf
    rw [z 13 (by decide) (by decide) (by decide) (by decide), z 14 (by decide) (by decide) (by decide) (by decide), z 15 (by decide) (by decide) (by decide) (by decide)]
    exact ⟨rng_0 _, rng_0 _, rng_0 _⟩
  · intro s hs
    show rng (if s < 4 then nI 100 else 0) 1000
    rw [if_pos hs]
    exact ⟨rfl, by rw [na, nI_clamp (by decide)]; decide⟩
  · intro t ht
    rw [z 7 (by decide) (by decide) (by decide) (by decide)]
    exact rng_0 _
  · intro f hf
    rw [z 12 (by decide) (by decide) (by decide) (by decide)]; rfl
abbrev adL (q0 : Nat) (u : Nat → Nat) (q1 : Nat) (v : Nat → Nat) (b : Nat) : Nat → Nat := fun k => ([q0, u 0, u 1, u 2, u 3, u 4, u 5, u 6, u 7, u 8, u 9, u 10, u 11, u 12, u 13, u 14, u 15, u 16, u 17, u 18, u 19, u 20, u 21, u 22, u 23, u 24, u 25, u 26, u 27, u 28, u 29, u 30, q1, v 0, v 1, v 2, v 3, v 4, v 5, v 6, v 7, v 8, v 9, v 10, v 11, v 12, v 13, v 14, v 15, v 16, v 17, v 18, v 19, v 20, v 21, v 22, v 23, b]).getD k b
def wI {α β : Type} (f : Nat → α → β) : Nat → List α → List β
  | _, [] => []
  | k, a :: t => f k a :: wI f (k + 1) t
theorem wI_m {α β : Type} (f : Nat → α → β) : ∀ (l : List α) (k : Nat), l.mapIdx (fun i => f (i + k)) = wI f k l
  | [], _ => rfl
  | a :: t, k => by
    rw [List.mapIdx_cons, wI, ← wI_m f t (k + 1)]
    rw [Nat.zero_add]
    congr 2
    funext i
    rw [show i + 1 + k = i + (k + 1) by omega]
theorem wI_c {α β : Type} {f : Nat → α → β} {k k2 : Nat} {a : α} {t : List α} {x : β} {r : List β} (hk : k + 1 = k2) (h1 : x = f k a) (h2 : r = wI f k2 t) : x :: r = wI f k (a :: t) := by
  subst hk; subst h1; subst h2; rfl
theorem wI_0 {α β : Type} (f : Nat → α → β) (l : List α) : l.mapIdx f = wI f 0 l := by
  have h := wI_m f l 0
  simp only [Nat.add_zero] at h
  exact h
theorem xW_w (cA : Nat → ClassId) (ad : Nat → Nat) (M : xM) : xW cA ad M = wI (fun p sc => (ad p, xcell cA ad M p sc)) 0 xSH := wI_0 _ xSH
theorem xcell_w (cA : Nat → ClassId) (ad : Nat → Nat) (M : xM) (p ci : Nat) (ks : List xFK) : xcell cA ad M p (.inr (ci, ks)) = .inr (ci, wI (fun k f => xv ad (xfv M p k f)) 0 ks) := by
  show (Sum.inr (ci, ks.mapIdx (fun k f => xv ad (xfv M p k f))) : va_E) = _
  rw [wI_0]
theorem we_0 (q0 : Nat) (u : Nat → Nat) (q1 : Nat) (v : Nat → Nat) (b : Nat) (cA : Nat → ClassId) : ((q0, .inr (6, [.ref (u 0), .ref (u 7), .ref (u 17), .ref (u 19), .ref (u 21), .ref (u 24), .ref (u 30), .int (nI 0)])) : Nat × va_E) = (adL q0 u q1 v b 0, xcell cA (adL q0 u q1 v b) M00 0 (.inr (6, [.inl 1, .inl 8, .inl 18, .inl 20, .inl 22, .inl 25, .inl 31, .inr false]))) := by
  rw [xcell_w]
  exact congrArg (fun r => ((q0, Sum.inr (6, r)) : Nat × va_E)) (wI_c (k := 0) (k2 := 1) rfl rfl (wI_c (k := 1) (k2 := 2) rfl rfl (wI_c (k := 2) (k2 := 3) rfl rfl (wI_c (k := 3) (k2 := 4) rfl rfl (wI_c (k := 4) (k2 := 5) rfl rfl (wI_c (k := 5) (k2 := 6) rfl rfl (wI_c (k := 6) (k2 := 7) rfl rfl (wI_c (k := 7) (k2 := 8) rfl rfl rfl))))))))
theorem we_1 (q0 : Nat) (u : Nat → Nat) (q1 : Nat) (v : Nat → Nat) (b : Nat) (cA : Nat → ClassId) : (((u 0), .inr (5, [.ref (u 1), .ref (u 2), .ref (u 3), .ref (u 4), .ref (u 5), .ref (u 6)])) : Nat × va_E) = (adL q0 u q1 v b 1, xcell cA (adL q0 u q1 v b) M00 1 (.inr (5, [.inl 2, .inl 3, .inl 4, .inl 5, .inl 6, .inl 7]))) := by
  rw [xcell_w]
  exact congrArg (fun r => (((u 0), Sum.inr (5, r)) : Nat × va_E)) (wI_c (k := 0) (k2 := 1) rfl rfl (wI_c (k := 1) (k2 := 2) rfl rfl (wI_c (k := 2) (k2 := 3) rfl rfl (wI_c (k := 3) (k2 := 4) rfl rfl (wI_c (k := 4) (k2 := 5) rfl rfl (wI_c (k := 5) (k2 := 6) rfl rfl rfl))))))
theorem we_2 (q0 : Nat) (u : Nat → Nat) (q1 : Nat) (v : Nat → Nat) (b : Nat) (cA : Nat → ClassId) : (((u 1), .inl (cA 0, 6, .inl (fun _ => 0))) : Nat × va_E) = (adL q0 u q1 v b 2, xcell cA (adL q0 u q1 v b) M00 2 (.inl (0, 6))) := by
  show (((u 1), .inl (cA 0, 6, .inl (fun _ => 0))) : Nat × va_E) = ((u 1), (Sum.inl (cA 0, 6, Sum.inl (M00.1 2)) : va_E))
  rw [M00_z (p := 2) (by decide) (by decide) (by decide) (by decide)] <;> rfl
theorem we_3 (q0 : Nat) (u : Nat → Nat) (q1 : Nat) (v : Nat → Nat) (b : Nat) (cA : Nat → ClassId) : (((u 2), .inl (cA 0, 6, .inl (fun _ => 0))) : Nat × va_E) = (adL q0 u q1 v b 3, xcell cA (adL q0 u q1 v b) M00 3 (.inl (0, 6))) := by
  show (((u 2), .inl (cA 0, 6, .inl (fun _ => 0))) : Nat × va_E) = ((u 2), (Sum.inl (cA 0, 6, Sum.inl (M00.1 3)) : va_E))
  rw [M00_z (p := 3) (by decide) (by decide) (by decide) (by decide)] <;> rfl
theorem we_4 (q0 : Nat) (u : Nat → Nat) (q1 : Nat) (v : Nat → Nat) (b : Nat) (cA : Nat → ClassId) : (((u 3), .inl (cA 0, 6, .inl (fun j => if j < 6 then nI 1 else (fun _ => 0) j))) : Nat × va_E) = (adL q0 u q1 v b 4, xcell cA (adL q0 u q1 v b) M00 4 (.inl (0, 6))) := by
  show (((u 3), .inl (cA 0, 6, .inl (fun j => if j < 6 then nI 1 else (fun _ => 0) j))) : Nat × va_E) = ((u 3), (Sum.inl (cA 0, 6, Sum.inl (M00.1 4)) : va_E))
  rfl
theorem we_5 (q0 : Nat) (u : Nat → Nat) (q1 : Nat) (v : Nat → Nat) (b : Nat) (cA : Nat → ClassId) : (((u 4), .inl (cA 0, 6, .inl (fun _ => 0))) : Nat × va_E) = (adL q0 u q1 v b 5, xcell cA (adL q0 u q1 v b) M00 5 (.inl (0, 6))) := by
  show (((u 4), .inl (cA 0, 6, .inl (fun _ => 0))) : Nat × va_E) = ((u 4), (Sum.inl (cA 0, 6, Sum.inl (M00.1 5)) : va_E))
  rw [M00_z (p := 5) (by decide) (by decide) (by decide) (by decide)] <;> rfl
theorem we_6 (q0 : Nat) (u : Nat → Nat) (q1 : Nat) (v : Nat → Nat) (b : Nat) (cA : Nat → ClassId) : (((u 5), .inl (cA 0, 6, .inl (fun _ => 0))) : Nat × va_E) = (adL q0 u q1 v b 6, xcell cA (adL q0 u q1 v b) M00 6 (.inl (0, 6))) := by
  show (((u 5), .inl (cA 0, 6, .inl (fun _ => 0))) : Nat × va_E) = ((u 5), (Sum.inl (cA 0, 6, Sum.inl (M00.1 6)) : va_E))
  rw [M00_z (p := 6) (by decide) (by decide) (by decide) (by decide)] <;> rfl
theorem we_7 (q0 : Nat) (u : Nat → Nat) (q1 : Nat) (v : Nat → Nat) (b : Nat) (cA : Nat → ClassId) : (((u 6), .inl (cA 0, 6, .inl (fun _ => 0))) : Nat × va_E) = (adL q0 u q1 v b 7, xcell cA (adL q0 u q1 v b) M00 7 (.inl (0, 6))) := by
  show (((u 6), .inl (cA 0, 6, .inl (fun _ => 0))) : Nat × va_E) = ((u 6), (Sum.inl (cA 0, 6, Sum.inl (M00.1 7)) : va_E))
  rw [M00_z (p := 7) (by decide) (by decide) (by decide) (by decide)] <;> rfl
theorem we_8 (q0 : Nat) (u : Nat → Nat) (q1 : Nat) (v : Nat → Nat) (b : Nat) (cA : Nat → ClassId) : (((u 7), .inr (1, [.ref (u 8), .ref (u 9), .ref (u 10), .ref (u 11), .ref (u 12), .ref (u 13), .ref (u 14), .ref (u 15), .ref (u 16), .int (nI 0)])) : Nat × va_E) = (adL q0 u q1 v b 8, xcell cA (adL q0 u q1 v b) M00 8 (.inr (1, [.inl 9, .inl 10, .inl 11, .inl 12, .inl 13, .inl 14, .inl 15, .inl 16, .inl 17, .inr false]))) := by
  rw [xcell_w]
  exact congrArg (fun r => (((u 7), Sum.inr (1, r)) : Nat × va_E)) (wI_c (k := 0) (k2 := 1) rfl rfl (wI_c (k := 1) (k2 := 2) rfl rfl (wI_c (k := 2) (k2 := 3) rfl rfl (wI_c (k := 3) (k2 := 4) rfl rfl (wI_c (k := 4) (k2 := 5) rfl rfl (wI_c (k := 5) (k2 := 6) rfl rfl (wI_c (k := 6) (k2 := 7) rfl rfl (wI_c (k := 7) (k2 := 8) rfl rfl (wI_c (k := 8) (k2 := 9) rfl rfl (wI_c (k := 9) (k2 := 10) rfl rfl rfl))))))))))
theorem we_9 (q0 : Nat) (u : Nat → Nat) (q1 : Nat) (v : Nat → Nat) (b : Nat) (cA : Nat → ClassId) : (((u 8), .inl (cA 0, 10, .inl (fun _ => 0))) : Nat × va_E) = (adL q0 u q1 v b 9, xcell cA (adL q0 u q1 v b) M00 9 (.inl (0, 10))) := by
  show (((u 8), .inl (cA 0, 10, .inl (fun _ => 0))) : Nat × va_E) = ((u 8), (Sum.inl (cA 0, 10, Sum.inl (M00.1 9)) : va_E))
  rw [M00_z (p := 9) (by decide) (by decide) (by decide) (by decide)] <;> rfl
theorem we_10 (q0 : Nat) (u : Nat → Nat) (q1 : Nat) (v : Nat → Nat) (b : Nat) (cA : Nat → ClassId) : (((u 9), .inl (cA 0, 10, .inl (fun _ => 0))) : Nat × va_E) = (adL q0 u q1 v b 10, xcell cA (adL q0 u q1 v b) M00 10 (.inl (0, 10))) := by
  show (((u 9), .inl (cA 0, 10, .inl (fun _ => 0))) : Nat × va_E) = ((u 9), (Sum.inl (cA 0, 10, Sum.inl (M00.1 10)) : va_E))
  rw [M00_z (p := 10) (by decide) (by decide) (by decide) (by decide)] <;> rfl
theorem we_11 (q0 : Nat) (u : Nat → Nat) (q1 : Nat) (v : Nat → Nat) (b : Nat) (cA : Nat → ClassId) : (((u 10), .inl (cA 0, 10, .inl (fun _ => 0))) : Nat × va_E) = (adL q0 u q1 v b 11, xcell cA (adL q0 u q1 v b) M00 11 (.inl (0, 10))) := by
  show (((u 10), .inl (cA 0, 10, .inl (fun _ => 0))) : Nat × va_E) = ((u 10), (Sum.inl (cA 0, 10, Sum.inl (M00.1 11)) : va_E))
  rw [M00_z (p := 11) (by decide) (by decide) (by decide) (by decide)] <;> rfl
theorem we_12 (q0 : Nat) (u : Nat → Nat) (q1 : Nat) (v : Nat → Nat) (b : Nat) (cA : Nat → ClassId) : (((u 11), .inl (cA 0, 10, .inl (fun _ => 0))) : Nat × va_E) = (adL q0 u q1 v b 12, xcell cA (adL q0 u q1 v b) M00 12 (.inl (0, 10))) := by
  show (((u 11), .inl (cA 0, 10, .inl (fun _ => 0))) : Nat × va_E) = ((u 11), (Sum.inl (cA 0, 10, Sum.inl (M00.1 12)) : va_E))
  rw [M00_z (p := 12) (by decide) (by decide) (by decide) (by decide)] <;> rfl
theorem we_13 (q0 : Nat) (u : Nat → Nat) (q1 : Nat) (v : Nat → Nat) (b : Nat) (cA : Nat → ClassId) : (((u 12), .inl (cA 0, 10, .inl (fun _ => 0))) : Nat × va_E) = (adL q0 u q1 v b 13, xcell cA (adL q0 u q1 v b) M00 13 (.inl (0, 10))) := by
  show (((u 12), .inl (cA 0, 10, .inl (fun _ => 0))) : Nat × va_E) = ((u 12), (Sum.inl (cA 0, 10, Sum.inl (M00.1 13)) : va_E))
  rw [M00_z (p := 13) (by decide) (by decide) (by decide) (by decide)] <;> rfl
theorem we_14 (q0 : Nat) (u : Nat → Nat) (q1 : Nat) (v : Nat → Nat) (b : Nat) (cA : Nat → ClassId) : (((u 13), .inl (cA 0, 10, .inl (fun _ => 0))) : Nat × va_E) = (adL q0 u q1 v b 14, xcell cA (adL q0 u q1 v b) M00 14 (.inl (0, 10))) := by
  show (((u 13), .inl (cA 0, 10, .inl (fun _ => 0))) : Nat × va_E) = ((u 13), (Sum.inl (cA 0, 10, Sum.inl (M00.1 14)) : va_E))
  rw [M00_z (p := 14) (by decide) (by decide) (by decide) (by decide)] <;> rfl
theorem we_15 (q0 : Nat) (u : Nat → Nat) (q1 : Nat) (v : Nat → Nat) (b : Nat) (cA : Nat → ClassId) : (((u 14), .inl (cA 0, 10, .inl (fun _ => 0))) : Nat × va_E) = (adL q0 u q1 v b 15, xcell cA (adL q0 u q1 v b) M00 15 (.inl (0, 10))) := by
  show (((u 14), .inl (cA 0, 10, .inl (fun _ => 0))) : Nat × va_E) = ((u 14), (Sum.inl (cA 0, 10, Sum.inl (M00.1 15)) : va_E))
  rw [M00_z (p := 15) (by decide) (by decide) (by decide) (by decide)] <;> rfl
theorem we_16 (q0 : Nat) (u : Nat → Nat) (q1 : Nat) (v : Nat → Nat) (b : Nat) (cA : Nat → ClassId) : (((u 15), .inl (cA 0, 60, .inl (fun _ => 0))) : Nat × va_E) = (adL q0 u q1 v b 16, xcell cA (adL q0 u q1 v b) M00 16 (.inl (0, 60))) := by
  show (((u 15), .inl (cA 0, 60, .inl (fun _ => 0))) : Nat × va_E) = ((u 15), (Sum.inl (cA 0, 60, Sum.inl (M00.1 16)) : va_E))
  rw [M00_z (p := 16) (by decide) (by decide) (by decide) (by decide)] <;> rfl
theorem we_17 (q0 : Nat) (u : Nat → Nat) (q1 : Nat) (v : Nat → Nat) (b : Nat) (cA : Nat → ClassId) : (((u 16), .inl (cA 1, 60, .inl (fun _ => 0))) : Nat × va_E) = (adL q0 u q1 v b 17, xcell cA (adL q0 u q1 v b) M00 17 (.inl (1, 60))) := by
  show (((u 16), .inl (cA 1, 60, .inl (fun _ => 0))) : Nat × va_E) = ((u 16), (Sum.inl (cA 1, 60, Sum.inl (M00.1 17)) : va_E))
  rw [M00_z (p := 17) (by decide) (by decide) (by decide) (by decide)] <;> rfl
theorem we_18 (q0 : Nat) (u : Nat → Nat) (q1 : Nat) (v : Nat → Nat) (b : Nat) (cA : Nat → ClassId) : (((u 17), .inr (4, [.ref (u 18), .int (nI 0)])) : Nat × va_E) = (adL q0 u q1 v b 18, xcell cA (adL q0 u q1 v b) M00 18 (.inr (4, [.inl 19, .inr false]))) := by
  rw [xcell_w]
  exact congrArg (fun r => (((u 17), Sum.inr (4, r)) : Nat × va_E)) (wI_c (k := 0) (k2 := 1) rfl rfl (wI_c (k := 1) (k2 := 2) rfl rfl rfl))
theorem we_19 (q0 : Nat) (u : Nat → Nat) (q1 : Nat) (v : Nat → Nat) (b : Nat) (cA : Nat → ClassId) : (((u 18), .inl (cA 1, 61, .inl (fun _ => 0))) : Nat × va_E) = (adL q0 u q1 v b 19, xcell cA (adL q0 u q1 v b) M00 19 (.inl (1, 61))) := by
  show (((u 18), .inl (cA 1, 61, .inl (fun _ => 0))) : Nat × va_E) = ((u 18), (Sum.inl (cA 1, 61, Sum.inl (M00.1 19)) : va_E))
  rw [M00_z (p := 19) (by decide) (by decide) (by decide) (by decide)] <;> rfl
theorem we_20 (q0 : Nat) (u : Nat → Nat) (q1 : Nat) (v : Nat → Nat) (b : Nat) (cA : Nat → ClassId) : (((u 19), .inr (3, [.ref (u 20), .int (nI 0), .int (nI 0), .long (lN 0)])) : Nat × va_E) = (adL q0 u q1 v b 20, xcell cA (adL q0 u q1 v b) M00 20 (.inr (3, [.inl 21, .inr false, .inr false, .inr true]))) := by
  rw [xcell_w]
  exact congrArg (fun r => (((u 19), Sum.inr (3, r)) : Nat × va_E)) (wI_c (k := 0) (k2 := 1) rfl rfl (wI_c (k := 1) (k2 := 2) rfl rfl (wI_c (k := 2) (k2 := 3) rfl rfl (wI_c (k := 3) (k2 := 4) rfl rfl rfl))))
theorem we_21 (q0 : Nat) (u : Nat → Nat) (q1 : Nat) (v : Nat → Nat) (b : Nat) (cA : Nat → ClassId) : (((u 20), .inl (cA 0, 396, .inl (fun _ => 0))) : Nat × va_E) = (adL q0 u q1 v b 21, xcell cA (adL q0 u q1 v b) M00 21 (.inl (0, 396))) := by
  show (((u 20), .inl (cA 0, 396, .inl (fun _ => 0))) : Nat × va_E) = ((u 20), (Sum.inl (cA 0, 396, Sum.inl (M00.1 21)) : va_E))
  rw [M00_z (p := 21) (by decide) (by decide) (by decide) (by decide)] <;> rfl
theorem we_22 (q0 : Nat) (u : Nat → Nat) (q1 : Nat) (v : Nat → Nat) (b : Nat) (cA : Nat → ClassId) : (((u 21), .inr (2, [.ref (u 22), .ref (u 23), .int (nI 0)])) : Nat × va_E) = (adL q0 u q1 v b 22, xcell cA (adL q0 u q1 v b) M00 22 (.inr (2, [.inl 23, .inl 24, .inr false]))) := by
  rw [xcell_w]
  exact congrArg (fun r => (((u 21), Sum.inr (2, r)) : Nat × va_E)) (wI_c (k := 0) (k2 := 1) rfl rfl (wI_c (k := 1) (k2 := 2) rfl rfl (wI_c (k := 2) (k2 := 3) rfl rfl rfl)))
theorem we_23 (q0 : Nat) (u : Nat → Nat) (q1 : Nat) (v : Nat → Nat) (b : Nat) (cA : Nat → ClassId) : (((u 22), .inl (cA 0, 6, .inl (fun _ => 0))) : Nat × va_E) = (adL q0 u q1 v b 23, xcell cA (adL q0 u q1 v b) M00 23 (.inl (0, 6))) := by
  show (((u 22), .inl (cA 0, 6, .inl (fun _ => 0))) : Nat × va_E) = ((u 22), (Sum.inl (cA 0, 6, Sum.inl (M00.1 23)) : va_E))
  rw [M00_z (p := 23) (by decide) (by decide) (by decide) (by decide)] <;> rfl
theorem we_24 (q0 : Nat) (u : Nat → Nat) (q1 : Nat) (v : Nat → Nat) (b : Nat) (cA : Nat → ClassId) : (((u 23), .inl (cA 0, 6, .inl (fun _ => 0))) : Nat × va_E) = (adL q0 u q1 v b 24, xcell cA (adL q0 u q1 v b) M00 24 (.inl (0, 6))) := by
  show (((u 23), .inl (cA 0, 6, .inl (fun _ => 0))) : Nat × va_E) = ((u 23), (Sum.inl (cA 0, 6, Sum.inl (M00.1 24)) : va_E))
  rw [M00_z (p := 24) (by decide) (by decide) (by decide) (by decide)] <;> rfl
theorem we_25 (q0 : Nat) (u : Nat → Nat) (q1 : Nat) (v : Nat → Nat) (b : Nat) (cA : Nat → ClassId) : (((u 24), .inr (0, [.ref (u 25), .ref (u 26), .ref (u 27), .ref (u 28), .ref (u 29), .int (nI 0), .int (nI 0)])) : Nat × va_E) = (adL q0 u q1 v b 25, xcell cA (adL q0 u q1 v b) M00 25 (.inr (0, [.inl 26, .inl 27, .inl 28, .inl 29, .inl 30, .inr false, .inr false]))) := by
  rw [xcell_w]
  exact congrArg (fun r => (((u 24), Sum.inr (0, r)) : Nat × va_E)) (wI_c (k := 0) (k2 := 1) rfl rfl (wI_c (k := 1) (k2 := 2) rfl rfl (wI_c (k := 2) (k2 := 3) rfl rfl (wI_c (k := 3) (k2 := 4) rfl rfl (wI_c (k := 4) (k2 := 5) rfl rfl (wI_c (k := 5) (k2 := 6) rfl rfl (wI_c (k := 6) (k2 := 7) rfl rfl rfl)))))))
theorem we_26 (q0 : Nat) (u : Nat → Nat) (q1 : Nat) (v : Nat → Nat) (b : Nat) (cA : Nat → ClassId) : (((u 25), .inl (cA 0, 10, .inl (fun _ => 0))) : Nat × va_E) = (adL q0 u q1 v b 26, xcell cA (adL q0 u q1 v b) M00 26 (.inl (0, 10))) := by
  show (((u 25), .inl (cA 0, 10, .inl (fun _ => 0))) : Nat × va_E) = ((u 25), (Sum.inl (cA 0, 10, Sum.inl (M00.1 26)) : va_E))
  rw [M00_z (p := 26) (by decide) (by decide) (by decide) (by decide)] <;> rfl
theorem we_27 (q0 : Nat) (u : Nat → Nat) (q1 : Nat) (v : Nat → Nat) (b : Nat) (cA : Nat → ClassId) : (((u 26), .inl (cA 0, 10, .inl (fun _ => 0))) : Nat × va_E) = (adL q0 u q1 v b 27, xcell cA (adL q0 u q1 v b) M00 27 (.inl (0, 10))) := by
  show (((u 26), .inl (cA 0, 10, .inl (fun _ => 0))) : Nat × va_E) = ((u 26), (Sum.inl (cA 0, 10, Sum.inl (M00.1 27)) : va_E))
  rw [M00_z (p := 27) (by decide) (by decide) (by decide) (by decide)] <;> rfl
theorem we_28 (q0 : Nat) (u : Nat → Nat) (q1 : Nat) (v : Nat → Nat) (b : Nat) (cA : Nat → ClassId) : (((u 27), .inl (cA 0, 10, .inl (fun _ => 0))) : Nat × va_E) = (adL q0 u q1 v b 28, xcell cA (adL q0 u q1 v b) M00 28 (.inl (0, 10))) := by
  show (((u 27), .inl (cA 0, 10, .inl (fun _ => 0))) : Nat × va_E) = ((u 27), (Sum.inl (cA 0, 10, Sum.inl (M00.1 28)) : va_E))
  rw [M00_z (p := 28) (by decide) (by decide) (by decide) (by decide)] <;> rfl
theorem we_29 (q0 : Nat) (u : Nat → Nat) (q1 : Nat) (v : Nat → Nat) (b : Nat) (cA : Nat → ClassId) : (((u 28), .inl (cA 0, 10, .inl (fun _ => 0))) : Nat × va_E) = (adL q0 u q1 v b 29, xcell cA (adL q0 u q1 v b) M00 29 (.inl (0, 10))) := by
  show (((u 28), .inl (cA 0, 10, .inl (fun _ => 0))) : Nat × va_E) = ((u 28), (Sum.inl (cA 0, 10, Sum.inl (M00.1 29)) : va_E))
  rw [M00_z (p := 29) (by decide) (by decide) (by decide) (by decide)] <;> rfl
theorem we_30 (q0 : Nat) (u : Nat → Nat) (q1 : Nat) (v : Nat → Nat) (b : Nat) (cA : Nat → ClassId) : (((u 29), .inl (cA 0, 3, .inl (fun _ => 0))) : Nat × va_E) = (adL q0 u q1 v b 30, xcell cA (adL q0 u q1 v b) M00 30 (.inl (0, 3))) := by
  show (((u 29), .inl (cA 0, 3, .inl (fun _ => 0))) : Nat × va_E) = ((u 29), (Sum.inl (cA 0, 3, Sum.inl (M00.1 30)) : va_E))
  rw [M00_z (p := 30) (by decide) (by decide) (by decide) (by decide)] <;> rfl
theorem we_31 (q0 : Nat) (u : Nat → Nat) (q1 : Nat) (v : Nat → Nat) (b : Nat) (cA : Nat → ClassId) : (((u 30), .inl (cA 0, 4, .inl (fun j => if j < 4 then nI 100 else (fun _ => 0) j))) : Nat × va_E) = (adL q0 u q1 v b 31, xcell cA (adL q0 u q1 v b) M00 31 (.inl (0, 4))) := by
  show (((u 30), .inl (cA 0, 4, .inl (fun j => if j < 4 then nI 100 else (fun _ => 0) j))) : Nat × va_E) = ((u 30), (Sum.inl (cA 0, 4, Sum.inl (M00.1 31)) : va_E))
  rfl
theorem we_32 (q0 : Nat) (u : Nat → Nat) (q1 : Nat) (v : Nat → Nat) (b : Nat) (cA : Nat → ClassId) : ((q1, .inr (7, [.ref (v 0), .ref (v 1), .ref (v 2), .ref (v 3), .ref (v 4), .ref (v 5), .int 0, .ref (v 6), .ref (v 7), .ref (v 8), .ref (v 9), .ref (v 10), .ref (v 11), .ref (v 12), .ref (v 13), .ref (v 14), .ref (v 15), .int 0, .int 0, .ref (v 16), .ref (v 17), .ref (v 18), .ref (v 19), .int 0, .ref (v 20), .ref (v 21), .ref (v 22), .ref (v 23)])) : Nat × va_E) = (adL q0 u q1 v b 32, xcell cA (adL q0 u q1 v b) M00 32 (.inr (7, [.inl 33, .inl 34, .inl 35, .inl 36, .inl 37, .inl 38, .inr false, .inl 39, .inl 40, .inl 41, .inl 42, .inl 43, .inl 44, .inl 45, .inl 46, .inl 47, .inl 48, .inr false, .inr false, .inl 49, .inl 50, .inl 51, .inl 52, .inr false, .inl 53, .inl 54, .inl 55, .inl 56]))) := by
  rw [xcell_w]
  exact congrArg (fun r => ((q1, Sum.inr (7, r)) : Nat × va_E)) (wI_c (k := 0) (k2 := 1) rfl rfl (wI_c (k := 1) (k2 := 2) rfl rfl (wI_c (k := 2) (k2 := 3) rfl rfl (wI_c (k := 3) (k2 := 4) rfl rfl (wI_c (k := 4) (k2 := 5) rfl rfl (wI_c (k := 5) (k2 := 6) rfl rfl (wI_c (k := 6) (k2 := 7) rfl rfl (wI_c (k := 7) (k2 := 8) rfl rfl (wI_c (k := 8) (k2 := 9) rfl rfl (wI_c (k := 9) (k2 := 10) rfl rfl (wI_c (k := 10) (k2 := 11) rfl rfl (wI_c (k := 11) (k2 := 12) rfl rfl (wI_c (k := 12) (k2 := 13) rfl rfl (wI_c (k := 13) (k2 := 14) rfl rfl (wI_c (k := 14) (k2 := 15) rfl rfl (wI_c (k := 15) (k2 := 16) rfl rfl (wI_c (k := 16) (k2 := 17) rfl rfl (wI_c (k := 17) (k2 := 18) rfl rfl (wI_c (k := 18) (k2 := 19) rfl rfl (wI_c (k := 19) (k2 := 20) rfl rfl (wI_c (k := 20) (k2 := 21) rfl rfl (wI_c (k := 21) (k2 := 22) rfl rfl (wI_c (k := 22) (k2 := 23) rfl rfl (wI_c (k := 23) (k2 := 24) rfl rfl (wI_c (k := 24) (k2 := 25) rfl rfl (wI_c (k := 25) (k2 := 26) rfl rfl (wI_c (k := 26) (k2 := 27) rfl rfl (wI_c (k := 27) (k2 := 28) rfl rfl rfl))))))))))))))))))))))))))))
theorem we_33 (q0 : Nat) (u : Nat → Nat) (q1 : Nat) (v : Nat → Nat) (b : Nat) (cA : Nat → ClassId) : (((v 0), .inl (cA 0, 6, .inl (fun _ => 0))) : Nat × va_E) = (adL q0 u q1 v b 33, xcell cA (adL q0 u q1 v b) M00 33 (.inl (0, 6))) := by
  show (((v 0), .inl (cA 0, 6, .inl (fun _ => 0))) : Nat × va_E) = ((v 0), (Sum.inl (cA 0, 6, Sum.inl (M00.1 33)) : va_E))
  rw [M00_z (p := 33) (by decide) (by decide) (by decide) (by decide)] <;> rfl
theorem we_34 (q0 : Nat) (u : Nat → Nat) (q1 : Nat) (v : Nat → Nat) (b : Nat) (cA : Nat → ClassId) : (((v 1), .inl (cA 0, 6, .inl (fun _ => 0))) : Nat × va_E) = (adL q0 u q1 v b 34, xcell cA (adL q0 u q1 v b) M00 34 (.inl (0, 6))) := by
  show (((v 1), .inl (cA 0, 6, .inl (fun _ => 0))) : Nat × va_E) = ((v 1), (Sum.inl (cA 0, 6, Sum.inl (M00.1 34)) : va_E))
  rw [M00_z (p := 34) (by decide) (by decide) (by decide) (by decide)] <;> rfl
theorem we_35 (q0 : Nat) (u : Nat → Nat) (q1 : Nat) (v : Nat → Nat) (b : Nat) (cA : Nat → ClassId) : (((v 2), .inl (cA 0, 6, .inl (upd (upd (upd (upd (upd (upd (fun _ => 0) 0 (nI 1)) 1 (nI 1)) 2 (nI 1)) 3 (nI 1)) 4 (nI 1)) 5 (nI 1)))) : Nat × va_E) = (adL q0 u q1 v b 35, xcell cA (adL q0 u q1 v b) M00 35 (.inl (0, 6))) := by
  show (((v 2), .inl (cA 0, 6, .inl (upd (upd (upd (upd (upd (upd (fun _ => 0) 0 (nI 1)) 1 (nI 1)) 2 (nI 1)) 3 (nI 1)) 4 (nI 1)) 5 (nI 1)))) : Nat × va_E) = ((v 2), (Sum.inl (cA 0, 6, Sum.inl (M00.1 35)) : va_E))
  rfl
theorem we_36 (q0 : Nat) (u : Nat → Nat) (q1 : Nat) (v : Nat → Nat) (b : Nat) (cA : Nat → ClassId) : (((v 3), .inl (cA 0, 6, .inl (fun _ => 0))) : Nat × va_E) = (adL q0 u q1 v b 36, xcell cA (adL q0 u q1 v b) M00 36 (.inl (0, 6))) := by
  show (((v 3), .inl (cA 0, 6, .inl (fun _ => 0))) : Nat × va_E) = ((v 3), (Sum.inl (cA 0, 6, Sum.inl (M00.1 36)) : va_E))
  rw [M00_z (p := 36) (by decide) (by decide) (by decide) (by decide)] <;> rfl
theorem we_37 (q0 : Nat) (u : Nat → Nat) (q1 : Nat) (v : Nat → Nat) (b : Nat) (cA : Nat → ClassId) : (((v 4), .inl (cA 0, 6, .inl (fun _ => 0))) : Nat × va_E) = (adL q0 u q1 v b 37, xcell cA (adL q0 u q1 v b) M00 37 (.inl (0, 6))) := by
  show (((v 4), .inl (cA 0, 6, .inl (fun _ => 0))) : Nat × va_E) = ((v 4), (Sum.inl (cA 0, 6, Sum.inl (M00.1 37)) : va_E))
  rw [M00_z (p := 37) (by decide) (by decide) (by decide) (by decide)] <;> rfl
theorem we_38 (q0 : Nat) (u : Nat → Nat) (q1 : Nat) (v : Nat → Nat) (b : Nat) (cA : Nat → ClassId) : (((v 5), .inl (cA 0, 6, .inl (fun _ => 0))) : Nat × va_E) = (adL q0 u q1 v b 38, xcell cA (adL q0 u q1 v b) M00 38 (.inl (0, 6))) := by
  show (((v 5), .inl (cA 0, 6, .inl (fun _ => 0))) : Nat × va_E) = ((v 5), (Sum.inl (cA 0, 6, Sum.inl (M00.1 38)) : va_E))
  rw [M00_z (p := 38) (by decide) (by decide) (by decide) (by decide)] <;> rfl
theorem we_39 (q0 : Nat) (u : Nat → Nat) (q1 : Nat) (v : Nat → Nat) (b : Nat) (cA : Nat → ClassId) : (((v 6), .inl (cA 0, 10, .inl (fun _ => 0))) : Nat × va_E) = (adL q0 u q1 v b 39, xcell cA (adL q0 u q1 v b) M00 39 (.inl (0, 10))) := by
  show (((v 6), .inl (cA 0, 10, .inl (fun _ => 0))) : Nat × va_E) = ((v 6), (Sum.inl (cA 0, 10, Sum.inl (M00.1 39)) : va_E))
  rw [M00_z (p := 39) (by decide) (by decide) (by decide) (by decide)] <;> rfl
theorem we_40 (q0 : Nat) (u : Nat → Nat) (q1 : Nat) (v : Nat → Nat) (b : Nat) (cA : Nat → ClassId) : (((v 7), .inl (cA 0, 10, .inl (fun _ => 0))) : Nat × va_E) = (adL q0 u q1 v b 40, xcell cA (adL q0 u q1 v b) M00 40 (.inl (0, 10))) := by
  show (((v 7), .inl (cA 0, 10, .inl (fun _ => 0))) : Nat × va_E) = ((v 7), (Sum.inl (cA 0, 10, Sum.inl (M00.1 40)) : va_E))
  rw [M00_z (p := 40) (by decide) (by decide) (by decide) (by decide)] <;> rfl
theorem we_41 (q0 : Nat) (u : Nat → Nat) (q1 : Nat) (v : Nat → Nat) (b : Nat) (cA : Nat → ClassId) : (((v 8), .inl (cA 0, 10, .inl (fun _ => 0))) : Nat × va_E) = (adL q0 u q1 v b 41, xcell cA (adL q0 u q1 v b) M00 41 (.inl (0, 10))) := by
  show (((v 8), .inl (cA 0, 10, .inl (fun _ => 0))) : Nat × va_E) = ((v 8), (Sum.inl (cA 0, 10, Sum.inl (M00.1 41)) : va_E))
  rw [M00_z (p := 41) (by decide) (by decide) (by decide) (by decide)] <;> rfl
theorem we_42 (q0 : Nat) (u : Nat → Nat) (q1 : Nat) (v : Nat → Nat) (b : Nat) (cA : Nat → ClassId) : (((v 9), .inl (cA 0, 10, .inl (fun _ => 0))) : Nat × va_E) = (adL q0 u q1 v b 42, xcell cA (adL q0 u q1 v b) M00 42 (.inl (0, 10))) := by
  show (((v 9), .inl (cA 0, 10, .inl (fun _ => 0))) : Nat × va_E) = ((v 9), (Sum.inl (cA 0, 10, Sum.inl (M00.1 42)) : va_E))
  rw [M00_z (p := 42) (by decide) (by decide) (by decide) (by decide)] <;> rfl
theorem we_43 (q0 : Nat) (u : Nat → Nat) (q1 : Nat) (v : Nat → Nat) (b : Nat) (cA : Nat → ClassId) : (((v 10), .inl (cA 0, 60, .inl (fun _ => 0))) : Nat × va_E) = (adL q0 u q1 v b 43, xcell cA (adL q0 u q1 v b) M00 43 (.inl (0, 60))) := by
  show (((v 10), .inl (cA 0, 60, .inl (fun _ => 0))) : Nat × va_E) = ((v 10), (Sum.inl (cA 0, 60, Sum.inl (M00.1 43)) : va_E))
  rw [M00_z (p := 43) (by decide) (by decide) (by decide) (by decide)] <;> rfl
theorem we_44 (q0 : Nat) (u : Nat → Nat) (q1 : Nat) (v : Nat → Nat) (b : Nat) (cA : Nat → ClassId) : (((v 11), .inl (cA 1, 60, .inl (fun _ => 0))) : Nat × va_E) = (adL q0 u q1 v b 44, xcell cA (adL q0 u q1 v b) M00 44 (.inl (1, 60))) := by
  show (((v 11), .inl (cA 1, 60, .inl (fun _ => 0))) : Nat × va_E) = ((v 11), (Sum.inl (cA 1, 60, Sum.inl (M00.1 44)) : va_E))
  rw [M00_z (p := 44) (by decide) (by decide) (by decide) (by decide)] <;> rfl
theorem we_45 (q0 : Nat) (u : Nat → Nat) (q1 : Nat) (v : Nat → Nat) (b : Nat) (cA : Nat → ClassId) : (((v 12), .inl (cA 0, 10, .inl (fun _ => 0))) : Nat × va_E) = (adL q0 u q1 v b 45, xcell cA (adL q0 u q1 v b) M00 45 (.inl (0, 10))) := by
  show (((v 12), .inl (cA 0, 10, .inl (fun _ => 0))) : Nat × va_E) = ((v 12), (Sum.inl (cA 0, 10, Sum.inl (M00.1 45)) : va_E))
  rw [M00_z (p := 45) (by decide) (by decide) (by decide) (by decide)] <;> rfl
theorem we_46 (q0 : Nat) (u : Nat → Nat) (q1 : Nat) (v : Nat → Nat) (b : Nat) (cA : Nat → ClassId) : (((v 13), .inl (cA 0, 10, .inl (fun _ => 0))) : Nat × va_E) = (adL q0 u q1 v b 46, xcell cA (adL q0 u q1 v b) M00 46 (.inl (0, 10))) := by
  show (((v 13), .inl (cA 0, 10, .inl (fun _ => 0))) : Nat × va_E) = ((v 13), (Sum.inl (cA 0, 10, Sum.inl (M00.1 46)) : va_E))
  rw [M00_z (p := 46) (by decide) (by decide) (by decide) (by decide)] <;> rfl
theorem we_47 (q0 : Nat) (u : Nat → Nat) (q1 : Nat) (v : Nat → Nat) (b : Nat) (cA : Nat → ClassId) : (((v 14), .inl (cA 0, 10, .inl (fun _ => 0))) : Nat × va_E) = (adL q0 u q1 v b 47, xcell cA (adL q0 u q1 v b) M00 47 (.inl (0, 10))) := by
  show (((v 14), .inl (cA 0, 10, .inl (fun _ => 0))) : Nat × va_E) = ((v 14), (Sum.inl (cA 0, 10, Sum.inl (M00.1 47)) : va_E))
  rw [M00_z (p := 47) (by decide) (by decide) (by decide) (by decide)] <;> rfl
theorem we_48 (q0 : Nat) (u : Nat → Nat) (q1 : Nat) (v : Nat → Nat) (b : Nat) (cA : Nat → ClassId) : (((v 15), .inl (cA 1, 61, .inl (fun _ => 0))) : Nat × va_E) = (adL q0 u q1 v b 48, xcell cA (adL q0 u q1 v b) M00 48 (.inl (1, 61))) := by
  show (((v 15), .inl (cA 1, 61, .inl (fun _ => 0))) : Nat × va_E) = ((v 15), (Sum.inl (cA 1, 61, Sum.inl (M00.1 48)) : va_E))
  rw [M00_z (p := 48) (by decide) (by decide) (by decide) (by decide)] <;> rfl
theorem we_49 (q0 : Nat) (u : Nat → Nat) (q1 : Nat) (v : Nat → Nat) (b : Nat) (cA : Nat → ClassId) : (((v 16), .inl (cA 0, 6, .inl (fun _ => 0))) : Nat × va_E) = (adL q0 u q1 v b 49, xcell cA (adL q0 u q1 v b) M00 49 (.inl (0, 6))) := by
  show (((v 16), .inl (cA 0, 6, .inl (fun _ => 0))) : Nat × va_E) = ((v 16), (Sum.inl (cA 0, 6, Sum.inl (M00.1 49)) : va_E))
  rw [M00_z (p := 49) (by decide) (by decide) (by decide) (by decide)] <;> rfl
theorem we_50 (q0 : Nat) (u : Nat → Nat) (q1 : Nat) (v : Nat → Nat) (b : Nat) (cA : Nat → ClassId) : (((v 17), .inl (cA 0, 6, .inl (fun _ => 0))) : Nat × va_E) = (adL q0 u q1 v b 50, xcell cA (adL q0 u q1 v b) M00 50 (.inl (0, 6))) := by
  show (((v 17), .inl (cA 0, 6, .inl (fun _ => 0))) : Nat × va_E) = ((v 17), (Sum.inl (cA 0, 6, Sum.inl (M00.1 50)) : va_E))
  rw [M00_z (p := 50) (by decide) (by decide) (by decide) (by decide)] <;> rfl
theorem we_51 (q0 : Nat) (u : Nat → Nat) (q1 : Nat) (v : Nat → Nat) (b : Nat) (cA : Nat → ClassId) : (((v 18), .inl (cA 0, 4, .inl (upd (upd (upd (upd (fun _ => 0) 0 (nI 100)) 1 (nI 100)) 2 (nI 100)) 3 (nI 100)))) : Nat × va_E) = (adL q0 u q1 v b 51, xcell cA (adL q0 u q1 v b) M00 51 (.inl (0, 4))) := by
  show (((v 18), .inl (cA 0, 4, .inl (upd (upd (upd (upd (fun _ => 0) 0 (nI 100)) 1 (nI 100)) 2 (nI 100)) 3 (nI 100)))) : Nat × va_E) = ((v 18), (Sum.inl (cA 0, 4, Sum.inl (M00.1 51)) : va_E))
  rfl
theorem we_52 (q0 : Nat) (u : Nat → Nat) (q1 : Nat) (v : Nat → Nat) (b : Nat) (cA : Nat → ClassId) : (((v 19), .inl (cA 0, 3960, .inl (fun _ => 0))) : Nat × va_E) = (adL q0 u q1 v b 52, xcell cA (adL q0 u q1 v b) M00 52 (.inl (0, 3960))) := by
  show (((v 19), .inl (cA 0, 3960, .inl (fun _ => 0))) : Nat × va_E) = ((v 19), (Sum.inl (cA 0, 3960, Sum.inl (M00.1 52)) : va_E))
  rw [M00_z (p := 52) (by decide) (by decide) (by decide) (by decide)] <;> rfl
theorem we_53 (q0 : Nat) (u : Nat → Nat) (q1 : Nat) (v : Nat → Nat) (b : Nat) (cA : Nat → ClassId) : (((v 20), .inl (cA 0, 10, .inl (fun _ => 0))) : Nat × va_E) = (adL q0 u q1 v b 53, xcell cA (adL q0 u q1 v b) M00 53 (.inl (0, 10))) := by
  show (((v 20), .inl (cA 0, 10, .inl (fun _ => 0))) : Nat × va_E) = ((v 20), (Sum.inl (cA 0, 10, Sum.inl (M00.1 53)) : va_E))
  rw [M00_z (p := 53) (by decide) (by decide) (by decide) (by decide)] <;> rfl
theorem we_54 (q0 : Nat) (u : Nat → Nat) (q1 : Nat) (v : Nat → Nat) (b : Nat) (cA : Nat → ClassId) : (((v 21), .inl (cA 0, 10, .inl (fun _ => 0))) : Nat × va_E) = (adL q0 u q1 v b 54, xcell cA (adL q0 u q1 v b) M00 54 (.inl (0, 10))) := by
  show (((v 21), .inl (cA 0, 10, .inl (fun _ => 0))) : Nat × va_E) = ((v 21), (Sum.inl (cA 0, 10, Sum.inl (M00.1 54)) : va_E))
  rw [M00_z (p := 54) (by decide) (by decide) (by decide) (by decide)] <;> rfl
theorem we_55 (q0 : Nat) (u : Nat → Nat) (q1 : Nat) (v : Nat → Nat) (b : Nat) (cA : Nat → ClassId) : (((v 22), .inl (cA 0, 10, .inl (fun _ => 0))) : Nat × va_E) = (adL q0 u q1 v b 55, xcell cA (adL q0 u q1 v b) M00 55 (.inl (0, 10))) := by
  show (((v 22), .inl (cA 0, 10, .inl (fun _ => 0))) : Nat × va_E) = ((v 22), (Sum.inl (cA 0, 10, Sum.inl (M00.1 55)) : va_E))
  rw [M00_z (p := 55) (by decide) (by decide) (by decide) (by decide)] <;> rfl
theorem we_56 (q0 : Nat) (u : Nat → Nat) (q1 : Nat) (v : Nat → Nat) (b : Nat) (cA : Nat → ClassId) : (((v 23), .inl (cA 0, 3, .inl (fun _ => 0))) : Nat × va_E) = (adL q0 u q1 v b 56, xcell cA (adL q0 u q1 v b) M00 56 (.inl (0, 3))) := by
  show (((v 23), .inl (cA 0, 3, .inl (fun _ => 0))) : Nat × va_E) = ((v 23), (Sum.inl (cA 0, 3, Sum.inl (M00.1 56)) : va_E))
  rw [M00_z (p := 56) (by decide) (by decide) (by decide) (by decide)] <;> rfl
set_option maxHeartbeats 4000000 in
set_option maxRecDepth 100000 in
theorem world_eq (q0 : Nat) (u : Nat → Nat) (q1 : Nat) (v : Nat → Nat) (b : Nat) (cA : Nat → ClassId) : [(q0, .inr (6, [.ref (u 0), .ref (u 7), .ref (u 17), .ref (u 19), .ref (u 21), .ref (u 24), .ref (u 30), .int (nI 0)])), ((u 0), .inr (5, [.ref (u 1), .ref (u 2), .ref (u 3), .ref (u 4), .ref (u 5), .ref (u 6)])), ((u 1), .inl (cA 0, 6, .inl (fun _ => 0))), ((u 2), .inl (cA 0, 6, .inl (fun _ => 0))), ((u 3), .inl (cA 0, 6, .inl (fun j => if j < 6 then nI 1 else (fun _ => 0) j))), ((u 4), .inl (cA 0, 6, .inl (fun _ => 0))), ((u 5), .inl (cA 0, 6, .inl (fun _ => 0))), ((u 6), .inl (cA 0, 6, .inl (fun _ => 0))), ((u 7), .inr (1, [.ref (u 8), .ref (u 9), .ref (u 10), .ref (u 11), .ref (u 12), .ref (u 13), .ref (u 14), .ref (u 15), .ref (u 16), .int (nI 0)])), ((u 8), .inl (cA 0, 10, .inl (fun _ => 0))), ((u 9), .inl (cA 0, 10, .inl (fun _ => 0))), ((u 10), .inl (cA 0, 10, .inl (fun _ => 0))), ((u 11), .inl (cA 0, 10, .inl (fun _ => 0))), ((u 12), .inl (cA 0, 10, .inl (fun _ => 0))), ((u 13), .inl (cA 0, 10, .inl (fun _ => 0))), ((u 14), .inl (cA 0, 10, .inl (fun _ => 0))), ((u 15), .inl (cA 0, 60, .inl (fun _ => 0))), ((u 16), .inl (cA 1, 60, .inl (fun _ => 0))), ((u 17), .inr (4, [.ref (u 18), .int (nI 0)])), ((u 18), .inl (cA 1, 61, .inl (fun _ => 0))), ((u 19), .inr (3, [.ref (u 20), .int (nI 0), .int (nI 0), .long (lN 0)])), ((u 20), .inl (cA 0, 396, .inl (fun _ => 0))), ((u 21), .inr (2, [.ref (u 22), .ref (u 23), .int (nI 0)])), ((u 22), .inl (cA 0, 6, .inl (fun _ => 0))), ((u 23), .inl (cA 0, 6, .inl (fun _ => 0))), ((u 24), .inr (0, [.ref (u 25), .ref (u 26), .ref (u 27), .ref (u 28), .ref (u 29), .int (nI 0), .int (nI 0)])), ((u 25), .inl (cA 0, 10, .inl (fun _ => 0))), ((u 26), .inl (cA 0, 10, .inl (fun _ => 0))), ((u 27), .inl (cA 0, 10, .inl (fun _ => 0))), ((u 28), .inl (cA 0, 10, .inl (fun _ => 0))), ((u 29), .inl (cA 0, 3, .inl (fun _ => 0))), ((u 30), .inl (cA 0, 4, .inl (fun j => if j < 4 then nI 100 else (fun _ => 0) j))), (q1, .inr (7, [.ref (v 0), .ref (v 1), .ref (v 2), .ref (v 3), .ref (v 4), .ref (v 5), .int 0, .ref (v 6), .ref (v 7), .ref (v 8), .ref (v 9), .ref (v 10), .ref (v 11), .ref (v 12), .ref (v 13), .ref (v 14), .ref (v 15), .int 0, .int 0, .ref (v 16), .ref (v 17), .ref (v 18), .ref (v 19), .int 0, .ref (v 20), .ref (v 21), .ref (v 22), .ref (v 23)])), ((v 0), .inl (cA 0, 6, .inl (fun _ => 0))), ((v 1), .inl (cA 0, 6, .inl (fun _ => 0))), ((v 2), .inl (cA 0, 6, .inl (upd (upd (upd (upd (upd (upd (fun _ => 0) 0 (nI 1)) 1 (nI 1)) 2 (nI 1)) 3 (nI 1)) 4 (nI 1)) 5 (nI 1)))), ((v 3), .inl (cA 0, 6, .inl (fun _ => 0))), ((v 4), .inl (cA 0, 6, .inl (fun _ => 0))), ((v 5), .inl (cA 0, 6, .inl (fun _ => 0))), ((v 6), .inl (cA 0, 10, .inl (fun _ => 0))), ((v 7), .inl (cA 0, 10, .inl (fun _ => 0))), ((v 8), .inl (cA 0, 10, .inl (fun _ => 0))), ((v 9), .inl (cA 0, 10, .inl (fun _ => 0))), ((v 10), .inl (cA 0, 60, .inl (fun _ => 0))), ((v 11), .inl (cA 1, 60, .inl (fun _ => 0))), ((v 12), .inl (cA 0, 10, .inl (fun _ => 0))), ((v 13), .inl (cA 0, 10, .inl (fun _ => 0))), ((v 14), .inl (cA 0, 10, .inl (fun _ => 0))), ((v 15), .inl (cA 1, 61, .inl (fun _ => 0))), ((v 16), .inl (cA 0, 6, .inl (fun _ => 0))), ((v 17), .inl (cA 0, 6, .inl (fun _ => 0))), ((v 18), .inl (cA 0, 4, .inl (upd (upd (upd (upd (fun _ => 0) 0 (nI 100)) 1 (nI 100)) 2 (nI 100)) 3 (nI 100)))), ((v 19), .inl (cA 0, 3960, .inl (fun _ => 0))), ((v 20), .inl (cA 0, 10, .inl (fun _ => 0))), ((v 21), .inl (cA 0, 10, .inl (fun _ => 0))), ((v 22), .inl (cA 0, 10, .inl (fun _ => 0))), ((v 23), .inl (cA 0, 3, .inl (fun _ => 0)))] = xW cA (adL q0 u q1 v b) M00 := by
  rw [xW_w]
  unfold xSH
  exact (wI_c (k := 0) (k2 := 1) rfl (we_0 q0 u q1 v b cA) (wI_c (k := 1) (k2 := 2) rfl (we_1 q0 u q1 v b cA) (wI_c (k := 2) (k2 := 3) rfl (we_2 q0 u q1 v b cA) (wI_c (k := 3) (k2 := 4) rfl (we_3 q0 u q1 v b cA) (wI_c (k := 4) (k2 := 5) rfl (we_4 q0 u q1 v b cA) (wI_c (k := 5) (k2 := 6) rfl (we_5 q0 u q1 v b cA) (wI_c (k := 6) (k2 := 7) rfl (we_6 q0 u q1 v b cA) (wI_c (k := 7) (k2 := 8) rfl (we_7 q0 u q1 v b cA) (wI_c (k := 8) (k2 := 9) rfl (we_8 q0 u q1 v b cA) (wI_c (k := 9) (k2 := 10) rfl (we_9 q0 u q1 v b cA) (wI_c (k := 10) (k2 := 11) rfl (we_10 q0 u q1 v b cA) (wI_c (k := 11) (k2 := 12) rfl (we_11 q0 u q1 v b cA) (wI_c (k := 12) (k2 := 13) rfl (we_12 q0 u q1 v b cA) (wI_c (k := 13) (k2 := 14) rfl (we_13 q0 u q1 v b cA) (wI_c (k := 14) (k2 := 15) rfl (we_14 q0 u q1 v b cA) (wI_c (k := 15) (k2 := 16) rfl (we_15 q0 u q1 v b cA) (wI_c (k := 16) (k2 := 17) rfl (we_16 q0 u q1 v b cA) (wI_c (k := 17) (k2 := 18) rfl (we_17 q0 u q1 v b cA) (wI_c (k := 18) (k2 := 19) rfl (we_18 q0 u q1 v b cA) (wI_c (k := 19) (k2 := 20) rfl (we_19 q0 u q1 v b cA) (wI_c (k := 20) (k2 := 21) rfl (we_20 q0 u q1 v b cA) (wI_c (k := 21) (k2 := 22) rfl (we_21 q0 u q1 v b cA) (wI_c (k := 22) (k2 := 23) rfl (we_22 q0 u q1 v b cA) (wI_c (k := 23) (k2 := 24) rfl (we_23 q0 u q1 v b cA) (wI_c (k := 24) (k2 := 25) rfl (we_24 q0 u q1 v b cA) (wI_c (k := 25) (k2 := 26) rfl (we_25 q0 u q1 v b cA) (wI_c (k := 26) (k2 := 27) rfl (we_26 q0 u q1 v b cA) (wI_c (k := 27) (k2 := 28) rfl (we_27 q0 u q1 v b cA) (wI_c (k := 28) (k2 := 29) rfl (we_28 q0 u q1 v b cA) (wI_c (k := 29) (k2 := 30) rfl (we_29 q0 u q1 v b cA) (wI_c (k := 30) (k2 := 31) rfl (we_30 q0 u q1 v b cA) (wI_c (k := 31) (k2 := 32) rfl (we_31 q0 u q1 v b cA) (wI_c (k := 32) (k2 := 33) rfl (we_32 q0 u q1 v b cA) (wI_c (k := 33) (k2 := 34) rfl (we_33 q0 u q1 v b cA) (wI_c (k := 34) (k2 := 35) rfl (we_34 q0 u q1 v b cA) (wI_c (k := 35) (k2 := 36) rfl (we_35 q0 u q1 v b cA) (wI_c (k := 36) (k2 := 37) rfl (we_36 q0 u q1 v b cA) (wI_c (k := 37) (k2 := 38) rfl (we_37 q0 u q1 v b cA) (wI_c (k := 38) (k2 := 39) rfl (we_38 q0 u q1 v b cA) (wI_c (k := 39) (k2 := 40) rfl (we_39 q0 u q1 v b cA) (wI_c (k := 40) (k2 := 41) rfl (we_40 q0 u q1 v b cA) (wI_c (k := 41) (k2 := 42) rfl (we_41 q0 u q1 v b cA) (wI_c (k := 42) (k2 := 43) rfl (we_42 q0 u q1 v b cA) (wI_c (k := 43) (k2 := 44) rfl (we_43 q0 u q1 v b cA) (wI_c (k := 44) (k2 := 45) rfl (we_44 q0 u q1 v b cA) (wI_c (k := 45) (k2 := 46) rfl (we_45 q0 u q1 v b cA) (wI_c (k := 46) (k2 := 47) rfl (we_46 q0 u q1 v b cA) (wI_c (k := 47) (k2 := 48) rfl (we_47 q0 u q1 v b cA) (wI_c (k := 48) (k2 := 49) rfl (we_48 q0 u q1 v b cA) (wI_c (k := 49) (k2 := 50) rfl (we_49 q0 u q1 v b cA) (wI_c (k := 50) (k2 := 51) rfl (we_50 q0 u q1 v b cA) (wI_c (k := 51) (k2 := 52) rfl (we_51 q0 u q1 v b cA) (wI_c (k := 52) (k2 := 53) rfl (we_52 q0 u q1 v b cA) (wI_c (k := 53) (k2 := 54) rfl (we_53 q0 u q1 v b cA) (wI_c (k := 54) (k2 := 55) rfl (we_54 q0 u q1 v b cA) (wI_c (k := 55) (k2 := 56) rfl (we_55 q0 u q1 v b cA) (wI_c (k := 56) (k2 := 57) rfl (we_56 q0 u q1 v b cA) rfl)))))))))))))))))))))))))))))))))))))))))))))))))))))))))
theorem lw_sub : ∀ w ∈ xTb, w ∈ lw_tbl := fun w hw => (List.mem_filter.mp hw).1
/-- the array classes -/
theorem lw_arr {s : State} {args : Array Value} {ty : FieldType} (h : (Cond.arrayClass ty).before args s = true) : ∃ cA, ArrOfT s cA ty ∧ s.vm.findClass ("[" ++ ty.toString) = some cA := by
  obtain ⟨cA, kA, comp, h1, h2, h3⟩ := Cond.arrayClass_spec h
  exact ⟨cA, fun n z => ⟨fun k h => (by cases h), kA, h2, comp, h3⟩, h1⟩
theorem law_x {p : Program} {l : Launch} {e : Env} {s : State} {m : MethodId} {below : List Frame} {meth : Method} {c : Code} {b Ln : Nat} {xs : Nat → Int32} {D : va_G} {cA : Nat → ClassId} {H : Heap} {locs : List Loc} {ls : Array Slot} {q0 q1 : Nat} {u v : Nat → Nat} (hL : Ln ≤ 3584) (C0 : lw_At p s m meth c b Ln xs) (hK : va_K D vwCl (xtys cA) s) (hP : va_P D vwCl (xW cA (adL q0 u q1 v b) M00) H) (hD : va_D (fun q : Nat => s.heap.size ≤ q) (xW cA (adL q0 u q1 v b) M00)) (hS : va_S (fun q : Nat => s.heap.size ≤ q) s.heap H locs) (hl : lv_has ls 4 [(3, .int 0), (2, .ref q1), (1, .ref q0), (0, .ref b)]) : W p l e room_1 s m #[Value.ref b] below meth c H locs 57 5106 (lw_Z below #[Value.ref b] s) (F0 m 18 ls []) := by
  obtain ⟨hx, hb, hr, hml, hown, hts, hX, hbl, hlocks, -⟩ := C0
  have hbA : ¬ s.heap.size ≤ b := Nat.not_le.mpr hbl
  have get : ∀ i, i < 57 → ∃ sc, xSH[i]? = some sc := fun i hi => ⟨xSH[i]'(by rw [xSH_len]; exact hi), List.getElem?_eq_getElem _⟩
  have hi : ∀ i j, i < 57 → j < 57 → adL q0 u q1 v b i = adL q0 u q1 v b j → i = j := by
    intro i j h1 h2 h3
    obtain ⟨s1, g1⟩ := get i h1
    obtain ⟨s2, g2⟩ := get j h2
    exact hD.1 i j _ _ (xW_get g1) (xW_get g2) h3
  have hAd : ∀ i, i < 57 → s.heap.size ≤ adL q0 u q1 v b i := by
    intro i h1
    obtain ⟨s1, g1⟩ := get i h1
    exact hD.2 i _ (xW_get g1)
  have h := l_law (Y := (p, l, e, room_1, s, m, #[Value.ref b], below, meth, c, 57, 5106, lw_Z below #[Value.ref b] s, D, cA, adL q0 u q1 v b, fun q : Nat => s.heap.size ≤ q)) (Ln := Ln) (xs := xs) ⟨hX, hbl, hbA⟩ ⟨rfl, rfl⟩ ⟨rfl, rfl, rfl, rfl, rfl, hr, hlocks, fun q hq => hq⟩ hL (Ln + 7) 0 0 0 M00 (by omega) (by omega) CI_0
  refine h ⟨hx, hb, hml, hown, ⟨fun w hw => hts w (lw_sub w hw), fun q hq => va_Nw.of rfl (hts _ (xNl_in q hq))⟩, hK, hi, hAd, fun q hq => hq, Nat.le_refl _, Nat.le_refl _⟩ H locs ls hP hS ⟨hl.1, hl.2.1, fun i w hw => ?_⟩
  have hm := x_lookup_mem hw
  simp only [List.mem_cons, List.mem_nil_iff, or_false, Prod.mk.injEq] at hm
  rcases hm with ⟨rfl, rfl⟩ | ⟨rfl, rfl⟩ | ⟨rfl, rfl⟩ | ⟨rfl, rfl⟩
  · exact hl.2.2 (3, .int 0) (by simp)
  · exact hl.2.2 (0, .ref b) (by simp)
  · exact hl.2.2 (1, .ref q0) (by simp)
  · exact hl.2.2 (2, .ref q1) (by simp)
set_option maxHeartbeats 4000000 in
set_option maxRecDepth 100000 in
/-- YOUR PART: from the entry, for every script of at most 3584 ints, the law comes to its end with true ('hflags': the launch's flags, for a law that throws: no stack traces) -/
theorem whole_start {p : Program} {e : Env} {s : State} {m : MethodId} {below : List Frame} {meth : Method} {c : Code} (l : Launch) (hflags : l.flags = flags0) {b L : Nat} {xs : Nat → Int32} (hL : L ≤ 3584) (C0 : lw_At p s m meth c b L xs) : W p l e room_1 s m #[Value.ref b] below meth c s.heap [] 0 0 (lw_Z below #[Value.ref b] s) (entryFrame m ([Value.ref b] : List Value).toArray 4) := by
  obtain ⟨hx, hb, hr, hml, hown, hts, hX, hbl, hlocks, hgv⟩ := id C0
  have hts2 : ∀ w ∈ xTb, w.before #[Value.ref b] s = true := fun w hw => hts w (lw_sub w hw)
  obtain ⟨c0, iS0, hKn0⟩ := u_known (C := RX0) (T := TX0) (N := 7) (n := 7) hts2 xinX0 (hts2 (.instantiable RX0 7) (by decide +kernel))
  obtain ⟨c1, iS1, hKn1⟩ := u_known (C := RX1) (T := TX1) (N := 10) (n := 10) hts2 xinX1 (hts2 (.instantiable RX1 10) (by decide +kernel))
  obtain ⟨c2, iS2, hKn2⟩ := u_known (C := RX2) (T := TX2) (N := 3) (n := 3) hts2 xinX2 (hts2 (.instantiable RX2 3) (by decide +kernel))
  obtain ⟨c3, iS3, hKn3⟩ := u_known (C := RX3) (T := TX3) (N := 4) (n := 4) hts2 xinX3 (hts2 (.instantiable RX3 4) (by decide +kernel))
  obtain ⟨c4, iS4, hKn4⟩ := u_known (C := RX4) (T := TX4) (N := 2) (n := 2) hts2 xinX4 (hts2 (.instantiable RX4 2) (by decide +kernel))
  obtain ⟨c5, iS5, hKn5⟩ := u_known (C := RX5) (T := TX5) (N := 6) (n := 6) hts2 xinX5 (hts2 (.instantiable RX5 6) (by decide +kernel))
  obtain ⟨c6, iS6, hKn6⟩ := u_known (C := RX6) (T := TX6) (N := 8) (n := 8) hts2 xinX6 (hts2 (.instantiable RX6 8) (by decide +kernel))
  obtain ⟨c7, iS7, hKn7⟩ := u_known (C := RX7) (T := TX7) (N := 28) (n := 28) hts2 xinX7 (hts2 (.instantiable RX7 28) (by decide +kernel))
  obtain ⟨dC, dI, hKc⟩ : ∃ (dC : Nat → ClassId) (dI : Nat → Nat → Nat), ∀ (k : Nat) (q : vw_C), vwCl[k]? = some q → u_Kn s q.1 q.2.1 q.2.2 (dC k) (dI k) := by
    refine ⟨fun k => match k with | 0 => c0 | 1 => c1 | 2 => c2 | 3 => c3 | 4 => c4 | 5 => c5 | 6 => c6 | _ => c7, fun k => match k with | 0 => iS0 | 1 => iS1 | 2 => iS2 | 3 => iS3 | 4 => iS4 | 5 => iS5 | 6 => iS6 | _ => iS7, ?_⟩
    intro k q hq
    match k, hq with
    | 0, hq => cases hq; exact hKn0
    | 1, hq => cases hq; exact hKn1
    | 2, hq => cases hq; exact hKn2
    | 3, hq => cases hq; exact hKn3
    | 4, hq => cases hq; exact hKn4
    | 5, hq => cases hq; exact hKn5
    | 6, hq => cases hq; exact hKn6
    | 7, hq => cases hq; exact hKn7
    | k + 8, hq => simp [vwCl] at hq
  obtain ⟨a0, ar0, an0⟩ := lw_arr (hts2 (.arrayClass .int) (by decide +kernel))
  obtain ⟨a1, ar1, an1⟩ := lw_arr (hts2 (.arrayClass .boolean) (by decide +kernel))
  obtain ⟨cA, hcA0, hcA1⟩ : ∃ cA : Nat → ClassId, cA 0 = a0 ∧ cA 1 = a1 := ⟨fun k => if k = 0 then a0 else a1, rfl, rfl⟩
  have hK : va_K (dC, dI) vwCl (xtys cA) s := by
    refine ⟨hKc, fun k q h => ?_⟩
    match k, h with
    | 0, h => cases h; rw [hcA0]; exact ⟨ar0, an0⟩
    | 1, h => cases h; rw [hcA1]; exact ⟨ar1, an1⟩
    | k + 2, h => simp [xtys] at h
  have hl := lv_entry ([.ref b]) (n := 4) (Nat.le_of_ble_eq_true rfl)
  rw [lg_entry_eq]
  generalize (lg_sl ([.ref b]) ++ List.replicate (4 - (lg_sl ([.ref b])).length) Slot.unset).toArray = ls at hl ⊢
  have hl : lv_has ls 4 [(0, .ref b)] := hl
  have hR : iRm (p, l, e, room_1, s, m, #[Value.ref b], below, meth, c, lw_Z below #[Value.ref b] s, (dC, dI), cA, fun q : Nat => s.heap.size ≤ q) 9 342 57 5106 := ⟨rfl, rfl, rfl, rfl⟩
  have key : PI cL_law RL 4 (p, l, e, room_1, s, m, #[Value.ref b], below, meth, c, lw_Z below #[Value.ref b] s, (dC, dI), cA, fun q : Nat => s.heap.size ≤ q) 0 [(0, .ref b)] [] (fun _ => []) 0 0 := by
    refine PI.new (pc := 0) (ci := 6) (N := 8) (C := RX6) (T := TX6) (fs := [.null, .null, .null, .null, .null, .null, .null, .int 0]) hR rfl xinX6 tyX6 tyX6_ok (by decide +kernel) (fun j hj => by rcases (show j = 0 ∨ j = 1 ∨ j = 2 ∨ j = 3 ∨ j = 4 ∨ j = 5 ∨ j = 6 ∨ j = 7 by omega) with rfl | rfl | rfl | rfl | rfl | rfl | rfl | rfl <;> rfl) (Nat.le_of_ble_eq_true rfl) (Nat.le_of_ble_eq_true rfl) dL_law_0 (fun q0 => ?_)
    refine PI.world (ws2 := fun _ => [(q0, .inr (6, [.null, .null, .null, .null, .null, .null, .null, .int 0]))]) (fun _ => rfl) ?_
    refine PI.num (k2 := 1) (n2 := 8) rfl rfl ?_
    refine PI.dup (pc := 3) dL_law_3 rfl ?_
    refine PI.callI (pc := 4) (As := []) (fun _ => []) [0] [] hR (i_X6_init (h0 := q0)) ⟨Nat.le_of_ble_eq_true rfl, Nat.le_of_ble_eq_true rfl, Nat.le_of_ble_eq_true rfl, Nat.le_of_ble_eq_true rfl⟩ rfl (by decide +kernel) ⟨by decide +kernel, by decide +kernel, by decide +kernel⟩ (fun _ => rfl) (fun _ => rfl) (by decide) (by decide) (by simp) dL_law_4 (S' := [.ref q0]) rfl (Nat.le_of_ble_eq_true rfl) (fun u => ?_)
    refine PI.world (ws2 := fun cA => [(q0, .inr (6, [.ref (u 0), .ref (u 7), .ref (u 17), .ref (u 19), .ref (u 21), .ref (u 24), .ref (u 30), .int (nI 0)])), ((u 0), .inr (5, [.ref (u 1), .ref (u 2), .ref (u 3), .ref (u 4), .ref (u 5), .ref (u 6)])), ((u 1), .inl (cA 0, 6, .inl (fun _ => 0))), ((u 2), .inl (cA 0, 6, .inl (fun _ => 0))), ((u 3), .inl (cA 0, 6, .inl (fun j => if j < 6 then nI 1 else (fun _ => 0) j))), ((u 4), .inl (cA 0, 6, .inl (fun _ => 0))), ((u 5), .inl (cA 0, 6, .inl (fun _ => 0))), ((u 6), .inl (cA 0, 6, .inl (fun _ => 0))), ((u 7), .inr (1, [.ref (u 8), .ref (u 9), .ref (u 10), .ref (u 11), .ref (u 12), .ref (u 13), .ref (u 14), .ref (u 15), .ref (u 16), .int (nI 0)])), ((u 8), .inl (cA 0, 10, .inl (fun _ => 0))), ((u 9), .inl (cA 0, 10, .inl (fun _ => 0))), ((u 10), .inl (cA 0, 10, .inl (fun _ => 0))), ((u 11), .inl (cA 0, 10, .inl (fun _ => 0))), ((u 12), .inl (cA 0, 10, .inl (fun _ => 0))), ((u 13), .inl (cA 0, 10, .inl (fun _ => 0))), ((u 14), .inl (cA 0, 10, .inl (fun _ => 0))), ((u 15), .inl (cA 0, 60, .inl (fun _ => 0))), ((u 16), .inl (cA 1, 60, .inl (fun _ => 0))), ((u 17), .inr (4, [.ref (u 18), .int (nI 0)])), ((u 18), .inl (cA 1, 61, .inl (fun _ => 0))), ((u 19), .inr (3, [.ref (u 20), .int (nI 0), .int (nI 0), .long (lN 0)])), ((u 20), .inl (cA 0, 396, .inl (fun _ => 0))), ((u 21), .inr (2, [.ref (u 22), .ref (u 23), .int (nI 0)])), ((u 22), .inl (cA 0, 6, .inl (fun _ => 0))), ((u 23), .inl (cA 0, 6, .inl (fun _ => 0))), ((u 24), .inr (0, [.ref (u 25), .ref (u 26), .ref (u 27), .ref (u 28), .ref (u 29), .int (nI 0), .int (nI 0)])), ((u 25), .inl (cA 0, 10, .inl (fun _ => 0))), ((u 26), .inl (cA 0, 10, .inl (fun _ => 0))), ((u 27), .inl (cA 0, 10, .inl (fun _ => 0))), ((u 28), .inl (cA 0, 10, .inl (fun _ => 0))), ((u 29), .inl (cA 0, 3, .inl (fun _ => 0))), ((u 30), .inl (cA 0, 4, .inl (fun j => if j < 4 then nI 100 else (fun _ => 0) j)))]) (fun _ => rfl) ?_
    refine PI.num (k2 := 32) (n2 := 782) rfl rfl ?_
    refine PI.astore_n (pc := 7) (i := 1) (L2 := [(1, .ref q0), (0, .ref b)]) rfl (by decide) rfl dL_law_7 ?_
    refine PI.new (pc := 8) (ci := 7) (N := 28) (C := RX7) (T := TX7) (fs := [.null, .null, .null, .null, .null, .null, .int 0, .null, .null, .null, .null, .null, .null, .null, .null, .null, .null, .int 0, .int 0, .null, .null, .null, .null, .int 0, .null, .null, .null, .null]) hR rfl xinX7 tyX7 tyX7_ok (by decide +kernel) (fun j hj => by rcases (show j = 0 ∨ j = 1 ∨ j = 2 ∨ j = 3 ∨ j = 4 ∨ j = 5 ∨ j = 6 ∨ j = 7 ∨ j = 8 ∨ j = 9 ∨ j = 10 ∨ j = 11 ∨ j = 12 ∨ j = 13 ∨ j = 14 ∨ j = 15 ∨ j = 16 ∨ j = 17 ∨ j = 18 ∨ j = 19 ∨ j = 20 ∨ j = 21 ∨ j = 22 ∨ j = 23 ∨ j = 24 ∨ j = 25 ∨ j = 26 ∨ j = 27 by omega) with rfl | rfl | rfl | rfl | rfl | rfl | rfl | rfl | rfl | rfl | rfl | rfl | rfl | rfl | rfl | rfl | rfl | rfl | rfl | rfl | rfl | rfl | rfl | rfl | rfl | rfl | rfl | rfl <;> rfl) (Nat.le_of_ble_eq_true rfl) (Nat.le_of_ble_eq_true rfl) dL_law_8 (fun q1 => ?_)
    refine PI.world (ws2 := fun cA => [(q0, .inr (6, [.ref (u 0), .ref (u 7), .ref (u 17), .ref (u 19), .ref (u 21), .ref (u 24), .ref (u 30), .int (nI 0)])), ((u 0), .inr (5, [.ref (u 1), .ref (u 2), .ref (u 3), .ref (u 4), .ref (u 5), .ref (u 6)])), ((u 1), .inl (cA 0, 6, .inl (fun _ => 0))), ((u 2), .inl (cA 0, 6, .inl (fun _ => 0))), ((u 3), .inl (cA 0, 6, .inl (fun j => if j < 6 then nI 1 else (fun _ => 0) j))), ((u 4), .inl (cA 0, 6, .inl (fun _ => 0))), ((u 5), .inl (cA 0, 6, .inl (fun _ => 0))), ((u 6), .inl (cA 0, 6, .inl (fun _ => 0))), ((u 7), .inr (1, [.ref (u 8), .ref (u 9), .ref (u 10), .ref (u 11), .ref (u 12), .ref (u 13), .ref (u 14), .ref (u 15), .ref (u 16), .int (nI 0)])), ((u 8), .inl (cA 0, 10, .inl (fun _ => 0))), ((u 9), .inl (cA 0, 10, .inl (fun _ => 0))), ((u 10), .inl (cA 0, 10, .inl (fun _ => 0))), ((u 11), .inl (cA 0, 10, .inl (fun _ => 0))), ((u 12), .inl (cA 0, 10, .inl (fun _ => 0))), ((u 13), .inl (cA 0, 10, .inl (fun _ => 0))), ((u 14), .inl (cA 0, 10, .inl (fun _ => 0))), ((u 15), .inl (cA 0, 60, .inl (fun _ => 0))), ((u 16), .inl (cA 1, 60, .inl (fun _ => 0))), ((u 17), .inr (4, [.ref (u 18), .int (nI 0)])), ((u 18), .inl (cA 1, 61, .inl (fun _ => 0))), ((u 19), .inr (3, [.ref (u 20), .int (nI 0), .int (nI 0), .long (lN 0)])), ((u 20), .inl (cA 0, 396, .inl (fun _ => 0))), ((u 21), .inr (2, [.ref (u 22), .ref (u 23), .int (nI 0)])), ((u 22), .inl (cA 0, 6, .inl (fun _ => 0))), ((u 23), .inl (cA 0, 6, .inl (fun _ => 0))), ((u 24), .inr (0, [.ref (u 25), .ref (u 26), .ref (u 27), .ref (u 28), .ref (u 29), .int (nI 0), .int (nI 0)])), ((u 25), .inl (cA 0, 10, .inl (fun _ => 0))), ((u 26), .inl (cA 0, 10, .inl (fun _ => 0))), ((u 27), .inl (cA 0, 10, .inl (fun _ => 0))), ((u 28), .inl (cA 0, 10, .inl (fun _ => 0))), ((u 29), .inl (cA 0, 3, .inl (fun _ => 0))), ((u 30), .inl (cA 0, 4, .inl (fun j => if j < 4 then nI 100 else (fun _ => 0) j))), (q1, .inr (7, [.null, .null, .null, .null, .null, .null, .int 0, .null, .null, .null, .null, .null, .null, .null, .null, .null, .null, .int 0, .int 0, .null, .null, .null, .null, .int 0, .null, .null, .null, .null]))]) (fun _ => rfl) ?_
    refine PI.num (k2 := 33) (n2 := 810) rfl rfl ?_
    refine PI.dup (pc := 11) dL_law_11 rfl ?_
    refine PI.callI (pc := 12) (As := []) (fun cA => [(q0, .inr (6, [.ref (u 0), .ref (u 7), .ref (u 17), .ref (u 19), .ref (u 21), .ref (u 24), .ref (u 30), .int (nI 0)])), ((u 0), .inr (5, [.ref (u 1), .ref (u 2), .ref (u 3), .ref (u 4), .ref (u 5), .ref (u 6)])), ((u 1), .inl (cA 0, 6, .inl (fun _ => 0))), ((u 2), .inl (cA 0, 6, .inl (fun _ => 0))), ((u 3), .inl (cA 0, 6, .inl (fun j => if j < 6 then nI 1 else (fun _ => 0) j))), ((u 4), .inl (cA 0, 6, .inl (fun _ => 0))), ((u 5), .inl (cA 0, 6, .inl (fun _ => 0))), ((u 6), .inl (cA 0, 6, .inl (fun _ => 0))), ((u 7), .inr (1, [.ref (u 8), .ref (u 9), .ref (u 10), .ref (u 11), .ref (u 12), .ref (u 13), .ref (u 14), .ref (u 15), .ref (u 16), .int (nI 0)])), ((u 8), .inl (cA 0, 10, .inl (fun _ => 0))), ((u 9), .inl (cA 0, 10, .inl (fun _ => 0))), ((u 10), .inl (cA 0, 10, .inl (fun _ => 0))), ((u 11), .inl (cA 0, 10, .inl (fun _ => 0))), ((u 12), .inl (cA 0, 10, .inl (fun _ => 0))), ((u 13), .inl (cA 0, 10, .inl (fun _ => 0))), ((u 14), .inl (cA 0, 10, .inl (fun _ => 0))), ((u 15), .inl (cA 0, 60, .inl (fun _ => 0))), ((u 16), .inl (cA 1, 60, .inl (fun _ => 0))), ((u 17), .inr (4, [.ref (u 18), .int (nI 0)])), ((u 18), .inl (cA 1, 61, .inl (fun _ => 0))), ((u 19), .inr (3, [.ref (u 20), .int (nI 0), .int (nI 0), .long (lN 0)])), ((u 20), .inl (cA 0, 396, .inl (fun _ => 0))), ((u 21), .inr (2, [.ref (u 22), .ref (u 23), .int (nI 0)])), ((u 22), .inl (cA 0, 6, .inl (fun _ => 0))), ((u 23), .inl (cA 0, 6, .inl (fun _ => 0))), ((u 24), .inr (0, [.ref (u 25), .ref (u 26), .ref (u 27), .ref (u 28), .ref (u 29), .int (nI 0), .int (nI 0)])), ((u 25), .inl (cA 0, 10, .inl (fun _ => 0))), ((u 26), .inl (cA 0, 10, .inl (fun _ => 0))), ((u 27), .inl (cA 0, 10, .inl (fun _ => 0))), ((u 28), .inl (cA 0, 10, .inl (fun _ => 0))), ((u 29), .inl (cA 0, 3, .inl (fun _ => 0))), ((u 30), .inl (cA 0, 4, .inl (fun j => if j < 4 then nI 100 else (fun _ => 0) j)))]) [32] [0, 1, 2, 3, 4, 5, 6, 7, 8, 9, 10, 11, 12, 13, 14, 15, 16, 17, 18, 19, 20, 21, 22, 23, 24, 25, 26, 27, 28, 29, 30, 31] hR (i_X7_init (h0 := q1)) ⟨Nat.le_of_ble_eq_true rfl, Nat.le_of_ble_eq_true rfl, Nat.le_of_ble_eq_true rfl, Nat.le_of_ble_eq_true rfl⟩ rfl (by decide +kernel) ⟨by decide +kernel, by decide +kernel, by decide +kernel⟩ (fun _ => rfl) (fun _ => rfl) (by decide) (by decide) (by decide) dL_law_12 (S' := [.ref q1]) rfl (Nat.le_of_ble_eq_true rfl) (fun v => ?_)
    refine PI.world (ws2 := fun cA => [(q0, .inr (6, [.ref (u 0), .ref (u 7), .ref (u 17), .ref (u 19), .ref (u 21), .ref (u 24), .ref (u 30), .int (nI 0)])), ((u 0), .inr (5, [.ref (u 1), .ref (u 2), .ref (u 3), .ref (u 4), .ref (u 5), .ref (u 6)])), ((u 1), .inl (cA 0, 6, .inl (fun _ => 0))), ((u 2), .inl (cA 0, 6, .inl (fun _ => 0))), ((u 3), .inl (cA 0, 6, .inl (fun j => if j < 6 then nI 1 else (fun _ => 0) j))), ((u 4), .inl (cA 0, 6, .inl (fun _ => 0))), ((u 5), .inl (cA 0, 6, .inl (fun _ => 0))), ((u 6), .inl (cA 0, 6, .inl (fun _ => 0))), ((u 7), .inr (1, [.ref (u 8), .ref (u 9), .ref (u 10), .ref (u 11), .ref (u 12), .ref (u 13), .ref (u 14), .ref (u 15), .ref (u 16), .int (nI 0)])), ((u 8), .inl (cA 0, 10, .inl (fun _ => 0))), ((u 9), .inl (cA 0, 10, .inl (fun _ => 0))), ((u 10), .inl (cA 0, 10, .inl (fun _ => 0))), ((u 11), .inl (cA 0, 10, .inl (fun _ => 0))), ((u 12), .inl (cA 0, 10, .inl (fun _ => 0))), ((u 13), .inl (cA 0, 10, .inl (fun _ => 0))), ((u 14), .inl (cA 0, 10, .inl (fun _ => 0))), ((u 15), .inl (cA 0, 60, .inl (fun _ => 0))), ((u 16), .inl (cA 1, 60, .inl (fun _ => 0))), ((u 17), .inr (4, [.ref (u 18), .int (nI 0)])), ((u 18), .inl (cA 1, 61, .inl (fun _ => 0))), ((u 19), .inr (3, [.ref (u 20), .int (nI 0), .int (nI 0), .long (lN 0)])), ((u 20), .inl (cA 0, 396, .inl (fun _ => 0))), ((u 21), .inr (2, [.ref (u 22), .ref (u 23), .int (nI 0)])), ((u 22), .inl (cA 0, 6, .inl (fun _ => 0))), ((u 23), .inl (cA 0, 6, .inl (fun _ => 0))), ((u 24), .inr (0, [.ref (u 25), .ref (u 26), .ref (u 27), .ref (u 28), .ref (u 29), .int (nI 0), .int (nI 0)])), ((u 25), .inl (cA 0, 10, .inl (fun _ => 0))), ((u 26), .inl (cA 0, 10, .inl (fun _ => 0))), ((u 27), .inl (cA 0, 10, .inl (fun _ => 0))), ((u 28), .inl (cA 0, 10, .inl (fun _ => 0))), ((u 29), .inl (cA 0, 3, .inl (fun _ => 0))), ((u 30), .inl (cA 0, 4, .inl (fun j => if j < 4 then nI 100 else (fun _ => 0) j))), (q1, .inr (7, [.ref (v 0), .ref (v 1), .ref (v 2), .ref (v 3), .ref (v 4), .ref (v 5), .int 0, .ref (v 6), .ref (v 7), .ref (v 8), .ref (v 9), .ref (v 10), .ref (v 11), .ref (v 12), .ref (v 13), .ref (v 14), .ref (v 15), .int 0, .int 0, .ref (v 16), .ref (v 17), .ref (v 18), .ref (v 19), .int 0, .ref (v 20), .ref (v 21), .ref (v 22), .ref (v 23)])), ((v 0), .inl (cA 0, 6, .inl (fun _ => 0))), ((v 1), .inl (cA 0, 6, .inl (fun _ => 0))), ((v 2), .inl (cA 0, 6, .inl (upd (upd (upd (upd (upd (upd (fun _ => 0) 0 (nI 1)) 1 (nI 1)) 2 (nI 1)) 3 (nI 1)) 4 (nI 1)) 5 (nI 1)))), ((v 3), .inl (cA 0, 6, .inl (fun _ => 0))), ((v 4), .inl (cA 0, 6, .inl (fun _ => 0))), ((v 5), .inl (cA 0, 6, .inl (fun _ => 0))), ((v 6), .inl (cA 0, 10, .inl (fun _ => 0))), ((v 7), .inl (cA 0, 10, .inl (fun _ => 0))), ((v 8), .inl (cA 0, 10, .inl (fun _ => 0))), ((v 9), .inl (cA 0, 10, .inl (fun _ => 0))), ((v 10), .inl (cA 0, 60, .inl (fun _ => 0))), ((v 11), .inl (cA 1, 60, .inl (fun _ => 0))), ((v 12), .inl (cA 0, 10, .inl (fun _ => 0))), ((v 13), .inl (cA 0, 10, .inl (fun _ => 0))), ((v 14), .inl (cA 0, 10, .inl (fun _ => 0))), ((v 15), .inl (cA 1, 61, .inl (fun _ => 0))), ((v 16), .inl (cA 0, 6, .inl (fun _ => 0))), ((v 17), .inl (cA 0, 6, .inl (fun _ => 0))), ((v 18), .inl (cA 0, 4, .inl (upd (upd (upd (upd (fun _ => 0) 0 (nI 100)) 1 (nI 100)) 2 (nI 100)) 3 (nI 100)))), ((v 19), .inl (cA 0, 3960, .inl (fun _ => 0))), ((v 20), .inl (cA 0, 10, .inl (fun _ => 0))), ((v 21), .inl (cA 0, 10, .inl (fun _ => 0))), ((v 22), .inl (cA 0, 10, .inl (fun _ => 0))), ((v 23), .inl (cA 0, 3, .inl (fun _ => 0)))]) (fun _ => rfl) ?_
    refine PI.num (k2 := 57) (n2 := 5106) rfl rfl ?_
    refine PI.astore_n (pc := 15) (i := 2) (L2 := [(2, .ref q1), (1, .ref q0), (0, .ref b)]) rfl (by decide) rfl dL_law_15 ?_
    refine PI.iconst (pc := 16) (v := 0) dL_law_16 (by decide) ?_
    refine PI.istore_n (pc := 17) (i := 3) (L2 := [(3, .int 0), (2, .ref q1), (1, .ref q0), (0, .ref b)]) rfl (by decide) rfl dL_law_17 ?_
    refine PI.world (ws2 := fun cA => xW cA (adL q0 u q1 v b) M00) (fun cA => world_eq q0 u q1 v b cA) ?_
    intro hok H locs ls hP hD hS hl
    exact law_x hL C0 hK hP hD hS hl
  exact key ⟨hx, hb, hml, hown, ⟨hts2, fun q hq => va_Nw.of rfl (hts _ (xNi_in q hq))⟩, hK, fun q hq => hq⟩ s.heap [] ls (fun k q h => by simp at h) ⟨fun i j p q h => by simp at h, fun k q h => by simp at h⟩ va_S.rf hl
