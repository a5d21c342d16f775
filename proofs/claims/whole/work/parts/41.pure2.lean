/-! PURE 2: the parts of a TICK, class and reference. -/
theorem rg1 {x : Int32} (h : rg x 1) : x = 0 ∨ x = 1 := by
  obtain ⟨j, hj, e⟩ := h
  rcases (show j = 0 ∨ j = 1 by omega) with rfl | rfl
  · exact Or.inl e
  · exact Or.inr e
theorem rg2 {x : Int32} (h : rg x 2) : x = 0 ∨ x = 1 ∨ x = 2 := by
  obtain ⟨j, hj, e⟩ := h
  rcases (show j = 0 ∨ j = 1 ∨ j = 2 by omega) with rfl | rfl | rfl
  · exact Or.inl e
  · exact Or.inr (Or.inl e)
  · exact Or.inr (Or.inr e)
theorem rg3 {x : Int32} (h : rg x 3) : x = 0 ∨ x = 1 ∨ x = 2 ∨ x = 3 := by
  obtain ⟨j, hj, e⟩ := h
  rcases (show j = 0 ∨ j = 1 ∨ j = 2 ∨ j = 3 by omega) with rfl | rfl | rfl | rfl
  · exact Or.inl e
  · exact Or.inr (Or.inl e)
  · exact Or.inr (Or.inr (Or.inl e))
  · exact Or.inr (Or.inr (Or.inr e))
theorem rg4 {x : Int32} (h : rg x 4) : x = 0 ∨ x = 1 ∨ x = 2 ∨ x = 3 ∨ x = 4 := by
  obtain ⟨j, hj, e⟩ := h
  rcases (show j = 0 ∨ j = 1 ∨ j = 2 ∨ j = 3 ∨ j = 4 by omega) with rfl | rfl | rfl | rfl | rfl
  · exact Or.inl e
  · exact Or.inr (Or.inl e)
  · exact Or.inr (Or.inr (Or.inl e))
  · exact Or.inr (Or.inr (Or.inr (Or.inl e)))
  · exact Or.inr (Or.inr (Or.inr (Or.inr e)))
theorem rg_of {x : Int32} {n : Nat} (j : Nat) (hj : j ≤ n) (e : x = nI j) : rg x n := ⟨j, hj, e⟩
theorem rg.mono {x : Int32} {n k : Nat} (h : rg x n) (hk : n ≤ k) : rg x k := by
  obtain ⟨j, hj, e⟩ := h
  exact ⟨j, by omega, e⟩
theorem rg_ite {c : Prop} [Decidable c] {x y : Int32} {n : Nat} (h1 : c → rg x n) (h2 : ¬ c → rg y n) : rg (if c then x else y) n := by
  split
  · exact h1 (by assumption)
  · exact h2 (by assumption)
theorem rg_lit {x : Int32} (n : Nat) (h : x.toNatClampNeg ≤ n ∧ x = nI x.toNatClampNeg) : rg x n := ⟨_, h.1, h.2⟩
theorem more_eq {x : Int32} (h : rg x 9) : sp_X2_oneMore x = sp_X9_more x := by
  obtain ⟨j, hj, rfl⟩ := h
  have : ∀ k : Fin 10, sp_X2_oneMore (nI k.val) = sp_X9_more (nI k.val) := by decide +kernel
  exact this ⟨j, by omega⟩
theorem more_rg {x : Int32} (h : rg x 9) : rg (sp_X9_more x) 9 := by
  obtain ⟨j, hj, rfl⟩ := h
  have : ∀ k : Fin 10, (sp_X9_more (nI k.val)).toNatClampNeg ≤ 9 ∧ sp_X9_more (nI k.val) = nI (sp_X9_more (nI k.val)).toNatClampNeg := by decide +kernel
  exact rg_lit 9 (this ⟨j, by omega⟩)
theorem mut_eq {P : Nat → Int32} {b6 b7 : Int32} (h5 : rg (P 5) 4) (h6 : b6 = 0 ∨ b6 = 1) (h7 : b7 = 0 ∨ b7 = 1) : sp_X2_mutingThen P (if b6 = 1 then 1 else 0) (if b7 = 1 then 1 else 0) = sp_X9_mutingBy (P 5) b6 b7 := by
  obtain ⟨j, hj, e⟩ := h5
  show sp_X2_mutingThen (fun _ => P 5) _ _ = _
  rw [e]
  have : ∀ k : Fin 5, ∀ x y : Fin 2, sp_X2_mutingThen (fun _ => nI k.val) (if nI x.val = 1 then 1 else 0) (if nI y.val = 1 then 1 else 0) = sp_X9_mutingBy (nI k.val) (nI x.val) (nI y.val) := by decide +kernel
  rcases h6 with rfl | rfl <;> rcases h7 with rfl | rfl
  · exact this ⟨j, by omega⟩ 0 0
  · exact this ⟨j, by omega⟩ 0 1
  · exact this ⟨j, by omega⟩ 1 0
  · exact this ⟨j, by omega⟩ 1 1
theorem mut_rg {w b6 b7 : Int32} (h5 : rg w 4) (h6 : b6 = 0 ∨ b6 = 1) (h7 : b7 = 0 ∨ b7 = 1) : rg (sp_X9_mutingBy w b6 b7) 4 := by
  obtain ⟨j, hj, rfl⟩ := h5
  have : ∀ k : Fin 5, ∀ x y : Fin 2, (sp_X9_mutingBy (nI k.val) (nI x.val) (nI y.val)).toNatClampNeg ≤ 4 ∧ sp_X9_mutingBy (nI k.val) (nI x.val) (nI y.val) = nI (sp_X9_mutingBy (nI k.val) (nI x.val) (nI y.val)).toNatClampNeg := by decide +kernel
  rcases h6 with rfl | rfl <;> rcases h7 with rfl | rfl
  · exact rg_lit 4 (this ⟨j, by omega⟩ 0 0)
  · exact rg_lit 4 (this ⟨j, by omega⟩ 0 1)
  · exact rg_lit 4 (this ⟨j, by omega⟩ 1 0)
  · exact rg_lit 4 (this ⟨j, by omega⟩ 1 1)
/-- SETTINGS as they may be -/
def BS (S : Nat → Int32) : Prop := rg (S 0) 5 ∧ rg (S 1) 9 ∧ 1 ≤ S 1 ∧ rg (S 2) 30 ∧ rg (S 3) 3 ∧ ∃ b : Nat, 2 ≤ b ∧ b ≤ 9 ∧ S 4 = nI b
theorem hands_eq {P S M : Nat → Int32} {L : Int64} {on : Int32} (h3 : rg (P 3) 3) (hS : 1 ≤ S 1) (e8 : M 8 = P 3) (e9 : M 9 = P 4) (e1 : M 1 = S 1) : sp_X2_handsThen P S on (if P 3 = 1 then (P 4) + 1 else 1) = sp_X9_handsBy M L on := by
  simp only [sp_X2_handsThen, sp_X9_handsBy, e8, e9, e1]
  rcases rg3 h3 with h | h | h | h
  · simp [h, hS]
  · simp [h]
  · simp [h]
  · simp [h]
theorem least_eq {P S M a12 : Nat → Int32} {L : Int64} (e0 : M 0 = S 0) (h0 : a12 0 = P 7) (h1 : a12 1 = P 8) (h2 : a12 2 = P 9) (e13 : M 13 = P 10) (e10 : M 10 = P 5) (e7 : M 7 = P 2) : sp_X9_leastCause M L a12 (M 7) = if sp_X2_leastCause P S = 0 then (-9) else sp_X2_leastCause P S := by
  simp only [sp_X9_leastCause, sp_X2_leastCause, e0, h0, h1, h2, e13, e10, e7]
  (repeat' split) <;> simp_all
theorem least_rg {P S : Nat → Int32} : rg (sp_X2_leastCause P S) 5 := by
  simp only [sp_X2_leastCause]
  (repeat' split) <;> first | exact ⟨0, by omega, rfl⟩ | exact ⟨1, by omega, rfl⟩ | exact ⟨2, by omega, rfl⟩ | exact ⟨3, by omega, rfl⟩ | exact ⟨4, by omega, rfl⟩ | exact ⟨5, by omega, rfl⟩
