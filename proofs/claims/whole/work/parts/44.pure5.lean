/-! PURE 5: a TICK of the class and one of the reference. -/
theorem bit_is {n : Nat} (h : n < 512) {k : Nat} (hk : k < 9) : (sp_X8_bit (nI n) (nI k) = 0 ∨ sp_X8_bit (nI n) (nI k) = 1) ∧ sp_X9_bit (nI n) (nI k) = sp_X8_bit (nI n) (nI k) := bit01_all ⟨n, h⟩ ⟨k, hk⟩
theorem st_mut {P S M M1 : Nat → Int32} {n : Nat} {z4 z5 : Int32} (hn : n < 512) (h5 : rg (P 5) 4) (h6 : rg (P 6) 30) (hS2 : rg (S 2) 30) (e10 : M 10 = P 5) (e11 : M 11 = P 6) (e2 : M 2 = S 2)
    (ez4 : z4 = sp_X9_mutingBy (M 10) (sp_X9_bit (nI n) 6) (sp_X9_bit (nI n) 7)) (ez5 : z5 = if z4 = 2 then (M 11) + 1 else (if z4 = 3 then (M 11) + 1 else 0)) (eM1 : M1 = if z5 ≤ M 2 then upd (upd M 10 z4) 11 z5 else upd (upd M 10 4) 11 0) :
    sp_X2_moveMuting P S (nI n) 5 = M1 10 ∧ sp_X2_moveMuting P S (nI n) 6 = M1 11 ∧ rg (M1 10) 4 ∧ rg (M1 11) 30 ∧ (∀ k, k ≠ 5 → k ≠ 6 → sp_X2_moveMuting P S (nI n) k = P k) ∧ ∀ k, k ≠ 10 → k ≠ 11 → M1 k = M k := by
  obtain ⟨b6, f6⟩ := bit_is hn (k := 6) (by omega)
  obtain ⟨b7, f7⟩ := bit_is hn (k := 7) (by omega)
  have i6 : (nI 6) = (6 : Int32) := rfl
  have i7 : (nI 7) = (7 : Int32) := rfl
  rw [i6] at b6 f6
  rw [i7] at b7 f7
  have hz : sp_X2_mutingThen P (if sp_X8_bit (nI n) 6 = 1 then 1 else 0) (if sp_X8_bit (nI n) 7 = 1 then 1 else 0) = z4 := by
    rw [ez4, f6, f7, e10]
    exact mut_eq h5 b6 b7
  have rz : rg z4 4 := by
    rw [ez4, f6, f7, e10]
    exact mut_rg h5 b6 b7
  have hmu : sp_X2_isMuted (upd P 5 z4) = if z4 = 2 then 1 else if z4 = 3 then 1 else 0 := rfl
  have hz5 : (if sp_X2_isMuted (upd P 5 z4) = 0 then 0 else (P 6) + 1) = z5 := by
    rw [ez5, hmu, e11]
    by_cases q2 : z4 = 2
    · simp [q2]
    · by_cases q3 : z4 = 3
      · simp [q3]
      · simp [q2, q3]
  have hP2 : sp_X2_moveMuting P S (nI n) = if z5 ≤ S 2 then upd (upd P 5 z4) 6 z5 else upd (upd P 5 4) 6 0 := by
    simp only [sp_X2_moveMuting, hz, hz5]
  rw [hP2, eM1, e2]
  have r5 : rg z5 31 := by
    obtain ⟨j, hj, e⟩ := h6
    rw [ez5, e11, e, nI_1]
    split
    · exact ⟨j + 1, by omega, rfl⟩
    · split
      · exact ⟨j + 1, by omega, rfl⟩
      · exact ⟨0, by omega, rfl⟩
  refine ⟨?_, ?_, ?_, ?_, ?_, ?_⟩
  · simp only [ite_at, upd, reduceIte, Nat.reduceEqDiff]
  · simp only [ite_at, upd, reduceIte]
  · simp only [ite_at, upd, reduceIte, Nat.reduceEqDiff]
    exact rg_ite (fun _ => rz) (fun _ => ⟨4, by omega, rfl⟩)
  · simp only [ite_at, upd, reduceIte]
    refine rg_ite (fun q => ?_) (fun _ => ⟨0, by omega, rfl⟩)
    obtain ⟨j, hj, e⟩ := r5
    obtain ⟨i, hi, ei⟩ := hS2
    rw [e, ei, nI_leI (by omega) (by omega)] at q
    exact ⟨j, by omega, e⟩
  · intro k k5 k6
    simp only [ite_at, upd, if_neg k5, if_neg k6, ite_self]
  · intro k k5 k6
    simp only [ite_at, upd, if_neg k5, if_neg k6, ite_self]
theorem st_hands {P S M : Nat → Int32} {L : Int64} {n : Nat} {on hn si : Int32} (hn5 : n < 512) (h3 : rg (P 3) 3) (h4 : rg (P 4) 9) (hS : 1 ≤ S 1) (hS1 : rg (S 1) 9) (e8 : M 8 = P 3) (e9 : M 9 = P 4) (e1 : M 1 = S 1)
    (eon : on = (if sp_X9_isOn (nI n) 0 = 0 then 0 else 1) + (if sp_X9_isOn (nI n) 1 = 0 then 0 else 1)) (ehn : hn = sp_X9_handsBy M L on) (esi : si = if hn = 1 then (if M 8 = 1 then (M 9) + 1 else 1) else 0) :
    sp_X2_moveHands P S (nI n) = upd (upd P 3 hn) 4 si ∧ rg hn 3 ∧ rg si 9 := by
  obtain ⟨g0, g1, -⟩ := SF_ok hn5
  have hh : sp_X2_handsThen P S ((sp_X8_pairCount (nI n) 0 / 2) + (sp_X8_pairCount (nI n) 2 / 2)) (if P 3 = 1 then (P 4) + 1 else 1) = hn := by
    rw [g0, g1, ← eon, ehn]
    exact hands_eq h3 hS e8 e9 e1
  refine ⟨?_, ?_, ?_⟩
  · simp only [sp_X2_moveHands, hh]
    rw [esi, e8, e9]
  · rw [ehn]
    simp only [sp_X9_handsBy]
    (repeat' split) <;> first | exact ⟨0, by omega, rfl⟩ | exact ⟨1, by omega, rfl⟩ | exact ⟨2, by omega, rfl⟩ | exact ⟨3, by omega, rfl⟩
  · rw [esi]
    refine rg_ite (fun q => ?_) (fun _ => ⟨0, by omega, rfl⟩)
    refine rg_ite (fun q8 => ?_) (fun _ => ⟨1, by omega, rfl⟩)
    obtain ⟨j, hj, e⟩ := h4
    obtain ⟨i, hi, ei⟩ := hS1
    rw [e9, e, nI_1]
    rw [ehn] at q
    simp only [sp_X9_handsBy, e9, e1, e, ei, q8, nI_1] at q
    by_cases hle : j + 1 ≤ i
    · exact ⟨j + 1, by omega, rfl⟩
    · have hle : ¬ nI (j + 1) ≤ nI i := fun h => hle ((nI_leI (by omega) (by omega)).mp h)
      exfalso
      revert q
      by_cases z0 : on = 0
      · simp [z0]
      · by_cases z2 : on = 2
        · simp [z2]
        · simp [z0, z2, hle]
theorem st_valve {F a6 M : Nat → Int32} {L : Int64} {x y : Int32} (h0 : F 2 = a6 0) (h1 : F 3 = a6 1) {cm : Int32} (e14 : M 14 = cm) : (sp_X0_valvesObey F cm = 0 ↔ ¬ (sp_X9_valveAt M L a6 0 = cm ∧ sp_X9_valveAt M L a6 1 = cm)) ∧ (sp_X0_bothOpen F cm = 0 ↔ ¬ (sp_X9_valveAt M L a6 0 = 1 ∧ sp_X9_valveAt M L a6 1 = 1)) := by
  have c0 : (0 : Int32).toNatClampNeg = 0 := by decide
  have c1 : (1 : Int32).toNatClampNeg = 1 := by decide
  simp only [sp_X0_valvesObey, sp_X0_bothOpen, sp_X0_valveIs, sp_X9_valveAt, c0, c1, h0, h1, e14]
  generalize (if a6 0 = 2 then cm else a6 0) = u
  generalize (if a6 1 = 2 then cm else a6 1) = v
  constructor
  · by_cases q : u = cm <;> by_cases w : v = cm <;> simp [q, w]
  · by_cases q : u = 1 <;> by_cases w : v = 1 <;> simp [q, w]
/-- a press of the class and the reference's -/
def RP (P M a12 : Nat → Int32) : Prop := M 7 = P 2 ∧ M 8 = P 3 ∧ M 9 = P 4 ∧ M 10 = P 5 ∧ M 11 = P 6 ∧ a12 0 = P 7 ∧ a12 1 = P 8 ∧ a12 2 = P 9 ∧ M 13 = P 10 ∧ M 14 = P 11 ∧ M 15 = P 12 ∧ M 16 = P 13 ∧ M 17 = P 14 ∧ M 18 = (if P 2 = 0 then P 15 else (-9))
def RS (S M : Nat → Int32) : Prop := M 0 = S 0 ∧ M 1 = S 1 ∧ M 2 = S 2 ∧ M 3 = S 3 ∧ M 4 = S 4
def RV (F a6 : Nat → Int32) : Prop := F 2 = a6 0 ∧ F 3 = a6 1
def BP (P S : Nat → Int32) : Prop := rg (P 2) 4 ∧ rg (P 3) 3 ∧ rg (P 4) 9 ∧ rg (P 5) 4 ∧ rg (P 6) 30 ∧ rg (P 7) 9 ∧ rg (P 8) 9 ∧ rg (P 9) 9 ∧ rg (P 10) 9 ∧ rg (P 11) 1 ∧ (∃ p : Nat, p < 2 * (S 4).toNatClampNeg ∧ P 12 = nI p) ∧ rg (P 13) 3 ∧ rg (P 14) 1
theorem lp_three {A B : Nat → Int32} {g : Int32 → Int32} {f : Nat → (Nat → Int32) → (Nat → Int32)} (hf : f = fun i x => upd x i (if A i = B i then 0 else g (x i))) (a : Nat → Int32) : lp f 3 a 0 = (if A 0 = B 0 then 0 else g (a 0)) ∧ lp f 3 a 1 = (if A 1 = B 1 then 0 else g (a 1)) ∧ lp f 3 a 2 = (if A 2 = B 2 then 0 else g (a 2)) := by
  subst hf
  exact ⟨rfl, rfl, rfl⟩
theorem apart_then {p s a A B : Int32} (h : rg p 9) (hk : sp_X8_pairCount s a = 1 ↔ ¬ A = B) : sp_X2_apartThen p s a = (if A = B then 0 else sp_X9_more p) ∧ rg (sp_X2_apartThen p s a) 9 := by
  have e : sp_X2_apartThen p s a = (if A = B then 0 else sp_X9_more p) := by
    simp only [sp_X2_apartThen, more_eq h]
    by_cases q : A = B
    · have : ¬ sp_X8_pairCount s a = 1 := fun h => (hk.mp h) q
      simp [q, this]
    · simp [q, hk.mpr q]
  refine ⟨e, ?_⟩
  rw [e]
  exact rg_ite (fun _ => ⟨0, by omega, rfl⟩) (fun _ => more_rg h)
theorem st_apart {P a12 : Nat → Int32} {n : Nat} (hn : n < 512) (h7 : rg (P 7) 9) (h8 : rg (P 8) 9) (h9 : rg (P 9) 9) (e0 : a12 0 = P 7) (e1 : a12 1 = P 8) (e2 : a12 2 = P 9) {f : Nat → (Nat → Int32) → (Nat → Int32)} (hf : f = fun i x => upd x i (if sp_X9_bit (nI n) (2 * (nI i)) = sp_X9_bit (nI n) ((2 * (nI i)) + 1) then 0 else sp_X9_more (x i))) :
    lp f 3 a12 0 = sp_X2_apartThen (P 7) (nI n) 0 ∧ lp f 3 a12 1 = sp_X2_apartThen (P 8) (nI n) 2 ∧ lp f 3 a12 2 = sp_X2_apartThen (P 9) (nI n) 4 ∧ rg (sp_X2_apartThen (P 7) (nI n) 0) 9 ∧ rg (sp_X2_apartThen (P 8) (nI n) 2) 9 ∧ rg (sp_X2_apartThen (P 9) (nI n) 4) 9 := by
  obtain ⟨-, -, -, -, k0, k1, k2⟩ := SF_ok hn
  obtain ⟨g0, g1, g2⟩ := lp_three (A := fun i => sp_X9_bit (nI n) (2 * (nI i))) (B := fun i => sp_X9_bit (nI n) ((2 * (nI i)) + 1)) (g := sp_X9_more) hf a12
  obtain ⟨t0, r0⟩ := apart_then h7 k0
  obtain ⟨t1, r1⟩ := apart_then h8 k1
  obtain ⟨t2, r2⟩ := apart_then h9 k2
  exact ⟨by rw [g0, t0, e0], by rw [g1, t1, e1], by rw [g2, t2, e2], r0, r1, r2⟩
