/-! PURE 4: the slide moves alike. -/
theorem n2 (b : Nat) : (2 * nI b : Int32) = nI (2 * b) := by
  rw [show (2 : Int32) = nI 2 from rfl, nI_mul]
set_option maxHeartbeats 2000000 in
theorem mv_eq {P S M : Nat → Int32} {told muted bv : Int32} {p b : Nat} (hb2 : 2 ≤ b) (hb9 : b ≤ 9) (hp : p < 2 * b) (eP : P 12 = nI p) (eS : S 4 = nI b) (e15 : M 15 = P 12) (e4 : M 4 = S 4) (e7 : M 7 = P 2) (hc : sp_X8_pairCount told 4 = 2 ↔ ((told >>> (4 &&& 31)) &&& 3) = 3) (hm : sp_X2_isMuted P = muted) :
    cmv P S told bv 2 = mmv M told muted bv 7 ∧ cmv P S told bv 12 = mmv M told muted bv 15 ∧ cmv P S told bv 13 = mmv M told muted bv 16 ∧ cmv P S told bv 16 = P 16 + mmv M told muted bv 21 ∧ cmv P S told bv 17 = P 17 + mmv M told muted bv 22 ∧ cmv P S told bv 12 = nI ((p + 1) % (2 * b)) ∧ (cmv P S told bv 13 = bv ∨ cmv P S told bv 13 = 0) := by
  have hm' : sp_X2_isMuted (upd P 13 bv) = muted := hm
  have f1 : (nI b ≤ nI p) ↔ b ≤ p := nI_leI (by omega) (by omega)
  have f2 : (nI (p + 1) = nI b) ↔ p + 1 = b := nI_eq (by omega) (by omega)
  have f3 : (nI (p + 1) = nI (2 * b)) ↔ p + 1 = 2 * b := nI_eq (by omega) (by omega)
  have f4 : (nI (p + 1) < nI (2 * b)) ↔ p + 1 < 2 * b := nI_ltI (by omega) (by omega)
  have f5 : (nI (p + 1) = 0) ↔ False := by
    rw [show (0 : Int32) = nI 0 from rfl, nI_eq (by omega) (by omega)]
    constructor
    · intro h; omega
    · intro h; exact h.elim
  have f6 : ((0 : Int32) = nI b) ↔ False := by
    rw [show (0 : Int32) = nI 0 from rfl, nI_eq (by omega) (by omega)]
    constructor
    · intro h; omega
    · intro h; exact h.elim
  simp only [cmv, mmv, sp_X2_arriveAtTop, ite_at, upd, e15, e4, e7, eP, eS, n2, hm', ← hc, reduceIte, Nat.reduceEqDiff, ite_self, nI_1, f1, f2, f3, f4]
  by_cases hA : p + 1 = 2 * b
  · have g1 : ¬ p + 1 = b := by omega
    have g2 : b ≤ p := by omega
    have g3 : ¬ p + 1 < 2 * b := by omega
    have g4 : (p + 1) % (2 * b) = 0 := by rw [hA]; exact Nat.mod_self _
    rw [g4]
    simp only [eq_true hA, eq_false g1, eq_true g2, eq_false g3, f6, f5, f2, f3, f4, if_true, if_false, reduceIte, ite_self, nI_0, Int32.add_zero, and_self, and_true, true_and, or_true]
  · have g3 : p + 1 < 2 * b := by omega
    have g4 : (p + 1) % (2 * b) = p + 1 := Nat.mod_eq_of_lt g3
    rw [g4]
    by_cases hB : p + 1 = b
    · have g2 : ¬ b ≤ p := by omega
      by_cases hC : sp_X8_pairCount told 4 = 2 <;> by_cases hM : muted = 0 <;> by_cases h2 : P 2 = 2 <;> simp only [eq_false hA, eq_true hB, eq_false g2, eq_true g3, f5, hC, hM, h2, f2, f3, f4, if_true, if_false, reduceIte, ite_self, Int32.add_zero, and_self, and_true, true_and, true_or]
    · by_cases g2 : b ≤ p
      · simp only [eq_false hA, eq_false hB, eq_true g2, eq_true g3, f5, f2, f3, f4, if_true, if_false, reduceIte, ite_self, Int32.add_zero, and_self, and_true, true_and, true_or]
      · by_cases hC : sp_X8_pairCount told 4 = 2 <;> by_cases hM : muted = 0 <;> simp only [eq_false hA, eq_false hB, eq_false g2, eq_true g3, f5, hC, hM, f2, f3, f4, if_true, if_false, reduceIte, ite_self, Int32.add_zero, and_self, and_true, true_and, true_or]
theorem cmv_fr {P S : Nat → Int32} {told bv : Int32} {k : Nat} (hk : k ≠ 2 ∧ k ≠ 12 ∧ k ≠ 13 ∧ k ≠ 16 ∧ k ≠ 17) : cmv P S told bv k = P k := by
  simp only [cmv, sp_X2_arriveAtTop, ite_at, upd, if_neg hk.1, if_neg hk.2.1, if_neg hk.2.2.1, if_neg hk.2.2.2.1, if_neg hk.2.2.2.2, ite_self]
theorem mmv_fr {M : Nat → Int32} {told mu bv : Int32} {k : Nat} (hk : k ≠ 7 ∧ k ≠ 15 ∧ k ≠ 16 ∧ k ≠ 21 ∧ k ≠ 22) : mmv M told mu bv k = M k := by
  simp only [mmv, ite_at, upd, if_neg hk.1, if_neg hk.2.1, if_neg hk.2.2.1, if_neg hk.2.2.2.1, if_neg hk.2.2.2.2, ite_self]
theorem cmv_mode {P S : Nat → Int32} {told bv : Int32} (h : rg (P 2) 4) : rg (cmv P S told bv 2) 4 ∧ (cmv P S told bv 2 = 0 ↔ P 2 = 0) := by
  simp only [cmv, sp_X2_arriveAtTop, ite_at, upd]
  have r1 : rg (1 : Int32) 4 := ⟨1, by omega, rfl⟩
  have r4 : rg (4 : Int32) 4 := ⟨4, by omega, rfl⟩
  rcases rg4 h with h2 | h2 | h2 | h2 | h2 <;> constructor <;> simp [h2] <;> (repeat' split) <;> first | exact r1 | exact r4 | (exact ⟨0, by omega, rfl⟩) | (exact ⟨2, by omega, rfl⟩) | (exact ⟨3, by omega, rfl⟩) | simp_all
