/-! PLAIN FACTS on ints that the walks ask for. -/
theorem wi_ok {v a b : Int32} (h : ¬ sp_X8_within v a b = 0) : ¬ v < a ∧ ¬ b < v := by
  simp only [sp_X8_within] at h
  split at h
  · exact absurd rfl h
  · rename_i h1
    split at h
    · exact absurd rfl h
    · rename_i h2
      exact ⟨h1, h2⟩
theorem wi_no {v a b : Int32} (h : sp_X8_within v a b = 0) : v < a ∨ b < v := by
  simp only [sp_X8_within] at h
  split at h
  · exact Or.inl (by assumption)
  · split at h
    · exact Or.inr (by assumption)
    · exact absurd h (by decide)
theorem in_of {v b : Int32} {n : Nat} (h0 : ¬ v < 0) (h1 : ¬ b < v) (hb : b.toInt < (n : Int)) : vp_in v n := by
  rw [vp_in_iff]
  rw [Int32.lt_iff_toInt_lt] at h0 h1
  have h2 : (0 : Int32).toInt = 0 := by decide
  omega
theorem wi_in {v b : Int32} {n : Nat} (h : ¬ sp_X8_within v 0 b = 0) (hb : b.toInt < (n : Int)) : vp_in v n := in_of (wi_ok h).1 (wi_ok h).2 hb
theorem lt_in {v b : Int32} {n : Nat} (h0 : ¬ v < 0) (h1 : v < b) (hb : b.toInt ≤ (n : Int)) : vp_in v n := by
  rw [vp_in_iff]
  rw [Int32.lt_iff_toInt_lt] at h0 h1
  have h2 : (0 : Int32).toInt = 0 := by decide
  omega
theorem nI_self {x : Int32} (h : ¬ x < 0) : x = nI x.toNatClampNeg := by
  obtain ⟨j, hj, e⟩ := nI_of h
  rw [e, nI_clamp hj]
theorem clamp_lt (x : Int32) : x.toNatClampNeg < 2 ^ 31 := by
  by_cases h : x < 0
  · have : x.toNatClampNeg = 0 := by
      rw [Int32.lt_iff_toInt_lt] at h
      have h2 : (0 : Int32).toInt = 0 := by decide
      rw [h2] at h
      simp only [Int32.toNatClampNeg]
      omega
    omega
  · obtain ⟨j, hj, e⟩ := nI_of h
    rw [e, nI_clamp hj]
    exact hj
/-- the lock table's place: a CAUSE 1 .. 5 and a POSITION 0 .. 17 -/
theorem lock_in {a b : Int32} (h1 : ¬ sp_X8_within a 1 5 = 0) (h2 : ¬ sp_X8_within b 0 17 = 0) : vp_in ((a - 1) * 18 + b) 90 := by
  obtain ⟨p1, p2⟩ := wi_ok h1
  obtain ⟨j, hj, rfl⟩ := nI_of2 (n := 17) (M := 17) (by decide) (wi_ok h2).1 (by
    have := (wi_ok h2).2
    rw [Int32.lt_iff_toInt_lt] at this
    rw [Int32.le_iff_toInt_le]
    omega)
  have ha : a = 1 ∨ a = 2 ∨ a = 3 ∨ a = 4 ∨ a = 5 := by
    rw [Int32.lt_iff_toInt_lt] at p1 p2
    have e1 : (1 : Int32).toInt = 1 := by decide
    have e5 : (5 : Int32).toInt = 5 := by decide
    have : a.toInt = 1 ∨ a.toInt = 2 ∨ a.toInt = 3 ∨ a.toInt = 4 ∨ a.toInt = 5 := by omega
    rcases this with h | h | h | h | h
    · exact Or.inl (Int32.toInt_inj.mp (by rw [h]; decide))
    · exact Or.inr (Or.inl (Int32.toInt_inj.mp (by rw [h]; decide)))
    · exact Or.inr (Or.inr (Or.inl (Int32.toInt_inj.mp (by rw [h]; decide))))
    · exact Or.inr (Or.inr (Or.inr (Or.inl (Int32.toInt_inj.mp (by rw [h]; decide)))))
    · exact Or.inr (Or.inr (Or.inr (Or.inr (Int32.toInt_inj.mp (by rw [h]; decide)))))
  have key : ∀ k : Nat, k < 5 → (nI k * 18 + nI j) = nI (k * 18 + j) := fun k hk => by
    rw [← nI_add, show (18 : Int32) = nI 18 from rfl]
    congr 1
    exact (Int32.ofNat_mul k 18).symm
  rcases ha with rfl | rfl | rfl | rfl | rfl
  · rw [show ((1 : Int32) - 1) = nI 0 by decide, key 0 (by omega)]; exact vp_in_nI (by omega) (by omega)
  · rw [show ((2 : Int32) - 1) = nI 1 by decide, key 1 (by omega)]; exact vp_in_nI (by omega) (by omega)
  · rw [show ((3 : Int32) - 1) = nI 2 by decide, key 2 (by omega)]; exact vp_in_nI (by omega) (by omega)
  · rw [show ((4 : Int32) - 1) = nI 3 by decide, key 3 (by omega)]; exact vp_in_nI (by omega) (by omega)
  · rw [show ((5 : Int32) - 1) = nI 4 by decide, key 4 (by omega)]; exact vp_in_nI (by omega) (by omega)
theorem stepAt_in {k c : Int32} (h : ¬ sp_X8_within k 0 (c - 1) = 0) (h0 : ¬ c < 0) (hs : ¬ 32 < c) : vp_in k 32 := by
  have h1 := wi_ok h
  obtain ⟨j, hj, rfl⟩ := nI_of2 (n := 32) (M := 32) (by decide) h0 (Int32.not_lt.mp hs)
  cases j with
  | zero =>
    rw [show nI 0 - 1 = -1 by decide] at h1
    rw [Int32.lt_iff_toInt_lt, Int32.lt_iff_toInt_lt] at h1
    have e0 : (0 : Int32).toInt = 0 := by decide
    have e1 : (-1 : Int32).toInt = -1 := by decide
    omega
  | succ j =>
    rw [nI_pred] at h1
    refine in_of h1.1 h1.2 ?_
    rw [nI_toInt (by omega)]
    omega
theorem step_in {c : Int32} (h0 : ¬ c < 0) (h1 : ¬ 32 < c) (h2 : ¬ c = 32) : vp_in c 32 := by
  obtain ⟨j, hj, rfl⟩ := nI_of2 (n := 32) (M := 32) (by decide) h0 (Int32.not_lt.mp h1)
  have : j ≠ 32 := fun e => h2 (by rw [e]; decide)
  exact vp_in_nI (by omega) (by omega)
theorem n18 (c p : Nat) : (18 * nI c + nI p : Int32) = nI (18 * c + p) := by
  rw [← nI_add, show (18 : Int32) = nI 18 from rfl]
  congr 1
  exact (Int32.ofNat_mul 18 c).symm
theorem within_cases {a : Int32} (h1 : ¬ sp_X8_within a 1 5 = 0) : ∃ k : Nat, k < 5 ∧ a - 1 = nI k := by
  obtain ⟨p1, p2⟩ := wi_ok h1
  rw [Int32.lt_iff_toInt_lt] at p1 p2
  have e1 : (1 : Int32).toInt = 1 := by decide
  have e5 : (5 : Int32).toInt = 5 := by decide
  have : a.toInt = 1 ∨ a.toInt = 2 ∨ a.toInt = 3 ∨ a.toInt = 4 ∨ a.toInt = 5 := by omega
  rcases this with h | h | h | h | h
  · exact ⟨0, by omega, by rw [show a = 1 from Int32.toInt_inj.mp (by rw [h]; decide)]; decide⟩
  · exact ⟨1, by omega, by rw [show a = 2 from Int32.toInt_inj.mp (by rw [h]; decide)]; decide⟩
  · exact ⟨2, by omega, by rw [show a = 3 from Int32.toInt_inj.mp (by rw [h]; decide)]; decide⟩
  · exact ⟨3, by omega, by rw [show a = 4 from Int32.toInt_inj.mp (by rw [h]; decide)]; decide⟩
  · exact ⟨4, by omega, by rw [show a = 5 from Int32.toInt_inj.mp (by rw [h]; decide)]; decide⟩
theorem lk_in {a : Int32} {i : Nat} (h1 : ¬ sp_X8_within a 1 5 = 0) (hi : i < 18) : vp_in (18 * (a - 1) + nI i) 90 := by
  obtain ⟨k, hk, e⟩ := within_cases h1
  rw [e, n18]
  exact vp_in_nI (by omega) (by omega)
theorem cl_in {x : Int32} {n : Nat} (h0 : ¬ x < 0) (h : x.toNatClampNeg < n) (hn : n < 2 ^ 31) : vp_in x n := by
  rw [nI_self h0]
  exact vp_in_nI h hn
theorem and_in (x : Int32) : vp_in (x &&& 2047) 2048 := by
  rw [vp_in_iff]
  have h : (x &&& 2047).toInt = ((x.toBitVec &&& 2047#32).toNat : Int) := by
    rw [Int32.toInt, Int32.toBitVec_and]
    rw [BitVec.toInt_eq_toNat_of_lt]
    · rfl
    · have : (x.toBitVec &&& (2047 : Int32).toBitVec).toNat ≤ 2047 := by
        rw [BitVec.toNat_and]
        exact Nat.and_le_right
      omega
  have h2 : (x.toBitVec &&& 2047#32).toNat ≤ 2047 := by
    rw [BitVec.toNat_and]
    exact Nat.and_le_right
  omega
theorem fw_in {w : Int32} (h : ¬ sp_X8_within w 10 14 = 0) : vp_in (w - 10) 5 := by
  obtain ⟨p1, p2⟩ := wi_ok h
  rw [Int32.lt_iff_toInt_lt] at p1 p2
  have e1 : (10 : Int32).toInt = 10 := by decide
  have e5 : (14 : Int32).toInt = 14 := by decide
  have : w.toInt = 10 ∨ w.toInt = 11 ∨ w.toInt = 12 ∨ w.toInt = 13 ∨ w.toInt = 14 := by omega
  rw [vp_in_iff]
  rcases this with h | h | h | h | h
  · rw [show w = 10 from Int32.toInt_inj.mp (by rw [h]; decide)]; decide
  · rw [show w = 11 from Int32.toInt_inj.mp (by rw [h]; decide)]; decide
  · rw [show w = 12 from Int32.toInt_inj.mp (by rw [h]; decide)]; decide
  · rw [show w = 13 from Int32.toInt_inj.mp (by rw [h]; decide)]; decide
  · rw [show w = 14 from Int32.toInt_inj.mp (by rw [h]; decide)]; decide
