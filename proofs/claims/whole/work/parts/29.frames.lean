/-! FRAMES: which numbers of the model a method leaves. -/
theorem upd_ne {f : Nat → Int32} {k j : Nat} {x : Int32} (h : j ≠ k) : upd f k x j = f j := if_neg h
theorem ite_at {c : Prop} [Decidable c] {f g : Nat → Int32} {k : Nat} : (if c then f else g) k = if c then f k else g k := by
  split <;> rfl
theorem goesOn_fr (M : Nat → Int32) (L : Int64) (a12 : Nat → Int32) (x y z : Int32) (k : Nat) (hk : k < 7 ∨ 23 ≤ k) : sp_X9_goesOn M L a12 x y z k = M k := by
  have h7 : ¬ k = 7 := by omega
  have h18 : ¬ k = 18 := by omega
  have h19 : ¬ k = 19 := by omega
  have h20 : ¬ k = 20 := by omega
  simp only [sp_X9_goesOn, ite_at, upd, if_neg h7, if_neg h18, if_neg h19, if_neg h20, ite_self]
theorem slides_fr (M : Nat → Int32) (L : Int64) (a6 : Nat → Int32) (x y : Int32) (k : Nat) (hk : k < 7 ∨ 23 ≤ k) : sp_X9_slides M L a6 x y k = M k := by
  have h7 : ¬ k = 7 := by omega
  have h15 : ¬ k = 15 := by omega
  have h16 : ¬ k = 16 := by omega
  have h21 : ¬ k = 21 := by omega
  have h22 : ¬ k = 22 := by omega
  simp only [sp_X9_slides, ite_at, upd, if_neg h7, if_neg h15, if_neg h16, if_neg h21, if_neg h22, ite_self]
theorem tickBy_fr (M : Nat → Int32) (L : Int64) (a5 a6 a12 : Nat → Int32) (set : Int32) (k : Nat) (hk : k < 7 ∨ 23 ≤ k) : (sp_X9_tickBy M L a5 a6 a12 set).1 k = M k := by
  have h10 : ¬ k = 10 := by omega
  have h11 : ¬ k = 11 := by omega
  simp only [sp_X9_tickBy]
  rw [slides_fr _ _ _ _ _ _ hk, upd_ne (by omega), upd_ne (by omega), goesOn_fr _ _ _ _ _ _ _ hk, upd_ne (by omega), upd_ne (by omega), upd_ne (by omega)]
  simp only [ite_at, upd, if_neg h10, if_neg h11, ite_self]
theorem becomes_fr (M : Nat → Int32) (L : Int64) (a12 : Nat → Int32) (st : Int64) (c : Int32) (k : Nat) (hk : k < 7 ∨ 19 ≤ k) : (sp_X9_becomes M L a12 st c).1 k = M k := by
  simp only [sp_X9_becomes]
  repeat rw [upd_ne (by omega)]
theorem begins_fr (M : Nat → Int32) (L : Int64) (a12 : Nat → Int32) (k : Nat) (hk : k < 7 ∨ 19 ≤ k) : (sp_X9_begins M L a12).1 k = M k := by
  simp only [sp_X9_begins]
  rw [upd_ne (by omega), becomes_fr _ _ _ _ _ _ hk]
def okc (M : Nat → Int32) : Prop := ¬ M 38 < 0 ∧ (M 38).toNatClampNeg < 1400
/-- what the reference's notes ask of the state behind a tick -/
def okn (M : Nat → Int32) (a29 : Nat → Int32) (ahead : Int32) : Prop := vp_in ahead 5 ∧ (¬ M 19 = (-9) → vp_in ((18 * ((M 19) - 1)) + (M 20)) 90) ∧ ¬ M 30 < 0 ∧ (M 30).toNatClampNeg ≤ 5 ∧ (¬ M 19 = (-9) → ¬ lp (bd_X9_notes_98 M a29) (M 30).toNatClampNeg 1 = 0 → vp_in (M 30) 5)
theorem nI_div {i k : Nat} (hi : i < 2 ^ 31) (hk : k < 2 ^ 31) : nI i / nI k = nI (i / k) := by
  apply Int32.toInt_inj.mp
  have hd : i / k ≤ i := Nat.div_le_self i k
  rw [Int32.toInt_div, nI_toInt hi, nI_toInt hk, nI_toInt (by omega)]
  rw [show ((i : Int).tdiv (k : Int)) = ((i / k : Nat) : Int) from rfl]
  generalize i / k = q at hd
  exact Int.bmod_eq_of_le (by omega) (by omega)
theorem nI_mul (a b : Nat) : nI a * nI b = nI (a * b) := (Int32.ofNat_mul a b).symm
theorem nI_sub {a b : Nat} (h : b ≤ a) : nI a - nI b = nI (a - b) := by
  have e : nI a = nI (a - b) + nI b := by rw [nI_add, Nat.sub_add_cancel h]
  rw [e, Int32.add_sub_cancel]
theorem nI_rem {i k : Nat} (hi : i < 2 ^ 31) (hk : k < 2 ^ 31) : nI i - nI i / nI k * nI k = nI (i % k) := by
  have h := Nat.div_mul_le_self i k
  rw [nI_div hi hk, nI_mul, nI_sub h]
  congr 1
  have := Nat.div_add_mod i k
  rw [Nat.mul_comm] at this
  omega
theorem rem_in {i : Nat} (hi : i < 2 ^ 31) : vp_in ((nI i / 2) - (nI i / 2) / 9 * 9) 9 := by
  rw [show (2 : Int32) = nI 2 from rfl, show (9 : Int32) = nI 9 from rfl, nI_div hi (by decide), nI_rem (by omega) (by decide)]
  exact vp_in_nI (Nat.mod_lt _ (by decide)) (by decide)
