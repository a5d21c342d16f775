/-! PURE 27: the sets of a walk. -/
theorem bits_tab : ∀ m : Fin 512, sp_J6_bitCount_0f7a4 (nI m.val) = lp (bd_X9_isMay_4 (nI m.val)) 9 0 := by decide +kernel
/-- how many sets there are -/
def cntOf (may : Int32) : Nat := (1 <<< ((if 2 < (sp_J6_bitCount_0f7a4 may) then 2 else (sp_J6_bitCount_0f7a4 may)) &&& 31) : Int32).toNatClampNeg
def pick (may : Int32) (k : Nat) : Int32 := if k = 0 then 0 else if k = 1 then may &&& (-may) else if k = 2 then may &&& ((may &&& (-may)) ^^^ (-1)) else may
theorem cnt_tab : ∀ m : Fin 512, 0 < cntOf (nI m.val) ∧ cntOf (nI m.val) ≤ 4 ∧ (1 <<< ((if 2 < (sp_J6_bitCount_0f7a4 (nI m.val)) then 2 else (sp_J6_bitCount_0f7a4 (nI m.val))) &&& 31) : Int32) = nI (cntOf (nI m.val)) := by decide +kernel
theorem pick_tab : ∀ m : Fin 512, ∀ k : Fin 4, ¬ 2 < sp_J6_bitCount_0f7a4 (nI m.val) → (lp (bd_X9_chosen_12 (nI m.val) (nI k.val)) 9 (0, 0)).1 = pick (nI m.val) (k.val % cntOf (nI m.val)) := by decide +kernel
theorem chosen_or (may ch r : Int32) : ∀ n, lp (bd_X9_chosen_12 may ch) n (r, 0) = (r ||| (lp (bd_X9_chosen_12 may ch) n (0, 0)).1, (lp (bd_X9_chosen_12 may ch) n (0, 0)).2) := by
  intro n
  induction n with
  | zero => exact Prod.ext (Int32.or_zero).symm rfl
  | succ n ih =>
    show bd_X9_chosen_12 may ch n (lp (bd_X9_chosen_12 may ch) n (r, 0)) = (r ||| (bd_X9_chosen_12 may ch n (lp (bd_X9_chosen_12 may ch) n (0, 0))).1, (bd_X9_chosen_12 may ch n (lp (bd_X9_chosen_12 may ch) n (0, 0))).2)
    rw [ih]
    obtain ⟨x, ex⟩ : ∃ q, q = lp (bd_X9_chosen_12 may ch) n (0, 0) := ⟨_, rfl⟩
    rw [← ex]
    simp only [bd_X9_chosen_12]
    by_cases c : sp_X9_bit may (nI n) = 1
    · simp only [if_pos c, Int32.or_assoc]
    · simp only [if_neg c]
theorem and_small {s : Nat} (y : Int32) (h : s < 512) : ∃ q, q < 512 ∧ nI s &&& y = nI q := by
  have hy : y = nI y.toBitVec.toNat := by
    apply Int32.toBitVec_inj.mp
    simp only [nI, Int32.toBitVec_ofNat', BitVec.ofNat_toNat, BitVec.setWidth_eq]
  refine ⟨s &&& y.toBitVec.toNat, Nat.lt_of_le_of_lt Nat.and_le_left h, ?_⟩
  rw [← ofn_and, ← hy]
theorem or_small {s t : Nat} (h : s < 512) (g : t < 512) : ∃ q, q < 512 ∧ nI s ||| nI t = nI q := ⟨s ||| t, Nat.or_lt_two_pow (n := 9) h g, ofn_or s t⟩
theorem pick_small {m : Nat} (h : m < 512) (k : Nat) : ∃ q, q < 512 ∧ pick (nI m) k = nI q := by
  simp only [pick]
  by_cases k0 : k = 0
  · rw [if_pos k0]; exact ⟨0, by omega, rfl⟩
  rw [if_neg k0]
  by_cases k1 : k = 1
  · rw [if_pos k1]; exact and_small _ h
  rw [if_neg k1]
  by_cases k2 : k = 2
  · rw [if_pos k2]; exact and_small _ h
  rw [if_neg k2]
  exact ⟨m, h, rfl⟩
/-- the sets to choose from, on both sides -/
theorem choose_eq {Z c0 : Nat → Int32} {s m : Nat} (hs : s < 512) (hm : m < 512) (h2 : ¬ 2 < sp_J6_bitCount_0f7a4 (nI m)) {R : (Nat → Int32) × (Nat → Int32)} (eR : R = sp_X4_chooseSets Z c0 (nI s) (nI m)) : R.1 4 = nI (cntOf (nI m)) ∧ (0 < cntOf (nI m) ∧ cntOf (nI m) ≤ 4) ∧ (∀ k, k < 4 → sp_X9_chosen (nI s) (nI m) (nI k) = R.2 (k % cntOf (nI m))) ∧ (∀ k, k < 4 → ∃ q, q < 512 ∧ R.2 k = nI q) ∧ ∀ q, q ≠ 4 → R.1 q = Z q := by
  obtain ⟨c1, c2, c3⟩ := cnt_tab ⟨m, hm⟩
  dsimp only at c1 c2 c3
  have hR : ∀ k, k < 4 → R.2 k = (nI s &&& (nI m ^^^ (-1))) ||| pick (nI m) k := by
    intro k hk
    rw [eR]
    rcases (show k = 0 ∨ k = 1 ∨ k = 2 ∨ k = 3 by omega) with rfl | rfl | rfl | rfl
    · exact (Int32.or_zero).symm
    · rfl
    · rfl
    · rfl
  refine ⟨?_, ⟨c1, c2⟩, fun k hk => ?_, fun k hk => ?_, fun q hq => ?_⟩
  · rw [eR, ← c3]
    rfl
  · rw [hR _ (by have := Nat.mod_lt k c1; omega), ← pick_tab ⟨m, hm⟩ ⟨k, hk⟩ h2]
    simp only [sp_X9_chosen]
    rw [chosen_or]
  · rw [hR k hk]
    obtain ⟨a, ha, ea⟩ := and_small (nI m ^^^ (-1)) hs
    obtain ⟨b, hb, eb⟩ := pick_small hm k
    rw [ea, eb]
    exact or_small ha hb
  · rw [eR]
    exact upd_ne hq
