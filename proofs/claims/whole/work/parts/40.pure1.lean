/-! PURE 1: bits of a set; what is seen. -/
def rg (x : Int32) (n : Nat) : Prop := ∃ j : Nat, j ≤ n ∧ x = nI j
theorem lp_congr {α : Type} {f g : Nat → α → α} : ∀ (n : Nat) (a : α), (∀ i x, i < n → f i x = g i x) → lp f n a = lp g n a := by
  intro n
  induction n with
  | zero => intro a _; rfl
  | succ n ih =>
    intro a h
    show f n (lp f n a) = g n (lp g n a)
    rw [ih a (fun i x hi => h i x (by omega)), h n _ (by omega)]
def nb (b : Bool) : Int32 := if b then 1 else 0
theorem bit_tb : ∀ t : Fin 512, ∀ k : Fin 9, sp_X9_bit (nI t.val) (nI k.val) = nb (t.val.testBit k.val) := by decide +kernel
theorem fold_bits : ∀ s : Fin 512, lp (fun i x => x ||| (nb (s.val.testBit i) <<< ((nI i) &&& 31))) 9 0 = nI s.val := by decide +kernel
/-- what is STUCK, as sets and as a row -/
def RF (F a5 : Nat → Int32) : Prop := ∃ o f : Nat, o < 512 ∧ f < 512 ∧ F 1 = nI o ∧ F 0 = nI f ∧ ∀ k, k < 9 → (o.testBit k = true → f.testBit k = false) ∧ a5 k = (if o.testBit k = true then 1 else if f.testBit k = true then 0 else 2)
theorem ofn_and (a b : Nat) : nI a &&& nI b = nI (a &&& b) := by
  apply Int32.toBitVec_inj.mp
  rw [Int32.toBitVec_and]
  simp only [nI, Int32.toBitVec_ofNat']
  exact (BitVec.ofNat_and).symm
theorem ofn_or (a b : Nat) : nI a ||| nI b = nI (a ||| b) := by
  apply Int32.toBitVec_inj.mp
  rw [Int32.toBitVec_or]
  simp only [nI, Int32.toBitVec_ofNat']
  exact (BitVec.ofNat_or).symm
theorem ofn_xor (a b : Nat) : nI a ^^^ nI b = nI (a ^^^ b) := by
  apply Int32.toBitVec_inj.mp
  rw [Int32.toBitVec_xor]
  simp only [nI, Int32.toBitVec_ofNat']
  exact (BitVec.ofNat_xor).symm
def seenN (t o f : Nat) : Nat := (t ||| o) &&& (f ^^^ 4294967295)
theorem seenN_lt {t o f : Nat} (ht : t < 512) (ho : o < 512) : seenN t o f < 512 := by
  have h : t ||| o < 2 ^ 9 := Nat.or_lt_two_pow ht ho
  exact Nat.lt_of_le_of_lt Nat.and_le_left h
theorem seen_cls {F : Nat → Int32} {t o f : Nat} (h1 : F 1 = nI o) (h0 : F 0 = nI f) : sp_X0_seenOf F (nI t) = nI (seenN t o f) := by
  simp only [sp_X0_seenOf, h1, h0]
  rw [show (-1 : Int32) = nI 4294967295 by decide, ofn_or, ofn_xor, ofn_and]
  rfl
theorem seen_eq {F a5 M : Nat → Int32} {L : Int64} {t : Nat} (hF : RF F a5) (ht : t < 512) : ∃ n, n < 512 ∧ sp_X0_seenOf F (nI t) = nI n ∧ sp_X9_seen M L a5 (nI t) = nI n := by
  obtain ⟨o, f, ho, hf, h1, h0, hk⟩ := hF
  refine ⟨seenN t o f, seenN_lt ht ho, seen_cls h1 h0, ?_⟩
  show lp (bd_X9_seen_4 a5 (nI t)) 9 0 = _
  rw [← fold_bits ⟨seenN t o f, seenN_lt ht ho⟩]
  refine lp_congr 9 0 (fun i x hi => ?_)
  simp only [bd_X9_seen_4]
  congr 2
  obtain ⟨d, e⟩ := hk i hi
  have hb := bit_tb ⟨t, ht⟩ ⟨i, hi⟩
  simp only at hb
  have hx : (4294967295 : Nat).testBit i = true := by
    have : ∀ k : Fin 9, (4294967295 : Nat).testBit k.val = true := by decide +kernel
    exact this ⟨i, hi⟩
  have hs : (seenN t o f).testBit i = ((t.testBit i || o.testBit i) && !(f.testBit i)) := by
    simp only [seenN, Nat.testBit_and, Nat.testBit_or, Nat.testBit_xor, hx, Bool.xor_true]
  rw [e, hs, hb]
  cases hoi : o.testBit i with
  | true =>
    have := d hoi
    simp [this, nb]
  | false =>
    cases hfi : f.testBit i with
    | true => simp [nb]
    | false => simp
/-- what a set of 9 inputs says, in both words -/
def SF (n : Nat) : Prop :=
  (sp_X8_pairCount (nI n) 0 / 2 = if sp_X9_isOn (nI n) 0 = 0 then 0 else 1) ∧ (sp_X8_pairCount (nI n) 2 / 2 = if sp_X9_isOn (nI n) 1 = 0 then 0 else 1) ∧
  (sp_X8_pairCount (nI n) 4 = 2 ↔ ¬ sp_X9_isOn (nI n) 2 = 0) ∧ (sp_X8_pairCount (nI n) 4 = 2 ↔ (nI n >>> (4 &&& 31)) &&& 3 = 3) ∧
  (sp_X8_pairCount (nI n) 0 = 1 ↔ ¬ sp_X9_bit (nI n) (2 * nI 0) = sp_X9_bit (nI n) ((2 * nI 0) + 1)) ∧ (sp_X8_pairCount (nI n) 2 = 1 ↔ ¬ sp_X9_bit (nI n) (2 * nI 1) = sp_X9_bit (nI n) ((2 * nI 1) + 1)) ∧ (sp_X8_pairCount (nI n) 4 = 1 ↔ ¬ sp_X9_bit (nI n) (2 * nI 2) = sp_X9_bit (nI n) ((2 * nI 2) + 1))
theorem SF_all : ∀ n : Fin 512, (sp_X8_pairCount (nI n.val) 0 / 2 = if sp_X9_isOn (nI n.val) 0 = 0 then 0 else 1) ∧ (sp_X8_pairCount (nI n.val) 2 / 2 = if sp_X9_isOn (nI n.val) 1 = 0 then 0 else 1) ∧
  (sp_X8_pairCount (nI n.val) 4 = 2 ↔ ¬ sp_X9_isOn (nI n.val) 2 = 0) ∧ (sp_X8_pairCount (nI n.val) 4 = 2 ↔ (nI n.val >>> (4 &&& 31)) &&& 3 = 3) ∧
  (sp_X8_pairCount (nI n.val) 0 = 1 ↔ ¬ sp_X9_bit (nI n.val) (2 * nI 0) = sp_X9_bit (nI n.val) ((2 * nI 0) + 1)) ∧ (sp_X8_pairCount (nI n.val) 2 = 1 ↔ ¬ sp_X9_bit (nI n.val) (2 * nI 1) = sp_X9_bit (nI n.val) ((2 * nI 1) + 1)) ∧ (sp_X8_pairCount (nI n.val) 4 = 1 ↔ ¬ sp_X9_bit (nI n.val) (2 * nI 2) = sp_X9_bit (nI n.val) ((2 * nI 2) + 1)) := by decide +kernel
theorem SF_ok {n : Nat} (h : n < 512) : SF n := SF_all ⟨n, h⟩
theorem bit01_all : ∀ n : Fin 512, ∀ k : Fin 9, (sp_X8_bit (nI n.val) (nI k.val) = 0 ∨ sp_X8_bit (nI n.val) (nI k.val) = 1) ∧ sp_X9_bit (nI n.val) (nI k.val) = sp_X8_bit (nI n.val) (nI k.val) := by decide +kernel
