/-! PURE 14: a TRIAL of the class and one of the reference. -/
def RK (K k M a32 : Nat → Int32) (cn : Nat) : Prop := cn ≤ 32 ∧ K 1 = nI cn ∧ M 33 = nI cn ∧ ∀ j, j < cn → ∃ t : Nat, t < 512 ∧ k j = nI t ∧ a32 j = nI t
theorem setAt_eq {K k : Nat → Int32} {i : Nat} (h : i < 32) : sp_X3_setAt K k (nI i) = k i := by
  have hw : sp_X8_within (nI i) 0 31 = 1 := wi_yes (lo := 0) (hi := 31) (by omega) (by omega) (by omega)
  simp only [sp_X3_setAt, hw, nI_clamp (show i < 2 ^ 31 by omega)]
  rfl
/-- one INPUT STUCK, or none -/
def ES (E : Nat → Int32) (b : Bool) (inp v : Nat) : Prop := E 1 = nI (if b = true ∧ v = 1 then 2 ^ inp else 0) ∧ E 0 = nI (if b = true ∧ v = 0 then 2 ^ inp else 0) ∧ E 2 = 2 ∧ E 3 = 2
theorem ES_clear (G : Nat → Int32) (inp v : Nat) : ES (sp_X0_clear G) false inp v := ⟨rfl, rfl, rfl, rfl⟩
theorem set_tab : ∀ inp : Fin 9, ∀ v : Fin 2, sp_X0_setInput (fun _ => 0) (nI inp.val) (nI v.val) 1 = nI (if v.val = 1 then 2 ^ inp.val else 0) ∧ sp_X0_setInput (fun _ => 0) (nI inp.val) (nI v.val) 0 = nI (if v.val = 0 then 2 ^ inp.val else 0) := by decide +kernel
theorem ES_set {E : Nat → Int32} {inp v : Nat} (h : ES E false inp v) (hi : inp < 9) (hv : v < 2) : ES (sp_X0_setInput E (nI inp) (nI v)) true inp v := by
  obtain ⟨h1, h0, h2, h3⟩ := h
  have e1 : E 1 = 0 := by rw [h1]; simp [nI_0]
  have e0 : E 0 = 0 := by rw [h0]; simp [nI_0]
  obtain ⟨g1, g0⟩ := set_tab ⟨inp, hi⟩ ⟨v, hv⟩
  refine ⟨?_, ?_, h2, h3⟩
  · rw [show sp_X0_setInput E (nI inp) (nI v) 1 = sp_X0_setInput (fun _ => E 1) (nI inp) (nI v) 1 from rfl, e1, g1]
    simp
  · rw [show sp_X0_setInput E (nI inp) (nI v) 0 = sp_X0_setInput (fun _ => E 0) (nI inp) (nI v) 0 from rfl, e0, g0]
    simp
theorem pw512 {inp : Nat} (h : inp < 9) : 2 ^ inp < 512 := by
  have : 2 ^ inp < 2 ^ 9 := Nat.pow_lt_pow_right (by omega) h
  exact this
theorem ES_RF {E a5 : Nat → Int32} {b : Bool} {inp v : Nat} (h : ES E b inp v) (hi : inp < 9) (hv : v < 2) (ha : ∀ j, j < 9 → a5 j = if b = true ∧ j = inp then nI v else 2) : RF E a5 := by
  obtain ⟨h1, h0, -, -⟩ := h
  have p5 := pw512 hi
  refine ⟨_, _, ?_, ?_, h1, h0, ?_⟩
  · split <;> omega
  · split <;> omega
  · intro k hk
    rw [ha k hk]
    cases b with
    | false => simp
    | true =>
      rcases (show v = 0 ∨ v = 1 by omega) with rfl | rfl
      · simp only [true_and, if_true, show ¬ (0 : Nat) = 1 by omega, if_false, Nat.zero_testBit, Nat.testBit_two_pow, decide_eq_true_eq]
        by_cases e : inp = k
        · subst e; simp [nI_0]
        · have : ¬ k = inp := fun q => e q.symm
          simp [e, this]
      · simp only [true_and, if_true, show ¬ (1 : Nat) = 0 by omega, if_false, Nat.zero_testBit, Nat.testBit_two_pow, decide_eq_true_eq]
        by_cases e : inp = k
        · subst e; simp; rfl
        · have : ¬ k = inp := fun q => e q.symm
          simp [e, this]
/-- class and reference within a TRIAL, i TICKS done -/
def TR (S : Nat → Int32) (inp v fr i : Nat) (x : (Nat → Int32) × (Nat → Int32) × (Nat → Int32)) (y : (Nat → Int32) × (Nat → Int32) × (Nat → Int32) × (Nat → Int32)) : Prop := RS S y.1 ∧ ES x.2.1 (decide (fr < i)) inp v ∧ (∀ j, j < 9 → j ≠ inp → y.2.1 j = 2) ∧ RP x.2.2 y.1 y.2.2.1 ∧ BP x.2.2 S ∧ y.2.2.2 0 = x.2.2 16 ∧ y.2.2.2 4 = x.2.2 17 ∧ y.2.2.2 1 = x.1 2 ∧ y.2.2.2 2 = x.1 3 ∧ (x.1 2 = (-9) → ¬ x.2.2 2 = 0)
set_option maxHeartbeats 1000000 in
theorem trial_step {S K k M a32 a2 : Nat → Int32} {L : Int64} {cn inp v fr i : Nat} {x : (Nat → Int32) × (Nat → Int32) × (Nat → Int32)} {y : (Nat → Int32) × (Nat → Int32) × (Nat → Int32) × (Nat → Int32)} (bS : BS S) (rK : RK K k M a32 cn) (hinp : inp < 9) (hv : v < 2) (hfr : fr ≤ cn) (hi : i < cn) (h2a : a2 0 = 2) (h2b : a2 1 = 2) (h : TR S inp v fr i x y) : TR S inp v fr (i + 1) (bd_X6_run_29 S K k (nI inp) (nI v) (nI fr) i x) (bd_X9_tries_53 a32 (nI inp) (nI v) (nI fr) a2 L i y) ∧ ∀ q, q < 7 ∨ 23 ≤ q → (bd_X9_tries_53 a32 (nI inp) (nI v) (nI fr) a2 L i y).1 q = y.1 q := by
  obtain ⟨V, E, B⟩ := x
  obtain ⟨M1, a5, a12, a34⟩ := y
  obtain ⟨rS, hE, hj, rP, bP, r0, r4, r1, r2, hl⟩ := h
  dsimp only at rS hE hj rP bP r0 r4 r1 r2 hl ⊢
  obtain ⟨hcn, -, -, hk⟩ := rK
  obtain ⟨t, ht, kt, at'⟩ := hk i hi
  obtain ⟨E', eE⟩ : ∃ q : Nat → Int32, q = if nI i = nI fr then sp_X0_setInput E (nI inp) (nI v) else E := ⟨_, rfl⟩
  have hE' : ES E' (decide (fr < i + 1)) inp v := by
    rw [eE]
    by_cases q : i = fr
    · rw [if_pos (by rw [q]), show decide (fr < i + 1) = true by simp; omega]
      rw [show decide (fr < i) = false by simp; omega] at hE
      exact ES_set hE hinp hv
    · rw [if_neg (fun h => q ((nI_eq (by omega) (by omega)).mp h)), show decide (fr < i + 1) = decide (fr < i) by
        by_cases w : fr < i
        · simp [w]; omega
        · have : ¬ fr < i + 1 := by omega
          simp [w, this]]
      exact hE
  obtain ⟨z9, ez⟩ : ∃ q : Int32, q = if nI i < nI fr then 2 else nI v := ⟨_, rfl⟩
  have hcl : (nI inp).toNatClampNeg = inp := nI_clamp (by omega)
  have hz : z9 = if fr < i + 1 then nI v else 2 := by
    rw [ez]
    by_cases w : fr < i + 1
    · rw [if_neg (nI_nlt (by omega) (by omega)), if_pos w]
    · rw [if_pos (nI_lt (by omega) (by omega)), if_neg w]
  have hRF : RF E' (upd a5 inp z9) := ES_RF hE' hinp hv (fun j hj' => by
    simp only [upd]
    by_cases e : j = inp
    · subst e
      rw [if_pos rfl, hz]
      simp
    · rw [if_neg e, hj j hj' e]
      simp [e])
  have hRV : RV E' a2 := ⟨hE'.2.2.1.trans h2a.symm, hE'.2.2.2.trans h2b.symm⟩
  obtain ⟨P', eP⟩ : ∃ q, q = sp_X2_advance B S E' (nI t) := ⟨_, rfl⟩
  obtain ⟨M2, eM⟩ : ∃ q, q = (sp_X9_tickBy M1 L (upd a5 inp z9) a2 a12 (nI t)).1 := ⟨_, rfl⟩
  obtain ⟨a', ea⟩ : ∃ q, q = (sp_X9_tickBy M1 L (upd a5 inp z9) a2 a12 (nI t)).2 := ⟨_, rfl⟩
  obtain ⟨rP', bP', d16, d17, c19, c20⟩ := tick_sim bS rS hRF hRV rP bP ht eP eM ea
  have hfr' : ∀ q, q < 7 ∨ 23 ≤ q → M2 q = M1 q := fun q hq => by rw [eM]; exact tickBy_fr _ _ _ _ _ _ q hq
  obtain ⟨V', eV⟩ : ∃ q : Nat → Int32, q = if V 2 = (-9) then (if P' 2 = 0 then upd (upd V 2 ((nI i) + 1)) 3 (P' 15) else V) else V := ⟨_, rfl⟩
  have hX : bd_X6_run_29 S K k (nI inp) (nI v) (nI fr) i (V, E, B) = (V', E', P') := by
    simp only [bd_X6_run_29, ← eE, setAt_eq (show i < 32 by omega), kt, ← eP, ← eV]
  obtain ⟨A, eA⟩ : ∃ q : Nat → Int32, q = upd (upd a34 0 ((a34 0) + (M2 21))) 4 ((a34 4) + (M2 22)) := ⟨_, rfl⟩
  obtain ⟨A', eA'⟩ : ∃ q : Nat → Int32, q = if M2 19 = (-9) then A else (if A 1 = (-9) then upd (upd A 1 ((nI i) + 1)) 2 (M2 19) else A) := ⟨_, rfl⟩
  have hY : bd_X9_tries_53 a32 (nI inp) (nI v) (nI fr) a2 L i (M1, a5, a12, a34) = (M2, upd a5 inp z9, a', A') := by
    simp only [bd_X9_tries_53, ← ez, hcl, at', ← eM, ← ea]
    rw [eA', eA]
    rfl
  rw [hX, hY]
  have A1 : A 1 = a34 1 := by rw [eA]; rfl
  have A2 : A 2 = a34 2 := by rw [eA]; rfl
  have A0 : A 0 = a34 0 + M2 21 := by rw [eA]; rfl
  have A4 : A 4 = a34 4 + M2 22 := by rw [eA]; rfl
  refine ⟨⟨rS.fr (fun q hq => hfr' q (by omega)), hE', ?_, rP', bP', ?_, ?_, ?_, ?_, ?_⟩, fun q hq => hfr' q hq⟩
  · intro j h9 hne
    show upd a5 inp z9 j = 2
    rw [upd_ne hne]
    exact hj j h9 hne
  · show A' 0 = P' 16
    rw [eA', d16, ← r0, ← A0]
    (repeat' split) <;> rfl
  · show A' 4 = P' 17
    rw [eA', d17, ← r4, ← A4]
    (repeat' split) <;> rfl
  all_goals (show _)
  · show A' 1 = V' 2
    rw [eA', eV, A1, r1, c19]
    by_cases w : V 2 = (-9)
    · have hB := hl w
      rw [if_neg hB, if_pos w, if_pos w]
      by_cases u : P' 2 = 0
      · obtain ⟨-, j, j1, j5, hj'⟩ := c20 hB u
        have hne : ¬ P' 15 = (-9) := by
          rw [hj']
          rcases (show j = 1 ∨ j = 2 ∨ j = 3 ∨ j = 4 ∨ j = 5 by omega) with rfl | rfl | rfl | rfl | rfl <;> decide
        rw [if_pos u, if_neg hne, if_pos u]
        rfl
      · rw [if_neg u, if_pos rfl, if_neg u, A1, r1]
    · rw [if_neg w, if_neg w, ite_self, A1, r1]
  · show A' 2 = V' 3
    rw [eA', eV, A1, r1, c19]
    by_cases w : V 2 = (-9)
    · have hB := hl w
      rw [if_neg hB, if_pos w, if_pos w]
      by_cases u : P' 2 = 0
      · obtain ⟨-, j, j1, j5, hj'⟩ := c20 hB u
        have hne : ¬ P' 15 = (-9) := by
          rw [hj']
          rcases (show j = 1 ∨ j = 2 ∨ j = 3 ∨ j = 4 ∨ j = 5 by omega) with rfl | rfl | rfl | rfl | rfl <;> decide
        rw [if_pos u, if_neg hne, if_pos u]
        rfl
      · rw [if_neg u, if_pos rfl, if_neg u, A2, r2]
    · rw [if_neg w, if_neg w, ite_self, A2, r2]
  · show V' 2 = (-9) → ¬ P' 2 = 0
    rw [eV]
    by_cases w : V 2 = (-9)
    · rw [if_pos w]
      by_cases u : P' 2 = 0
      · rw [if_pos u]
        intro e
        exfalso
        have e : nI i + 1 = (-9) := e
        rw [nI_1] at e
        have := congrArg Int32.toInt e
        rw [nI_toInt (by omega)] at this
        have h9 : (-9 : Int32).toInt = -9 := by decide
        omega
      · intro _; exact u
    · rw [if_neg w]
      intro e
      exact absurd e w
