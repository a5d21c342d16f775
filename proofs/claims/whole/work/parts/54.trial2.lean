/-! PURE 15: a whole TRIAL. -/
theorem keeps_eq (M a5 a6 a35 : Nat → Int32) (L : Int64) : (∀ j, j < 9 → (sp_X9_keeps M L a5 a6 a35).1 j = 2) ∧ (sp_X9_keeps M L a5 a6 a35).2.1 0 = 2 ∧ (sp_X9_keeps M L a5 a6 a35).2.1 1 = 2 ∧ (∀ j, j < 9 → (sp_X9_keeps M L a5 a6 a35).2.2 j = a5 j) ∧ (sp_X9_keeps M L a5 a6 a35).2.2 9 = a6 0 ∧ (sp_X9_keeps M L a5 a6 a35).2.2 10 = a6 1 := by
  refine ⟨fun j h => ?_, rfl, rfl, fun j h => ?_, rfl, rfl⟩
  · rcases (show j = 0 ∨ j = 1 ∨ j = 2 ∨ j = 3 ∨ j = 4 ∨ j = 5 ∨ j = 6 ∨ j = 7 ∨ j = 8 by omega) with rfl | rfl | rfl | rfl | rfl | rfl | rfl | rfl | rfl <;> rfl
  · rcases (show j = 0 ∨ j = 1 ∨ j = 2 ∨ j = 3 ∨ j = 4 ∨ j = 5 ∨ j = 6 ∨ j = 7 ∨ j = 8 by omega) with rfl | rfl | rfl | rfl | rfl | rfl | rfl | rfl | rfl <;> rfl
theorem restores_eq (M a5 a6 a35 : Nat → Int32) (L : Int64) : (∀ j, j < 9 → (sp_X9_restores M L a5 a6 a35).1 j = a35 j) ∧ (sp_X9_restores M L a5 a6 a35).2 0 = a35 9 ∧ (sp_X9_restores M L a5 a6 a35).2 1 = a35 10 := by
  refine ⟨fun j h => ?_, rfl, rfl⟩
  rcases (show j = 0 ∨ j = 1 ∨ j = 2 ∨ j = 3 ∨ j = 4 ∨ j = 5 ∨ j = 6 ∨ j = 7 ∨ j = 8 by omega) with rfl | rfl | rfl | rfl | rfl | rfl | rfl | rfl | rfl <;> rfl
theorem BP_begin (B S : Nat → Int32) (bS : BS S) : BP (sp_X2_begin B) S := by
  obtain ⟨-, -, -, -, -, b, b2, b9, e4⟩ := bS
  refine ⟨⟨1, by omega, rfl⟩, ⟨0, by omega, rfl⟩, ⟨0, by omega, rfl⟩, ⟨0, by omega, rfl⟩, ⟨0, by omega, rfl⟩, ⟨0, by omega, rfl⟩, ⟨0, by omega, rfl⟩, ⟨0, by omega, rfl⟩, ⟨0, by omega, rfl⟩, ⟨0, by omega, rfl⟩, ⟨0, ?_, rfl⟩, ⟨0, by omega, rfl⟩, ⟨0, by omega, rfl⟩⟩
  rw [e4, nI_clamp (by omega)]
  omega
theorem begins_RP (B M a12 : Nat → Int32) (L : Int64) : RP (sp_X2_begin B) (sp_X9_begins M L a12).1 (sp_X9_begins M L a12).2.2 := by
  obtain ⟨r7, r8, r9, r10, r11, d0, d1, d2, r13, r14, r15, r16, r17, r18⟩ := becomes_eq (M := M) (a12 := a12) (L := L) (cause := (-9)) (m := 0) (h := 0) (s := 0) (mu := 0) (mf := 0) (x0 := 0) (x1 := 0) (x2 := 0) (un := 0) (cm := 0) (p := 0) (br := 0) (rs := 0) (by omega) (by omega) (by omega) (by omega) (by omega) (by omega) (by omega) (by omega) (by omega) (by omega) (by omega) (by omega) (by omega) rfl
  rw [show lN (nc 0 0 0 0 0 0 0 0 0 0 0 0 0) = (0 : Int64) by decide] at r7 r8 r9 r10 r11 d0 d1 d2 r13 r14 r15 r16 r17 r18
  exact ⟨rfl, r8, r9, r10, r11, d0, d1, d2, r13, r14, r15, r16, r17, r18⟩
theorem trial_loop {S K k M a32 a2 : Nat → Int32} {L : Int64} {cn inp v fr : Nat} {x : (Nat → Int32) × (Nat → Int32) × (Nat → Int32)} {y : (Nat → Int32) × (Nat → Int32) × (Nat → Int32) × (Nat → Int32)} (bS : BS S) (rK : RK K k M a32 cn) (hinp : inp < 9) (hv : v < 2) (hfr : fr ≤ cn) (h2a : a2 0 = 2) (h2b : a2 1 = 2) (h : TR S inp v fr 0 x y) : ∀ n, n ≤ cn → TR S inp v fr n (lp (bd_X6_run_29 S K k (nI inp) (nI v) (nI fr)) n x) (lp (bd_X9_tries_53 a32 (nI inp) (nI v) (nI fr) a2 L) n y) := by
  intro n
  induction n with
  | zero => intro _; exact h
  | succ n ih =>
    intro hn
    exact (trial_step bS rK hinp hv hfr (by omega) h2a h2b (ih (by omega))).1
/-- a whole TRIAL: the same parts on both sides, and the reference stands as it stood -/
theorem trial_sim {S K k M a5 a6 a12 a32 a34 a35 P V G B : Nat → Int32} {L : Int64} {cn inp v fr : Nat} (bS : BS S) (rK : RK K k M a32 cn) (hinp : inp < 9) (hv : v < 2) (hfr : fr ≤ cn) (rS : RS S M) (rP : RP P M a12) (bP : BP P S) {X : (Nat → Int32) × (Nat → Int32) × (Nat → Int32)} (eX : X = sp_X6_run V G B S K k (nI inp) (nI v) (nI fr)) {T : (Nat → Int32) × (Int64) × (Nat → Int32) × (Nat → Int32) × (Nat → Int32) × (Nat → Int32) × (Nat → Int32)} (eT : T = sp_X9_tries M L a5 a6 a12 a32 a34 a35 (nI inp) (nI v) (nI fr)) :
    (T.2.2.2.2.2.1 0 = X.2.2 16 ∧ T.2.2.2.2.2.1 1 = X.1 2 ∧ T.2.2.2.2.2.1 2 = X.1 3 ∧ T.2.2.2.2.2.1 3 = X.2.2 2 ∧ T.2.2.2.2.2.1 4 = X.2.2 17) ∧ RP P T.1 T.2.2.2.2.1 ∧ (∀ q, q < 7 ∨ 23 ≤ q → T.1 q = M q) ∧ (∀ j, j < 9 → T.2.2.1 j = a5 j) ∧ T.2.2.2.1 0 = a6 0 ∧ T.2.2.2.1 1 = a6 1 := by
  have hfT : ∀ q, q < 7 ∨ 23 ≤ q → T.1 q = M q := fun q hq => by rw [eT]; exact tries_fr _ _ _ _ _ _ _ _ _ _ _ q hq
  obtain ⟨k1, k2, k3, k4, k5, k6⟩ := keeps_eq M a5 a6 a35 L
  have hcn : (K 1).toNatClampNeg = cn := by rw [rK.2.1]; exact nI_clamp (by have := rK.1; omega)
  have hcm : (M 33).toNatClampNeg = cn := by rw [rK.2.2.1]; exact nI_clamp (by have := rK.1; omega)
  have h0 : TR S inp v fr 0 ((upd (upd V 2 (-9)) 3 (-9)), sp_X0_clear G, sp_X2_begin B) ((sp_X9_begins M L a12).1, (sp_X9_keeps M L a5 a6 a35).1, (sp_X9_begins M L a12).2.2, (upd (upd (upd (upd a34 0 0) 1 (-9)) 2 (-9)) 4 0)) := by
    refine ⟨rS.fr (fun q hq => begins_fr _ _ _ q (by omega)), ?_, fun j hj _ => k1 j hj, begins_RP _ _ _ _, BP_begin _ _ bS, rfl, rfl, rfl, rfl, ?_⟩
    · rw [show decide (fr < 0) = false by simp]
      exact ES_clear G inp v
    · intro _
      show ¬ ((1 : Int32) = 0)
      decide
  have hl := trial_loop (a2 := (sp_X9_keeps M L a5 a6 a35).2.1) (L := (sp_X9_begins M L a12).2.1) bS rK hinp hv hfr k2 k3 h0 cn (Nat.le_refl _)
  obtain ⟨x, ex⟩ : ∃ q, q = lp (bd_X6_run_29 S K k (nI inp) (nI v) (nI fr)) cn ((upd (upd V 2 (-9)) 3 (-9)), sp_X0_clear G, sp_X2_begin B) := ⟨_, rfl⟩
  obtain ⟨y, ey⟩ : ∃ q, q = lp (bd_X9_tries_53 a32 (nI inp) (nI v) (nI fr) (sp_X9_keeps M L a5 a6 a35).2.1 (sp_X9_begins M L a12).2.1) cn ((sp_X9_begins M L a12).1, (sp_X9_keeps M L a5 a6 a35).1, (sp_X9_begins M L a12).2.2, (upd (upd (upd (upd a34 0 0) 1 (-9)) 2 (-9)) 4 0)) := ⟨_, rfl⟩
  rw [← ex, ← ey] at hl
  have hX : X = (x.1, x.2.1, x.2.2) := by
    rw [eX]
    exact sq_X6_run_1 _ _ _ _ _ _ _ _ _ _ _ x rfl rfl (by rw [ex, hcn])
  have hT := sq_X9_tries_1 M L a5 a6 a12 a32 a34 a35 (nI inp) (nI v) (nI fr) _ _ _ _ _ _ y _ _ _ _ _ _ rfl rfl rfl rfl rfl rfl (by rw [ey, hcm]) rfl rfl rfl rfl rfl rfl
  rw [← eT] at hT
  obtain ⟨rS', hE, hj, rP', bP', r0, r4, r1, r2, -⟩ := hl
  obtain ⟨q1, q2, q3⟩ := restores_eq y.1 y.2.1 (sp_X9_keeps M L a5 a6 a35).2.1 (sp_X9_keeps M L a5 a6 a35).2.2 (sp_X9_begins M L a12).2.1
  refine ⟨?_, ?_, hfT, ?_, ?_, ?_⟩
  · rw [hT, hX]
    exact ⟨r0, r1, r2, rP'.1, r4⟩
  · rw [hT]
    exact RP_back (M2 := y.1) (L2 := (sp_X9_begins M L a12).2.1) (a2 := y.2.2.1) (L := L) bS bP rP
  · rw [hT]
    exact fun j h9 => (q1 j h9).trans (k4 j h9)
  · rw [hT]
    exact q2.trans k5
  · rw [hT]
    exact q3.trans k6
