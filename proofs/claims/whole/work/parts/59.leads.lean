/-! PURE 20: `trial`, `trials` and `leadsTo`, both sides. -/
theorem wi_same (a b c : Int32) : sp_X9_within a b c = sp_X8_within a b c := rfl
theorem wi_ex {x : Int32} {hi : Nat} (h : ¬ sp_X8_within x 0 (nI hi) = 0) (hh : hi < 2 ^ 31) : ∃ j : Nat, j ≤ hi ∧ x = nI j := by
  simp only [sp_X8_within] at h
  by_cases h1 : x < 0
  · rw [if_pos h1] at h; exact absurd rfl h
  · rw [if_neg h1] at h
    by_cases h2 : nI hi < x
    · rw [if_pos h2] at h; exact absurd rfl h
    · have h1' : 0 ≤ x.toInt := by
        have := h1
        rw [Int32.lt_iff_toInt_lt] at this
        have z : (0 : Int32).toInt = 0 := by decide
        omega
      have h2' : x.toInt ≤ hi := by
        have := h2
        rw [Int32.lt_iff_toInt_lt, nI_toInt hh] at this
        omega
      refine ⟨x.toInt.toNat, by omega, ?_⟩
      apply Int32.toInt_inj.mp
      rw [nI_toInt (by omega)]
      omega
theorem trialM_sim {S K k P M a5 a6 a12 a32 a34 a35 V E B G : Nat → Int32} {L : Int64} {cn : Nat} {input v fr what : Int32} (bS : BS S) (rS : RS S M) (rK : RK K k M a32 cn) (rP : RP P M a12) (bP : BP P S) {R : Int32 × (Nat → Int32) × (Int64) × (Nat → Int32) × (Nat → Int32) × (Nat → Int32) × (Nat → Int32) × (Nat → Int32)} (eR : R = sp_X9_trial M L a5 a6 a12 a32 a34 a35 input v fr what) : R.1 = (sp_X8_trial G S K k V E B input v fr what).1 ∧ MT P M a5 a6 R.2.1 R.2.2.2.1 R.2.2.2.2.1 R.2.2.2.2.2.1 := by
  have hc := rK.1
  have m0 : MT P M a5 a6 M a5 a6 a12 := ⟨rP, fun _ _ => rfl, fun _ _ => rfl, rfl, rfl⟩
  simp only [sp_X9_trial] at eR
  simp only [sp_X8_trial]
  by_cases w1 : sp_X8_within input 0 8 = 0
  · rw [if_pos (show sp_X9_within input 0 8 = 0 from w1)] at eR; rw [if_pos (w1)]; subst eR; exact ⟨rfl, m0⟩
  rw [if_neg (show ¬ sp_X9_within input 0 8 = 0 from w1)] at eR
  rw [if_neg (w1)]
  by_cases w2 : sp_X8_within v 0 1 = 0
  · rw [if_pos (show sp_X9_within v 0 1 = 0 from w2)] at eR; rw [if_pos (w2)]; subst eR; exact ⟨rfl, m0⟩
  rw [if_neg (show ¬ sp_X9_within v 0 1 = 0 from w2)] at eR
  rw [if_neg (w2)]
  by_cases w3 : sp_X8_within fr 0 (nI cn) = 0
  · rw [if_pos (show sp_X9_within fr 0 (M 33) = 0 by rw [rK.2.2.1]; exact w3)] at eR; rw [if_pos (show sp_X8_within fr 0 (K 1) = 0 by rw [rK.2.1]; exact w3)]; subst eR; exact ⟨rfl, m0⟩
  rw [if_neg (show ¬ sp_X9_within fr 0 (M 33) = 0 by rw [rK.2.2.1]; exact w3)] at eR
  rw [if_neg (show ¬ sp_X8_within fr 0 (K 1) = 0 by rw [rK.2.1]; exact w3)]
  by_cases w4 : sp_X8_within what 0 4 = 0
  · rw [if_pos (show sp_X9_within what 0 4 = 0 from w4)] at eR; rw [if_pos (w4)]; subst eR; exact ⟨rfl, m0⟩
  rw [if_neg (show ¬ sp_X9_within what 0 4 = 0 from w4)] at eR
  rw [if_neg (w4)]
  obtain ⟨i, hi, rfl⟩ := wi_ex (hi := 8) w1 (by omega)
  obtain ⟨u, hu, rfl⟩ := wi_ex (hi := 1) w2 (by omega)
  obtain ⟨f, hf, rfl⟩ := wi_ex w3 (by omega)
  obtain ⟨q, hq, rfl⟩ := wi_ex (hi := 4) w4 (by omega)
  obtain ⟨X, eX⟩ : ∃ q, q = sp_X6_run V E B S K k (nI i) (nI u) (nI f) := ⟨_, rfl⟩
  obtain ⟨T, eT⟩ : ∃ q, q = sp_X9_tries M L a5 a6 a12 a32 a34 a35 (nI i) (nI u) (nI f) := ⟨_, rfl⟩
  obtain ⟨⟨t0, t1, t2, t3, t4⟩, r, g, g5, g0, g1⟩ := trial_sim bS rK (by omega) (by omega) hf rS rP bP eX eT
  rw [← eT] at eR
  rw [← eX]
  subst eR
  refine ⟨?_, r, g, g5, g0, g1⟩
  show T.2.2.2.2.2.1 (nI q).toNatClampNeg = sp_X6_part X.1 X.2.2 (nI q)
  rw [nI_clamp (by omega)]
  rcases (show q = 0 ∨ q = 1 ∨ q = 2 ∨ q = 3 ∨ q = 4 by omega) with rfl | rfl | rfl | rfl | rfl
  · exact t0
  · exact t1
  · exact t2
  · exact t3
  · exact t4
/-- the sums that the class keeps are the sums of what stands -/
def RU (G U S K k : Nat → Int32) (cn : Nat) : Prop := ¬ G 9 = 0 → tu U = tsu S K k cn ∧ U 1 = nI (18 * cn)
theorem trialsM_sim {S K k P M a5 a6 a12 a32 a34 a35 V E B G U : Nat → Int32} {L : Int64} {cn : Nat} {what : Int32} (bS : BS S) (rS : RS S M) (rK : RK K k M a32 cn) (rP : RP P M a12) (bP : BP P S) (rU : RU G U S K k cn) {R : Int32 × (Nat → Int32) × (Int64) × (Nat → Int32) × (Nat → Int32) × (Nat → Int32) × (Nat → Int32) × (Nat → Int32)} (eR : R = sp_X9_trials M L a5 a6 a12 a32 a34 a35 what) {C : Int32 × (Nat → Int32) × (Nat → Int32) × (Nat → Int32) × (Nat → Int32) × (Nat → Int32)} (eC : C = sp_X8_trials G U S K k V E B what) : R.1 = C.1 ∧ MT P M a5 a6 R.2.1 R.2.2.2.1 R.2.2.2.2.1 R.2.2.2.2.2.1 ∧ RU C.2.1 C.2.2.1 S K k cn ∧ ∀ q, q ≠ 9 → C.2.1 q = G q := by
  by_cases w : sp_X8_within what 0 5 = 0
  · simp only [sp_X9_trials, if_pos (show sp_X9_within what 0 5 = 0 from w)] at eR
    simp only [sp_X8_trials, if_pos w] at eC
    subst eR eC
    exact ⟨rfl, ⟨rP, fun _ _ => rfl, fun _ _ => rfl, rfl, rfl⟩, rU, fun _ _ => rfl⟩
  · obtain ⟨r1, m⟩ := tm_all bS rS rK rP bP (by exact w) eR
    simp only [sp_X8_trials, if_neg w] at eC
    have hU : tu C.2.2.1 = tsu S K k cn ∧ C.2.2.1 1 = nI (18 * cn) := by
      rw [eC]
      dsimp only
      by_cases g : G 9 = 0
      · rw [if_pos g]
        exact sums_class rK.sk rfl
      · rw [if_neg g]
        exact rU g
    have hC : C.1 = sp_X7_part C.2.2.1 what := by rw [eC]
    refine ⟨?_, m, fun _ => hU, ?_⟩
    · rw [hC, r1, ← hU.1, ← hU.2]
      obtain ⟨q, hq, rfl⟩ := wi_ex (hi := 5) w (by omega)
      rcases (show q = 0 ∨ q = 1 ∨ q = 2 ∨ q = 3 ∨ q = 4 ∨ q = 5 by omega) with rfl | rfl | rfl | rfl | rfl | rfl <;> rfl
    · intro q hq
      rw [eC]
      dsimp only
      by_cases g : G 9 = 0
      · rw [if_pos g, upd_ne hq]
      · rw [if_neg g]
theorem leads_loop {S F P M a5 a6 a12 : Nat → Int32} {L : Int64} {mode : Int32} (bS : BS S) (rS : RS S M) (rF : RF F a5) (rV : RV F a6) (rP : RP P M a12) (bP : BP P S) : ∀ (n i : Nat) (Q M1 b : Nat → Int32) (L1 : Int64), i + n = 512 → RP P M1 b → (∀ q, q < 7 ∨ 23 ≤ q → M1 q = M q) → ∀ A B, A = sE (fun (x_3 : (Nat → Int32)) => ((-9 : Int32), x_3)) (lq (bd_X8_leadsTo_14 S F P mode) n i Q) → B = sE (fun (x_3 : (Nat → Int32) × Int64 × (Nat → Int32) × Int32) => ((x_3.2.2.2), (x_3.1), (x_3.2.1), (x_3.2.2.1))) (lq (bd_X9_leadsTo_30 M L a5 a6 a12 mode) n i (M1, L1, b, (-9))) → B.1 = A.1 ∧ RP P B.2.1 B.2.2.2 ∧ ∀ q, q < 7 ∨ 23 ≤ q → B.2.1 q = M q := by
  intro n
  induction n with
  | zero =>
    intro i Q M1 b L1 _ r f A B eA eB
    subst eA eB
    exact ⟨rfl, r, f⟩
  | succ n ih =>
    intro i Q M1 b L1 hi r f A B eA eB
    obtain ⟨P', eP⟩ : ∃ q, q = sp_X2_advance P S F (nI i) := ⟨_, rfl⟩
    obtain ⟨M2, eM⟩ : ∃ q, q = (sp_X9_tickBy M1 L1 a5 a6 b (nI i)).1 := ⟨_, rfl⟩
    obtain ⟨b2, eb⟩ : ∃ q, q = (sp_X9_tickBy M1 L1 a5 a6 b (nI i)).2 := ⟨_, rfl⟩
    obtain ⟨rP', -, -, -, -, -⟩ := tick_sim bS (rS.fr (fun q hq => f q (by omega))) rF rV r bP (show i < 512 by omega) eP eM eb
    obtain ⟨Q', eQ⟩ : ∃ q, q = sp_X2_advance (sp_X2_copyFrom Q P) S F (nI i) := ⟨_, rfl⟩
    have hQ : Q' 2 = M2 7 := by
      rw [rP'.1, eQ, eP]
      exact (adv_congr (copy_eq Q P) rfl rfl rfl).at 2 (by omega)
    obtain ⟨R, eR⟩ : ∃ q, q = sp_X9_becomes M2 L1 b2 (sp_X9_stateOf M L a12) (M 18) := ⟨_, rfl⟩
    have rR : RP P R.1 R.2.2 := by
      rw [eR]
      exact RP_back (L := L) bS bP rP
    have fR : ∀ q, q < 7 ∨ 23 ≤ q → R.1 q = M q := fun q hq => by
      rw [eR, becomes_fr _ _ _ _ _ q (by omega), eM, tickBy_fr _ _ _ _ _ _ q hq]
      exact f q hq
    have hX : bd_X8_leadsTo_14 S F P mode i Q = (if M2 7 = mode then (Sum.inr ((nI i), Q')) else (Sum.inl Q')) := by
      simp only [bd_X8_leadsTo_14, ← eQ, hQ]
    have hY : bd_X9_leadsTo_30 M L a5 a6 a12 mode i (M1, L1, b, (-9)) = Sum.inl (R.1, R.2.1, R.2.2, (if M2 7 = mode then (nI i) else (-9))) := by
      simp only [bd_X9_leadsTo_30, if_true, ← eM, ← eb, ← eR]
    rw [lq_inl hY] at eB
    by_cases c : M2 7 = mode
    · rw [if_pos c] at hX eB
      rw [lq_inr hX] at eA
      have hne : ¬ nI i = (-9) := by
        intro e
        have := congrArg Int32.toInt e
        rw [nI_toInt (by omega)] at this
        have h9 : (-9 : Int32).toInt = -9 := by decide
        omega
      cases n with
      | zero =>
        subst eA eB
        exact ⟨rfl, rR, fR⟩
      | succ n =>
        have hZ : bd_X9_leadsTo_30 M L a5 a6 a12 mode (i + 1) (R.1, R.2.1, R.2.2, nI i) = Sum.inr (nI i, R.1, R.2.1, R.2.2) := by
          simp only [bd_X9_leadsTo_30, if_neg hne]
        rw [lq_inr hZ] at eB
        subst eA eB
        exact ⟨rfl, rR, fR⟩
    · rw [if_neg c] at hX eB
      rw [lq_inl hX] at eA
      exact ih (i + 1) Q' R.1 R.2.2 R.2.1 (by omega) rR fR A B eA eB
theorem leadsM_sim {S F P M a5 a6 a12 G Q : Nat → Int32} {L : Int64} {mode : Int32} (bS : BS S) (rS : RS S M) (rF : RF F a5) (rV : RV F a6) (rP : RP P M a12) (bP : BP P S) {R : Int32 × (Nat → Int32) × (Int64) × (Nat → Int32)} (eR : R = sp_X9_leadsTo M L a5 a6 a12 mode) : R.1 = (sp_X8_leadsTo G S F P Q mode).1 ∧ RP P R.2.1 R.2.2.2 ∧ ∀ q, q < 7 ∨ 23 ≤ q → R.2.1 q = M q := by
  by_cases w : sp_X8_within mode 0 4 = 0
  · simp only [sp_X9_leadsTo, if_pos (show sp_X9_within mode 0 4 = 0 from w)] at eR
    simp only [sp_X8_leadsTo, if_pos w]
    subst eR
    exact ⟨rfl, rP, fun _ _ => rfl⟩
  · simp only [sp_X9_leadsTo, if_neg (show ¬ sp_X9_within mode 0 4 = 0 from w)] at eR
    simp only [sp_X8_leadsTo, if_neg w]
    exact leads_loop bS rS rF rV rP bP 512 0 Q M a12 L (by omega) rP (fun _ _ => rfl) _ R rfl eR
