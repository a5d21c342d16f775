/-! PURE 34: reach as a whole. -/
theorem may_eq {M : Nat → Int32} {L : Int64} {m : Nat} (hm : m < 512) : sp_X9_isMay M L (nI m) = 0 ↔ 2 < sp_J6_bitCount_0f7a4 (nI m) := by
  have hs : ¬ sp_X9_isSet (nI m) = 0 := by
    rw [show sp_X9_isSet (nI m) = 1 from wi_yes (lo := 0) (hi := 511) (by omega) (by omega) (by omega)]
    decide
  simp only [sp_X9_isMay, if_neg hs, ← bits_tab ⟨m, hm⟩]
  by_cases c : 2 < sp_J6_bitCount_0f7a4 (nI m)
  · rw [if_pos c]
    exact ⟨fun _ => c, fun _ => rfl⟩
  · rw [if_neg c]
    exact ⟨fun q => absurd q (by decide), fun q => absurd q c⟩
theorem goes_lp {M a5 a6 a12 : Nat → Int32} {L : Int64} {a36 : Nat → Int64} {a37 : Nat → Int32} {set may : Int32} {n : Nat} (hn : n ≤ 5) : sp_X9_goesAll M L a5 a6 a12 a36 a37 set may (nI n) = lp (bd_X9_goesAll_25 M L a5 a6 a12 set may (nI n)) (4 ^ n) ((upd (upd M 38 0) 39 0), L, a12, a36, a37) := by
  rw [← (shl_tab ⟨n, by omega⟩).1]
  rfl
/-- where the call is within its bounds -/
theorem reach_in {P S F M a5 a6 a12 Z w0 c0 p0 p1 p2 p3 p4 p5 G : Nat → Int32} {L : Int64} {t0 a36 : Nat → Int64} {a37 : Nat → Int32} {s m n : Nat} {what : Int32} (bS : BS S) (rS : RS S M) (rF : RF F a5) (rV : RV F a6) (rP : RP P M a12) (bP : BP P S) (hs : s < 512) (hm : m < 512) (h2 : ¬ 2 < sp_J6_bitCount_0f7a4 (nI m)) (hn : n ≤ 5) {R : Int32 × (Nat → Int32) × (Int64) × (Nat → Int32) × (Nat → Int64) × (Nat → Int32)} (eR : R = sp_X9_reach M L a5 a6 a12 a36 a37 (nI s) (nI m) (nI n) what) : R.1 = (sp_X8_reach G S F P Z t0 w0 c0 p0 p1 p2 p3 p4 p5 (nI s) (nI m) (nI n) what).1 ∧ RP P R.2.1 R.2.2.2.1 ∧ ∀ q, q < 7 ∨ (23 ≤ q ∧ q ≠ 38 ∧ q ≠ 39) → R.2.1 q = M q := by
  obtain ⟨C, eC⟩ : ∃ q, q = sp_X4_chooseSets (upd (upd Z 5 0) 6 0) c0 (nI s) (nI m) := ⟨_, rfl⟩
  obtain ⟨-, kc, -, kq, -⟩ := choose_eq hs hm h2 eC
  have hO := goes_OR (p0 := p0) (L := L) (a36 := a36) (a37 := a37) bS rS rF rV rP bP hs hm h2 hn eC (4 ^ n) (Nat.le_refl _)
  rw [← goes_lp hn] at hO
  have hS := run_MS (p0 := p0) (p1 := p1) (p2 := p2) (p3 := p3) (p4 := p4) (p5 := p5) (t0 := t0) (w0 := w0) bS rS rF rV bP hs hm h2 hn eC
  obtain ⟨A, eA⟩ : ∃ q, q = sp_X9_goesAll M L a5 a6 a12 a36 a37 (nI s) (nI m) (nI n) := ⟨_, rfl⟩
  obtain ⟨W, eW⟩ : ∃ q, q = sp_X4_run Z t0 w0 c0 p0 p1 p2 p3 p4 p5 S F P (nI s) (nI m) (nI n) := ⟨_, rfl⟩
  rw [← eA] at hO
  rw [← eW] at hS
  obtain ⟨r38, r39, rj, -⟩ := reach_ans bS rS rF rV (BP_EqP bP (start_eq p0 P)) rfl hn kc kq hO hS
  dsimp only at r38 r39 rj
  have rA : RP P A.1 A.2.2.1 := RP_EqP hO.1 (fun k h1 h2 => (start_eq p0 P k h1 h2).symm)
  have fA := hO.2.1
  have i1 : sp_X9_isSet (nI s) = 1 := wi_yes (lo := 0) (hi := 511) (by omega) (by omega) (by omega)
  have i1' : sp_X8_isSet (nI s) = 1 := i1
  have i2' : sp_X8_isSet (nI m) = 1 := wi_yes (lo := 0) (hi := 511) (by omega) (by omega) (by omega)
  have i3 : sp_X9_within (nI n) 0 5 = 1 := wi_yes (lo := 0) (hi := 5) (by omega) (by omega) (by omega)
  have i3' : sp_X8_within (nI n) 0 5 = 1 := i3
  have i2 : ¬ sp_X9_isMay M L (nI m) = 0 := fun q => h2 ((may_eq hm).mp q)
  have one : ¬ (1 : Int32) = 0 := by decide
  simp only [sp_X9_reach, i1, i3, if_neg i2, if_neg one, ← eA] at eR
  simp only [sp_X8_reach, i1', i2', i3', if_neg h2, if_neg one, ← eW]
  by_cases w1 : sp_X8_within what 0 1 = 0
  · by_cases w2 : sp_X8_within what 10 14 = 0
    · rw [if_pos (show sp_X9_within what 0 1 = 0 from w1), if_pos (show sp_X9_within what 10 14 = 0 from w2)] at eR
      rw [if_pos w1, if_pos w2, eR]
      exact ⟨rfl, rP, fun _ _ => rfl⟩
    · rw [if_pos (show sp_X9_within what 0 1 = 0 from w1), if_neg (show ¬ sp_X9_within what 10 14 = 0 from w2)] at eR
      rw [if_pos w1, if_neg w2]
      obtain ⟨j, hj, rfl⟩ : ∃ j : Nat, j < 5 ∧ what = nI (10 + j) := by
        have w3 : ¬ sp_X8_within what 0 14 = 0 := fun q => w2 (by
          simp only [sp_X8_within] at q ⊢
          by_cases u : what < 10
          · rw [if_pos u]
          · rw [if_neg u]
            by_cases v : what < 0
            · exfalso
              rw [Int32.lt_iff_toInt_lt] at u v
              have e0 : (0 : Int32).toInt = 0 := by decide
              have e10 : (10 : Int32).toInt = 10 := by decide
              omega
            · rw [if_neg v] at q; exact q)
        obtain ⟨k, hk, rfl⟩ := wi_ex (hi := 14) w3 (by omega)
        refine ⟨k - 10, by omega, ?_⟩
        by_cases u : 10 ≤ k
        · rw [show 10 + (k - 10) = k by omega]
        · exfalso
          apply w2
          simp only [sp_X8_within]
          rw [if_pos (show nI k < 10 from nI_lt (b := 10) (by omega) (by omega))]
      have h2w : (2 : Int32) ≤ nI (10 + j) := by
        rw [show (2 : Int32) = nI 2 from rfl, Int32.le_iff_toInt_le, nI_toInt (by omega), nI_toInt (by omega)]
        omega
      rw [if_pos h2w] at eR
      rw [eR]
      refine ⟨?_, rA, fA⟩
      show lp (bd_X9_reach_86 (nI (10 + j)) A.1 A.2.1 A.2.2.2.1 A.2.2.2.2) (A.1 38).toNatClampNeg (-9) = sp_X4_part W.1 W.2.2.1 (nI (10 + j))
      rw [rj j hj]
      have n0 : ¬ nI (10 + j) = 0 := fun q => by have := (nI_eq (a := 10 + j) (b := 0) (by omega) (by omega)).mp q; omega
      have n1 : ¬ nI (10 + j) = 1 := fun q => by have := (nI_eq (a := 10 + j) (b := 1) (by omega) (by omega)).mp q; omega
      simp only [sp_X4_part, if_neg n0, if_neg n1, if_neg w2]
      rw [show nI (10 + j) - 10 = nI j by rw [show (10 : Int32) = nI 10 from rfl, nI_sub (by omega), Nat.add_sub_cancel_left], nI_clamp (by omega)]
  · rw [if_neg (show ¬ sp_X9_within what 0 1 = 0 from w1)] at eR
    rw [if_neg w1]
    obtain ⟨k, hk, rfl⟩ := wi_ex (hi := 1) w1 (by omega)
    rcases (show k = 0 ∨ k = 1 by omega) with rfl | rfl
    · rw [if_neg (show ¬ (2 : Int32) ≤ nI 0 by decide)] at eR
      rw [eR]
      exact ⟨r38, rA, fA⟩
    · rw [if_neg (show ¬ (2 : Int32) ≤ nI 1 by decide)] at eR
      rw [eR]
      exact ⟨r39, rA, fA⟩
