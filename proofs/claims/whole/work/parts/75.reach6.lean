/-! PURE 35: reach, all calls. -/
theorem reachM_sim {P S F M a5 a6 a12 Z w0 c0 p0 p1 p2 p3 p4 p5 G : Nat → Int32} {L : Int64} {t0 a36 : Nat → Int64} {a37 : Nat → Int32} {set may n what : Int32} (bS : BS S) (rS : RS S M) (rF : RF F a5) (rV : RV F a6) (rP : RP P M a12) (bP : BP P S) {R : Int32 × (Nat → Int32) × (Int64) × (Nat → Int32) × (Nat → Int64) × (Nat → Int32)} (eR : R = sp_X9_reach M L a5 a6 a12 a36 a37 set may n what) : R.1 = (sp_X8_reach G S F P Z t0 w0 c0 p0 p1 p2 p3 p4 p5 set may n what).1 ∧ RP P R.2.1 R.2.2.2.1 ∧ ∀ q, q < 7 ∨ (23 ≤ q ∧ q ≠ 38 ∧ q ≠ 39) → R.2.1 q = M q := by
  by_cases w1 : sp_X8_isSet set = 0
  · simp only [sp_X9_reach, if_pos (show sp_X9_isSet set = 0 from w1)] at eR
    simp only [sp_X8_reach, if_pos w1]
    rw [eR]
    exact ⟨rfl, rP, fun _ _ => rfl⟩
  by_cases w2 : sp_X8_isSet may = 0
  · have w2' : sp_X9_isMay M L may = 0 := by
      simp only [sp_X9_isMay, if_pos (show sp_X9_isSet may = 0 from w2)]
    simp only [sp_X9_reach, if_neg (show ¬ sp_X9_isSet set = 0 from w1), if_pos w2'] at eR
    simp only [sp_X8_reach, if_neg w1, if_pos w2]
    rw [eR]
    exact ⟨rfl, rP, fun _ _ => rfl⟩
  obtain ⟨s, hs, rfl⟩ := wi_ex (hi := 511) w1 (by omega)
  obtain ⟨m, hm, rfl⟩ := wi_ex (hi := 511) w2 (by omega)
  by_cases w3 : 2 < sp_J6_bitCount_0f7a4 (nI m)
  · simp only [sp_X9_reach, if_neg (show ¬ sp_X9_isSet (nI s) = 0 from w1), if_pos ((may_eq (M := M) (L := L) (show m < 512 by omega)).mpr w3)] at eR
    simp only [sp_X8_reach, if_neg w1, if_neg w2, if_pos w3]
    rw [eR]
    exact ⟨rfl, rP, fun _ _ => rfl⟩
  by_cases w4 : sp_X8_within n 0 5 = 0
  · simp only [sp_X9_reach, if_neg (show ¬ sp_X9_isSet (nI s) = 0 from w1), if_neg (fun q => w3 ((may_eq (M := M) (L := L) (show m < 512 by omega)).mp q)), if_pos (show sp_X9_within n 0 5 = 0 from w4)] at eR
    simp only [sp_X8_reach, if_neg w1, if_neg w2, if_neg w3, if_pos w4]
    rw [eR]
    exact ⟨rfl, rP, fun _ _ => rfl⟩
  obtain ⟨k, hk, rfl⟩ := wi_ex (hi := 5) w4 (by omega)
  exact reach_in bS rS rF rV rP bP (by omega) (by omega) w3 hk eR
