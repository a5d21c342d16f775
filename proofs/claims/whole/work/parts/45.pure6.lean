/-! PURE 6: TICK simulation. -/
theorem adv_unf {P S F : Nat → Int32} {told seen : Int32} {P1 P2 P3 P5 P7 : Nat → Int32} {tk un ba cm : Int32} (es : seen = sp_X0_seenOf F told) (e1 : P1 = upd (upd (upd P 7 (sp_X2_apartThen (P 7) seen 0)) 8 (sp_X2_apartThen (P 8) seen 2)) 9 (sp_X2_apartThen (P 9) seen 4)) (e2 : P2 = sp_X2_moveMuting P1 S seen) (e3 : P3 = sp_X2_moveHands P2 S seen) (etk : tk = if P3 3 = 2 then (if P2 3 = 2 then 0 else 1) else 0) (eun : un = if sp_X0_valvesObey F (P3 11) = 0 then sp_X2_oneMore (P3 10) else 0) (eba : ba = if sp_X8_pairCount seen 4 = 2 then 0 else (if sp_X2_isMuted (upd P3 10 un) = 0 then 1 else 0)) (e5 : P5 = sp_X2_changeMode (upd P3 10 un) S seen tk ba) (ecm : cm = if P5 2 = 2 then 1 else (if P5 2 = 4 then 1 else 0)) (e7 : P7 = sp_X2_moveSlide (upd P5 11 cm) S F told) : sp_X2_advance P S F told = upd P7 14 (sp_X8_bit seen 8) := by
  subst e7 ecm e5 eba eun etk e3 e2 e1 es
  rfl
theorem tick_unf {M a5 a6 a12 : Nat → Int32} {L : Int64} {set sn : Int32} {x2 M1 M3 M4 : Nat → Int32} {z4 z5 mu on hn tk si un ba lg cm : Int32} (es : sn = sp_X9_seen M L a5 set) (ex : x2 = lp (bd_X9_tickBy_8 M L a5 set) 3 a12) (ez4 : z4 = sp_X9_mutingBy (M 10) (sp_X9_bit sn 6) (sp_X9_bit sn 7)) (ez5 : z5 = if z4 = 2 then (M 11) + 1 else (if z4 = 3 then (M 11) + 1 else 0)) (eM1 : M1 = if z5 ≤ M 2 then upd (upd M 10 z4) 11 z5 else upd (upd M 10 4) 11 0) (emu : mu = if M1 10 = 2 then 1 else (if M1 10 = 3 then 1 else 0)) (eon : on = (if sp_X9_isOn sn 0 = 0 then 0 else 1) + (if sp_X9_isOn sn 1 = 0 then 0 else 1)) (ehn : hn = sp_X9_handsBy M1 L on) (etk : tk = if hn = 2 then (if M1 8 = 2 then 0 else 1) else 0) (esi : si = if hn = 1 then (if M1 8 = 1 then (M1 9) + 1 else 1) else 0)
    (eun : un = if sp_X9_valveAt (upd (upd M1 8 hn) 9 si) L a6 0 = M1 14 then (if sp_X9_valveAt (upd (upd M1 8 hn) 9 si) L a6 1 = M1 14 then 0 else sp_X9_more (M1 13)) else sp_X9_more (M1 13)) (eba : ba = if sp_X9_isOn sn 2 = 0 then (if mu = 0 then 1 else 0) else 0) (elg : lg = if M1 17 = 1 then (if sp_X9_bit sn 8 = 0 then 1 else 0) else 0) (eM3 : M3 = upd (upd (upd M1 8 hn) 9 si) 13 un) (eM4 : M4 = sp_X9_goesOn M3 L x2 tk ba lg) (ecm : cm = if M4 7 = 2 then 1 else (if M4 7 = 4 then 1 else 0)) : sp_X9_tickBy M L a5 a6 a12 set = (sp_X9_slides (upd (upd M4 14 cm) 17 (sp_X9_bit sn 8)) L a6 set mu, x2) := by
  subst ecm eM4 eM3 elg eba eun esi etk ehn eon emu eM1 ez5 ez4 ex es
  rfl
theorem rg_pred {x : Int32} (h : rg x 3) (hp : ¬ x ≤ 0) : rg (x - 1) 3 := by
  rcases rg3 h with rfl | rfl | rfl | rfl
  · exact absurd (by decide) hp
  · exact ⟨0, by omega, by decide⟩
  · exact ⟨1, by omega, by decide⟩
  · exact ⟨2, by omega, by decide⟩
theorem st_slide {P S F M a6 : Nat → Int32} {L : Int64} {mu : Int32} {t p b : Nat} (ht : t < 512) (e2 : M 7 = P 2) (e12 : M 15 = P 12) (e13 : M 16 = P 13) (e11 : M 14 = P 11) (e4 : M 4 = S 4) (e3 : M 3 = S 3) (rV : RV F a6) (hm : sp_X2_isMuted P = mu) (hS : S 4 = nI b) (hb2 : 2 ≤ b) (hb9 : b ≤ 9) (hp : p < 2 * b) (hP : P 12 = nI p) (r13 : rg (P 13) 3) (rS3 : rg (S 3) 3) (r2 : rg (P 2) 4) :
    sp_X9_slides M L a6 (nI t) mu 7 = sp_X2_moveSlide P S F (nI t) 2 ∧ sp_X9_slides M L a6 (nI t) mu 15 = sp_X2_moveSlide P S F (nI t) 12 ∧ sp_X9_slides M L a6 (nI t) mu 16 = sp_X2_moveSlide P S F (nI t) 13 ∧ sp_X2_moveSlide P S F (nI t) 16 = P 16 + sp_X9_slides M L a6 (nI t) mu 21 ∧ sp_X2_moveSlide P S F (nI t) 17 = P 17 + sp_X9_slides M L a6 (nI t) mu 22 ∧ rg (sp_X2_moveSlide P S F (nI t) 13) 3 ∧ rg (sp_X2_moveSlide P S F (nI t) 2) 4 ∧ (sp_X2_moveSlide P S F (nI t) 2 = 0 ↔ P 2 = 0) ∧ (∃ p', p' < 2 * b ∧ sp_X2_moveSlide P S F (nI t) 12 = nI p') ∧ (∀ k, k ≠ 2 ∧ k ≠ 12 ∧ k ≠ 13 ∧ k ≠ 16 ∧ k ≠ 17 → sp_X2_moveSlide P S F (nI t) k = P k) ∧ ∀ k, k ≠ 7 ∧ k ≠ 15 ∧ k ≠ 16 ∧ k ≠ 21 ∧ k ≠ 22 → sp_X9_slides M L a6 (nI t) mu k = M k := by
  obtain ⟨-, -, -, hc, -⟩ := SF_ok ht
  have hv := (st_valve (M := upd (upd M 21 0) 22 0) (L := L) (x := 0) (y := 0) rV.1 rV.2 (cm := P 11) e11).2
  have hcase : (∃ bv, rg bv 3 ∧ sp_X9_slides M L a6 (nI t) mu = mmv M (nI t) mu bv ∧ sp_X2_moveSlide P S F (nI t) = cmv P S (nI t) bv) ∨ (sp_X9_slides M L a6 (nI t) mu = upd (upd M 21 0) 22 0 ∧ sp_X2_moveSlide P S F (nI t) = P) := by
    rw [cmv_eq, mmv_eq]
    by_cases hB : sp_X0_bothOpen F (P 11) = 0
    · have hv' := hv.mp hB
      by_cases h16 : P 13 ≤ 0
      · have h16' : M 16 ≤ 0 := by rw [e13]; exact h16
        refine Or.inr ⟨?_, ?_⟩
        · by_cases q0 : sp_X9_valveAt (upd (upd M 21 0) 22 0) L a6 0 = 1
          · have q1 : ¬ sp_X9_valveAt (upd (upd M 21 0) 22 0) L a6 1 = 1 := fun h => hv' ⟨q0, h⟩
            rw [if_pos q0, if_neg q1, if_pos h16']
          · rw [if_neg q0, if_pos h16']
        · rw [if_pos hB, if_pos h16]
      · have h16' : ¬ M 16 ≤ 0 := by rw [e13]; exact h16
        refine Or.inl ⟨P 13 - 1, rg_pred r13 h16, ?_, ?_⟩
        · by_cases q0 : sp_X9_valveAt (upd (upd M 21 0) 22 0) L a6 0 = 1
          · have q1 : ¬ sp_X9_valveAt (upd (upd M 21 0) 22 0) L a6 1 = 1 := fun h => hv' ⟨q0, h⟩
            rw [if_pos q0, if_neg q1, if_neg h16', e13]
          · rw [if_neg q0, if_neg h16', e13]
        · rw [if_pos hB, if_neg h16]
    · have hv' : sp_X9_valveAt (upd (upd M 21 0) 22 0) L a6 0 = 1 ∧ sp_X9_valveAt (upd (upd M 21 0) 22 0) L a6 1 = 1 := Decidable.byContradiction fun h => hB (hv.mpr h)
      refine Or.inl ⟨S 3, rS3, ?_, ?_⟩
      · rw [if_pos hv'.1, if_pos hv'.2, e3]
      · rw [if_neg hB]
  rcases hcase with ⟨bv, rb, q1, q2⟩ | ⟨q1, q2⟩
  · obtain ⟨g1, g2, g3, g4, g5, g6, g7⟩ := mv_eq (told := nI t) (muted := mu) (bv := bv) hb2 hb9 hp hP hS e12 e4 e2 hc hm
    rw [q1, q2]
    refine ⟨g1.symm, g2.symm, g3.symm, g4, g5, ?_, (cmv_mode r2).1, (cmv_mode r2).2, ⟨_, Nat.mod_lt _ (by omega), g6⟩, fun k hk => cmv_fr hk, fun k hk => mmv_fr hk⟩
    rcases g7 with h | h
    · rw [h]; exact rb
    · rw [h]; exact ⟨0, by omega, rfl⟩
  · rw [q1, q2]
    refine ⟨e2, e12, e13, ?_, ?_, r13, r2, Iff.rfl, ⟨p, hp, hP⟩, fun k hk => rfl, fun k hk => ?_⟩
    · show P 16 = P 16 + 0
      rw [Int32.add_zero]
    · show P 17 = P 17 + 0
      rw [Int32.add_zero]
    · rw [upd_ne hk.2.2.2.2, upd_ne hk.2.2.2.1]
