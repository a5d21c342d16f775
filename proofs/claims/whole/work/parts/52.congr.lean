/-! PURE 13: a TICK looks at a press's own numbers alone. -/
def EqP (P P' : Nat → Int32) : Prop := ∀ k, 2 ≤ k → k < 18 → P k = P' k
theorem EqP.refl (P : Nat → Int32) : EqP P P := fun _ _ _ => rfl
theorem EqP.symm {P P' : Nat → Int32} (h : EqP P P') : EqP P' P := fun k h1 h2 => (h k h1 h2).symm
theorem EqP.trans {P P' Q : Nat → Int32} (h : EqP P P') (g : EqP P' Q) : EqP P Q := fun k h1 h2 => (h k h1 h2).trans (g k h1 h2)
theorem EqP.up {P P' : Nat → Int32} (h : EqP P P') (j : Nat) (v : Int32) : EqP (upd P j v) (upd P' j v) := fun k h1 h2 => by
  simp only [upd]
  split
  · rfl
  · exact h k h1 h2
theorem EqP.ite {c : Prop} [Decidable c] {A A' B B' : Nat → Int32} (h : EqP A A') (g : EqP B B') : EqP (if c then A else B) (if c then A' else B') := by
  split
  · exact h
  · exact g
theorem EqP.at {P P' : Nat → Int32} (h : EqP P P') (k : Nat) (hk : 2 ≤ k ∧ k < 18) : P k = P' k := h k hk.1 hk.2
theorem mm_congr {P P' S : Nat → Int32} {s : Int32} (h : EqP P P') : EqP (sp_X2_moveMuting P S s) (sp_X2_moveMuting P' S s) := by
  have h5 := h.at 5 (by omega)
  have h6 := h.at 6 (by omega)
  have hz : ∀ a b, sp_X2_mutingThen P a b = sp_X2_mutingThen P' a b := fun a b => by
    show sp_X2_mutingThen (fun _ => P 5) a b = sp_X2_mutingThen (fun _ => P' 5) a b
    rw [h5]
  have hi : ∀ z, sp_X2_isMuted (upd P 5 z) = sp_X2_isMuted (upd P' 5 z) := fun z => rfl
  simp only [sp_X2_moveMuting, hz, hi, h6]
  exact EqP.ite ((h.up 5 _).up 6 _) ((h.up 5 _).up 6 _)
theorem mh_congr {P P' S : Nat → Int32} {s : Int32} (h : EqP P P') : EqP (sp_X2_moveHands P S s) (sp_X2_moveHands P' S s) := by
  have h3 := h.at 3 (by omega)
  have h4 := h.at 4 (by omega)
  have hz : ∀ a b, sp_X2_handsThen P S a b = sp_X2_handsThen P' S a b := fun a b => by simp only [sp_X2_handsThen, h3]
  simp only [sp_X2_moveHands, hz, h3, h4]
  exact (h.up 3 _).up 4 _
theorem cm_congr {P P' S : Nat → Int32} {s t b : Int32} (h : EqP P P') : EqP (sp_X2_changeMode P S s t b) (sp_X2_changeMode P' S s t b) := by
  have hl : sp_X2_leastCause P S = sp_X2_leastCause P' S := by
    simp only [sp_X2_leastCause, h.at 7 (by omega), h.at 8 (by omega), h.at 9 (by omega), h.at 10 (by omega), h.at 5 (by omega), h.at 2 (by omega)]
  simp only [sp_X2_changeMode, hl, h.at 2 (by omega), h.at 3 (by omega), h.at 12 (by omega), h.at 14 (by omega)]
  refine EqP.ite (EqP.ite h (EqP.ite (EqP.ite (EqP.ite (h.up 2 _) h) h) h)) (EqP.ite (EqP.ite (EqP.ite (EqP.ite (EqP.ite (EqP.ite h (h.up 2 _)) (h.up 2 _)) h) (h.up 2 _)) (EqP.ite (EqP.ite (EqP.ite (EqP.ite (EqP.ite h (h.up 2 _)) h) (h.up 2 _)) (h.up 2 _)) (EqP.ite (EqP.ite h (h.up 2 _)) h))) ((h.up 2 _).up 15 _))
theorem at_congr {P P' : Nat → Int32} (h : EqP P P') : EqP (sp_X2_arriveAtTop P) (sp_X2_arriveAtTop P') := by
  simp only [sp_X2_arriveAtTop, h.at 2 (by omega), h.at 17 (by omega)]
  exact EqP.ite ((((h.up 2 _).up 12 _).up 13 _).up 17 _) (EqP.ite ((((h.up 2 _).up 12 _).up 13 _).up 17 _) (((h.up 12 _).up 13 _).up 17 _))
theorem cmv_congr {P P' S : Nat → Int32} {t b : Int32} (h : EqP P P') : EqP (cmv P S t b) (cmv P' S t b) := by
  obtain ⟨A, eA⟩ : ∃ q : Nat → Int32, q = (if (S 4) ≤ (P 12) then (upd P 13 b) else (if (sp_X8_pairCount t 4) = 2 then (upd P 13 b) else (if (sp_X2_isMuted (upd P 13 b)) = 0 then (upd (upd P 13 b) 16 ((P 16) + 1)) else (upd P 13 b)))) := ⟨_, rfl⟩
  obtain ⟨A', eA'⟩ : ∃ q : Nat → Int32, q = (if (S 4) ≤ (P' 12) then (upd P' 13 b) else (if (sp_X8_pairCount t 4) = 2 then (upd P' 13 b) else (if (sp_X2_isMuted (upd P' 13 b)) = 0 then (upd (upd P' 13 b) 16 ((P' 16) + 1)) else (upd P' 13 b)))) := ⟨_, rfl⟩
  have hi : sp_X2_isMuted (upd P 13 b) = sp_X2_isMuted (upd P' 13 b) := by
    show (if P 5 = 2 then (1 : Int32) else if P 5 = 3 then 1 else 0) = (if P' 5 = 2 then (1 : Int32) else if P' 5 = 3 then 1 else 0)
    rw [h.at 5 (by omega)]
  have hA : EqP A A' := by
    rw [eA, eA', hi, h.at 12 (by omega), h.at 16 (by omega)]
    exact EqP.ite (h.up 13 _) (EqP.ite (h.up 13 _) (EqP.ite ((h.up 13 _).up 16 _) (h.up 13 _)))
  obtain ⟨B, eB⟩ : ∃ q : Nat → Int32, q = (if (A 12) + 1 = (S 4) then (if (A 2) = 2 then (upd (upd A 2 4) 12 ((A 12) + 1)) else (upd A 12 ((A 12) + 1))) else (upd A 12 ((A 12) + 1))) := ⟨_, rfl⟩
  obtain ⟨B', eB'⟩ : ∃ q : Nat → Int32, q = (if (A' 12) + 1 = (S 4) then (if (A' 2) = 2 then (upd (upd A' 2 4) 12 ((A' 12) + 1)) else (upd A' 12 ((A' 12) + 1))) else (upd A' 12 ((A' 12) + 1))) := ⟨_, rfl⟩
  have hB : EqP B B' := by
    rw [eB, eB', hA.at 12 (by omega), hA.at 2 (by omega)]
    exact EqP.ite (EqP.ite ((hA.up 2 _).up 12 _) (hA.up 12 _)) (hA.up 12 _)
  have e1 : cmv P S t b = if B 12 < 2 * S 4 then B else sp_X2_arriveAtTop B := by
    subst eB eA
    rfl
  have e2 : cmv P' S t b = if B' 12 < 2 * S 4 then B' else sp_X2_arriveAtTop B' := by
    subst eB' eA'
    rfl
  rw [e1, e2, hB.at 12 (by omega)]
  exact EqP.ite hB (at_congr hB)
theorem ms_congr {P P' S F F' : Nat → Int32} {t : Int32} (h : EqP P P') (h2 : F 2 = F' 2) (h3 : F 3 = F' 3) : EqP (sp_X2_moveSlide P S F t) (sp_X2_moveSlide P' S F' t) := by
  have hb : sp_X0_bothOpen F (P 11) = sp_X0_bothOpen F' (P' 11) := by
    simp only [sp_X0_bothOpen, h2, h3, h.at 11 (by omega)]
  rw [cmv_eq, cmv_eq, hb, h.at 13 (by omega)]
  exact EqP.ite (EqP.ite h (cmv_congr h)) (cmv_congr h)
/-- a TICK: like presses, like things seen, like valves -/
theorem adv_congr {P P' S F F' : Nat → Int32} {t : Int32} (h : EqP P P') (hs : sp_X0_seenOf F t = sp_X0_seenOf F' t) (h2 : F 2 = F' 2) (h3 : F 3 = F' 3) : EqP (sp_X2_advance P S F t) (sp_X2_advance P' S F' t) := by
  obtain ⟨P1, e1⟩ : ∃ q : Nat → Int32, q = upd (upd (upd P 7 (sp_X2_apartThen (P 7) (sp_X0_seenOf F t) 0)) 8 (sp_X2_apartThen (P 8) (sp_X0_seenOf F t) 2)) 9 (sp_X2_apartThen (P 9) (sp_X0_seenOf F t) 4) := ⟨_, rfl⟩
  obtain ⟨P2, e2⟩ : ∃ q : Nat → Int32, q = sp_X2_moveMuting P1 S (sp_X0_seenOf F t) := ⟨_, rfl⟩
  obtain ⟨P3, e3⟩ : ∃ q : Nat → Int32, q = sp_X2_moveHands P2 S (sp_X0_seenOf F t) := ⟨_, rfl⟩
  obtain ⟨tk, etk⟩ : ∃ q : Int32, q = if P3 3 = 2 then (if P2 3 = 2 then 0 else 1) else 0 := ⟨_, rfl⟩
  obtain ⟨un, eun⟩ : ∃ q : Int32, q = if sp_X0_valvesObey F (P3 11) = 0 then sp_X2_oneMore (P3 10) else 0 := ⟨_, rfl⟩
  obtain ⟨ba, eba⟩ : ∃ q : Int32, q = if sp_X8_pairCount (sp_X0_seenOf F t) 4 = 2 then 0 else (if sp_X2_isMuted (upd P3 10 un) = 0 then 1 else 0) := ⟨_, rfl⟩
  obtain ⟨P5, e5⟩ : ∃ q : Nat → Int32, q = sp_X2_changeMode (upd P3 10 un) S (sp_X0_seenOf F t) tk ba := ⟨_, rfl⟩
  obtain ⟨cm, ecm⟩ : ∃ q : Int32, q = if P5 2 = 2 then 1 else (if P5 2 = 4 then 1 else 0) := ⟨_, rfl⟩
  obtain ⟨P7, e7⟩ : ∃ q : Nat → Int32, q = sp_X2_moveSlide (upd P5 11 cm) S F t := ⟨_, rfl⟩
  have hC := adv_unf rfl e1 e2 e3 etk eun eba e5 ecm e7
  obtain ⟨Q1, f1⟩ : ∃ q : Nat → Int32, q = upd (upd (upd P' 7 (sp_X2_apartThen (P' 7) (sp_X0_seenOf F' t) 0)) 8 (sp_X2_apartThen (P' 8) (sp_X0_seenOf F' t) 2)) 9 (sp_X2_apartThen (P' 9) (sp_X0_seenOf F' t) 4) := ⟨_, rfl⟩
  obtain ⟨Q2, f2⟩ : ∃ q : Nat → Int32, q = sp_X2_moveMuting Q1 S (sp_X0_seenOf F' t) := ⟨_, rfl⟩
  obtain ⟨Q3, f3⟩ : ∃ q : Nat → Int32, q = sp_X2_moveHands Q2 S (sp_X0_seenOf F' t) := ⟨_, rfl⟩
  obtain ⟨tk', ftk⟩ : ∃ q : Int32, q = if Q3 3 = 2 then (if Q2 3 = 2 then 0 else 1) else 0 := ⟨_, rfl⟩
  obtain ⟨un', fun'⟩ : ∃ q : Int32, q = if sp_X0_valvesObey F' (Q3 11) = 0 then sp_X2_oneMore (Q3 10) else 0 := ⟨_, rfl⟩
  obtain ⟨ba', fba⟩ : ∃ q : Int32, q = if sp_X8_pairCount (sp_X0_seenOf F' t) 4 = 2 then 0 else (if sp_X2_isMuted (upd Q3 10 un') = 0 then 1 else 0) := ⟨_, rfl⟩
  obtain ⟨Q5, f5⟩ : ∃ q : Nat → Int32, q = sp_X2_changeMode (upd Q3 10 un') S (sp_X0_seenOf F' t) tk' ba' := ⟨_, rfl⟩
  obtain ⟨cm', fcm⟩ : ∃ q : Int32, q = if Q5 2 = 2 then 1 else (if Q5 2 = 4 then 1 else 0) := ⟨_, rfl⟩
  obtain ⟨Q7, f7⟩ : ∃ q : Nat → Int32, q = sp_X2_moveSlide (upd Q5 11 cm') S F' t := ⟨_, rfl⟩
  have hD := adv_unf rfl f1 f2 f3 ftk fun' fba f5 fcm f7
  have g1 : EqP P1 Q1 := by
    rw [e1, f1, hs, h.at 7 (by omega), h.at 8 (by omega), h.at 9 (by omega)]
    exact ((h.up 7 _).up 8 _).up 9 _
  have g2 : EqP P2 Q2 := by rw [e2, f2, hs]; exact mm_congr g1
  have g3 : EqP P3 Q3 := by rw [e3, f3, hs]; exact mh_congr g2
  have gtk : tk = tk' := by rw [etk, ftk, g3.at 3 (by omega), g2.at 3 (by omega)]
  have gun : un = un' := by
    have hv : ∀ c, sp_X0_valvesObey F c = sp_X0_valvesObey F' c := fun c => by simp only [sp_X0_valvesObey, h2, h3]
    rw [eun, fun', g3.at 11 (by omega), g3.at 10 (by omega), hv]
  have gmu : sp_X2_isMuted (upd P3 10 un) = sp_X2_isMuted (upd Q3 10 un') := by
    show (if P3 5 = 2 then (1 : Int32) else if P3 5 = 3 then 1 else 0) = (if Q3 5 = 2 then (1 : Int32) else if Q3 5 = 3 then 1 else 0)
    rw [g3.at 5 (by omega)]
  have gba : ba = ba' := by rw [eba, fba, hs, gmu]
  have g5 : EqP P5 Q5 := by
    rw [e5, f5, hs, gun, gtk, gba]
    exact cm_congr (g3.up 10 _)
  have gcm : cm = cm' := by rw [ecm, fcm, g5.at 2 (by omega)]
  have g7 : EqP P7 Q7 := by
    rw [e7, f7, gcm]
    exact ms_congr (g5.up 11 _) h2 h3
  rw [hC, hD, hs]
  exact g7.up 14 _
theorem copy_eq (P O : Nat → Int32) : EqP (sp_X2_copyFrom P O) O := by
  intro k h1 h2
  rcases (show k = 2 ∨ k = 3 ∨ k = 4 ∨ k = 5 ∨ k = 6 ∨ k = 7 ∨ k = 8 ∨ k = 9 ∨ k = 10 ∨ k = 11 ∨ k = 12 ∨ k = 13 ∨ k = 14 ∨ k = 15 ∨ k = 16 ∨ k = 17 by omega) with rfl | rfl | rfl | rfl | rfl | rfl | rfl | rfl | rfl | rfl | rfl | rfl | rfl | rfl | rfl | rfl <;> rfl
theorem begin_eq (P Q : Nat → Int32) : EqP (sp_X2_begin P) (sp_X2_begin Q) := by
  intro k h1 h2
  rcases (show k = 2 ∨ k = 3 ∨ k = 4 ∨ k = 5 ∨ k = 6 ∨ k = 7 ∨ k = 8 ∨ k = 9 ∨ k = 10 ∨ k = 11 ∨ k = 12 ∨ k = 13 ∨ k = 14 ∨ k = 15 ∨ k = 16 ∨ k = 17 by omega) with rfl | rfl | rfl | rfl | rfl | rfl | rfl | rfl | rfl | rfl | rfl | rfl | rfl | rfl | rfl | rfl <;> rfl
