/-! PURE 3: modes and the slide. -/
def nmode (md least hands pos bot taken barred letgo : Int32) : Int32 :=
  if md = 0 then (if letgo = 0 then 0 else if least = 0 then (if hands = 0 then (if barred = 0 then (if pos = 0 then 1 else 3) else 0) else 0) else 0)
  else if least = 0 then
    (if md = 1 then (if taken = 0 then 1 else if barred = 0 then 2 else 1)
    else if md = 2 then (if barred = 0 then (if hands = 2 then 2 else 3) else 3)
    else if md = 3 then (if taken = 0 then 3 else if barred = 0 then (if bot ≤ pos then 4 else 2) else 3)
    else md)
  else 0
theorem nmode_rg {md least hands pos bot taken barred letgo : Int32} (h : rg md 4) : rg (nmode md least hands pos bot taken barred letgo) 4 := by
  simp only [nmode]
  (repeat' split) <;> first | exact h | exact ⟨0, by omega, rfl⟩ | exact ⟨1, by omega, rfl⟩ | exact ⟨2, by omega, rfl⟩ | exact ⟨3, by omega, rfl⟩ | exact ⟨4, by omega, rfl⟩
abbrev letgo (r b8 : Int32) : Int32 := if r = 1 then (if b8 = 0 then 1 else 0) else 0
theorem cm_mode {P S : Nat → Int32} {seen taken barred : Int32} (h2 : rg (P 2) 4) : sp_X2_changeMode P S seen taken barred 2 = nmode (P 2) (sp_X2_leastCause P S) (P 3) (P 12) (S 4) taken barred (letgo (P 14) (sp_X8_bit seen 8)) := by
  simp only [sp_X2_changeMode, nmode, letgo, ite_at, upd]
  generalize sp_X2_leastCause P S = ls
  generalize sp_X8_bit seen 8 = b8
  rcases rg4 h2 with h | h | h | h | h <;> by_cases ht : taken = 0 <;> by_cases hb : barred = 0 <;> by_cases hl : ls = 0 <;> simp [h, ht, hb, hl]
theorem cm_cause {P S : Nat → Int32} {seen taken barred : Int32} (h2 : rg (P 2) 4) : sp_X2_changeMode P S seen taken barred 15 = if P 2 = 0 then P 15 else if sp_X2_leastCause P S = 0 then P 15 else sp_X2_leastCause P S := by
  simp only [sp_X2_changeMode, ite_at, upd]
  generalize sp_X2_leastCause P S = ls
  generalize sp_X8_bit seen 8 = b8
  rcases rg4 h2 with h | h | h | h | h <;> by_cases ht : taken = 0 <;> by_cases hb : barred = 0 <;> by_cases hl : ls = 0 <;> simp [h, ht, hb, hl]
theorem cm_fr {P S : Nat → Int32} {seen taken barred : Int32} {k : Nat} (hk : k ≠ 2 ∧ k ≠ 15) : sp_X2_changeMode P S seen taken barred k = P k := by
  simp only [sp_X2_changeMode, ite_at, upd, if_neg hk.1, if_neg hk.2, ite_self]
theorem go_mode {M a12 : Nat → Int32} {L : Int64} {t b g ls : Int32} (hl : sp_X9_leastCause M L a12 (M 7) = if ls = 0 then (-9) else ls) (hr : rg ls 5) (h7 : rg (M 7) 4) : sp_X9_goesOn M L a12 t b g 7 = nmode (M 7) ls (M 8) (M 15) (M 4) t b g := by
  have hn : ls = 0 ∨ ¬ ls = -9 := by
    obtain ⟨j, hj, rfl⟩ := hr
    rcases (show j = 0 ∨ j = 1 ∨ j = 2 ∨ j = 3 ∨ j = 4 ∨ j = 5 by omega) with rfl | rfl | rfl | rfl | rfl | rfl <;> decide
  simp only [sp_X9_goesOn, nmode, ite_at, upd, hl]
  rcases rg4 h7 with h | h | h | h | h <;> by_cases hz : ls = 0 <;> by_cases ht : t = 0 <;> by_cases hb : b = 0 <;> by_cases hg : g = 0 <;> simp_all
theorem go_by {M a12 : Nat → Int32} {L : Int64} {t b g ls : Int32} (hl : sp_X9_leastCause M L a12 (M 7) = if ls = 0 then (-9) else ls) (hr : rg ls 5) (h7 : rg (M 7) 4) : sp_X9_goesOn M L a12 t b g 18 = (if M 7 = 0 then (if nmode (M 7) ls (M 8) (M 15) (M 4) t b g = 0 then M 18 else (-9)) else if ls = 0 then M 18 else ls) ∧ sp_X9_goesOn M L a12 t b g 19 = (if M 7 = 0 then (-9) else if ls = 0 then (-9) else ls) ∧ (¬ M 7 = 0 → ¬ ls = 0 → sp_X9_goesOn M L a12 t b g 20 = M 15) := by
  have hn : ls = 0 ∨ ¬ ls = -9 := by
    obtain ⟨j, hj, rfl⟩ := hr
    rcases (show j = 0 ∨ j = 1 ∨ j = 2 ∨ j = 3 ∨ j = 4 ∨ j = 5 by omega) with rfl | rfl | rfl | rfl | rfl | rfl <;> decide
  refine ⟨?_, ?_, ?_⟩
  · simp only [sp_X9_goesOn, nmode, ite_at, upd, hl]
    rcases rg4 h7 with h | h | h | h | h <;> by_cases hz : ls = 0 <;> by_cases ht : t = 0 <;> by_cases hb : b = 0 <;> by_cases hg : g = 0 <;> by_cases h8 : M 8 = 0 <;> by_cases h15 : M 15 = 0 <;> simp_all
  · simp only [sp_X9_goesOn, ite_at, upd, hl]
    rcases rg4 h7 with h | h | h | h | h <;> by_cases hz : ls = 0 <;> by_cases ht : t = 0 <;> by_cases hb : b = 0 <;> by_cases hg : g = 0 <;> simp_all
  · intro h7' hz
    simp only [sp_X9_goesOn, ite_at, upd, hl]
    simp_all
theorem go_fr {M a12 : Nat → Int32} {L : Int64} {t b g : Int32} {k : Nat} (hk : k ≠ 7 ∧ k ≠ 18 ∧ k ≠ 19 ∧ k ≠ 20) : sp_X9_goesOn M L a12 t b g k = M k := by
  simp only [sp_X9_goesOn, ite_at, upd, if_neg hk.1, if_neg hk.2.1, if_neg hk.2.2.1, if_neg hk.2.2.2, ite_self]
/-- the slide moves, with a new BRAKE -/
def cmv (P S : Nat → Int32) (told bv : Int32) : Nat → Int32 :=
  let z_4 : Nat → Int32 := (if (S 4) ≤ (P 12) then (upd P 13 bv) else (if (sp_X8_pairCount told 4) = 2 then (upd P 13 bv) else (if (sp_X2_isMuted (upd P 13 bv)) = 0 then (upd (upd P 13 bv) 16 ((P 16) + 1)) else (upd P 13 bv))))
  let z_6 : Int32 := ((z_4 12) + 1)
  let z_7 : Nat → Int32 := (if z_6 = (S 4) then (if (z_4 2) = 2 then (upd (upd z_4 2 4) 12 z_6) else (upd z_4 12 z_6)) else (upd z_4 12 z_6))
  (if (z_7 12) < (2 * (S 4)) then z_7 else (sp_X2_arriveAtTop z_7))
theorem cmv_eq (P S F : Nat → Int32) (told : Int32) : sp_X2_moveSlide P S F told = if sp_X0_bothOpen F (P 11) = 0 then (if P 13 ≤ 0 then P else cmv P S told ((P 13) - 1)) else cmv P S told (S 3) := rfl
def mmv (M : Nat → Int32) (set isMuted bv : Int32) : Nat → Int32 :=
  let z_45 : Int32 := (if (M 4) ≤ (M 15) then 0 else (if ((set >>> (4 &&& 31)) &&& 3) = 3 then 0 else (if isMuted = 0 then 1 else 0)))
  let z_47 : Int32 := (if ((M 15) + 1) = (2 * (M 4)) then 0 else ((M 15) + 1))
  let z_49 : Nat → Int32 := (if z_47 = (M 4) then (if (M 7) = 2 then (upd (upd (upd (upd (upd M 7 4) 15 z_47) 16 bv) 21 z_45) 22 0) else (upd (upd (upd (upd M 15 z_47) 16 bv) 21 z_45) 22 0)) else (upd (upd (upd (upd M 15 z_47) 16 bv) 21 z_45) 22 0))
  (if (z_49 15) = 0 then (upd (upd (upd z_49 7 (if (z_49 7) = 4 then 1 else (if (z_49 7) = 3 then 1 else (z_49 7)))) 16 0) 22 1) else z_49)
theorem mmv_eq (M a6 : Nat → Int32) (L : Int64) (set isMuted : Int32) : sp_X9_slides M L a6 set isMuted = if sp_X9_valveAt (upd (upd M 21 0) 22 0) L a6 0 = 1 then (if sp_X9_valveAt (upd (upd M 21 0) 22 0) L a6 1 = 1 then mmv M set isMuted (M 3) else (if M 16 ≤ 0 then upd (upd M 21 0) 22 0 else mmv M set isMuted ((M 16) - 1))) else (if M 16 ≤ 0 then upd (upd M 21 0) 22 0 else mmv M set isMuted ((M 16) - 1)) := rfl
