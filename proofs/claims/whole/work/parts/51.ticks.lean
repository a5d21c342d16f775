/-! PURE 12: noted TICKS, one and many. -/
theorem RS.fr {S M M' : Nat → Int32} (h : RS S M) (hf : ∀ k, k < 7 → M' k = M k) : RS S M' := ⟨(hf 0 (by omega)).trans h.1, (hf 1 (by omega)).trans h.2.1, (hf 2 (by omega)).trans h.2.2.1, (hf 3 (by omega)).trans h.2.2.2.1, (hf 4 (by omega)).trans h.2.2.2.2⟩
theorem RP.fr {P M M' a : Nat → Int32} (h : RP P M a) (hf : ∀ k, 7 ≤ k → k < 19 → M' k = M k) : RP P M' a := by
  obtain ⟨p7, p8, p9, p10, p11, c0, c1, c2, p13, p14, p15, p16, p17, p18⟩ := h
  exact ⟨(hf 7 (by omega) (by omega)).trans p7, (hf 8 (by omega) (by omega)).trans p8, (hf 9 (by omega) (by omega)).trans p9, (hf 10 (by omega) (by omega)).trans p10, (hf 11 (by omega) (by omega)).trans p11, c0, c1, c2, (hf 13 (by omega) (by omega)).trans p13, (hf 14 (by omega) (by omega)).trans p14, (hf 15 (by omega) (by omega)).trans p15, (hf 16 (by omega) (by omega)).trans p16, (hf 17 (by omega) (by omega)).trans p17, (hf 18 (by omega) (by omega)).trans p18⟩
theorem RN.fr {N n0 n1 n2 M M' a28 a29 a31 : Nat → Int32} {T : Nat} (h : RN N n0 n1 n2 M a28 a29 a31 T) (hf : ∀ k, 23 ≤ k → k < 31 → M' k = M k) : RN N n0 n1 n2 M' a28 a29 a31 T := by
  obtain ⟨tab, ord, kn, pl, t1, t2, t3, t4, t5, t6, t7, t8, t9, t10, t11, t12, t13, t14⟩ := h
  exact ⟨tab, ord, kn, pl, t1, t2, t3, t4, (hf 30 (by omega) (by omega)).trans t5, t6, t7, t8, t9, t10, t11, t12.trans (hf 27 (by omega) (by omega)).symm, t13.trans (hf 24 (by omega) (by omega)).symm, t14⟩
theorem notes_fr {M a28 a29 a31 : Nat → Int32} {L : Int64} {x : Int32} {k : Nat} (hk : k < 24 ∨ 31 ≤ k) : (sp_X9_notes M L a28 a29 a31 x).1 k = M k := by
  simp only [sp_X9_notes]
  split
  · show upd (upd (upd M 24 _) 25 _) 26 _ k = M k
    rw [upd_ne (by omega), upd_ne (by omega), upd_ne (by omega)]
  · show (if lp (bd_X9_notes_98 M a29) (M 30).toNatClampNeg 1 = 0 then _ else _ : Nat → Int32) k = M k
    split
    · rw [upd_ne (by omega), upd_ne (by omega), upd_ne (by omega), upd_ne (by omega)]
    · rw [upd_ne (by omega), upd_ne (by omega), upd_ne (by omega), upd_ne (by omega), upd_ne (by omega)]
theorem notes_cnt {M a28 a29 a31 : Nat → Int32} {L : Int64} {x : Int32} : (sp_X9_notes M L a28 a29 a31 x).1 25 = M 25 + M 21 ∧ (sp_X9_notes M L a28 a29 a31 x).1 26 = M 26 + M 22 := by
  simp only [sp_X9_notes]
  split
  · exact ⟨rfl, rfl⟩
  · constructor
    · show (if lp (bd_X9_notes_98 M a29) (M 30).toNatClampNeg 1 = 0 then _ else _ : Nat → Int32) 25 = _
      split <;> rfl
    · show (if lp (bd_X9_notes_98 M a29) (M 30).toNatClampNeg 1 = 0 then _ else _ : Nat → Int32) 26 = _
      split <;> rfl
/-- class and reference while they are ticked: their presses, what is noted -/
def RT (S : Nat → Int32) (x y : (Nat → Int32) × (Nat → Int32) × (Nat → Int32) × (Nat → Int32) × (Nat → Int32)) (T : Nat) : Prop := RS S y.1 ∧ RP x.1 y.1 y.2.1 ∧ BP x.1 S ∧ y.1 25 = x.1 16 ∧ y.1 26 = x.1 17 ∧ RN x.2.1 x.2.2.1 x.2.2.2.1 x.2.2.2.2 y.1 y.2.2.1 y.2.2.2.1 y.2.2.2.2 T
theorem RT.known {S : Nat → Int32} {x y : (Nat → Int32) × (Nat → Int32) × (Nat → Int32) × (Nat → Int32) × (Nat → Int32)} {T : Nat} (h : RT S x y T) : ¬ x.2.1 3 < 0 := by
  obtain ⟨-, -, -, -, -, tab, ord, kn, pl, t1, t2, t3, t4, -⟩ := h
  rw [t4]
  exact nI_pos (by omega)
set_option maxHeartbeats 1000000 in
theorem tick_all {G S F a5 a6 : Nat → Int32} {L : Int64} {t T i : Nat} {x y : (Nat → Int32) × (Nat → Int32) × (Nat → Int32) × (Nat → Int32) × (Nat → Int32)} (bS : BS S) (rF : RF F a5) (rV : RV F a6) (h : RT S x y T) (hT : T < 2 ^ 30) (ht : t < 512) :
    RT S (bd_X8_ticks_22 G S F (nI t) i x) (bd_X9_ticks_22 L a5 a6 (nI t) i y) (T + 1) ∧ okn (sp_X9_tickBy y.1 L a5 a6 y.2.1 (nI t)).1 y.2.2.2.1 (y.1 7) ∧ ∀ k, k < 7 ∨ 31 ≤ k → (bd_X9_ticks_22 L a5 a6 (nI t) i y).1 k = y.1 k := by
  obtain ⟨P, N, n0, n1, n2⟩ := x
  obtain ⟨M, a12, a28, a29, a31⟩ := y
  obtain ⟨rS, rP, bP, e16, e17, rN⟩ := h
  dsimp only at rS rP bP e16 e17 rN ⊢
  obtain ⟨P', eP⟩ : ∃ q, q = sp_X2_advance P S F (nI t) := ⟨_, rfl⟩
  obtain ⟨M1, eM⟩ : ∃ q, q = (sp_X9_tickBy M L a5 a6 a12 (nI t)).1 := ⟨_, rfl⟩
  obtain ⟨a', ea⟩ : ∃ q, q = (sp_X9_tickBy M L a5 a6 a12 (nI t)).2 := ⟨_, rfl⟩
  obtain ⟨rP', bP', d16, d17, c19, c20⟩ := tick_sim bS rS rF rV rP bP ht eP eM ea
  have hfr : ∀ k, k < 7 ∨ 23 ≤ k → M1 k = M k := fun k hk => by rw [eM]; exact tickBy_fr _ _ _ _ _ _ k hk
  have rN1 := rN.fr (M' := M1) (fun k h1 h2 => hfr k (by omega))
  obtain ⟨md, hmd, emd⟩ := bP.1
  obtain ⟨p, hp, ep⟩ := bP.2.2.2.2.2.2.2.2.2.2.1
  have hp18 : p < 18 := by
    obtain ⟨-, -, -, -, -, b, hb2, hb9, s4⟩ := bS
    rw [s4, nI_clamp (by omega)] at hp
    omega
  have e7 : M 7 = nI md := rP.1.trans emd
  have e7' : M1 7 = P' 2 := rP'.1
  have hn19 : ¬ M1 19 = (-9) → M1 20 = nI p ∧ ∃ j : Nat, 1 ≤ j ∧ j ≤ 5 ∧ M1 19 = nI j := by
    intro hne
    rw [c19] at hne ⊢
    by_cases q2 : P 2 = 0
    · rw [if_pos q2] at hne; exact absurd rfl hne
    · rw [if_neg q2] at hne ⊢
      by_cases q2' : P' 2 = 0
      · rw [if_pos q2']
        obtain ⟨h20, j, j1, j5, hj⟩ := c20 q2 q2'
        exact ⟨h20.trans ep, j, j1, j5, hj⟩
      · rw [if_neg q2'] at hne; exact absurd rfl hne
  have hok : okn M1 a29 (nI md) := okn_ok rN1 hmd hp18 hn19
  obtain ⟨n25, n26⟩ := notes_cnt (M := M1) (a28 := a28) (a29 := a29) (a31 := a31) (L := L) (x := nI md)
  have hB : bd_X9_ticks_22 L a5 a6 (nI t) i (M, a12, a28, a29, a31) = ((sp_X9_notes M1 L a28 a29 a31 (nI md)).1, a', (sp_X9_notes M1 L a28 a29 a31 (nI md)).2.1, (sp_X9_notes M1 L a28 a29 a31 (nI md)).2.2.1, (sp_X9_notes M1 L a28 a29 a31 (nI md)).2.2.2) := by
    simp only [bd_X9_ticks_22, ← eM, ← ea, e7]
  have hA : bd_X8_ticks_22 G S F (nI t) i (P, N, n0, n1, n2) = sp_X8_advanceNoted G S F P N n0 n1 n2 (nI t) := rfl
  rw [← eM, e7]
  refine ⟨?_, hok, ?_⟩
  · rw [hA, hB]
    obtain ⟨N2, eN2⟩ : ∃ q, q = (sp_X1_addTick N n0 n1 n2 (nI md) (P' 2)).1 := ⟨_, rfl⟩
    obtain ⟨n3, en3⟩ : ∃ q, q = (sp_X1_addTick N n0 n1 n2 (nI md) (P' 2)).2 := ⟨_, rfl⟩
    have hAN : ∀ Nx ny nz, sp_X8_advanceNoted G S F P N n0 n1 n2 (nI t) = (P', Nx, ny, nz, n3) → RN Nx ny nz n3 (sp_X9_notes M1 L a28 a29 a31 (nI md)).1 (sp_X9_notes M1 L a28 a29 a31 (nI md)).2.1 (sp_X9_notes M1 L a28 a29 a31 (nI md)).2.2.1 (sp_X9_notes M1 L a28 a29 a31 (nI md)).2.2.2 (T + 1) → RT S (sp_X8_advanceNoted G S F P N n0 n1 n2 (nI t)) ((sp_X9_notes M1 L a28 a29 a31 (nI md)).1, a', (sp_X9_notes M1 L a28 a29 a31 (nI md)).2.1, (sp_X9_notes M1 L a28 a29 a31 (nI md)).2.2.1, (sp_X9_notes M1 L a28 a29 a31 (nI md)).2.2.2) (T + 1) := by
      intro Nx ny nz e hRN
      rw [e]
      refine ⟨(rS.fr (M' := M1) (fun k hk => hfr k (by omega))).fr (fun k hk => notes_fr (by omega)), rP'.fr (fun k h1 h2 => notes_fr (by omega)), bP', ?_, ?_, hRN⟩
      · show (sp_X9_notes M1 L a28 a29 a31 (nI md)).1 25 = P' 16
        rw [n25, d16, hfr 25 (by omega), e16]
      · show (sp_X9_notes M1 L a28 a29 a31 (nI md)).1 26 = P' 17
        rw [n26, d17, hfr 26 (by omega), e17]
    by_cases q2 : P 2 = 0
    · have q2m : nI md = 0 := emd.symm.trans q2
      refine hAN N2 n0 n1 ?_ ?_
      · simp only [sp_X8_advanceNoted, ← eP, emd, if_pos q2m, eN2, en3]
      · rw [eN2, en3]
        exact note_none rN1 hmd (by rw [c19, if_pos q2]) e7'
    · have q2m : ¬ nI md = 0 := fun h => q2 (emd.trans h)
      by_cases q2' : P' 2 = 0
      · obtain ⟨h20, j, j1, j5, hj⟩ := c20 q2 q2'
        obtain ⟨c, rfl⟩ : ∃ c, j = c + 1 := ⟨j - 1, by omega⟩
        refine hAN _ _ _ ?_ (note_lock rN1 hT hmd (c := c) (p := p) (by omega) hp18 (by rw [c19, if_neg q2, if_pos q2']; exact hj) (h20.trans ep) e7' eN2 en3)
        simp only [sp_X8_advanceNoted, ← eP, emd, if_neg q2m, if_pos q2', eN2, en3, ep, hj]
      · refine hAN N2 n0 n1 ?_ ?_
        · simp only [sp_X8_advanceNoted, ← eP, emd, if_neg q2m, if_neg q2', eN2, en3]
        · rw [eN2, en3]
          exact note_none rN1 hmd (by rw [c19, if_neg q2, if_neg q2']) e7'
  · intro k hk
    rw [hB]
    show (sp_X9_notes M1 L a28 a29 a31 (nI md)).1 k = M k
    rw [notes_fr (by omega), hfr k (by omega)]
theorem ticks_all {G S F a5 a6 : Nat → Int32} {L : Int64} {t T : Nat} {x y : (Nat → Int32) × (Nat → Int32) × (Nat → Int32) × (Nat → Int32) × (Nat → Int32)} (bS : BS S) (rF : RF F a5) (rV : RV F a6) (h : RT S x y T) (ht : t < 512) : ∀ (n : Nat), T + n < 2 ^ 30 → RT S (lp (bd_X8_ticks_22 G S F (nI t)) n x) (lp (bd_X9_ticks_22 L a5 a6 (nI t)) n y) (T + n) ∧ ∀ k, k < 7 ∨ 31 ≤ k → (lp (bd_X9_ticks_22 L a5 a6 (nI t)) n y).1 k = y.1 k := by
  intro n
  induction n with
  | zero => intro _; exact ⟨h, fun _ _ => rfl⟩
  | succ n ih =>
    intro hn
    obtain ⟨h1, h2⟩ := ih (by omega)
    obtain ⟨g1, -, g3⟩ := tick_all (G := G) (L := L) (i := n) bS rF rV h1 (by omega) ht
    exact ⟨g1, fun k hk => (g3 k hk).trans (h2 k hk)⟩
