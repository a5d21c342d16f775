/-! PURE 11: what is NOTED, class and reference. -/
def RN (N n0 n1 n2 M a28 a29 a31 : Nat → Int32) (T : Nat) : Prop := ∃ (tab ord : Nat → Nat) (kn pl : Nat),
  (∀ k, k < 90 → n0 k = nI (tab k) ∧ a28 k = nI (tab k)) ∧ sm tab 90 ≤ T ∧ kn ≤ 5 ∧ N 3 = nI kn ∧ M 30 = nI kn ∧ (∀ i, i < kn → n1 i = nI (ord i) ∧ a29 i = nI (ord i) ∧ 1 ≤ ord i ∧ ord i ≤ 5) ∧ (∀ i j, i < kn → j < kn → ord i = ord j → i = j) ∧
  (∀ c, c < 5 → ((∃ i, i < kn ∧ ord i = c + 1) ↔ ∃ p, p < 18 ∧ 0 < tab (c * 18 + p))) ∧ pl < 2 ^ 18 ∧ N 4 = nI pl ∧ (∀ p, p < 18 → (pl.testBit p = true ↔ ∃ c, c < 5 ∧ 0 < tab (c * 18 + p))) ∧ N 5 = M 27 ∧ N 6 = M 24 ∧ ∀ k, k < 5 → n2 k = a31 k
theorem ord_room {kn : Nat} {ord : Nat → Nat} {c : Nat} (hk : kn ≤ 5) (h1 : ∀ i, i < kn → 1 ≤ ord i ∧ ord i ≤ 5) (hi : ∀ i j, i < kn → j < kn → ord i = ord j → i = j) (hc : c < 5) (hn : ¬ ∃ i, i < kn ∧ ord i = c + 1) : kn < 5 := by
  have hl := nodup_le ((List.range kn).map ord) ([1, 2, 3, 4, 5].erase (c + 1)) (by
    rw [List.nodup_iff_pairwise_ne, List.pairwise_map]
    refine List.Pairwise.imp_of_mem ?_ (List.pairwise_lt_range)
    intro a b ha hb hab e
    have := hi a b (List.mem_range.mp ha) (List.mem_range.mp hb) e
    omega) (fun x hx => by
    obtain ⟨i, hi', rfl⟩ := List.mem_map.mp hx
    have hi' := List.mem_range.mp hi'
    have hne : ord i ≠ c + 1 := fun e => hn ⟨i, hi', e⟩
    rw [List.mem_erase_of_ne hne]
    have := h1 i hi'
    simp only [List.mem_cons, List.not_mem_nil, or_false]
    omega)
  rw [List.length_map, List.length_range, List.length_erase_of_mem (by
    simp only [List.mem_cons, List.not_mem_nil, or_false]
    omega)] at hl
  simp at hl
  omega
theorem okn_ok {N n0 n1 n2 M a28 a29 a31 : Nat → Int32} {T md p : Nat} (h : RN N n0 n1 n2 M a28 a29 a31 T) (hmd : md ≤ 4) (hp : p < 18) (h19 : ¬ M 19 = (-9) → M 20 = nI p ∧ ∃ j : Nat, 1 ≤ j ∧ j ≤ 5 ∧ M 19 = nI j) : okn M a29 (nI md) := by
  obtain ⟨tab, ord, kn, pl, t1, t2, t3, t4, t5, t6, t7, t8, t9, t10, t11, t12, t13, t14⟩ := h
  refine ⟨vp_in_nI (by omega) (by omega), fun h9 => ?_, ?_, ?_, fun h9 hnew => ?_⟩
  · obtain ⟨h20, j, j1, j5, hj⟩ := h19 h9
    rw [hj, h20]
    obtain ⟨c, rfl⟩ : ∃ c, j = c + 1 := ⟨j - 1, by omega⟩
    rw [nI_pred, n18]
    exact vp_in_nI (by omega) (by omega)
  · rw [t5]; exact nI_pos (by omega)
  · rw [t5, nI_clamp (by omega)]; exact t3
  · obtain ⟨h20, j, j1, j5, hj⟩ := h19 h9
    rw [t5, nI_clamp (by omega)] at hnew
    rw [t5]
    refine vp_in_nI ?_ (by omega)
    obtain ⟨c, rfl⟩ : ∃ c, j = c + 1 := ⟨j - 1, by omega⟩
    refine ord_room t3 (fun i hi => (t6 i hi).2.2) t7 (c := c) (by omega) ?_
    rintro ⟨i, hi, e⟩
    exact hnew ((isNew_iff kn).mpr ⟨i, hi, by rw [(t6 i hi).2.1, hj, e]⟩)
theorem notes_none {M a28 a29 a31 : Nat → Int32} {L : Int64} {md : Nat} (hmd : md ≤ 4) (h9 : M 19 = (-9)) : sp_X9_notes M L a28 a29 a31 (nI md) = (upd (upd (upd M 24 ((M 24) + 1)) 25 ((M 25) + (M 21))) 26 ((M 26) + (M 22)), a28, a29, upd a31 md ((a31 md) ||| (1 <<< ((M 7) &&& 31)))) := by
  simp only [sp_X9_notes, if_pos h9, nI_clamp (show md < 2 ^ 31 by omega)]
/-- a TICK without a new lock -/
theorem note_none {N n0 n1 n2 M a28 a29 a31 : Nat → Int32} {L : Int64} {T md : Nat} {mb : Int32} (h : RN N n0 n1 n2 M a28 a29 a31 T) (hmd : md ≤ 4) (h9 : M 19 = (-9)) (e7 : M 7 = mb) : RN (sp_X1_addTick N n0 n1 n2 (nI md) mb).1 n0 n1 (sp_X1_addTick N n0 n1 n2 (nI md) mb).2 (sp_X9_notes M L a28 a29 a31 (nI md)).1 (sp_X9_notes M L a28 a29 a31 (nI md)).2.1 (sp_X9_notes M L a28 a29 a31 (nI md)).2.2.1 (sp_X9_notes M L a28 a29 a31 (nI md)).2.2.2 (T + 1) := by
  rw [addTick_eq hmd, notes_none hmd h9]
  obtain ⟨tab, ord, kn, pl, t1, t2, t3, t4, t5, t6, t7, t8, t9, t10, t11, t12, t13, t14⟩ := h
  refine ⟨tab, ord, kn, pl, t1, by omega, t3, t4, t5, t6, t7, t8, t9, t10, t11, t12, ?_, ?_⟩
  · show N 6 + 1 = M 24 + 1
    rw [t13]
  · intro k hk
    show upd n2 md _ k = upd a31 md _ k
    simp only [upd]
    split
    · rw [t14 md (by omega), e7]
    · exact t14 k hk
theorem tb_or {pl p q : Nat} : (pl ||| 2 ^ p).testBit q = (pl.testBit q || decide (p = q)) := by
  rw [Nat.testBit_or, Nat.testBit_two_pow]
theorem shl1 : ∀ p : Fin 18, (1 <<< (nI p.val &&& 31) : Int32) = nI (2 ^ p.val) := by decide +kernel
set_option maxHeartbeats 2000000 in
/-- a TICK with a new lock -/
theorem note_lock {N n0 n1 n2 M a28 a29 a31 : Nat → Int32} {L : Int64} {T md p c : Nat} {mb : Int32} (h : RN N n0 n1 n2 M a28 a29 a31 T) (hT : T < 2 ^ 30) (hmd : md ≤ 4) (hc : c < 5) (hp : p < 18) (h19 : M 19 = nI (c + 1)) (h20 : M 20 = nI p) (e7 : M 7 = mb) {N2 n3 : Nat → Int32} (eN2 : N2 = (sp_X1_addTick N n0 n1 n2 (nI md) mb).1) (en3 : n3 = (sp_X1_addTick N n0 n1 n2 (nI md) mb).2) : RN (sp_X1_addLock N2 n0 n1 n3 (nI (c + 1)) (nI p)).1 (sp_X1_addLock N2 n0 n1 n3 (nI (c + 1)) (nI p)).2.1 (sp_X1_addLock N2 n0 n1 n3 (nI (c + 1)) (nI p)).2.2 n3 (sp_X9_notes M L a28 a29 a31 (nI md)).1 (sp_X9_notes M L a28 a29 a31 (nI md)).2.1 (sp_X9_notes M L a28 a29 a31 (nI md)).2.2.1 (sp_X9_notes M L a28 a29 a31 (nI md)).2.2.2 (T + 1) := by
  rw [addTick_eq hmd] at eN2 en3
  obtain ⟨tab, ord, kn, pl, t1, t2, t3, t4, t5, t6, t7, t8, t9, t10, t11, t12, t13, t14⟩ := h
  have hne : ¬ M 19 = (-9) := by
    rw [h19]
    rcases (show c = 0 ∨ c = 1 ∨ c = 2 ∨ c = 3 ∨ c = 4 by omega) with rfl | rfl | rfl | rfl | rfl <;> decide
  have hne' : ¬ nI (c + 1) = (-9) := by rw [← h19]; exact hne
  have w1 : sp_X8_within (nI (c + 1)) 1 5 = 1 := wi_yes (lo := 1) (hi := 5) (by omega) (by omega) (by omega)
  have w2 : sp_X8_within (nI p) 0 17 = 1 := wi_yes (lo := 0) (hi := 17) (by omega) (by omega) (by omega)
  have hx := lock_ix hc hp
  have hby : sp_X1_locksBy N2 n0 n1 n3 (nI (c + 1)) = nI (sm (fun q => tab (c * 18 + q)) 18) := locksBy_eq hc (fun k hk => (t1 k hk).1)
  have hsm : sm (fun q => tab (c * 18 + q)) 18 ≤ sm tab 90 := sm_row (by omega)
  have hz : sp_X1_locksBy N2 n0 n1 n3 (nI (c + 1)) = 0 ↔ ¬ ∃ i, i < kn ∧ ord i = c + 1 := by
    rw [hby, show (0 : Int32) = nI 0 from rfl, nI_eq (by omega) (by omega), sm_zero, t8 c hc]
    constructor
    · rintro h ⟨q, hq, hlt⟩
      have := h q hq
      omega
    · intro h q hq
      rcases Nat.eq_zero_or_pos (tab (c * 18 + q)) with h0 | h0
      · exact h0
      · exact absurd ⟨q, hq, h0⟩ h
  have hnw : lp (bd_X9_notes_98 M a29) kn 1 = 0 ↔ ∃ i, i < kn ∧ ord i = c + 1 := by
    rw [isNew_iff]
    constructor
    · rintro ⟨i, hi, e⟩
      rw [(t6 i hi).2.1, h19, nI_eq (by have := (t6 i hi).2.2.2; omega) (by omega)] at e
      exact ⟨i, hi, e⟩
    · rintro ⟨i, hi, e⟩
      exact ⟨i, hi, by rw [(t6 i hi).2.1, h19, e]⟩
  have e3 : N2 3 = nI kn := by rw [eN2]; exact t4
  have e4 : N2 4 = nI pl := by rw [eN2]; exact t10
  have e5 : N2 5 = N 5 := by rw [eN2]; rfl
  have e6 : N2 6 = N 6 + 1 := by rw [eN2]; rfl
  have hix : c * 18 + p < 90 := by omega
  have t1x := t1 (c * 18 + p) hix
  obtain ⟨tab', etab⟩ : ∃ q : Nat → Nat, q = nup tab (c * 18 + p) (tab (c * 18 + p) + 1) := ⟨_, rfl⟩
  have htab : ∀ k, k < 90 → upd n0 (c * 18 + p) (n0 (c * 18 + p) + 1) k = nI (tab' k) ∧ upd a28 (c * 18 + p) (a28 (c * 18 + p) + 1) k = nI (tab' k) := by
    intro k hk
    rw [etab]
    simp only [upd, nup]
    split
    · rw [t1x.1, t1x.2, nI_1]; exact ⟨rfl, rfl⟩
    · exact t1 k hk
  have hmem : ∀ c', c' < 5 → ((∃ q, q < 18 ∧ 0 < tab' (c' * 18 + q)) ↔ (c' = c ∨ ∃ q, q < 18 ∧ 0 < tab (c' * 18 + q))) := by
    intro c' hc'
    rw [etab]
    constructor
    · rintro ⟨q, hq, hlt⟩
      simp only [nup] at hlt
      split at hlt
      · left; omega
      · exact Or.inr ⟨q, hq, hlt⟩
    · rintro (rfl | ⟨q, hq, hlt⟩)
      · refine ⟨p, hp, ?_⟩
        simp only [nup, if_true]
        omega
      · refine ⟨q, hq, ?_⟩
        simp only [nup]
        split <;> omega
  have hpl : ∀ q, q < 18 → ((∃ c', c' < 5 ∧ 0 < tab' (c' * 18 + q)) ↔ (p = q ∨ ∃ c', c' < 5 ∧ 0 < tab (c' * 18 + q))) := by
    intro q hq
    rw [etab]
    constructor
    · rintro ⟨c', hc', hlt⟩
      simp only [nup] at hlt
      split at hlt
      · left; omega
      · exact Or.inr ⟨c', hc', hlt⟩
    · rintro (rfl | ⟨c', hc', hlt⟩)
      · refine ⟨c, hc, ?_⟩
        simp only [nup, if_true]
        omega
      · refine ⟨c', hc', ?_⟩
        simp only [nup]
        split <;> omega
  have hplace : nI pl ||| (1 <<< (nI p &&& 31)) = nI (pl ||| 2 ^ p) := by
    rw [shl1 ⟨p, hp⟩, ofn_or]
  have hpl2 : pl ||| 2 ^ p < 2 ^ 18 := Nat.or_lt_two_pow t9 (Nat.pow_lt_pow_right (by omega) hp)
  have hsum : sm tab' 90 ≤ T + 1 := by
    rw [etab, sm_nup hix]
    omega
  have hbeh : ∀ k, k < 5 → n3 k = upd a31 md ((a31 md) ||| (1 <<< ((M 7) &&& 31))) k := by
    intro k hk
    rw [en3]
    show upd n2 md _ k = upd a31 md _ k
    simp only [upd]
    split
    · rw [t14 md (by omega), e7]
    · exact t14 k hk
  have hcl : (nI kn).toNatClampNeg = kn := nI_clamp (by omega)
  have hw1 : ¬ sp_X8_within (nI (c + 1)) 1 5 = 0 := by rw [w1]; decide
  have hw2 : ¬ sp_X8_within (nI p) 0 17 = 0 := by rw [w2]; decide
  by_cases hex : ∃ i, i < kn ∧ ord i = c + 1
  · have hz' : ¬ sp_X1_locksBy N2 n0 n1 n3 (nI (c + 1)) = 0 := fun q => hz.mp q hex
    have hn' : lp (bd_X9_notes_98 M a29) kn 1 = 0 := hnw.mpr hex
    simp only [sp_X1_addLock, sp_X9_notes, if_neg hw1, if_neg hw2, if_neg hz', if_neg hne, if_neg hne', t5, hcl, hn', h19, h20, hx.1, hx.2, e4, hplace, nI_clamp (show md < 2 ^ 31 by omega), if_true, reduceIte]
    refine ⟨tab', ord, kn, pl ||| 2 ^ p, htab, hsum, t3, e3, t5, t6, t7, ?_, hpl2, rfl, ?_, ?_, ?_, hbeh⟩
    · intro c' hc'
      rw [hmem c' hc', ← t8 c' hc']
      constructor
      · exact Or.inr
      · rintro (rfl | h)
        · exact hex
        · exact h
    · intro q hq
      rw [tb_or, hpl q hq, ← t11 q hq]
      simp only [Bool.or_eq_true, decide_eq_true_eq]
      exact Or.comm
    · show N2 5 + 1 = M 27 + 1
      rw [e5, t12]
    · show N2 6 = M 24 + 1
      rw [e6, t13]
  · have hz' : sp_X1_locksBy N2 n0 n1 n3 (nI (c + 1)) = 0 := hz.mpr hex
    have hn' : ¬ lp (bd_X9_notes_98 M a29) kn 1 = 0 := fun q => hex (hnw.mp q)
    have hk5 : kn < 5 := ord_room t3 (fun i hi => (t6 i hi).2.2) t7 hc hex
    have h5 : ¬ (5 : Int32) ≤ nI kn := by
      rw [show (5 : Int32) = nI 5 from rfl]
      exact nI_ge hk5 (by omega)
    simp only [sp_X1_addLock, sp_X9_notes, if_neg hw1, if_neg hw2, if_pos hz', if_neg hne, if_neg hne', t5, e3, hcl, if_neg hn', if_neg h5, h19, h20, hx.1, hx.2, nI_1, nI_clamp (show md < 2 ^ 31 by omega)]
    refine ⟨tab', nup ord kn (c + 1), kn + 1, pl ||| 2 ^ p, htab, hsum, by omega, rfl, rfl, ?_, ?_, ?_, hpl2, ?_, ?_, ?_, ?_, hbeh⟩
    · intro i hi
      simp only [upd, nup]
      split
      · exact ⟨rfl, rfl, by omega, by omega⟩
      · exact t6 i (by omega)
    · intro i j hi hj e
      simp only [nup] at e
      split at e
      · split at e
        · omega
        · exact absurd ⟨j, by omega, e.symm⟩ hex
      · split at e
        · exact absurd ⟨i, by omega, e⟩ hex
        · exact t7 i j (by omega) (by omega) e
    · intro c' hc'
      rw [hmem c' hc', ← t8 c' hc']
      constructor
      · rintro ⟨i, hi, e⟩
        simp only [nup] at e
        split at e
        · left; omega
        · exact Or.inr ⟨i, by omega, e⟩
      · rintro (rfl | ⟨i, hi, e⟩)
        · exact ⟨kn, by omega, by simp only [nup, if_true]⟩
        · refine ⟨i, by omega, ?_⟩
          simp only [nup, if_neg (show ¬ i = kn by omega)]
          exact e
    · show N2 4 ||| (1 <<< (nI p &&& 31)) = _
      rw [e4, hplace]
    · intro q hq
      rw [tb_or, hpl q hq, ← t11 q hq]
      simp only [Bool.or_eq_true, decide_eq_true_eq]
      exact Or.comm
    · show N2 5 + 1 = M 27 + 1
      rw [e5, t12]
    · show N2 6 = M 24 + 1
      rw [e6, t13]
