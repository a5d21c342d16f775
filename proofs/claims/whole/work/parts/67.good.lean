/-! PURE 28: every press of the walk is a good one. -/
theorem slides_21 (M a6 : Nat → Int32) (L : Int64) (set mu : Int32) : sp_X9_slides M L a6 set mu 21 = 0 ∨ sp_X9_slides M L a6 set mu 21 = 1 := by
  obtain ⟨z, ez⟩ : ∃ z : Int32, z = (if (M 4) ≤ (M 15) then 0 else (if ((set >>> (4 &&& 31)) &&& 3) = 3 then 0 else (if mu = 0 then 1 else 0))) := ⟨_, rfl⟩
  have hz : z = 0 ∨ z = 1 := by
    rw [ez]
    (repeat' split) <;> first | exact .inl rfl | exact .inr rfl
  have h : sp_X9_slides M L a6 set mu 21 = 0 ∨ sp_X9_slides M L a6 set mu 21 = z := by
    simp only [sp_X9_slides, ← ez, ite_at, show ∀ (f : Nat → Int32) (x y w : Int32), upd (upd (upd f 7 x) 16 y) 22 w 21 = f 21 from fun _ _ _ _ => rfl, show ∀ (f : Nat → Int32) (x y : Int32), upd (upd f 21 x) 22 y 21 = x from fun _ _ _ => rfl, ite_self]
    (repeat' split) <;> first | exact .inl rfl | exact .inr rfl
  rcases h with h | h
  · exact .inl h
  · rw [h]; exact hz
theorem tick_21 (M a5 a6 a12 : Nat → Int32) (L : Int64) (set : Int32) : (sp_X9_tickBy M L a5 a6 a12 set).1 21 = 0 ∨ (sp_X9_tickBy M L a5 a6 a12 set).1 21 = 1 := by
  rw [tick_unf rfl rfl rfl rfl rfl rfl rfl rfl rfl rfl rfl rfl rfl rfl rfl rfl]
  exact slides_21 _ _ _ _ _
/-- some state of the reference that stands for P -/
def mkM (P M : Nat → Int32) : Nat → Int32 := fun k => if k = 7 then P 2 else if k = 8 then P 3 else if k = 9 then P 4 else if k = 10 then P 5 else if k = 11 then P 6 else if k = 13 then P 10 else if k = 14 then P 11 else if k = 15 then P 12 else if k = 16 then P 13 else if k = 17 then P 14 else if k = 18 then (if P 2 = 0 then P 15 else (-9)) else M k
theorem mkM_RP (P M : Nat → Int32) : RP P (mkM P M) (fun k => P (7 + k)) := ⟨rfl, rfl, rfl, rfl, rfl, rfl, rfl, rfl, rfl, rfl, rfl, rfl, rfl, rfl⟩
theorem mkM_RS {S M : Nat → Int32} (P : Nat → Int32) (h : RS S M) : RS S (mkM P M) := ⟨h.1, h.2.1, h.2.2.1, h.2.2.2.1, h.2.2.2.2⟩
theorem adv_good {P S F M a5 a6 : Nat → Int32} {t g : Nat} (bS : BS S) (rS : RS S M) (rF : RF F a5) (rV : RV F a6) (bP : BP P S) (ht : t < 512) (hg : P 16 = nI g) : BP (sp_X2_advance P S F (nI t)) S ∧ ∃ g', g ≤ g' ∧ g' ≤ g + 1 ∧ sp_X2_advance P S F (nI t) 16 = nI g' := by
  obtain ⟨-, b, d, -⟩ := tick_sim (L := 0) bS (mkM_RS P rS) rF rV (mkM_RP P M) bP ht rfl rfl rfl
  refine ⟨b, ?_⟩
  rcases tick_21 (mkM P M) a5 a6 (fun k => P (7 + k)) 0 (nI t) with q | q
  · rw [q, hg, Int32.add_zero] at d
    exact ⟨g, by omega, by omega, d⟩
  · rw [q, hg, nI_1] at d
    exact ⟨g + 1, by omega, by omega, d⟩
theorem qn_good {c P S F M a5 a6 : Nat → Int32} {f : Nat → Nat} (bS : BS S) (rS : RS S M) (rF : RF F a5) (rV : RV F a6) (bP : BP P S) (h0 : P 16 = 0) (hc : ∀ k, k < 4 → ∃ q, q < 512 ∧ c k = nI q) : ∀ j, (∀ i, i < j → f i < 4) → BP (qn c S F P f j) S ∧ ∃ g, g ≤ j ∧ qn c S F P f j 16 = nI g := by
  intro j
  induction j with
  | zero => intro _; exact ⟨bP, 0, Nat.le_refl _, h0⟩
  | succ j ih =>
    intro hf
    obtain ⟨b, g, hg, e⟩ := ih (fun i hi => hf i (by omega))
    obtain ⟨q, hq, eq⟩ := hc (f j) (hf j (by omega))
    obtain ⟨b', g', -, h2, e'⟩ := adv_good bS rS rF rV b hq e
    refine ⟨?_, g', by omega, ?_⟩
    · show BP (sp_X2_advance (qn c S F P f j) S F (c (f j))) S
      rw [eq]; exact b'
    · show sp_X2_advance (qn c S F P f j) S F (c (f j)) 16 = _
      rw [eq]; exact e'
/-- dangers only grow along a path -/
theorem qn_grow {c P S F M a5 a6 : Nat → Int32} {f : Nat → Nat} (bS : BS S) (rS : RS S M) (rF : RF F a5) (rV : RV F a6) (bP : BP P S) (h0 : P 16 = 0) (hc : ∀ k, k < 4 → ∃ q, q < 512 ∧ c k = nI q) : ∀ m j, j + m < 64 → (∀ i, i < j + m → f i < 4) → (qn c S F P f j 16).toNatClampNeg ≤ (qn c S F P f (j + m) 16).toNatClampNeg := by
  intro m
  induction m with
  | zero => intro j _ _; exact Nat.le_refl _
  | succ m ih =>
    intro j hjm hf
    have h1 := ih j (by omega) (fun i hi => hf i (by omega))
    obtain ⟨b, g, hg, e⟩ := qn_good bS rS rF rV bP h0 hc (j + m) (fun i hi => hf i (by omega))
    obtain ⟨q, hq, eq⟩ := hc (f (j + m)) (hf (j + m) (by omega))
    obtain ⟨b', g', l1, l2, e'⟩ := adv_good bS rS rF rV b hq e
    have h2 : qn c S F P f (j + (m + 1)) 16 = nI g' := by
      show sp_X2_advance (qn c S F P f (j + m)) S F (c (f (j + m))) 16 = _
      rw [eq]; exact e'
    rw [h2]
    rw [e] at h1
    rw [nI_clamp (by omega)] at h1 ⊢
    omega
