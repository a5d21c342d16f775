/-! PURE 25: the reference's list of STATES. -/
def CM (l : List ((Nat → Int32) × Nat)) (M : Nat → Int32) (a36 : Nat → Int64) (a37 : Nat → Int32) (N : Nat) (kf : Nat → Nat) : Prop := M 38 = nI N ∧ (∀ i j, i < N → j < N → kf i = kf j → i = j) ∧ (∀ i, i < N → a36 i = lN (kf i) ∧ kf i < 2 ^ 63) ∧ (∀ c, (∃ i, i < N ∧ kf i = c) ↔ ∃ e, e ∈ l ∧ nnk e.1 = c) ∧ ∀ i, i < N → LD (fun k => ∃ e, e ∈ l ∧ nnk e.1 = kf i ∧ e.2 = k) (a37 i)
set_option maxHeartbeats 1000000 in
theorem CM_step {l : List ((Nat → Int32) × Nat)} {M a12 : Nat → Int32} {L : Int64} {a36 : Nat → Int64} {a37 : Nat → Int32} {N : Nat} {kf : Nat → Nat} {e : (Nat → Int32) × Nat} (h : CM l M a36 a37 N kf) (hN : N < 2 ^ 31) (ok : OK e.1) (r : RP e.1 M a12) (hd : e.2 < 64) {R : (Nat → Int32) × (Nat → Int64) × (Nat → Int32)} (eR : R = sp_X9_comes M L a12 a36 a37 (nI e.2)) : ∃ N' kf', CM (l ++ [e]) R.1 R.2.1 R.2.2 N' kf' := by
  obtain ⟨h38, hinj, ha, hK, hL⟩ := h
  obtain ⟨hc, hlt, -, -⟩ := ok.code (L := L) r
  have hcl : (M 38).toNatClampNeg = N := by rw [h38]; exact nI_clamp hN
  have heq : ∀ i, i < N → (lg_cmp (a36 i) (sp_X9_stateOf M L a12) = 0 ↔ kf i = nnk e.1) := by
    intro i hi
    rw [lg_cmp_eq, hc, (ha i hi).1, lN_eq6 (ha i hi).2 hlt]
  by_cases c : ∃ i, i < N ∧ kf i = nnk e.1
  · obtain ⟨i, hi, ki⟩ := c
    have hne : ¬ a37 i = (-9) := by
      intro q
      obtain ⟨e', he', q'⟩ := (hK (kf i)).mp ⟨i, hi, rfl⟩
      rcases hL i hi with ⟨-, n⟩ | ⟨k, hk, w, -⟩
      · exact n _ ⟨e', he', q', rfl⟩
      · rw [w] at q
        have := congrArg Int32.toInt q
        rw [nI_toInt (by omega)] at this
        have h9 : (-9 : Int32).toInt = -9 := by decide
        omega
    obtain ⟨y, ey⟩ : ∃ q : Int32, q = if a37 i ≤ nI e.2 then a37 i else nI e.2 := ⟨_, rfl⟩
    have hf : bd_X9_comes_8 M L a12 a36 a37 (nI e.2) i () = .inr (M, a36, upd a37 i y) := by
      simp only [bd_X9_comes_8, if_pos ((heq i hi).mpr ki)]
      by_cases g : a37 i ≤ nI e.2
      · rw [if_pos g, ey, if_pos g]
      · rw [if_neg g, ey, if_neg g]
    have hg : ∀ j, j < i → bd_X9_comes_8 M L a12 a36 a37 (nI e.2) j () = .inl () := by
      intro j hj
      simp only [bd_X9_comes_8]
      rw [if_neg (fun q => by
        have := hinj j i (by omega) hi (((heq j (by omega)).mp q).trans ki.symm)
        omega)]
    have hR : R = (M, a36, upd a37 i y) := by
      rw [eR]
      simp only [sp_X9_comes, hcl]
      rw [lq_find i 0 N hi (by rw [Nat.zero_add]; exact hf) (fun j _ hj => .inl (hg j (by omega)))]
      rfl
    rw [hR]
    refine ⟨N, kf, h38, hinj, ha, fun x => ?_, fun j hj => ?_⟩
    · rw [ex_one, hK]
      constructor
      · exact .inl
      · rintro (g | g)
        · exact g
        · rw [← hK]
          exact ⟨i, hi, ki.trans g⟩
    · show LD _ (upd a37 i y j)
      by_cases g : j = i
      · subst g
        rw [show upd a37 j y j = y from if_pos rfl, ey]
        have hs := (hL j hj).step (d := e.2) hd (Q' := fun k => ∃ e', e' ∈ l ++ [e] ∧ nnk e'.1 = kf j ∧ e'.2 = k) (fun k => by
          rw [ex_one]
          exact or_congr Iff.rfl ⟨fun w => w.2.symm, fun w => ⟨ki.symm, w.symm⟩⟩)
        rw [if_neg hne] at hs
        exact hs
      · rw [upd_ne g]
        exact (hL j hj).same (fun k => by
          rw [ex_one]
          exact ⟨fun w => w.elim id (fun w => absurd (hinj j i hj hi (w.1.symm.trans ki.symm)) g), .inl⟩)
  · have hg : ∀ j, j < N → bd_X9_comes_8 M L a12 a36 a37 (nI e.2) j () = .inl () := by
      intro j hj
      simp only [bd_X9_comes_8]
      rw [if_neg (fun q => c ⟨j, hj, (heq j hj).mp q⟩)]
    have hR : R = (upd M 38 (M 38 + 1), vp_updL a36 N (sp_X9_stateOf M L a12), upd a37 N (nI e.2)) := by
      rw [eR]
      simp only [sp_X9_comes, hcl]
      rw [lq_none N 0 (fun j _ hj => hg j (by omega))]
      rfl
    rw [hR]
    refine ⟨N + 1, fun i => if i = N then nnk e.1 else kf i, ?_, fun i j hi hj w => ?_, fun i hi => ?_, fun x => ?_, fun i hi => ?_⟩
    · show M 38 + 1 = _
      rw [h38, nI_1]
    · dsimp only at w
      by_cases c1 : i = N <;> by_cases c2 : j = N
      · omega
      · rw [if_pos c1, if_neg c2] at w
        exact absurd ⟨j, by omega, w.symm⟩ c
      · rw [if_neg c1, if_pos c2] at w
        exact absurd ⟨i, by omega, w⟩ c
      · rw [if_neg c1, if_neg c2] at w
        exact hinj i j (by omega) (by omega) w
    · dsimp only [vp_updL]
      by_cases c1 : i = N
      · rw [if_pos c1, if_pos c1]
        exact ⟨hc, hlt⟩
      · rw [if_neg c1, if_neg c1]
        exact ha i (by omega)
    · rw [ex_one, ← hK]
      constructor
      · rintro ⟨i, hi, w⟩
        dsimp only at w
        by_cases c1 : i = N
        · rw [if_pos c1] at w; exact .inr w
        · rw [if_neg c1] at w; exact .inl ⟨i, by omega, w⟩
      · rintro (⟨i, hi, w⟩ | w)
        · exact ⟨i, by omega, by dsimp only; rw [if_neg (by omega)]; exact w⟩
        · exact ⟨N, by omega, by dsimp only; rw [if_pos rfl]; exact w⟩
    · dsimp only
      by_cases c1 : i = N
      · rw [c1, if_pos rfl, show upd a37 N (nI e.2) N = nI e.2 from if_pos rfl]
        refine .inr ⟨e.2, hd, rfl, ⟨e, List.mem_append_right _ (List.mem_singleton.mpr rfl), rfl, rfl⟩, ?_⟩
        rintro k' ⟨e', he', w, w'⟩
        rcases List.mem_append.mp he' with q | q
        · exact absurd ((hK _).mpr ⟨e', q, w⟩) c
        · rw [List.mem_singleton.mp q] at w'
          omega
      · rw [if_neg c1, upd_ne c1]
        exact (hL i (by omega)).same (fun k => by
          rw [ex_one]
          exact ⟨fun w => w.elim id (fun w => absurd ⟨i, by omega, w.1.symm⟩ c), .inl⟩)
/-- how many STATES the list holds -/
theorem CM.len {l l' : List ((Nat → Int32) × Nat)} {M : Nat → Int32} {a36 : Nat → Int64} {a37 : Nat → Int32} {N : Nat} {kf : Nat → Nat} (h : CM l M a36 a37 N kf) (hs : ∀ e, e ∈ l → ∃ e', e' ∈ l' ∧ nnk e'.1 = nnk e.1) : N ≤ l'.length := by
  obtain ⟨-, hinj, -, hK, -⟩ := h
  have := nodup_le ((List.range N).map kf) (l'.map (fun e => nnk e.1)) (by
    refine List.pairwise_map.mpr (List.Pairwise.imp_of_mem ?_ (List.nodup_range (n := N)))
    intro a b ha hb hne w
    exact hne (hinj a b (List.mem_range.mp ha) (List.mem_range.mp hb) w)) (fun c hc => by
    obtain ⟨i, hi, rfl⟩ := List.mem_map.mp hc
    obtain ⟨e, he, w⟩ := (hK (kf i)).mp ⟨i, List.mem_range.mp hi, rfl⟩
    obtain ⟨e', he', w'⟩ := hs e he
    exact List.mem_map.mpr ⟨e', he', w'.trans w⟩)
  rw [List.length_map, List.length_range, List.length_map] at this
  exact this
theorem CM.kc {l : List ((Nat → Int32) × Nat)} {M : Nat → Int32} {a36 : Nat → Int64} {a37 : Nat → Int32} {N : Nat} {kf : Nat → Nat} (h : CM l M a36 a37 N kf) : KC (fun c => ∃ e, e ∈ l ∧ nnk e.1 = c) (M 38) := by
  obtain ⟨h38, hinj, -, hK, -⟩ := h
  refine ⟨(List.range N).map kf, ?_, fun c => ?_, ?_⟩
  · refine List.pairwise_map.mpr (List.Pairwise.imp_of_mem ?_ (List.nodup_range (n := N)))
    intro a b ha hb hne w
    exact hne (hinj a b (List.mem_range.mp ha) (List.mem_range.mp hb) w)
  · dsimp only
    rw [← hK c, List.mem_map]
    exact ⟨fun ⟨i, hi, w⟩ => ⟨i, List.mem_range.mp hi, w⟩, fun ⟨i, hi, w⟩ => ⟨i, List.mem_range.mpr hi, w⟩⟩
  · rw [h38, List.length_map, List.length_range]
