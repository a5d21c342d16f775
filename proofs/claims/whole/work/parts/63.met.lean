/-! PURE 24: what the walk has met. -/
/-- x is the least of Q, or none -/
def LD (Q : Nat → Prop) (x : Int32) : Prop := (x = (-9) ∧ ∀ k, ¬ Q k) ∨ ∃ k, k < 64 ∧ x = nI k ∧ Q k ∧ ∀ k', Q k' → k ≤ k'
/-- x is the greatest of Q, or 0 -/
def MX (Q : Nat → Prop) (x : Int32) : Prop := ∃ m, m < 2 ^ 31 ∧ x = nI m ∧ (∀ g, Q g → g ≤ m) ∧ (m = 0 ∨ Q m)
/-- x is the number of Q -/
def KC (Q : Nat → Prop) (x : Int32) : Prop := ∃ K : List Nat, K.Nodup ∧ (∀ c, c ∈ K ↔ Q c) ∧ x = nI K.length
theorem LD.uniq {Q Q' : Nat → Prop} {x y : Int32} (h : LD Q x) (h' : LD Q' y) (e : ∀ k, Q k ↔ Q' k) : x = y := by
  rcases h with ⟨h, n⟩ | ⟨k, hk, h, q, l⟩ <;> rcases h' with ⟨h', n'⟩ | ⟨k', hk', h', q', l'⟩
  · rw [h, h']
  · exact absurd ((e k').mpr q') (n k')
  · exact absurd ((e k).mp q) (n' k)
  · have a := l k' ((e k').mpr q')
    have b := l' k ((e k).mp q)
    rw [h, h', show k = k' by omega]
theorem MX.uniq {Q Q' : Nat → Prop} {x y : Int32} (h : MX Q x) (h' : MX Q' y) (e : ∀ k, Q k → ∃ k', k ≤ k' ∧ Q' k') (e' : ∀ k, Q' k → ∃ k', k ≤ k' ∧ Q k') : x = y := by
  obtain ⟨m, -, h, l, q⟩ := h
  obtain ⟨m', -, h', l', q'⟩ := h'
  have a : m ≤ m' := by
    rcases q with q | q
    · omega
    · obtain ⟨k, hk, hq⟩ := e m q
      have := l' k hq
      omega
  have b : m' ≤ m := by
    rcases q' with q' | q'
    · omega
    · obtain ⟨k, hk, hq⟩ := e' m' q'
      have := l k hq
      omega
  rw [h, h', show m = m' by omega]
theorem KC.uniq {Q Q' : Nat → Prop} {x y : Int32} (h : KC Q x) (h' : KC Q' y) (e : ∀ k, Q k ↔ Q' k) : x = y := by
  obtain ⟨K, n, q, h⟩ := h
  obtain ⟨K', n', q', h'⟩ := h'
  have a := nodup_le K K' n (fun c hc => (q' c).mpr ((e c).mp ((q c).mp hc)))
  have b := nodup_le K' K n' (fun c hc => (q c).mpr ((e c).mpr ((q' c).mp hc)))
  rw [h, h', show K.length = K'.length by omega]
theorem LD.step {Q Q' : Nat → Prop} {x : Int32} {d : Nat} (h : LD Q x) (hd : d < 64) (e : ∀ k, Q' k ↔ Q k ∨ k = d) : LD Q' (if x = (-9) then nI d else if x ≤ nI d then x else nI d) := by
  rcases h with ⟨h, n⟩ | ⟨k, hk, h, q, l⟩
  · rw [if_pos h]
    refine .inr ⟨d, hd, rfl, (e d).mpr (.inr rfl), fun k' hk' => ?_⟩
    rcases (e k').mp hk' with w | w
    · exact absurd w (n k')
    · omega
  · have hne : ¬ x = (-9) := by
      rw [h]
      intro w
      have := congrArg Int32.toInt w
      rw [nI_toInt (by omega)] at this
      have h9 : (-9 : Int32).toInt = -9 := by decide
      omega
    rw [if_neg hne, h]
    by_cases c : k ≤ d
    · rw [if_pos (by rw [Int32.le_iff_toInt_le, nI_toInt (by omega), nI_toInt (by omega)]; omega)]
      refine .inr ⟨k, hk, rfl, (e k).mpr (.inl q), fun k' hk' => ?_⟩
      rcases (e k').mp hk' with w | w
      · exact l k' w
      · omega
    · rw [if_neg (by rw [Int32.le_iff_toInt_le, nI_toInt (by omega), nI_toInt (by omega)]; omega)]
      refine .inr ⟨d, hd, rfl, (e d).mpr (.inr rfl), fun k' hk' => ?_⟩
      rcases (e k').mp hk' with w | w
      · have := l k' w
        omega
      · omega
theorem LD.same {Q Q' : Nat → Prop} {x : Int32} (h : LD Q x) (e : ∀ k, Q' k ↔ Q k) : LD Q' x := by
  rcases h with ⟨h, n⟩ | ⟨k, hk, h, q, l⟩
  · exact .inl ⟨h, fun k w => n k ((e k).mp w)⟩
  · exact .inr ⟨k, hk, h, (e k).mpr q, fun k' w => l k' ((e k').mp w)⟩
theorem MX.step {Q Q' : Nat → Prop} {x : Int32} {g : Nat} (h : MX Q x) (hg : g < 2 ^ 31) (e : ∀ k, Q' k ↔ Q k ∨ k = g) : MX Q' (if x < nI g then nI g else x) := by
  obtain ⟨m, hm, h, l, q⟩ := h
  rw [h]
  by_cases c : m < g
  · rw [if_pos (by rw [Int32.lt_iff_toInt_lt, nI_toInt hm, nI_toInt hg]; omega)]
    refine ⟨g, hg, rfl, fun k hk => ?_, .inr ((e g).mpr (.inr rfl))⟩
    rcases (e k).mp hk with w | w
    · have := l k w
      omega
    · omega
  · rw [if_neg (by rw [Int32.lt_iff_toInt_lt, nI_toInt hm, nI_toInt hg]; omega)]
    refine ⟨m, hm, rfl, fun k hk => ?_, ?_⟩
    · rcases (e k).mp hk with w | w
      · exact l k w
      · omega
    · rcases q with q | q
      · exact .inl q
      · exact .inr ((e m).mpr (.inl q))
def EG (e : (Nat → Int32) × Nat) : Prop := OK e.1 ∧ (∃ g, g < 2 ^ 31 ∧ e.1 16 = nI g) ∧ e.2 < 64
def dg (e : (Nat → Int32) × Nat) : Nat := (e.1 16).toNatClampNeg
def md (e : (Nat → Int32) × Nat) : Nat := (e.1 2).toNatClampNeg
theorem EG_dg {e : (Nat → Int32) × Nat} (h : EG e) : e.1 16 = nI (dg e) ∧ dg e < 2 ^ 31 := by
  obtain ⟨-, ⟨g, hg, q⟩, -⟩ := h
  have this : dg e = g := by
    show (e.1 16).toNatClampNeg = g
    rw [q, nI_clamp hg]
  rw [this]
  exact ⟨q, hg⟩
theorem EG_md {e : (Nat → Int32) × Nat} (h : EG e) : e.1 2 = nI (md e) ∧ md e ≤ 4 := by
  obtain ⟨⟨m, h, s, mu, mf, x0, x1, x2, un, cm, p, br, rs, v⟩, -, -⟩ := h
  have this : md e = m := by
    show (e.1 2).toNatClampNeg = m
    rw [v.1.1, nI_clamp (by have := v.2.1; omega)]
  rw [this]
  exact ⟨v.1.1, v.2.1⟩
def MS (l : List ((Nat → Int32) × Nat)) (s : (Nat → Int32) × (Nat → Int64) × (Nat → Int32)) : Prop :=
  (∃ (D : List Int64) (K : List Nat), TI s.2.1 D ∧ K.Nodup ∧ D.length = K.length ∧ (∀ x, x ∈ D ↔ ∃ e, e ∈ l ∧ sp_X2_stateNumber e.1 = x) ∧ (∀ c, c ∈ K ↔ ∃ e, e ∈ l ∧ nnk e.1 = c) ∧ s.1 5 = nI K.length) ∧ MX (fun g => ∃ e, e ∈ l ∧ dg e = g) (s.1 6) ∧ ∀ j, j < 5 → LD (fun k => ∃ e, e ∈ l ∧ md e = j ∧ e.2 = k) (s.2.2 j)
theorem ex_one {α : Type} {l : List α} {a : α} {p : α → Prop} : (∃ e, e ∈ l ++ [a] ∧ p e) ↔ (∃ e, e ∈ l ∧ p e) ∨ p a := by
  constructor
  · rintro ⟨e, h, q⟩
    rcases List.mem_append.mp h with h | h
    · exact .inl ⟨e, h, q⟩
    · rw [List.mem_singleton.mp h] at q
      exact .inr q
  · rintro (⟨e, h, q⟩ | q)
    · exact ⟨e, List.mem_append_left _ h, q⟩
    · exact ⟨a, List.mem_append_right _ (List.mem_singleton.mpr rfl), q⟩
set_option maxHeartbeats 1000000 in
theorem MS_step {l : List ((Nat → Int32) × Nat)} {s : (Nat → Int32) × (Nat → Int64) × (Nat → Int32)} {e : (Nat → Int32) × Nat} (h : MS l s) (hl : l.length < 2000) (he : EG e) (ha : ∀ e', e' ∈ l → EG e') : MS (l ++ [e]) (sp_X4_meet s.1 s.2.1 s.2.2 e.1 (nI e.2)) := by
  obtain ⟨Z, t, w⟩ := s
  obtain ⟨⟨D, K, hT, hK, hlen, hD, hKm, h5⟩, hM, hL⟩ := h
  dsimp only at hT h5 hM hL ⊢
  obtain ⟨ed, ld⟩ := EG_dg he
  obtain ⟨em, lm⟩ := EG_md he
  have hKl : K.length ≤ l.length := by
    have := nodup_le K (l.map (fun e => nnk e.1)) hK (fun c hc => by
      obtain ⟨q, hq, rfl⟩ := (hKm c).mp hc
      exact List.mem_map.mpr ⟨q, hq, rfl⟩)
    rw [List.length_map] at this
    exact this
  obtain ⟨A, eA⟩ : ∃ q, q = sp_X4_addState Z t (sp_X2_stateNumber e.1) := ⟨_, rfl⟩
  have hA6 : A.1 6 = Z 6 := by rw [eA]; exact addState_fr _ _ _ 6 (by omega)
  have hw : sp_X8_within (e.1 2) 0 4 = 1 := by rw [em]; exact wi_yes (lo := 0) (hi := 4) (by omega) lm (by omega)
  have hmeet : sp_X4_meet Z t w e.1 (nI e.2) = (upd A.1 6 (if Z 6 < nI (dg e) then nI (dg e) else Z 6), A.2, (if w (md e) = (-9) then (upd w (md e) (nI e.2)) else (if w (md e) ≤ nI e.2 then w else (upd w (md e) (nI e.2))))) := by
    simp only [sp_X4_meet, ← eA, hA6, ed, hw]
    rfl
  rw [hmeet]
  refine ⟨?_, ?_, ?_⟩
  · show ∃ (D : List Int64) (K : List Nat), TI A.2 D ∧ K.Nodup ∧ D.length = K.length ∧ (∀ x, x ∈ D ↔ ∃ e', e' ∈ l ++ [e] ∧ sp_X2_stateNumber e'.1 = x) ∧ (∀ c, c ∈ K ↔ ∃ e', e' ∈ l ++ [e] ∧ nnk e'.1 = c) ∧ A.1 5 = nI K.length
    by_cases c : sp_X2_stateNumber e.1 ∈ D
    · rw [add_old hT c] at eA
      subst eA
      obtain ⟨e', he', q⟩ := (hD _).mp c
      have q' := ((ha e' he').1.iff he.1).mp q
      refine ⟨D, K, hT, hK, hlen, fun x => ?_, fun x => ?_, h5⟩
      · rw [ex_one, hD]
        constructor
        · exact .inl
        · rintro (g | g)
          · exact g
          · exact ⟨e', he', q.trans g⟩
      · rw [ex_one, hKm]
        constructor
        · exact .inl
        · rintro (g | g)
          · exact g
          · exact ⟨e', he', q'.trans g⟩
    · obtain ⟨t', et, hT'⟩ := add_new (Z := Z) hT (by omega) c he.1.num
      rw [et] at eA
      subst eA
      have ck : ¬ nnk e.1 ∈ K := fun q => by
        obtain ⟨e', he', q⟩ := (hKm _).mp q
        exact c ((hD _).mpr ⟨e', he', ((ha e' he').1.iff he.1).mpr q⟩)
      refine ⟨sp_X2_stateNumber e.1 :: D, nnk e.1 :: K, hT', List.nodup_cons.mpr ⟨ck, hK⟩, by simp only [List.length_cons]; omega, fun x => ?_, fun x => ?_, ?_⟩
      · rw [ex_one, List.mem_cons, hD]
        constructor
        · rintro (g | g)
          · exact .inr g.symm
          · exact .inl g
        · rintro (g | g)
          · exact .inr g
          · exact .inl g.symm
      · rw [ex_one, List.mem_cons, hKm]
        constructor
        · rintro (g | g)
          · exact .inr g.symm
          · exact .inl g
        · rintro (g | g)
          · exact .inr g
          · exact .inl g.symm
      · show Z 5 + 1 = _
        rw [h5, nI_1, List.length_cons]
  · exact hM.step ld (fun g => by
      rw [ex_one]
      exact or_congr Iff.rfl eq_comm)
  · intro j hj
    by_cases c : md e = j
    · have hs := (hL j hj).step (d := e.2) he.2.2 (Q' := fun k => ∃ e', e' ∈ l ++ [e] ∧ md e' = j ∧ e'.2 = k) (fun k => by
        rw [ex_one]
        refine or_congr Iff.rfl ⟨fun g => g.2.symm, fun g => ⟨c, g.symm⟩⟩)
      show LD _ ((if w (md e) = (-9) then (upd w (md e) (nI e.2)) else (if w (md e) ≤ nI e.2 then w else (upd w (md e) (nI e.2)))) j)
      rw [ite_at, ite_at, c, show upd w j (nI e.2) j = nI e.2 from if_pos rfl]
      exact hs
    · show LD _ ((if w (md e) = (-9) then (upd w (md e) (nI e.2)) else (if w (md e) ≤ nI e.2 then w else (upd w (md e) (nI e.2)))) j)
      rw [ite_at, ite_at, upd_ne (fun q => c q.symm), ite_self, ite_self]
      exact (hL j hj).same (fun k => by
        rw [ex_one]
        exact ⟨fun g => g.elim id (fun g => absurd g.1 c), .inl⟩)
theorem MS_fold : ∀ (l l0 : List ((Nat → Int32) × Nat)) (s : (Nat → Int32) × (Nat → Int64) × (Nat → Int32)), MS l0 s → l0.length + l.length ≤ 2000 → (∀ e, e ∈ l0 ++ l → EG e) → MS (l0 ++ l) (mf l s) := by
  intro l
  induction l with
  | nil => intro l0 s h _ _; rw [List.append_nil]; exact h
  | cons e l ih =>
    intro l0 s h hn ha
    rw [List.length_cons] at hn
    rw [mf_cons, show l0 ++ e :: l = (l0 ++ [e]) ++ l by simp]
    refine ih (l0 ++ [e]) _ (MS_step h (by omega) (ha e (by simp)) (fun e' he' => ha e' (List.mem_append_left _ he'))) (by rw [List.length_append, List.length_singleton]; omega) (fun e' he' => ha e' (by simpa using he'))
