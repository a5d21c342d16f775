/-! PURE 21: the table of STATES met. -/
theorem nodup_leG {α : Type} [DecidableEq α] : ∀ (l l' : List α), l.Nodup → (∀ x ∈ l, x ∈ l') → l.length ≤ l'.length := by
  intro l
  induction l with
  | nil => intro l' _ _; exact Nat.zero_le _
  | cons a t ih =>
    intro l' hn hs
    have ha : a ∈ l' := hs a (List.mem_cons_self)
    obtain ⟨hat, htn⟩ := List.nodup_cons.mp hn
    have h1 := ih (l'.erase a) htn (fun x hx => by
      have hxa : x ≠ a := fun e => hat (e ▸ hx)
      exact (List.mem_erase_of_ne hxa).mpr (hs x (List.mem_cons_of_mem _ hx)))
    rw [List.length_erase_of_mem ha] at h1
    have h2 : 0 < l'.length := List.length_pos_of_mem ha
    simp only [List.length_cons]
    omega
theorem least_of {p : Nat → Prop} : ∀ {k : Nat}, p k → ∃ j, j ≤ k ∧ p j ∧ ∀ i, i < j → ¬ p i := by
  intro k
  induction k using Nat.strongRecOn with
  | _ k ih =>
    intro h
    by_cases c : ∃ i, i < k ∧ p i
    · obtain ⟨i, hi, hp⟩ := c
      obtain ⟨j, hj, hq⟩ := ih i hi hp
      exact ⟨j, by omega, hq⟩
    · exact ⟨k, Nat.le_refl _, h, fun i hi hp => c ⟨i, hi, hp⟩⟩
theorem lq_find {β : Type} {f : Nat → Unit → Unit ⊕ β} {b : β} : ∀ (m i n : Nat), m < n → f (i + m) () = .inr b → (∀ j, i ≤ j → j < i + m → f j () = .inl () ∨ f j () = .inr b) → lq f n i () = .inr b := by
  intro m
  induction m with
  | zero =>
    intro i n hn h _
    obtain ⟨n', rfl⟩ : ∃ n', n = n' + 1 := ⟨n - 1, by omega⟩
    exact lq_inr h
  | succ m ih =>
    intro i n hn h ha
    obtain ⟨n', rfl⟩ : ∃ n', n = n' + 1 := ⟨n - 1, by omega⟩
    rcases ha i (Nat.le_refl _) (by omega) with e | e
    · rw [lq_inl e]
      exact ih (i + 1) n' (by omega) (by rw [← h]; congr 1; omega) (fun j h1 h2 => ha j (by omega) (by omega))
    · exact lq_inr e
theorem lq_none {β : Type} {f : Nat → Unit → Unit ⊕ β} : ∀ (n i : Nat), (∀ j, i ≤ j → j < i + n → f j () = .inl ()) → lq f n i () = .inl () := by
  intro n
  induction n with
  | zero => intro i _; rfl
  | succ n ih =>
    intro i ha
    rw [lq_inl (ha i (Nat.le_refl _) (by omega))]
    exact ih (i + 1) (fun j h1 h2 => ha j (by omega) (by omega))
theorem slot_eq (z : Int32) (i : Nat) : ((z + nI i) &&& 2047).toNatClampNeg = (z.toBitVec.toNat + i) % 2048 := by
  have hz : z = nI z.toBitVec.toNat := by
    apply Int32.toBitVec_inj.mp
    simp only [nI, Int32.toBitVec_ofNat', BitVec.ofNat_toNat, BitVec.setWidth_eq]
  obtain ⟨q, hq⟩ : ∃ q, q = z.toBitVec.toNat := ⟨_, rfl⟩
  rw [← hq] at hz ⊢
  rw [hz, nI_add, show (2047 : Int32) = nI 2047 from rfl, ofn_and, show (q + i) &&& 2047 = (q + i) % 2048 from Nat.and_two_pow_sub_one_eq_mod (q + i) 11]
  exact nI_clamp (by omega)
/-- where a number's place is -/
def plc (x : Int64) : Nat := (((((x * (-7046029254386353131)).toUInt64 >>> ((53 : Int32).toInt64.toUInt64 &&& Int64.toUInt64 63)).toInt64) : Int64).toInt32).toBitVec.toNat
def TI (t : Nat → Int64) (D : List Int64) : Prop := D.Nodup ∧ (¬ (0 : Int64) ∈ D) ∧ (∀ s, s < 2048 → t s ≠ 0 → t s ∈ D) ∧ (∀ s s', s < 2048 → s' < 2048 → t s ≠ 0 → t s = t s' → s = s') ∧ (∀ x, x ∈ D → ∃ k, k < 2048 ∧ t ((plc x + k) % 2048) = x ∧ ∀ k', k' < k → t ((plc x + k') % 2048) ≠ 0)
theorem TI_zero : TI (fun _ => 0) [] := ⟨List.nodup_nil, List.not_mem_nil, fun s _ h => absurd rfl h, fun s s' _ _ h _ => absurd rfl h, fun x h => absurd h List.not_mem_nil⟩
theorem nodup_map {f : Nat → Int64} : ∀ (n : Nat), (∀ s s', s < n → s' < n → f s = f s' → s = s') → ((List.range n).map f).Nodup := by
  intro n h
  refine List.pairwise_map.mpr ?_
  refine List.Pairwise.imp_of_mem ?_ (List.nodup_range (n := n))
  intro a b ha hb hne e
  exact hne (h a b (List.mem_range.mp ha) (List.mem_range.mp hb) e)
theorem TI_room {t : Nat → Int64} {D : List Int64} (h : TI t D) (hl : D.length < 2048) (p : Nat) : ∃ k, k < 2048 ∧ t ((p + k) % 2048) = 0 := by
  obtain ⟨-, -, ha, hd, -⟩ := h
  by_cases c : ∃ s, s < 2048 ∧ t s = 0
  · obtain ⟨s, hs, e⟩ := c
    refine ⟨(s + 2048 - p % 2048) % 2048, by omega, ?_⟩
    rw [show (p + (s + 2048 - p % 2048) % 2048) % 2048 = s by omega]
    exact e
  · exfalso
    have hn : ∀ s, s < 2048 → t s ≠ 0 := fun s hs e => c ⟨s, hs, e⟩
    have h1 := nodup_leG ((List.range 2048).map t) D (nodup_map 2048 (fun s s' h1 h2 e => hd s s' h1 h2 (hn s h1) e)) (fun x hx => by
      obtain ⟨s, hs, rfl⟩ := List.mem_map.mp hx
      have := List.mem_range.mp hs
      exact ha s this (hn s this))
    rw [List.length_map, List.length_range] at h1
    omega
theorem add_old {Z : Nat → Int32} {t : Nat → Int64} {D : List Int64} {x : Int64} (h : TI t D) (hx : x ∈ D) : sp_X4_addState Z t x = (Z, t) := by
  obtain ⟨-, h0, -, -, hb⟩ := h
  obtain ⟨k, hk, e, hn⟩ := hb x hx
  have hf : ∀ j, t ((plc x + j) % 2048) = x → bd_X4_addState_13 Z t x (((((x * (-7046029254386353131)).toUInt64 >>> ((53 : Int32).toInt64.toUInt64 &&& Int64.toUInt64 63)).toInt64) : Int64).toInt32) j () = .inr (Z, t) := by
    intro j hj
    simp only [bd_X4_addState_13, slot_eq, lg_cmp_eq]
    exact if_pos hj
  have hg : ∀ j, t ((plc x + j) % 2048) ≠ 0 → ¬ t ((plc x + j) % 2048) = x → bd_X4_addState_13 Z t x (((((x * (-7046029254386353131)).toUInt64 >>> ((53 : Int32).toInt64.toUInt64 &&& Int64.toUInt64 63)).toInt64) : Int64).toInt32) j () = .inl () := by
    intro j hj hj'
    simp only [bd_X4_addState_13, slot_eq, lg_cmp_eq]
    exact (if_neg hj').trans (if_neg hj)
  simp only [sp_X4_addState]
  rw [lq_find k 0 2048 hk (by rw [Nat.zero_add]; exact hf k e) (fun j _ hj => by
    by_cases c : t ((plc x + j) % 2048) = x
    · exact .inr (hf j c)
    · exact .inl (hg j (hn j (by omega)) c))]
  rfl
theorem add_new {Z : Nat → Int32} {t : Nat → Int64} {D : List Int64} {x : Int64} (h : TI t D) (hl : D.length < 2048) (hx : ¬ x ∈ D) (hx0 : ¬ x = 0) : ∃ t', sp_X4_addState Z t x = (upd Z 5 (Z 5 + 1), t') ∧ TI t' (x :: D) := by
  obtain ⟨k0, hk0, e0⟩ := TI_room h hl (plc x)
  obtain ⟨k, hk, e, hn⟩ := least_of (p := fun k => t ((plc x + k) % 2048) = 0) e0
  obtain ⟨hD, h0, ha, hd, hb⟩ := h
  obtain ⟨s, es⟩ : ∃ s, s = (plc x + k) % 2048 := ⟨_, rfl⟩
  have hs : s < 2048 := by omega
  refine ⟨vp_updL t s x, ?_, ?_⟩
  · have hf : bd_X4_addState_13 Z t x (((((x * (-7046029254386353131)).toUInt64 >>> ((53 : Int32).toInt64.toUInt64 &&& Int64.toUInt64 63)).toInt64) : Int64).toInt32) k () = .inr (upd Z 5 (Z 5 + 1), vp_updL t s x) := by
      simp only [bd_X4_addState_13, slot_eq, lg_cmp_eq]
      rw [show (((((x * (-7046029254386353131)).toUInt64 >>> ((53 : Int32).toInt64.toUInt64 &&& Int64.toUInt64 63)).toInt64) : Int64).toInt32).toBitVec.toNat = plc x from rfl, ← es]
      rw [← es] at e
      rw [if_neg (by rw [e]; exact fun q => hx0 q.symm), if_pos e]
    have hg : ∀ j, j < k → bd_X4_addState_13 Z t x (((((x * (-7046029254386353131)).toUInt64 >>> ((53 : Int32).toInt64.toUInt64 &&& Int64.toUInt64 63)).toInt64) : Int64).toInt32) j () = .inl () := by
      intro j hj
      simp only [bd_X4_addState_13, slot_eq, lg_cmp_eq]
      have hj' : ¬ t ((plc x + j) % 2048) = x := fun q => by
        have := ha ((plc x + j) % 2048) (by omega) (hn j hj)
        rw [q] at this
        exact hx this
      exact (if_neg hj').trans (if_neg (hn j hj))
    simp only [sp_X4_addState]
    rw [lq_find k 0 2048 (by omega) (by rw [Nat.zero_add]; exact hf) (fun j _ hj => .inl (hg j (by omega)))]
    rfl
  · have u1 : vp_updL t s x s = x := if_pos rfl
    have u2 : ∀ j, j ≠ s → vp_updL t s x j = t j := fun j hj => if_neg hj
    have hts : t s = 0 := by rw [es]; exact e
    refine ⟨List.nodup_cons.mpr ⟨hx, hD⟩, fun q => ?_, fun j hj hne => ?_, fun j j' hj hj' hne ee => ?_, fun y hy => ?_⟩
    · rcases List.mem_cons.mp q with q | q
      · exact hx0 q.symm
      · exact h0 q
    · by_cases c : j = s
      · rw [c, u1]; exact List.mem_cons_self
      · rw [u2 j c] at hne ⊢
        exact List.mem_cons_of_mem _ (ha j hj hne)
    · by_cases c : j = s <;> by_cases c' : j' = s
      · omega
      · rw [c, u1, u2 j' c'] at ee
        exact absurd (ee ▸ ha j' hj' (by rw [← ee]; exact hx0)) hx
      · rw [c', u1, u2 j c] at ee
        exact absurd (ee ▸ ha j hj (by rw [ee]; exact hx0)) hx
      · rw [u2 j c, u2 j' c'] at ee
        rw [u2 j c] at hne
        exact hd j j' hj hj' hne ee
    · rcases List.mem_cons.mp hy with rfl | hy
      · refine ⟨k, by omega, ?_, fun k' hk' => ?_⟩
        · rw [← es]; exact u1
        · by_cases c : (plc y + k') % 2048 = s
          · rw [c, u1]; exact hx0
          · rw [u2 _ c]; exact hn k' hk'
      · obtain ⟨q, hq, eq, hqn⟩ := hb y hy
        have hy0 : y ≠ 0 := fun w => h0 (w ▸ hy)
        refine ⟨q, hq, ?_, fun k' hk' => ?_⟩
        · rw [u2 _ (fun w => hy0 (by rw [← eq, w, hts]))]; exact eq
        · by_cases c : (plc y + k') % 2048 = s
          · rw [c, u1]; exact hx0
          · rw [u2 _ c]; exact hqn k' hk'
