/-! PURE 10: what is NOTED. -/
def sm (f : Nat → Nat) : Nat → Nat
  | 0 => 0
  | n + 1 => sm f n + f n
def nup (f : Nat → Nat) (k v : Nat) : Nat → Nat := fun j => if j = k then v else f j
theorem sm_le {f : Nat → Nat} : ∀ {n k : Nat}, k < n → f k ≤ sm f n := by
  intro n
  induction n with
  | zero => intro k h; omega
  | succ n ih =>
    intro k h
    simp only [sm]
    rcases (show k = n ∨ k < n by omega) with rfl | h
    · omega
    · have := ih h; omega
theorem sm_nup_ge {f : Nat → Nat} {k v : Nat} : ∀ {n : Nat}, n ≤ k → sm (nup f k v) n = sm f n := by
  intro n
  induction n with
  | zero => intro _; rfl
  | succ n ih =>
    intro h
    simp only [sm, nup, if_neg (show ¬ n = k by omega)]
    rw [← ih (by omega)]
theorem sm_nup {f : Nat → Nat} {k : Nat} : ∀ {n : Nat}, k < n → sm (nup f k (f k + 1)) n = sm f n + 1 := by
  intro n
  induction n with
  | zero => intro h; omega
  | succ n ih =>
    intro h
    rcases (show k = n ∨ k < n by omega) with rfl | h
    · simp only [sm]
      rw [sm_nup_ge (Nat.le_refl _)]
      simp only [nup, if_true]
      omega
    · simp only [sm]
      rw [ih h]
      simp only [nup, if_neg (show ¬ n = k by omega)]
      omega
theorem sm_zero {f : Nat → Nat} : ∀ {n : Nat}, sm f n = 0 ↔ ∀ k, k < n → f k = 0 := by
  intro n
  induction n with
  | zero => exact ⟨fun _ k h => by omega, fun _ => rfl⟩
  | succ n ih =>
    simp only [sm]
    constructor
    · intro h k hk
      rcases (show k = n ∨ k < n by omega) with rfl | h'
      · omega
      · exact ih.mp (by omega) k h'
    · intro h
      have h1 := ih.mpr (fun k hk => h k (by omega))
      have h2 := h n (by omega)
      omega
theorem sm_row {f : Nat → Nat} {a : Nat} : ∀ {n m : Nat}, a + n ≤ m → sm (fun p => f (a + p)) n ≤ sm f m := by
  intro n
  induction n with
  | zero => intro m _; exact Nat.zero_le _
  | succ n ih =>
    intro m h
    have h1 : sm f (a + n + 1) ≤ sm f m := by
      have : ∀ d, sm f (a + n + 1) ≤ sm f (a + n + 1 + d) := by
        intro d
        induction d with
        | zero => exact Nat.le_refl _
        | succ d ihd => exact Nat.le_trans ihd (Nat.le_add_right _ _)
      have := this (m - (a + n + 1))
      rw [show a + n + 1 + (m - (a + n + 1)) = m by omega] at this
      exact this
    have h2 := ih (m := a + n) (Nat.le_refl _)
    simp only [sm] at h1 ⊢
    omega
theorem lp_sum {f : Nat → Int32 → Int32} {g : Nat → Nat} : ∀ (n : Nat), (∀ i x, i < n → f i x = x + nI (g i)) → lp f n 0 = nI (sm g n) := by
  intro n
  induction n with
  | zero => intro _; rfl
  | succ n ih =>
    intro h
    show f n (lp f n 0) = _
    rw [ih (fun i x hi => h i x (by omega)), h n _ (by omega), nI_add]
    rfl
theorem nodup_le : ∀ (l l' : List Nat), l.Nodup → (∀ x ∈ l, x ∈ l') → l.length ≤ l'.length := by
  intro l
  induction l with
  | nil => intro l' _ _; exact Nat.zero_le _
  | cons a t ih =>
    intro l' hn hs
    have ha : a ∈ l' := hs a (List.mem_cons_self)
    obtain ⟨hat, htn⟩ := List.nodup_cons.mp hn
    have h1 := ih (l'.erase a) htn (fun x hx => by
      have hxa : x ≠ a := fun e => hat (e ▸ hx)
      exact (List.mem_erase_of_ne hxa).mpr (hs x (List.mem_cons_of_mem _ hx)))
    rw [List.length_erase_of_mem ha] at h1
    have h2 : 0 < l'.length := List.length_pos_of_mem ha
    simp only [List.length_cons]
    omega
theorem wi_yes {j lo hi : Nat} (h1 : lo ≤ j) (h2 : j ≤ hi) (h3 : hi < 2 ^ 31) : sp_X8_within (nI j) (nI lo) (nI hi) = 1 := by
  simp only [sp_X8_within, if_neg (nI_nlt h1 (by omega)), if_neg (nI_nlt h2 (by omega))]
theorem addTick_eq {N n0 n1 n2 : Nat → Int32} {md : Nat} {mb : Int32} (h : md ≤ 4) : sp_X1_addTick N n0 n1 n2 (nI md) mb = (upd N 6 ((N 6) + 1), upd n2 md ((n2 md) ||| (1 <<< (mb &&& 31)))) := by
  have hw : sp_X8_within (nI md) 0 4 = 1 := wi_yes (lo := 0) (hi := 4) (by omega) h (by omega)
  simp only [sp_X1_addTick, hw, nI_clamp (show md < 2 ^ 31 by omega)]
  rfl
theorem lock_ix {c p : Nat} (hc : c < 5) (hp : p < 18) : (((nI (c + 1) - 1) * 18) + nI p).toNatClampNeg = c * 18 + p ∧ ((18 * (nI (c + 1) - 1)) + nI p).toNatClampNeg = c * 18 + p := by
  have e : nI (c + 1) - 1 = nI c := nI_pred c
  constructor
  · rw [e, show (18 : Int32) = nI 18 from rfl, nI_mul, nI_add, nI_clamp (by omega)]
  · rw [e, n18, nI_clamp (by omega)]
    omega
theorem locksAt_eq {N n0 n1 n2 : Nat → Int32} {c p : Nat} (hc : c < 5) (hp : p < 18) : sp_X1_locksAt N n0 n1 n2 (nI (c + 1)) (nI p) = n0 (c * 18 + p) := by
  have h1 : sp_X8_within (nI (c + 1)) 1 5 = 1 := wi_yes (lo := 1) (hi := 5) (by omega) (by omega) (by omega)
  have h2 : sp_X8_within (nI p) 0 17 = 1 := wi_yes (lo := 0) (hi := 17) (by omega) (by omega) (by omega)
  simp only [sp_X1_locksAt, h1, h2, (lock_ix hc hp).1]
  rfl
theorem locksBy_eq {N n0 n1 n2 : Nat → Int32} {tab : Nat → Nat} {c : Nat} (hc : c < 5) (ht : ∀ k, k < 90 → n0 k = nI (tab k)) : sp_X1_locksBy N n0 n1 n2 (nI (c + 1)) = nI (sm (fun p => tab (c * 18 + p)) 18) := by
  show lp (bd_X1_locksBy_4 N n0 n1 n2 (nI (c + 1))) 18 0 = _
  refine lp_sum 18 (fun i x hi => ?_)
  simp only [bd_X1_locksBy_4, locksAt_eq hc hi, ht (c * 18 + i) (by omega)]
theorem isNew_eq {M a29 : Nat → Int32} : ∀ (n : Nat), lp (bd_X9_notes_98 M a29) n 1 = 0 ∨ lp (bd_X9_notes_98 M a29) n 1 = 1 := by
  intro n
  induction n with
  | zero => exact Or.inr rfl
  | succ n ih =>
    show bd_X9_notes_98 M a29 n _ = 0 ∨ bd_X9_notes_98 M a29 n _ = 1
    simp only [bd_X9_notes_98]
    (repeat' split) <;> simp
theorem isNew_iff {M a29 : Nat → Int32} : ∀ (n : Nat), lp (bd_X9_notes_98 M a29) n 1 = 0 ↔ ∃ i, i < n ∧ a29 i = M 19 := by
  intro n
  induction n with
  | zero => exact ⟨fun h => absurd (show (1 : Int32) = 0 from h) (by decide), fun ⟨i, hi, _⟩ => by omega⟩
  | succ n ih =>
    show bd_X9_notes_98 M a29 n (lp (bd_X9_notes_98 M a29) n 1) = 0 ↔ _
    simp only [bd_X9_notes_98]
    by_cases h : lp (bd_X9_notes_98 M a29) n 1 = 0
    · obtain ⟨i, hi, e⟩ := ih.mp h
      simp only [h, if_true]
      exact ⟨fun _ => ⟨i, by omega, e⟩, fun _ => trivial⟩
    · simp only [if_neg h]
      by_cases e : a29 n = M 19
      · simp only [e, if_true]
        exact ⟨fun _ => ⟨n, by omega, e⟩, fun _ => trivial⟩
      · simp only [if_neg e]
        constructor
        · intro q; exact absurd q (by decide)
        · rintro ⟨i, hi, q⟩
          rcases (show i = n ∨ i < n by omega) with rfl | hi'
          · exact absurd q e
          · exact absurd (ih.mpr ⟨i, hi', q⟩) h
