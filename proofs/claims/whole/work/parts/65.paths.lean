/-! PURE 26: the paths of the walk. -/
def qn (c S F P : Nat → Int32) (f : Nat → Nat) : Nat → (Nat → Int32)
  | 0 => P
  | j + 1 => sp_X2_advance (qn c S F P f j) S F (c (f j))
theorem qn_shift (c S F P : Nat → Int32) (f : Nat → Nat) : ∀ j, qn c S F P f (j + 1) = qn c S F (sp_X2_advance P S F (c (f 0))) (fun i => f (i + 1)) j := by
  intro j
  induction j with
  | zero => rfl
  | succ j ih => show sp_X2_advance (qn c S F P f (j + 1)) S F (c (f (j + 1))) = sp_X2_advance _ S F (c (f (j + 1))); rw [ih]
theorem qn_congr {c S F P : Nat → Int32} {f g : Nat → Nat} : ∀ j, (∀ i, i < j → c (f i) = c (g i)) → qn c S F P f j = qn c S F P g j := by
  intro j
  induction j with
  | zero => intro _; rfl
  | succ j ih =>
    intro h
    show sp_X2_advance _ S F _ = sp_X2_advance _ S F _
    rw [ih (fun i hi => h i (by omega)), h j (by omega)]
theorem ev_mem {c S F : Nat → Int32} {cnt : Nat} : ∀ (r : Nat) (P : Nat → Int32) (d : Nat) (e : (Nat → Int32) × Nat), e ∈ ev c S F cnt r P d ↔ ∃ (f : Nat → Nat) (j : Nat), j ≤ r ∧ (∀ i, i < j → f i < cnt) ∧ e = (qn c S F P f j, d + j) := by
  intro r
  induction r with
  | zero =>
    intro P d e
    simp only [ev, List.mem_singleton]
    constructor
    · intro h
      exact ⟨fun _ => 0, 0, Nat.le_refl _, fun i hi => by omega, h⟩
    · rintro ⟨f, j, hj, -, h⟩
      obtain rfl : j = 0 := by omega
      exact h
  | succ r ih =>
    intro P d e
    simp only [ev, List.mem_cons, List.mem_flatMap, List.mem_range]
    constructor
    · rintro (h | ⟨k, hk, h⟩)
      · exact ⟨fun _ => 0, 0, by omega, fun i hi => by omega, h⟩
      · obtain ⟨f, j, hj, hf, h⟩ := (ih _ _ _).mp h
        refine ⟨fun i => if i = 0 then k else f (i - 1), j + 1, by omega, fun i hi => ?_, ?_⟩
        · by_cases q : i = 0
          · dsimp only; rw [if_pos q]; exact hk
          · dsimp only; rw [if_neg q]; exact hf (i - 1) (by omega)
        · rw [h, qn_shift]
          refine Prod.ext ?_ (by show d + 1 + j = d + (j + 1); omega)
          show qn c S F (sp_X2_advance P S F (c k)) f j = qn c S F (sp_X2_advance P S F (c k)) _ j
          exact qn_congr j (fun i _ => by show c (f i) = c (if i + 1 = 0 then k else f (i + 1 - 1)); rw [if_neg (by omega), Nat.add_sub_cancel])
    · rintro ⟨f, j, hj, hf, h⟩
      cases j with
      | zero => exact .inl h
      | succ j =>
        refine .inr ⟨f 0, hf 0 (by omega), (ih _ _ _).mpr ⟨fun i => f (i + 1), j, by omega, fun i hi => hf (i + 1) (by omega), ?_⟩⟩
        rw [h, qn_shift]
        exact Prod.ext rfl (by show d + (j + 1) = d + 1 + j; omega)
theorem flat_len {α : Type} {f : Nat → List α} {m : Nat} (h : ∀ k, (f k).length ≤ m) : ∀ n, ((List.range n).flatMap f).length ≤ n * m := by
  intro n
  induction n with
  | zero => exact Nat.zero_le _
  | succ n ih =>
    rw [List.range_succ, List.flatMap_append, List.flatMap_singleton, List.length_append, Nat.succ_mul]
    have := h n
    omega
theorem ev_len {c S F : Nat → Int32} {cnt : Nat} (hc : cnt ≤ 4) : ∀ (r : Nat) (P : Nat → Int32) (d : Nat), 3 * (ev c S F cnt r P d).length + 1 ≤ 4 ^ (r + 1) := by
  intro r
  induction r with
  | zero => intro P d; simp [ev]
  | succ r ih =>
    intro P d
    obtain ⟨q, hq⟩ : ∃ q, q = 4 ^ (r + 1) := ⟨_, rfl⟩
    have h1 := flat_len (f := fun k => ev c S F cnt r (sp_X2_advance P S F (c k)) (d + 1)) (m := (q - 1) / 3) (fun k => by
      have := ih (sp_X2_advance P S F (c k)) (d + 1)
      omega) cnt
    simp only [ev, List.length_cons]
    rw [Nat.pow_succ, ← hq]
    have h2 : cnt * ((q - 1) / 3) ≤ 4 * ((q - 1) / 3) := Nat.mul_le_mul_right _ hc
    have h3 : 0 < q := by rw [hq]; exact Nat.pos_of_ne_zero (by simp)
    omega
/-- a row's digit -/
def dgt (i j : Nat) : Nat := i / 4 ^ j % 4
theorem dgt_tab : ∀ i : Fin 1024, ∀ j : Fin 5, (((nI i.val) >>> ((2 * (nI j.val)) &&& 31)) &&& 3) = nI (dgt i.val j.val) := by decide +kernel
/-- digits make a row -/
theorem row_of : ∀ (n : Nat) (f : Nat → Nat), (∀ i, i < n → f i < 4) → ∃ r, r < 4 ^ n ∧ ∀ j, j < n → dgt r j = f j := by
  intro n
  induction n with
  | zero => intro f _; exact ⟨0, by simp, fun j hj => by omega⟩
  | succ n ih =>
    intro f hf
    obtain ⟨r, hr, h⟩ := ih f (fun i hi => hf i (by omega))
    have hn := hf n (by omega)
    have hp : 0 < 4 ^ n := Nat.pos_of_ne_zero (by simp)
    refine ⟨f n * 4 ^ n + r, ?_, fun j hj => ?_⟩
    · rw [Nat.pow_succ]
      have : f n * 4 ^ n ≤ 3 * 4 ^ n := Nat.mul_le_mul_right _ (by omega)
      omega
    · by_cases q : j = n
      · subst q
        simp only [dgt]
        rw [Nat.mul_comm, Nat.mul_add_div hp, Nat.div_eq_of_lt hr]
        omega
      · rw [← h j (by omega)]
        simp only [dgt]
        have e : 4 ^ n = 4 ^ j * (4 * 4 ^ (n - j - 1)) := by
          rw [← Nat.pow_succ', ← Nat.pow_add]
          congr 1
          omega
        rw [e, show f n * (4 ^ j * (4 * 4 ^ (n - j - 1))) + r = 4 ^ j * (4 * (4 ^ (n - j - 1) * f n)) + r by
          congr 1
          rw [Nat.mul_comm, Nat.mul_assoc, Nat.mul_assoc], Nat.mul_add_div (Nat.pos_of_ne_zero (by simp))]
        omega
