/-! PURE 17: the sums of all TRIALS. -/
/-- a TRIAL as the sums take it: dangers, tick of lock, rounds -/
def tw (S K k : Nat → Int32) (inp v fr : Nat) : Int32 × Int32 × Int32 :=
  ((sp_X6_run (fun _ => 0) (fun _ => 0) (fun _ => 0) S K k (nI inp) (nI v) (nI fr)).2.2 16, (sp_X6_run (fun _ => 0) (fun _ => 0) (fun _ => 0) S K k (nI inp) (nI v) (nI fr)).1 2, (sp_X6_run (fun _ => 0) (fun _ => 0) (fun _ => 0) S K k (nI inp) (nI v) (nI fr)).2.2 17)
theorem tw_skip {S K k V G B : Nat → Int32} {cn inp v fr fr' : Nat} (sk : SK K k cn) (hinp : inp < 9) (hv : v < 2) (h1 : fr ≤ fr') (h2 : fr' ≤ cn) (hs : ∀ j, fr ≤ j → j < fr' → sp_X8_bit (k j) (nI inp) = nI v) : ((sp_X6_run V G B S K k (nI inp) (nI v) (nI fr)).2.2 16, (sp_X6_run V G B S K k (nI inp) (nI v) (nI fr)).1 2, (sp_X6_run V G B S K k (nI inp) (nI v) (nI fr)).2.2 17) = tw S K k inp v fr' := by
  obtain ⟨e2, -, eP⟩ := run_skip (S := S) (V := V) (G := G) (B := B) (V' := fun _ => 0) (G' := fun _ => 0) (B' := fun _ => 0) sk hinp hv h1 h2 hs
  exact Prod.ext (eP.at 16 (by omega)) (Prod.ext e2 (eP.at 17 (by omega)))
theorem tw_any {S K k V G B : Nat → Int32} {cn inp v fr : Nat} (sk : SK K k cn) (hinp : inp < 9) (hv : v < 2) (h2 : fr ≤ cn) : ((sp_X6_run V G B S K k (nI inp) (nI v) (nI fr)).2.2 16, (sp_X6_run V G B S K k (nI inp) (nI v) (nI fr)).1 2, (sp_X6_run V G B S K k (nI inp) (nI v) (nI fr)).2.2 17) = tw S K k inp v fr := tw_skip sk hinp hv (Nat.le_refl _) h2 (fun j h h' => absurd h' (by omega))
theorem tw_next {S K k : Nat → Int32} {cn inp v fr : Nat} (sk : SK K k cn) (hinp : inp < 9) (hv : v < 2) (h2 : fr < cn) (hb : sp_X8_bit (k fr) (nI inp) = nI v) : tw S K k inp v fr = tw S K k inp v (fr + 1) := tw_skip sk hinp hv (Nat.le_succ _) h2 (fun j h h' => by rw [show j = fr by omega]; exact hb)
/-- the step of the sums, for input j/2 stuck at j%2 from f on -/
def tT (S K k : Nat → Int32) (r0 : Int32) (j f : Nat) (a : Int32 × Int32 × Int32 × Int32 × Int32) : Int32 × Int32 × Int32 × Int32 × Int32 := tst r0 (tw S K k (j / 2) (j % 2) f).1 (tw S K k (j / 2) (j % 2) f).2.1 (tw S K k (j / 2) (j % 2) f).2.2 f a
theorem tT_comm (S K k : Nat → Int32) (r0 : Int32) (i f j g : Nat) (a : Int32 × Int32 × Int32 × Int32 × Int32) : tT S K k r0 i f (tT S K k r0 j g a) = tT S K k r0 j g (tT S K k r0 i f a) := tst_comm _ _ _ _ _ _ _ _ _ _
theorem of_step {S K k : Nat → Int32} {cn inp v n : Nat} {x : (Nat → Int32) × (Nat → Int32) × (Nat → Int32) × (Nat → Int32)} (sk : SK K k cn) (hinp : inp < 9) (hv : v < 2) (hn : n < cn) (h : (x.2.2.2 16, x.2.1 2, x.2.2.2 17) = tw S K k inp v (cn - n)) {y : (Nat → Int32) × (Nat → Int32) × (Nat → Int32) × (Nat → Int32)} (ey : y = bd_X8_sumUpTrialsOf_30 S K k (nI inp) (nI v) n x) : (y.2.2.2 16, y.2.1 2, y.2.2.2 17) = tw S K k inp v (cn - (n + 1)) ∧ tu y.1 = tT S K k (x.1 0) (2 * inp + v) (cn - 1 - n) (tu x.1) ∧ y.1 0 = x.1 0 ∧ y.1 1 = x.1 1 + 1 := by
  obtain ⟨U, V, E, B⟩ := x
  dsimp only at h ⊢
  have hcn : (K 1).toNatClampNeg = cn := by rw [sk.2.1]; exact nI_clamp (by have := sk.1; omega)
  have hc := sk.1
  obtain ⟨f, ef⟩ : ∃ f, f = cn - 1 - n := ⟨_, rfl⟩
  rw [show cn - n = f + 1 by omega] at h
  rw [show cn - (n + 1) = f by omega, ← ef]
  obtain ⟨V', eV⟩ : ∃ q : Nat → Int32, q = if sp_X8_bit (k f) (nI inp) = nI v then V else (sp_X6_run V E B S K k (nI inp) (nI v) (nI f)).1 := ⟨_, rfl⟩
  obtain ⟨E', eE⟩ : ∃ q : Nat → Int32, q = if sp_X8_bit (k f) (nI inp) = nI v then E else (sp_X6_run V E B S K k (nI inp) (nI v) (nI f)).2.1 := ⟨_, rfl⟩
  obtain ⟨B', eB⟩ : ∃ q : Nat → Int32, q = if sp_X8_bit (k f) (nI inp) = nI v then B else (sp_X6_run V E B S K k (nI inp) (nI v) (nI f)).2.2 := ⟨_, rfl⟩
  have hy : y = (sp_X7_add U V' B' (nI f), V', E', B') := by
    rw [ey]
    simp only [bd_X8_sumUpTrialsOf_30, hcn, ← ef, setAt_eq (show f < 32 by omega), ← eV, ← eE, ← eB]
  have hw : (B' 16, V' 2, B' 17) = tw S K k inp v f := by
    by_cases c : sp_X8_bit (k f) (nI inp) = nI v
    · rw [if_pos c] at eV eB
      rw [eV, eB, h]
      exact (tw_next sk hinp hv (by omega) c).symm
    · rw [if_neg c] at eV eB
      rw [eV, eB]
      exact tw_any sk hinp hv (by omega)
  obtain ⟨t1, t2, t3⟩ := add_tu U V' B' f
  rw [hy]
  refine ⟨hw, ?_, t2, t3⟩
  rw [show (sp_X7_add U V' B' (nI f), V', E', B').1 = sp_X7_add U V' B' (nI f) from rfl, t1]
  simp only [tT, show (2 * inp + v) / 2 = inp by omega, show (2 * inp + v) % 2 = v by omega, ← hw]
theorem of_loop {S K k : Nat → Int32} {cn inp v : Nat} {x : (Nat → Int32) × (Nat → Int32) × (Nat → Int32) × (Nat → Int32)} (sk : SK K k cn) (hinp : inp < 9) (hv : v < 2) (h : (x.2.2.2 16, x.2.1 2, x.2.2.2 17) = tw S K k inp v cn) : ∀ n, n ≤ cn → ∀ y, y = lp (bd_X8_sumUpTrialsOf_30 S K k (nI inp) (nI v)) n x → (y.2.2.2 16, y.2.1 2, y.2.2.2 17) = tw S K k inp v (cn - n) ∧ tu y.1 = lp (fun q => tT S K k (x.1 0) (2 * inp + v) (cn - 1 - q)) n (tu x.1) ∧ y.1 0 = x.1 0 ∧ y.1 1 = x.1 1 + nI n := by
  intro n
  induction n with
  | zero =>
    intro _ y ey
    rw [ey]
    exact ⟨h, rfl, rfl, (Int32.add_zero _).symm⟩
  | succ n ih =>
    intro hn y ey
    obtain ⟨z, ez⟩ : ∃ q, q = lp (bd_X8_sumUpTrialsOf_30 S K k (nI inp) (nI v)) n x := ⟨_, rfl⟩
    obtain ⟨i1, i2, i3, i4⟩ := ih (by omega) z ez
    obtain ⟨j1, j2, j3, j4⟩ := of_step sk hinp hv (by omega) i1 (y := y) (by rw [ey, ez]; rfl)
    refine ⟨j1, ?_, j3.trans i3, ?_⟩
    · rw [j2, i3, i2]
      rfl
    · rw [j4, i4, Int32.add_assoc, nI_1]
