/-! PURE 18: the sums of all TRIALS, both sides. -/
/-- the sums, as the reference goes -/
def tsu (S K k : Nat → Int32) (cn : Nat) : Int32 × Int32 × Int32 × Int32 × Int32 := lp (fun x => tT S K k (tw S K k 0 0 cn).2.2 (x % 18) (x / 18)) (18 * cn) (0, 0, (-9), 0, 0)
theorem of_all {S K k G U V E B : Nat → Int32} {cn inp v : Nat} (sk : SK K k cn) (hinp : inp < 9) (hv : v < 2) {y : (Nat → Int32) × (Nat → Int32) × (Nat → Int32) × (Nat → Int32)} (ey : y = sp_X8_sumUpTrialsOf G U S K k V E B (nI inp) (nI v)) : tu y.1 = lp (fun q => tT S K k (U 0) (2 * inp + v) (cn - 1 - q)) cn (tu U) ∧ y.1 0 = U 0 ∧ y.1 1 = U 1 + nI cn := by
  have hcn : (K 1).toNatClampNeg = cn := by rw [sk.2.1]; exact nI_clamp (by have := sk.1; omega)
  have hw := tw_any (S := S) (V := V) (G := E) (B := B) sk hinp hv (Nat.le_refl cn)
  obtain ⟨x, ex⟩ : ∃ q, q = lp (bd_X8_sumUpTrialsOf_30 S K k (nI inp) (nI v)) cn (U, (sp_X6_run V E B S K k (nI inp) (nI v) (nI cn)).1, (sp_X6_run V E B S K k (nI inp) (nI v) (nI cn)).2.1, (sp_X6_run V E B S K k (nI inp) (nI v) (nI cn)).2.2) := ⟨_, rfl⟩
  have hy : y = (x.1, x.2.1, x.2.2.1, x.2.2.2) := by
    rw [ey]
    exact sq_X8_sumUpTrialsOf_1 _ _ _ _ _ _ _ _ _ _ _ _ _ x rfl rfl rfl (by rw [ex, hcn, sk.2.1])
  obtain ⟨-, j2, j3, j4⟩ := of_loop sk hinp hv (by exact hw) cn (Nat.le_refl _) x ex
  rw [hy]
  exact ⟨j2, j3, j4⟩
theorem all_step {S K k G : Nat → Int32} {cn i : Nat} {x : (Nat → Int32) × (Nat → Int32) × (Nat → Int32) × (Nat → Int32)} (sk : SK K k cn) (hi : i < 9) {y : (Nat → Int32) × (Nat → Int32) × (Nat → Int32) × (Nat → Int32)} (ey : y = bd_X8_sumUpTrials_39 G S K k i x) : tu y.1 = lp (fun q => tT S K k (x.1 0) (2 * i + 1) (cn - 1 - q)) cn (lp (fun q => tT S K k (x.1 0) (2 * i) (cn - 1 - q)) cn (tu x.1)) ∧ y.1 0 = x.1 0 ∧ y.1 1 = x.1 1 + nI (2 * cn) := by
  obtain ⟨y0, e0⟩ : ∃ q, q = sp_X8_sumUpTrialsOf G (x.1) S K k (x.2.1) (x.2.2.1) (x.2.2.2) (nI i) (nI 0) := ⟨_, rfl⟩
  obtain ⟨y1, e1⟩ : ∃ q, q = sp_X8_sumUpTrialsOf G y0.1 S K k y0.2.1 y0.2.2.1 y0.2.2.2 (nI i) (nI 1) := ⟨_, rfl⟩
  obtain ⟨a1, a2, a3⟩ := of_all sk hi (by omega) e0
  obtain ⟨b1, b2, b3⟩ := of_all sk hi (by omega) e1
  have hy : y = (y1.1, y1.2.1, y1.2.2.1, y1.2.2.2) := by
    rw [ey, e1, e0]
    rfl
  rw [hy]
  refine ⟨?_, b2.trans a2, ?_⟩
  · show tu y1.1 = _
    rw [b1, a2, a1]
    rfl
  · show y1.1 1 = _
    rw [b3, a3, Int32.add_assoc, nI_add, show cn + cn = 2 * cn by omega]
theorem all_loop {S K k G : Nat → Int32} {cn : Nat} {x : (Nat → Int32) × (Nat → Int32) × (Nat → Int32) × (Nat → Int32)} (sk : SK K k cn) : ∀ n, n ≤ 9 → ∀ y, y = lp (bd_X8_sumUpTrials_39 G S K k) n x → tu y.1 = lp (fun i a => lp (fun q => tT S K k (x.1 0) (2 * i + 1) (cn - 1 - q)) cn (lp (fun q => tT S K k (x.1 0) (2 * i) (cn - 1 - q)) cn a)) n (tu x.1) ∧ y.1 0 = x.1 0 ∧ y.1 1 = x.1 1 + nI (2 * cn * n) := by
  intro n
  induction n with
  | zero =>
    intro _ y ey
    rw [ey]
    exact ⟨rfl, rfl, (Int32.add_zero _).symm⟩
  | succ n ih =>
    intro hn y ey
    obtain ⟨z, ez⟩ : ∃ q, q = lp (bd_X8_sumUpTrials_39 G S K k) n x := ⟨_, rfl⟩
    obtain ⟨i2, i3, i4⟩ := ih (by omega) z ez
    obtain ⟨j2, j3, j4⟩ := all_step (S := S) (G := G) (x := z) sk (show n < 9 by omega) (y := y) (by rw [ey, ez]; rfl)
    refine ⟨?_, j3.trans i3, ?_⟩
    · rw [j2, i3, i2]
      rfl
    · rw [j4, i4, Int32.add_assoc, nI_add]
      rfl
/-- the class's sums are the reference's -/
theorem sums_class {S K k G U V E B : Nat → Int32} {cn : Nat} (sk : SK K k cn) {y : (Nat → Int32) × (Nat → Int32) × (Nat → Int32) × (Nat → Int32)} (ey : y = sp_X8_sumUpTrials G U S K k V E B) : tu y.1 = tsu S K k cn ∧ y.1 1 = nI (18 * cn) := by
  have hw := tw_any (S := S) (V := V) (G := E) (B := B) (inp := 0) (v := 0) sk (by omega) (by omega) (Nat.le_refl cn)
  obtain ⟨R, eR⟩ : ∃ q, q = sp_X6_run V E B S K k (nI 0) (nI 0) (nI cn) := ⟨_, rfl⟩
  rw [← eR] at hw
  obtain ⟨x, ex⟩ : ∃ q, q = lp (bd_X8_sumUpTrials_39 G S K k) 9 (sp_X7_begin U (R.2.2 17), R.1, R.2.1, R.2.2) := ⟨_, rfl⟩
  have hy : y = (x.1, x.2.1, x.2.2.1, x.2.2.2) := by
    rw [ey]
    refine sq_X8_sumUpTrials_1 _ _ _ _ _ _ _ _ R.1 R.2.1 R.2.2 _ x ?_ ?_ ?_ rfl ex
    · rw [eR, sk.2.1]; rfl
    · rw [eR, sk.2.1]; rfl
    · rw [eR, sk.2.1]; rfl
  obtain ⟨j2, -, j4⟩ := all_loop (G := G) sk 9 (Nat.le_refl _) x ex
  rw [hy]
  refine ⟨?_, ?_⟩
  · show tu x.1 = _
    rw [j2, tsu, ex_all (tT_comm S K k _)]
    rw [show (tw S K k 0 0 cn).2.2 = R.2.2 17 by rw [← hw]]
    rfl
  · show x.1 1 = _
    rw [j4, show 2 * cn * 9 = 18 * cn by omega]
    show (0 : Int32) + _ = _
    rw [Int32.zero_add]
