/-! PURE 19: the sums of all TRIALS, the reference's side. -/
/-- the reference stands as it stood -/
def MT (P M0 a50 a60 M a5 a6 a12 : Nat → Int32) : Prop := RP P M a12 ∧ (∀ q, q < 7 ∨ 23 ≤ q → M q = M0 q) ∧ (∀ j, j < 9 → a5 j = a50 j) ∧ a6 0 = a60 0 ∧ a6 1 = a60 1
theorem RK.fr {K k M M' a : Nat → Int32} {cn : Nat} (h : RK K k M a cn) (e : M' 33 = M 33) : RK K k M' a cn := ⟨h.1, h.2.1, e.trans h.2.2.1, h.2.2.2⟩
theorem MT_try {S K k P M0 a50 a60 M a5 a6 a12 a32 a34 a35 : Nat → Int32} {L : Int64} {cn inp v fr : Nat} (bS : BS S) (rS : RS S M0) (rK : RK K k M0 a32 cn) (bP : BP P S) (hinp : inp < 9) (hv : v < 2) (hfr : fr ≤ cn) (h : MT P M0 a50 a60 M a5 a6 a12) {T : (Nat → Int32) × (Int64) × (Nat → Int32) × (Nat → Int32) × (Nat → Int32) × (Nat → Int32) × (Nat → Int32)} (eT : T = sp_X9_tries M L a5 a6 a12 a32 a34 a35 (nI inp) (nI v) (nI fr)) : MT P M0 a50 a60 T.1 T.2.2.1 T.2.2.2.1 T.2.2.2.2.1 ∧ (T.2.2.2.2.2.1 0, T.2.2.2.2.2.1 1, T.2.2.2.2.2.1 4) = tw S K k inp v fr := by
  obtain ⟨m1, m2, m3, m4, m5⟩ := h
  obtain ⟨⟨t0, t1, -, -, t4⟩, r, f, g, g0, g1⟩ := trial_sim (V := fun _ => 0) (G := fun _ => 0) (B := fun _ => 0) bS (rK.fr (m2 33 (by omega))) hinp hv hfr (rS.fr (fun q hq => m2 q (by omega))) m1 bP rfl eT
  exact ⟨⟨r, fun q hq => (f q hq).trans (m2 q hq), fun j hj => (g j hj).trans (m3 j hj), g0.trans m4, g1.trans m5⟩, Prod.ext t0 (Prod.ext t1 t4)⟩
theorem tm_step {S K k P M0 a50 a60 a32 a7 : Nat → Int32} {cn i : Nat} {x : (Nat → Int32) × Int64 × (Nat → Int32) × (Nat → Int32) × (Nat → Int32) × (Nat → Int32) × (Nat → Int32) × Int32 × Int32 × Int32 × Int32 × Int32} (bS : BS S) (rS : RS S M0) (rK : RK K k M0 a32 cn) (bP : BP P S) (hi : i < 18 * cn) (h : MT P M0 a50 a60 x.1 x.2.2.1 x.2.2.2.1 x.2.2.2.2.1) {y : (Nat → Int32) × Int64 × (Nat → Int32) × (Nat → Int32) × (Nat → Int32) × (Nat → Int32) × (Nat → Int32) × Int32 × Int32 × Int32 × Int32 × Int32} (ey : y = bd_X9_trials_47 a32 a7 i x) : MT P M0 a50 a60 y.1 y.2.2.1 y.2.2.2.1 y.2.2.2.2.1 ∧ y.2.2.2.2.2.2.2 = tT S K k (a7 4) (i % 18) (i / 18) x.2.2.2.2.2.2.2 := by
  have hc := rK.1
  have e1 : (((nI i) / 2) - ((nI i) / 2) / 9 * 9) = nI (i / 2 % 9) := by
    rw [show (2 : Int32) = nI 2 from rfl, show (9 : Int32) = nI 9 from rfl, nI_div (by omega) (by omega), nI_rem (by omega) (by omega)]
  have e2 : ((nI i) - (nI i) / 2 * 2) = nI (i % 2) := by
    rw [show (2 : Int32) = nI 2 from rfl, nI_rem (by omega) (by omega)]
  have e3 : (nI i) / 18 = nI (i / 18) := by
    rw [show (18 : Int32) = nI 18 from rfl, nI_div (by omega) (by omega)]
  obtain ⟨T, eT⟩ : ∃ q, q = sp_X9_tries (x.1) (x.2.1) (x.2.2.1) (x.2.2.2.1) (x.2.2.2.2.1) a32 (x.2.2.2.2.2.1) (x.2.2.2.2.2.2.1) (nI (i / 2 % 9)) (nI (i % 2)) (nI (i / 18)) := ⟨_, rfl⟩
  obtain ⟨m, w⟩ := MT_try bS rS rK bP (by omega) (by omega) (show i / 18 ≤ cn by omega) h eT
  simp only [bd_X9_trials_47, e1, e2, e3, ← eT] at ey
  rw [ey]
  refine ⟨m, ?_⟩
  simp only [tT, show i % 18 / 2 = i / 2 % 9 by omega, show i % 18 % 2 = i % 2 by omega, ← w, tst]
theorem tm_loop {S K k P M0 a50 a60 a32 a7 : Nat → Int32} {cn : Nat} {x : (Nat → Int32) × Int64 × (Nat → Int32) × (Nat → Int32) × (Nat → Int32) × (Nat → Int32) × (Nat → Int32) × Int32 × Int32 × Int32 × Int32 × Int32} (bS : BS S) (rS : RS S M0) (rK : RK K k M0 a32 cn) (bP : BP P S) (h : MT P M0 a50 a60 x.1 x.2.2.1 x.2.2.2.1 x.2.2.2.2.1) : ∀ n, n ≤ 18 * cn → ∀ y, y = lp (bd_X9_trials_47 a32 a7) n x → MT P M0 a50 a60 y.1 y.2.2.1 y.2.2.2.1 y.2.2.2.2.1 ∧ y.2.2.2.2.2.2.2 = lp (fun i => tT S K k (a7 4) (i % 18) (i / 18)) n x.2.2.2.2.2.2.2 := by
  intro n
  induction n with
  | zero =>
    intro _ y ey
    rw [ey]
    exact ⟨h, rfl⟩
  | succ n ih =>
    intro hn y ey
    obtain ⟨z, ez⟩ : ∃ q, q = lp (bd_X9_trials_47 a32 a7) n x := ⟨_, rfl⟩
    obtain ⟨i1, i2⟩ := ih (by omega) z ez
    obtain ⟨j1, j2⟩ := tm_step (a7 := a7) (x := z) bS rS rK bP (show n < 18 * cn by omega) i1 (y := y) (by rw [ey, ez]; rfl)
    refine ⟨j1, ?_⟩
    rw [j2, i2]
    rfl
/-- what `trials` answers -/
def tpart (c : Int32) (a : Int32 × Int32 × Int32 × Int32 × Int32) (what : Int32) : Int32 := if what = 0 then c else if what = 1 then a.1 else if what = 2 then a.2.1 else if what = 3 then a.2.2.1 else if what = 4 then a.2.2.2.1 else a.2.2.2.2
theorem tm_all {S K k P M a5 a6 a12 a32 a34 a35 : Nat → Int32} {L : Int64} {cn : Nat} {what : Int32} (bS : BS S) (rS : RS S M) (rK : RK K k M a32 cn) (rP : RP P M a12) (bP : BP P S) (hw : ¬ sp_X9_within what 0 5 = 0) {R : Int32 × (Nat → Int32) × (Int64) × (Nat → Int32) × (Nat → Int32) × (Nat → Int32) × (Nat → Int32) × (Nat → Int32)} (eR : R = sp_X9_trials M L a5 a6 a12 a32 a34 a35 what) : R.1 = tpart (nI (18 * cn)) (tsu S K k cn) what ∧ MT P M a5 a6 R.2.1 R.2.2.2.1 R.2.2.2.2.1 R.2.2.2.2.2.1 := by
  have hc := rK.1
  have h33 : (18 * M 33).toNatClampNeg = 18 * cn := by
    rw [rK.2.2.1, show (18 : Int32) = nI 18 from rfl, nI_mul, nI_clamp (by omega)]
  obtain ⟨T, eT⟩ : ∃ q, q = sp_X9_tries M L a5 a6 a12 a32 a34 a35 (nI 0) (nI 0) (nI cn) := ⟨_, rfl⟩
  obtain ⟨m, w⟩ := MT_try (a50 := a5) (a60 := a6) bS rS rK bP (by omega) (by omega) (Nat.le_refl cn) ⟨rP, fun _ _ => rfl, fun _ _ => rfl, rfl, rfl⟩ eT
  obtain ⟨x, ex⟩ : ∃ q, q = lp (bd_X9_trials_47 a32 T.2.2.2.2.2.1) (18 * cn) (T.1, T.2.1, T.2.2.1, T.2.2.2.1, T.2.2.2.2.1, T.2.2.2.2.2.1, T.2.2.2.2.2.2, 0, 0, (-9), 0, 0) := ⟨_, rfl⟩
  obtain ⟨n, u⟩ := tm_loop (a50 := a5) (a60 := a6) bS rS rK bP (by exact m) (18 * cn) (Nat.le_refl _) x ex
  have hu : x.2.2.2.2.2.2.2 = tsu S K k cn := by
    rw [u, tsu, ← w]
  have hT : sp_X9_tries M L a5 a6 a12 a32 a34 a35 0 0 (M 33) = T := by
    rw [eT, rK.2.2.1]; rfl
  have hx33 : 18 * x.1 33 = nI (18 * cn) := by
    rw [n.2.1 33 (by omega), rK.2.2.1, show (18 : Int32) = nI 18 from rfl, nI_mul]
  simp only [sp_X9_trials, if_neg hw, hT, h33, ← ex] at eR
  rw [eR]
  simp only [tpart, ← hu, ← hx33]
  refine ⟨?_, ?_⟩
  · (repeat' split) <;> rfl
  · (repeat' split) <;> exact n
