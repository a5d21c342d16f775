/-! PURE 16: TRIALS, the class's way and the reference's. -/
theorem lp_add {α : Type} (f : Nat → α → α) (m : Nat) : ∀ (n : Nat) (a : α), lp f (m + n) a = lp (fun j => f (m + j)) n (lp f m a) := by
  intro n
  induction n with
  | zero => intro a; rfl
  | succ n ih => intro a; show f (m + n) (lp f (m + n) a) = f (m + n) _; rw [ih]
theorem lp_first {α : Type} (f : Nat → α → α) : ∀ (n : Nat) (a : α), lp f (n + 1) a = lp (fun j => f (j + 1)) n (f 0 a) := by
  intro n
  induction n with
  | zero => intro a; rfl
  | succ n ih => intro a; show f (n + 1) (lp f (n + 1) a) = f (n + 1) _; rw [ih]
theorem lp_past {α : Type} {f : Nat → α → α} {g : α → α} (h : ∀ i a, g (f i a) = f i (g a)) : ∀ (n : Nat) (a : α), g (lp f n a) = lp f n (g a) := by
  intro n
  induction n with
  | zero => intro a; rfl
  | succ n ih => intro a; show g (f n (lp f n a)) = f n _; rw [h, ih]
theorem lp_rev {α : Type} {f : Nat → α → α} (h : ∀ i j a, f i (f j a) = f j (f i a)) : ∀ (n : Nat) (a : α), lp (fun i => f (n - 1 - i)) n a = lp f n a := by
  intro n
  induction n with
  | zero => intro a; rfl
  | succ n ih =>
    intro a
    rw [lp_first, lp_congr (g := fun i => f (n - 1 - i)) n _ (fun i x hi => by rw [show n + 1 - 1 - (i + 1) = n - 1 - i by omega]), ih, show n + 1 - 1 - 0 = n by omega, ← lp_past (g := f n) (fun i a => h n i a)]
    rfl
theorem lp_mix {α : Type} {f g : Nat → α → α} (h : ∀ i j a, f i (g j a) = g j (f i a)) : ∀ (n : Nat) (a : α), lp f n (lp g n a) = lp (fun j a => f j (g j a)) n a := by
  intro n
  induction n with
  | zero => intro a; rfl
  | succ n ih =>
    intro a
    show f n (lp f n (g n (lp g n a))) = f n (g n _)
    rw [← ih, lp_past (f := f) (g := g n) (fun i a => (h i n a).symm)]
theorem lp_two {α : Type} (f : Nat → α → α) : ∀ (n : Nat) (a : α), lp f (2 * n) a = lp (fun i a => f (2 * i + 1) (f (2 * i) a)) n a := by
  intro n
  induction n with
  | zero => intro a; rfl
  | succ n ih => intro a; show f (2 * n + 1) (f (2 * n) (lp f (2 * n) a)) = f (2 * n + 1) (f (2 * n) _); rw [ih]
theorem ex_blk {α : Type} {T : Nat → Nat → α → α} : ∀ (n : Nat) (a : α), lp (fun x => T (x % 18) (x / 18)) (18 * n) a = lp (fun f a => lp (fun j => T j f) 18 a) n a := by
  intro n
  induction n with
  | zero => intro a; rfl
  | succ n ih =>
    intro a
    rw [show 18 * (n + 1) = 18 * n + 18 by omega, lp_add, ih]
    show _ = lp (fun j => T j n) 18 (lp (fun f a => lp (fun j => T j f) 18 a) n a)
    exact lp_congr _ _ (fun i x hi => by
      show T ((18 * n + i) % 18) ((18 * n + i) / 18) x = T i n x
      rw [show (18 * n + i) % 18 = i by omega, show (18 * n + i) / 18 = n by omega])
theorem ex_col {α : Type} {T : Nat → Nat → α → α} (h : ∀ i f j g a, T i f (T j g a) = T j g (T i f a)) : ∀ (n : Nat) (a : α), lp (fun f a => lp (fun j => T j f) 18 a) n a = lp (fun j a => lp (fun f => T j f) n a) 18 a := by
  intro n
  induction n with
  | zero =>
    intro a
    rfl
  | succ n ih =>
    intro a
    show lp (fun j => T j n) 18 (lp (fun f a => lp (fun j => T j f) 18 a) n a) = lp (fun j a => T j n (lp (fun f => T j f) n a)) 18 a
    rw [ih, lp_mix (f := fun j => T j n) (g := fun j a => lp (fun f => T j f) n a) (fun i j a => lp_past (g := T i n) (fun f a => h i n j f a) n a)]
theorem ex_all {α : Type} {T : Nat → Nat → α → α} (h : ∀ i f j g a, T i f (T j g a) = T j g (T i f a)) (n : Nat) (a : α) : lp (fun x => T (x % 18) (x / 18)) (18 * n) a = lp (fun i a => lp (fun q => T (2 * i + 1) (n - 1 - q)) n (lp (fun q => T (2 * i) (n - 1 - q)) n a)) 9 a := by
  rw [ex_blk, ex_col h, lp_two (fun j a => lp (fun f => T j f) n a) 9]
  exact lp_congr _ _ (fun i x _ => by
    show lp (T (2 * i + 1)) n (lp (T (2 * i)) n x) = _
    rw [lp_rev (f := T (2 * i + 1)) (fun p q a => h _ p _ q a), lp_rev (f := T (2 * i)) (fun p q a => h _ p _ q a)])
/-- one TRIAL taken into the sums -/
def tst (r0 d at' ro : Int32) (fr : Nat) (a : Int32 × Int32 × Int32 × Int32 × Int32) : Int32 × Int32 × Int32 × Int32 × Int32 := (a.1 + (if d ≤ 0 then 0 else 1), a.2.1 + (if at' = (-9) then 0 else 1), (if at' ≤ nI fr then a.2.2.1 else if at' - nI fr ≤ a.2.2.1 then a.2.2.1 else at' - nI fr), (if d ≤ a.2.2.2.1 then a.2.2.2.1 else d), a.2.2.2.2 + (if r0 ≤ ro then 0 else 1))
theorem mx_comm (x y a : Int32) : (if x ≤ (if y ≤ a then a else y) then (if y ≤ a then a else y) else x) = (if y ≤ (if x ≤ a then a else x) then (if x ≤ a then a else x) else y) := by
  apply Int32.toInt_inj.mp
  simp only [Int32.le_iff_toInt_le, apply_ite Int32.toInt]
  (repeat' split) <;> omega
theorem mx_flip (a b : Int32) : (if a < b then b else a) = (if b ≤ a then a else b) := by
  apply Int32.toInt_inj.mp
  simp only [Int32.le_iff_toInt_le, Int32.lt_iff_toInt_lt, apply_ite Int32.toInt]
  (repeat' split) <;> omega
theorem ad_comm (a x y : Int32) : a + x + y = a + y + x := by rw [Int32.add_assoc, Int32.add_comm x, ← Int32.add_assoc]
theorem tst_comm (r0 d t ro d' t' ro' : Int32) (fr fr' : Nat) (a : Int32 × Int32 × Int32 × Int32 × Int32) : tst r0 d t ro fr (tst r0 d' t' ro' fr' a) = tst r0 d' t' ro' fr' (tst r0 d t ro fr a) := by
  simp only [tst]
  refine Prod.ext (ad_comm _ _ _) (Prod.ext (ad_comm _ _ _) (Prod.ext ?_ (Prod.ext (mx_comm _ _ _) (ad_comm _ _ _))))
  dsimp only
  by_cases h1 : t ≤ nI fr <;> by_cases h2 : t' ≤ nI fr' <;> simp only [h1, h2, if_true, if_false]
  exact mx_comm _ _ _
def tu (U : Nat → Int32) : Int32 × Int32 × Int32 × Int32 × Int32 := (U 2, U 3, U 4, U 5, U 6)
theorem add_tu (U V P : Nat → Int32) (fr : Nat) : tu (sp_X7_add U V P (nI fr)) = tst (U 0) (P 16) (V 2) (P 17) fr (tu U) ∧ sp_X7_add U V P (nI fr) 0 = U 0 ∧ sp_X7_add U V P (nI fr) 1 = U 1 + 1 := by
  refine ⟨Prod.ext ?_ (Prod.ext ?_ (Prod.ext ?_ (Prod.ext ?_ ?_))), ?_, ?_⟩
  all_goals (by_cases h1 : P 16 ≤ 0 <;> by_cases h2 : V 2 = (-9) <;> by_cases h3 : V 2 ≤ nI fr <;> by_cases h4 : U 0 ≤ P 17)
  all_goals (try simp only [h2] at h3)
  all_goals (simp [sp_X7_add, tu, tst, upd, ite_at, mx_flip, h1, h2, h3, h4])
  all_goals rfl
theorem ES_step {E : Nat → Int32} {inp v fr i : Nat} (hE : ES E (decide (fr < i)) inp v) (hi : inp < 9) (hv : v < 2) (h1 : i < 64) (h2 : fr < 64) : ES (if nI i = nI fr then sp_X0_setInput E (nI inp) (nI v) else E) (decide (fr < i + 1)) inp v := by
  by_cases q : i = fr
  · rw [if_pos (by rw [q]), show decide (fr < i + 1) = true by simp; omega]
    rw [show decide (fr < i) = false by simp; omega] at hE
    exact ES_set hE hi hv
  · rw [if_neg (fun h => q ((nI_eq (by omega) (by omega)).mp h)), show decide (fr < i + 1) = decide (fr < i) by
      by_cases w : fr < i
      · simp [w]; omega
      · have : ¬ fr < i + 1 := by omega
        simp [w, this]]
    exact hE
theorem ES_same {E E' : Nat → Int32} {b : Bool} {inp v : Nat} (h : ES E b inp v) (h' : ES E' b inp v) (t : Int32) : sp_X0_seenOf E t = sp_X0_seenOf E' t := by
  simp only [sp_X0_seenOf, h.1, h.2.1, h'.1, h'.2.1]
theorem skip_tab : ∀ t : Fin 512, ∀ inp : Fin 9, (sp_X8_bit (nI t.val) (nI inp.val) = 1 → (nI t.val ||| nI (2 ^ inp.val)) = nI t.val) ∧ (sp_X8_bit (nI t.val) (nI inp.val) = 0 → nI t.val &&& (nI (2 ^ inp.val) ^^^ (-1)) = nI t.val &&& (0 ^^^ (-1))) := by decide +kernel
theorem ES_skip {E E' : Nat → Int32} {inp v t : Nat} (h : ES E true inp v) (h' : ES E' false inp v) (hi : inp < 9) (hv : v < 2) (ht : t < 512) (hb : sp_X8_bit (nI t) (nI inp) = nI v) : sp_X0_seenOf E (nI t) = sp_X0_seenOf E' (nI t) := by
  obtain ⟨s1, s0⟩ := skip_tab ⟨t, ht⟩ ⟨inp, hi⟩
  dsimp only at s1 s0
  simp only [sp_X0_seenOf, h.1, h.2.1, h'.1, h'.2.1]
  rcases (show v = 0 ∨ v = 1 by omega) with rfl | rfl
  · simp only [true_and, if_true, show ¬ (0 : Nat) = 1 by omega, if_false, nI_0, Int32.or_zero, Bool.false_eq_true, false_and]
    exact s0 hb
  · simp only [true_and, if_true, show ¬ (1 : Nat) = 0 by omega, if_false, nI_0, Int32.or_zero, Bool.false_eq_true, false_and]
    rw [s1 hb]
def SK (K k : Nat → Int32) (cn : Nat) : Prop := cn ≤ 32 ∧ K 1 = nI cn ∧ ∀ j, j < cn → ∃ t : Nat, t < 512 ∧ k j = nI t
theorem RK.sk {K k M a : Nat → Int32} {cn : Nat} (h : RK K k M a cn) : SK K k cn := ⟨h.1, h.2.1, fun j hj => by
  obtain ⟨t, ht, e, -⟩ := h.2.2.2 j hj
  exact ⟨t, ht, e⟩⟩
def RR (inp v fr fr' n : Nat) (x y : (Nat → Int32) × (Nat → Int32) × (Nat → Int32)) : Prop := ES x.2.1 (decide (fr < n)) inp v ∧ ES y.2.1 (decide (fr' < n)) inp v ∧ x.1 2 = y.1 2 ∧ x.1 3 = y.1 3 ∧ EqP x.2.2 y.2.2
theorem RR_step {S K k : Nat → Int32} {cn inp v fr fr' i : Nat} {x y : (Nat → Int32) × (Nat → Int32) × (Nat → Int32)} (sk : SK K k cn) (hinp : inp < 9) (hv : v < 2) (h1 : fr ≤ fr') (h2 : fr' ≤ cn) (hs : ∀ j, fr ≤ j → j < fr' → sp_X8_bit (k j) (nI inp) = nI v) (hi : i < cn) (h : RR inp v fr fr' i x y) : RR inp v fr fr' (i + 1) (bd_X6_run_29 S K k (nI inp) (nI v) (nI fr) i x) (bd_X6_run_29 S K k (nI inp) (nI v) (nI fr') i y) := by
  obtain ⟨V, E, B⟩ := x
  obtain ⟨V', E', B'⟩ := y
  obtain ⟨hE, hE', hv2, hv3, hP⟩ := h
  dsimp only at hE hE' hv2 hv3 hP
  obtain ⟨hcn, -, hk⟩ := sk
  obtain ⟨t, ht, kt⟩ := hk i hi
  have e := ES_step hE hinp hv (by omega) (by omega)
  have e' := ES_step hE' hinp hv (by omega) (by omega)
  obtain ⟨F, eF⟩ : ∃ q : Nat → Int32, q = if nI i = nI fr then sp_X0_setInput E (nI inp) (nI v) else E := ⟨_, rfl⟩
  obtain ⟨F', eF'⟩ : ∃ q : Nat → Int32, q = if nI i = nI fr' then sp_X0_setInput E' (nI inp) (nI v) else E' := ⟨_, rfl⟩
  rw [← eF] at e
  rw [← eF'] at e'
  have hseen : sp_X0_seenOf F (nI t) = sp_X0_seenOf F' (nI t) := by
    by_cases c1 : i < fr
    · rw [show decide (fr < i + 1) = false by simp; omega] at e
      rw [show decide (fr' < i + 1) = false by simp; omega] at e'
      exact ES_same e e' _
    · rw [show decide (fr < i + 1) = true by simp; omega] at e
      by_cases c2 : i < fr'
      · rw [show decide (fr' < i + 1) = false by simp; omega] at e'
        exact ES_skip e e' hinp hv ht (by rw [← kt]; exact hs i (by omega) c2)
      · rw [show decide (fr' < i + 1) = true by simp; omega] at e'
        exact ES_same e e' _
  obtain ⟨P, eP⟩ : ∃ q, q = sp_X2_advance B S F (nI t) := ⟨_, rfl⟩
  obtain ⟨P', eP'⟩ : ∃ q, q = sp_X2_advance B' S F' (nI t) := ⟨_, rfl⟩
  have hPP : EqP P P' := by
    rw [eP, eP']
    exact adv_congr hP hseen (e.2.2.1.trans e'.2.2.1.symm) (e.2.2.2.trans e'.2.2.2.symm)
  have hX : bd_X6_run_29 S K k (nI inp) (nI v) (nI fr) i (V, E, B) = ((if V 2 = (-9) then (if P 2 = 0 then upd (upd V 2 ((nI i) + 1)) 3 (P 15) else V) else V), F, P) := by
    simp only [bd_X6_run_29, ← eF, setAt_eq (show i < 32 by omega), kt, ← eP]
  have hY : bd_X6_run_29 S K k (nI inp) (nI v) (nI fr') i (V', E', B') = ((if V' 2 = (-9) then (if P' 2 = 0 then upd (upd V' 2 ((nI i) + 1)) 3 (P' 15) else V') else V'), F', P') := by
    simp only [bd_X6_run_29, ← eF', setAt_eq (show i < 32 by omega), kt, ← eP']
  rw [hX, hY]
  refine ⟨e, e', ?_, ?_, hPP⟩
  · show (if V 2 = (-9) then (if P 2 = 0 then upd (upd V 2 ((nI i) + 1)) 3 (P 15) else V) else V) 2 = (if V' 2 = (-9) then (if P' 2 = 0 then upd (upd V' 2 ((nI i) + 1)) 3 (P' 15) else V') else V') 2
    simp only [ite_at, hv2, hPP.at 2 (by omega), hPP.at 15 (by omega)]
    rfl
  · show (if V 2 = (-9) then (if P 2 = 0 then upd (upd V 2 ((nI i) + 1)) 3 (P 15) else V) else V) 3 = (if V' 2 = (-9) then (if P' 2 = 0 then upd (upd V' 2 ((nI i) + 1)) 3 (P' 15) else V') else V') 3
    simp only [ite_at, hv2, hv3, hPP.at 2 (by omega), hPP.at 15 (by omega)]
    rfl
/-- a TRIAL from `fr` and one from `fr'` are the same where the inputs told between stand so already -/
theorem run_skip {S K k V G B V' G' B' : Nat → Int32} {cn inp v fr fr' : Nat} (sk : SK K k cn) (hinp : inp < 9) (hv : v < 2) (h1 : fr ≤ fr') (h2 : fr' ≤ cn) (hs : ∀ j, fr ≤ j → j < fr' → sp_X8_bit (k j) (nI inp) = nI v) : (sp_X6_run V G B S K k (nI inp) (nI v) (nI fr)).1 2 = (sp_X6_run V' G' B' S K k (nI inp) (nI v) (nI fr')).1 2 ∧ (sp_X6_run V G B S K k (nI inp) (nI v) (nI fr)).1 3 = (sp_X6_run V' G' B' S K k (nI inp) (nI v) (nI fr')).1 3 ∧ EqP (sp_X6_run V G B S K k (nI inp) (nI v) (nI fr)).2.2 (sp_X6_run V' G' B' S K k (nI inp) (nI v) (nI fr')).2.2 := by
  have hcn : (K 1).toNatClampNeg = cn := by rw [sk.2.1]; exact nI_clamp (by have := sk.1; omega)
  have hl : ∀ n, n ≤ cn → RR inp v fr fr' n (lp (bd_X6_run_29 S K k (nI inp) (nI v) (nI fr)) n ((upd (upd V 2 (-9)) 3 (-9)), sp_X0_clear G, sp_X2_begin B)) (lp (bd_X6_run_29 S K k (nI inp) (nI v) (nI fr')) n ((upd (upd V' 2 (-9)) 3 (-9)), sp_X0_clear G', sp_X2_begin B')) := by
    intro n
    induction n with
    | zero =>
      intro _
      refine ⟨?_, ?_, rfl, rfl, begin_eq _ _⟩
      · rw [show decide (fr < 0) = false by simp]
        exact ES_clear G inp v
      · rw [show decide (fr' < 0) = false by simp]
        exact ES_clear G' inp v
    | succ n ih =>
      intro hn
      exact RR_step sk hinp hv h1 h2 hs (by omega) (ih (by omega))
  have h := hl cn (Nat.le_refl _)
  rw [← hcn] at h
  exact ⟨h.2.2.1, h.2.2.2.1, h.2.2.2.2⟩
