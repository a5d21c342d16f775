/-! PURE 22: the class's walk (printed by mkwalk.py). -/
def mf (l : List ((Nat → Int32) × Nat)) (s : (Nat → Int32) × (Nat → Int64) × (Nat → Int32)) : (Nat → Int32) × (Nat → Int64) × (Nat → Int32) := l.foldl (fun s e => sp_X4_meet s.1 s.2.1 s.2.2 e.1 (nI e.2)) s
def ev (c S F : Nat → Int32) (cnt : Nat) : Nat → (Nat → Int32) → Nat → List ((Nat → Int32) × Nat)
  | 0, P, d => [(P, d)]
  | r + 1, P, d => (P, d) :: (List.range cnt).flatMap (fun k => ev c S F cnt r (sp_X2_advance P S F (c k)) (d + 1))
theorem meet_congr {Z w P P' : Nat → Int32} {t : Nat → Int64} {d : Int32} (h : EqP P P') : sp_X4_meet Z t w P d = sp_X4_meet Z t w P' d := by
  have hs : sp_X2_stateNumber P = sp_X2_stateNumber P' := by
    simp only [sp_X2_stateNumber, h.at 2 (by omega), h.at 3 (by omega), h.at 4 (by omega), h.at 5 (by omega), h.at 6 (by omega), h.at 7 (by omega), h.at 8 (by omega), h.at 9 (by omega), h.at 10 (by omega), h.at 11 (by omega), h.at 12 (by omega), h.at 13 (by omega), h.at 14 (by omega)]
  simp only [sp_X4_meet, hs, h.at 2 (by omega), h.at 16 (by omega)]
theorem mf_app (l l' : List ((Nat → Int32) × Nat)) (s : (Nat → Int32) × (Nat → Int64) × (Nat → Int32)) : mf (l ++ l') s = mf l' (mf l s) := List.foldl_append
theorem mf_cons (e : (Nat → Int32) × Nat) (l : List ((Nat → Int32) × Nat)) (s : (Nat → Int32) × (Nat → Int64) × (Nat → Int32)) : mf (e :: l) s = mf l (sp_X4_meet s.1 s.2.1 s.2.2 e.1 (nI e.2)) := rfl
theorem mf_flat {f g : Nat → List ((Nat → Int32) × Nat)} (h : ∀ k s, mf (f k) s = mf (g k) s) : ∀ (n : Nat) s, mf ((List.range n).flatMap f) s = mf ((List.range n).flatMap g) s := by
  intro n
  induction n with
  | zero => intro s; rfl
  | succ n ih =>
    intro s
    rw [List.range_succ, List.flatMap_append, List.flatMap_append, mf_app, mf_app, ih, List.flatMap_singleton, List.flatMap_singleton, h]
theorem ev_congr {c S F : Nat → Int32} {cnt : Nat} : ∀ (r : Nat) {P P' : Nat → Int32} (d : Nat), EqP P P' → ∀ s, mf (ev c S F cnt r P d) s = mf (ev c S F cnt r P' d) s := by
  intro r
  induction r with
  | zero =>
    intro P P' d h s
    show sp_X4_meet _ _ _ P _ = sp_X4_meet _ _ _ P' _
    exact meet_congr h
  | succ r ih =>
    intro P P' d h s
    simp only [ev]
    rw [mf_cons, mf_cons, meet_congr h]
    exact mf_flat (fun k s => ih (d + 1) (adv_congr h rfl rfl rfl) s) cnt _
theorem addState_fr (Z : Nat → Int32) (t : Nat → Int64) (x : Int64) (q : Nat) (hq : q ≠ 5) : (sp_X4_addState Z t x).1 q = Z q := by
  simp only [sp_X4_addState]
  have : ∀ (n i : Nat) (z : Int32), (sE (fun (_ : Unit) => (Z, t)) (lq (bd_X4_addState_13 Z t x z) n i ())).1 q = Z q := by
    intro n
    induction n with
    | zero => intro i z; rfl
    | succ n ih =>
      intro i z
      by_cases c1 : lg_cmp (t (((z + (nI i)) &&& 2047).toNatClampNeg)) x = 0
      · rw [lq_inr (b := (Z, t)) (by simp only [bd_X4_addState_13, if_pos c1])]
        rfl
      · by_cases c2 : lg_cmp (t (((z + (nI i)) &&& 2047).toNatClampNeg)) 0 = 0
        · rw [lq_inr (b := (upd Z 5 (Z 5 + 1), vp_updL t (((z + (nI i)) &&& 2047).toNatClampNeg) x)) (by simp only [bd_X4_addState_13, if_neg c1, if_pos c2])]
          exact upd_ne hq
        · rw [lq_inl (a' := ()) (by simp only [bd_X4_addState_13, if_neg c1, if_neg c2])]
          exact ih (i + 1) z
  exact this 2048 0 _
theorem meet4_ (Z w P : Nat → Int32) (t : Nat → Int64) (d : Int32) : (sp_X4_meet Z t w P d).1 4 = Z 4 := by
  simp only [sp_X4_meet]
  rw [upd_ne (by omega)]
  exact addState_fr _ _ _ 4 (by omega)
theorem mf_4 : ∀ (l : List ((Nat → Int32) × Nat)) (s : (Nat → Int32) × (Nat → Int64) × (Nat → Int32)), (mf l s).1 4 = s.1 4 := by
  intro l
  induction l with
  | nil => intro s; rfl
  | cons e l ih => intro s; rw [mf_cons, ih, meet4_]
theorem go5_eq {Z w c p5 S F : Nat → Int32} {t : Nat → Int64} {n cnt : Nat} (hn : n ≤ 5) : ((sp_X4_goOn5 Z t w c p5 S F (nI n)).1, (sp_X4_goOn5 Z t w c p5 S F (nI n)).2.1, (sp_X4_goOn5 Z t w c p5 S F (nI n)).2.2) = mf (ev c S F cnt (n - 5) p5 5) (Z, t, w) := by
  rw [show n - 5 = 0 by omega]
  have h5 : nI n ≤ 5 := by
    rw [show (5 : Int32) = nI 5 from rfl, Int32.le_iff_toInt_le, nI_toInt (by omega), nI_toInt (by omega)]
    omega
  simp only [sp_X4_goOn5, if_pos h5]
  rfl
set_option maxHeartbeats 1000000 in
theorem go4_eq {Z w c p4 p5 S F : Nat → Int32} {t : Nat → Int64} {n cnt : Nat} (hn : n ≤ 5) (hc : cnt < 2 ^ 31) (h4 : Z 4 = nI cnt) : ((sp_X4_goOn4 Z t w c p4 p5 S F (nI n)).1, (sp_X4_goOn4 Z t w c p4 p5 S F (nI n)).2.1, (sp_X4_goOn4 Z t w c p4 p5 S F (nI n)).2.2.1) = mf (ev c S F cnt (n - 4) p4 4) (Z, t, w) := by
  by_cases g : n ≤ 4
  · have h5 : nI n ≤ 4 := by
      rw [show (4 : Int32) = nI 4 from rfl, Int32.le_iff_toInt_le, nI_toInt (by omega), nI_toInt (by omega)]
      omega
    rw [show n - 4 = 0 by omega]
    simp only [sp_X4_goOn4, if_pos h5]
    rfl
  · have h5 : ¬ nI n ≤ 4 := by
      rw [show (4 : Int32) = nI 4 from rfl, Int32.le_iff_toInt_le, nI_toInt (by omega), nI_toInt (by omega)]
      omega
    have hl : ∀ j, ∀ x : (Nat → Int32) × (Nat → Int64) × (Nat → Int32) × (Nat → Int32), x = lp (bd_X4_goOn4_58 c p4 S F (nI n)) j ((sp_X4_meet Z t w p4 4).1, (sp_X4_meet Z t w p4 4).2.1, (sp_X4_meet Z t w p4 4).2.2, p5) → (x.1, x.2.1, x.2.2.1) = mf ((List.range j).flatMap (fun k => ev c S F cnt (n - 5) (sp_X2_advance p4 S F (c k)) 5)) (sp_X4_meet Z t w p4 4) := by
      intro j
      induction j with
      | zero => intro x ex; rw [ex]; rfl
      | succ j ih =>
        intro y ey
        obtain ⟨x, ex⟩ : ∃ q, q = lp (bd_X4_goOn4_58 c p4 S F (nI n)) j ((sp_X4_meet Z t w p4 4).1, (sp_X4_meet Z t w p4 4).2.1, (sp_X4_meet Z t w p4 4).2.2, p5) := ⟨_, rfl⟩
        have i1 := ih x ex
        have hx4 : x.1 4 = nI cnt := by
          rw [show x.1 = (x.1, x.2.1, x.2.2.1).1 from rfl, i1, mf_4, meet4_, h4]
        have hy : (y.1, y.2.1, y.2.2.1) = ((sp_X4_goOn5 x.1 x.2.1 x.2.2.1 c (sp_X2_advance (sp_X2_copyFrom (x.2.2.2) p4) S F (c j))  S F (nI n)).1, (sp_X4_goOn5 x.1 x.2.1 x.2.2.1 c (sp_X2_advance (sp_X2_copyFrom (x.2.2.2) p4) S F (c j))  S F (nI n)).2.1, (sp_X4_goOn5 x.1 x.2.1 x.2.2.1 c (sp_X2_advance (sp_X2_copyFrom (x.2.2.2) p4) S F (c j))  S F (nI n)).2.2) := by
          rw [ey, show lp (bd_X4_goOn4_58 c p4 S F (nI n)) (j + 1) ((sp_X4_meet Z t w p4 4).1, (sp_X4_meet Z t w p4 4).2.1, (sp_X4_meet Z t w p4 4).2.2, p5) = bd_X4_goOn4_58 c p4 S F (nI n) j x by rw [ex]; rfl]
          rfl
        rw [hy, go5_eq (cnt := cnt) hn, ev_congr _ _ (adv_congr (copy_eq _ _) rfl rfl rfl), i1, List.range_succ, List.flatMap_append, mf_app, List.flatMap_singleton]
    rw [show n - 4 = (n - 5) + 1 by omega]
    simp only [sp_X4_goOn4, if_neg h5]
    rw [h4, nI_clamp hc]
    exact hl cnt _ rfl
set_option maxHeartbeats 1000000 in
theorem go3_eq {Z w c p3 p4 p5 S F : Nat → Int32} {t : Nat → Int64} {n cnt : Nat} (hn : n ≤ 5) (hc : cnt < 2 ^ 31) (h4 : Z 4 = nI cnt) : ((sp_X4_goOn3 Z t w c p3 p4 p5 S F (nI n)).1, (sp_X4_goOn3 Z t w c p3 p4 p5 S F (nI n)).2.1, (sp_X4_goOn3 Z t w c p3 p4 p5 S F (nI n)).2.2.1) = mf (ev c S F cnt (n - 3) p3 3) (Z, t, w) := by
  by_cases g : n ≤ 3
  · have h5 : nI n ≤ 3 := by
      rw [show (3 : Int32) = nI 3 from rfl, Int32.le_iff_toInt_le, nI_toInt (by omega), nI_toInt (by omega)]
      omega
    rw [show n - 3 = 0 by omega]
    simp only [sp_X4_goOn3, if_pos h5]
    rfl
  · have h5 : ¬ nI n ≤ 3 := by
      rw [show (3 : Int32) = nI 3 from rfl, Int32.le_iff_toInt_le, nI_toInt (by omega), nI_toInt (by omega)]
      omega
    have hl : ∀ j, ∀ x : (Nat → Int32) × (Nat → Int64) × (Nat → Int32) × (Nat → Int32) × (Nat → Int32), x = lp (bd_X4_goOn3_58 c p3 S F (nI n)) j ((sp_X4_meet Z t w p3 3).1, (sp_X4_meet Z t w p3 3).2.1, (sp_X4_meet Z t w p3 3).2.2, p4, p5) → (x.1, x.2.1, x.2.2.1) = mf ((List.range j).flatMap (fun k => ev c S F cnt (n - 4) (sp_X2_advance p3 S F (c k)) 4)) (sp_X4_meet Z t w p3 3) := by
      intro j
      induction j with
      | zero => intro x ex; rw [ex]; rfl
      | succ j ih =>
        intro y ey
        obtain ⟨x, ex⟩ : ∃ q, q = lp (bd_X4_goOn3_58 c p3 S F (nI n)) j ((sp_X4_meet Z t w p3 3).1, (sp_X4_meet Z t w p3 3).2.1, (sp_X4_meet Z t w p3 3).2.2, p4, p5) := ⟨_, rfl⟩
        have i1 := ih x ex
        have hx4 : x.1 4 = nI cnt := by
          rw [show x.1 = (x.1, x.2.1, x.2.2.1).1 from rfl, i1, mf_4, meet4_, h4]
        have hy : (y.1, y.2.1, y.2.2.1) = ((sp_X4_goOn4 x.1 x.2.1 x.2.2.1 c (sp_X2_advance (sp_X2_copyFrom (x.2.2.2.1) p3) S F (c j)) (x.2.2.2.2) S F (nI n)).1, (sp_X4_goOn4 x.1 x.2.1 x.2.2.1 c (sp_X2_advance (sp_X2_copyFrom (x.2.2.2.1) p3) S F (c j)) (x.2.2.2.2) S F (nI n)).2.1, (sp_X4_goOn4 x.1 x.2.1 x.2.2.1 c (sp_X2_advance (sp_X2_copyFrom (x.2.2.2.1) p3) S F (c j)) (x.2.2.2.2) S F (nI n)).2.2.1) := by
          rw [ey, show lp (bd_X4_goOn3_58 c p3 S F (nI n)) (j + 1) ((sp_X4_meet Z t w p3 3).1, (sp_X4_meet Z t w p3 3).2.1, (sp_X4_meet Z t w p3 3).2.2, p4, p5) = bd_X4_goOn3_58 c p3 S F (nI n) j x by rw [ex]; rfl]
          rfl
        rw [hy, go4_eq (cnt := cnt) hn hc hx4, ev_congr _ _ (adv_congr (copy_eq _ _) rfl rfl rfl), i1, List.range_succ, List.flatMap_append, mf_app, List.flatMap_singleton]
    rw [show n - 3 = (n - 4) + 1 by omega]
    simp only [sp_X4_goOn3, if_neg h5]
    rw [h4, nI_clamp hc]
    exact hl cnt _ rfl
set_option maxHeartbeats 1000000 in
theorem go2_eq {Z w c p2 p3 p4 p5 S F : Nat → Int32} {t : Nat → Int64} {n cnt : Nat} (hn : n ≤ 5) (hc : cnt < 2 ^ 31) (h4 : Z 4 = nI cnt) : ((sp_X4_goOn2 Z t w c p2 p3 p4 p5 S F (nI n)).1, (sp_X4_goOn2 Z t w c p2 p3 p4 p5 S F (nI n)).2.1, (sp_X4_goOn2 Z t w c p2 p3 p4 p5 S F (nI n)).2.2.1) = mf (ev c S F cnt (n - 2) p2 2) (Z, t, w) := by
  by_cases g : n ≤ 2
  · have h5 : nI n ≤ 2 := by
      rw [show (2 : Int32) = nI 2 from rfl, Int32.le_iff_toInt_le, nI_toInt (by omega), nI_toInt (by omega)]
      omega
    rw [show n - 2 = 0 by omega]
    simp only [sp_X4_goOn2, if_pos h5]
    rfl
  · have h5 : ¬ nI n ≤ 2 := by
      rw [show (2 : Int32) = nI 2 from rfl, Int32.le_iff_toInt_le, nI_toInt (by omega), nI_toInt (by omega)]
      omega
    have hl : ∀ j, ∀ x : (Nat → Int32) × (Nat → Int64) × (Nat → Int32) × (Nat → Int32) × (Nat → Int32) × (Nat → Int32), x = lp (bd_X4_goOn2_58 c p2 S F (nI n)) j ((sp_X4_meet Z t w p2 2).1, (sp_X4_meet Z t w p2 2).2.1, (sp_X4_meet Z t w p2 2).2.2, p3, p4, p5) → (x.1, x.2.1, x.2.2.1) = mf ((List.range j).flatMap (fun k => ev c S F cnt (n - 3) (sp_X2_advance p2 S F (c k)) 3)) (sp_X4_meet Z t w p2 2) := by
      intro j
      induction j with
      | zero => intro x ex; rw [ex]; rfl
      | succ j ih =>
        intro y ey
        obtain ⟨x, ex⟩ : ∃ q, q = lp (bd_X4_goOn2_58 c p2 S F (nI n)) j ((sp_X4_meet Z t w p2 2).1, (sp_X4_meet Z t w p2 2).2.1, (sp_X4_meet Z t w p2 2).2.2, p3, p4, p5) := ⟨_, rfl⟩
        have i1 := ih x ex
        have hx4 : x.1 4 = nI cnt := by
          rw [show x.1 = (x.1, x.2.1, x.2.2.1).1 from rfl, i1, mf_4, meet4_, h4]
        have hy : (y.1, y.2.1, y.2.2.1) = ((sp_X4_goOn3 x.1 x.2.1 x.2.2.1 c (sp_X2_advance (sp_X2_copyFrom (x.2.2.2.1) p2) S F (c j)) (x.2.2.2.2.1) (x.2.2.2.2.2) S F (nI n)).1, (sp_X4_goOn3 x.1 x.2.1 x.2.2.1 c (sp_X2_advance (sp_X2_copyFrom (x.2.2.2.1) p2) S F (c j)) (x.2.2.2.2.1) (x.2.2.2.2.2) S F (nI n)).2.1, (sp_X4_goOn3 x.1 x.2.1 x.2.2.1 c (sp_X2_advance (sp_X2_copyFrom (x.2.2.2.1) p2) S F (c j)) (x.2.2.2.2.1) (x.2.2.2.2.2) S F (nI n)).2.2.1) := by
          rw [ey, show lp (bd_X4_goOn2_58 c p2 S F (nI n)) (j + 1) ((sp_X4_meet Z t w p2 2).1, (sp_X4_meet Z t w p2 2).2.1, (sp_X4_meet Z t w p2 2).2.2, p3, p4, p5) = bd_X4_goOn2_58 c p2 S F (nI n) j x by rw [ex]; rfl]
          rfl
        rw [hy, go3_eq (cnt := cnt) hn hc hx4, ev_congr _ _ (adv_congr (copy_eq _ _) rfl rfl rfl), i1, List.range_succ, List.flatMap_append, mf_app, List.flatMap_singleton]
    rw [show n - 2 = (n - 3) + 1 by omega]
    simp only [sp_X4_goOn2, if_neg h5]
    rw [h4, nI_clamp hc]
    exact hl cnt _ rfl
set_option maxHeartbeats 1000000 in
theorem go1_eq {Z w c p1 p2 p3 p4 p5 S F : Nat → Int32} {t : Nat → Int64} {n cnt : Nat} (hn : n ≤ 5) (hc : cnt < 2 ^ 31) (h4 : Z 4 = nI cnt) : ((sp_X4_goOn1 Z t w c p1 p2 p3 p4 p5 S F (nI n)).1, (sp_X4_goOn1 Z t w c p1 p2 p3 p4 p5 S F (nI n)).2.1, (sp_X4_goOn1 Z t w c p1 p2 p3 p4 p5 S F (nI n)).2.2.1) = mf (ev c S F cnt (n - 1) p1 1) (Z, t, w) := by
  by_cases g : n ≤ 1
  · have h5 : nI n ≤ 1 := by
      rw [show (1 : Int32) = nI 1 from rfl, Int32.le_iff_toInt_le, nI_toInt (by omega), nI_toInt (by omega)]
      omega
    rw [show n - 1 = 0 by omega]
    simp only [sp_X4_goOn1, if_pos h5]
    rfl
  · have h5 : ¬ nI n ≤ 1 := by
      rw [show (1 : Int32) = nI 1 from rfl, Int32.le_iff_toInt_le, nI_toInt (by omega), nI_toInt (by omega)]
      omega
    have hl : ∀ j, ∀ x : (Nat → Int32) × (Nat → Int64) × (Nat → Int32) × (Nat → Int32) × (Nat → Int32) × (Nat → Int32) × (Nat → Int32), x = lp (bd_X4_goOn1_58 c p1 S F (nI n)) j ((sp_X4_meet Z t w p1 1).1, (sp_X4_meet Z t w p1 1).2.1, (sp_X4_meet Z t w p1 1).2.2, p2, p3, p4, p5) → (x.1, x.2.1, x.2.2.1) = mf ((List.range j).flatMap (fun k => ev c S F cnt (n - 2) (sp_X2_advance p1 S F (c k)) 2)) (sp_X4_meet Z t w p1 1) := by
      intro j
      induction j with
      | zero => intro x ex; rw [ex]; rfl
      | succ j ih =>
        intro y ey
        obtain ⟨x, ex⟩ : ∃ q, q = lp (bd_X4_goOn1_58 c p1 S F (nI n)) j ((sp_X4_meet Z t w p1 1).1, (sp_X4_meet Z t w p1 1).2.1, (sp_X4_meet Z t w p1 1).2.2, p2, p3, p4, p5) := ⟨_, rfl⟩
        have i1 := ih x ex
        have hx4 : x.1 4 = nI cnt := by
          rw [show x.1 = (x.1, x.2.1, x.2.2.1).1 from rfl, i1, mf_4, meet4_, h4]
        have hy : (y.1, y.2.1, y.2.2.1) = ((sp_X4_goOn2 x.1 x.2.1 x.2.2.1 c (sp_X2_advance (sp_X2_copyFrom (x.2.2.2.1) p1) S F (c j)) (x.2.2.2.2.1) (x.2.2.2.2.2.1) (x.2.2.2.2.2.2) S F (nI n)).1, (sp_X4_goOn2 x.1 x.2.1 x.2.2.1 c (sp_X2_advance (sp_X2_copyFrom (x.2.2.2.1) p1) S F (c j)) (x.2.2.2.2.1) (x.2.2.2.2.2.1) (x.2.2.2.2.2.2) S F (nI n)).2.1, (sp_X4_goOn2 x.1 x.2.1 x.2.2.1 c (sp_X2_advance (sp_X2_copyFrom (x.2.2.2.1) p1) S F (c j)) (x.2.2.2.2.1) (x.2.2.2.2.2.1) (x.2.2.2.2.2.2) S F (nI n)).2.2.1) := by
          rw [ey, show lp (bd_X4_goOn1_58 c p1 S F (nI n)) (j + 1) ((sp_X4_meet Z t w p1 1).1, (sp_X4_meet Z t w p1 1).2.1, (sp_X4_meet Z t w p1 1).2.2, p2, p3, p4, p5) = bd_X4_goOn1_58 c p1 S F (nI n) j x by rw [ex]; rfl]
          rfl
        rw [hy, go2_eq (cnt := cnt) hn hc hx4, ev_congr _ _ (adv_congr (copy_eq _ _) rfl rfl rfl), i1, List.range_succ, List.flatMap_append, mf_app, List.flatMap_singleton]
    rw [show n - 1 = (n - 2) + 1 by omega]
    simp only [sp_X4_goOn1, if_neg h5]
    rw [h4, nI_clamp hc]
    exact hl cnt _ rfl
set_option maxHeartbeats 1000000 in
theorem go0_eq {Z w c p0 p1 p2 p3 p4 p5 S F : Nat → Int32} {t : Nat → Int64} {n cnt : Nat} (hn : n ≤ 5) (hc : cnt < 2 ^ 31) (h4 : Z 4 = nI cnt) : ((sp_X4_goOn0 Z t w c p0 p1 p2 p3 p4 p5 S F (nI n)).1, (sp_X4_goOn0 Z t w c p0 p1 p2 p3 p4 p5 S F (nI n)).2.1, (sp_X4_goOn0 Z t w c p0 p1 p2 p3 p4 p5 S F (nI n)).2.2.1) = mf (ev c S F cnt (n - 0) p0 0) (Z, t, w) := by
  by_cases g : n ≤ 0
  · have h5 : nI n ≤ 0 := by
      rw [show (0 : Int32) = nI 0 from rfl, Int32.le_iff_toInt_le, nI_toInt (by omega), nI_toInt (by omega)]
      omega
    rw [show n - 0 = 0 by omega]
    simp only [sp_X4_goOn0, if_pos h5]
    rfl
  · have h5 : ¬ nI n ≤ 0 := by
      rw [show (0 : Int32) = nI 0 from rfl, Int32.le_iff_toInt_le, nI_toInt (by omega), nI_toInt (by omega)]
      omega
    have hl : ∀ j, ∀ x : (Nat → Int32) × (Nat → Int64) × (Nat → Int32) × (Nat → Int32) × (Nat → Int32) × (Nat → Int32) × (Nat → Int32) × (Nat → Int32), x = lp (bd_X4_goOn0_58 c p0 S F (nI n)) j ((sp_X4_meet Z t w p0 0).1, (sp_X4_meet Z t w p0 0).2.1, (sp_X4_meet Z t w p0 0).2.2, p1, p2, p3, p4, p5) → (x.1, x.2.1, x.2.2.1) = mf ((List.range j).flatMap (fun k => ev c S F cnt (n - 1) (sp_X2_advance p0 S F (c k)) 1)) (sp_X4_meet Z t w p0 0) := by
      intro j
      induction j with
      | zero => intro x ex; rw [ex]; rfl
      | succ j ih =>
        intro y ey
        obtain ⟨x, ex⟩ : ∃ q, q = lp (bd_X4_goOn0_58 c p0 S F (nI n)) j ((sp_X4_meet Z t w p0 0).1, (sp_X4_meet Z t w p0 0).2.1, (sp_X4_meet Z t w p0 0).2.2, p1, p2, p3, p4, p5) := ⟨_, rfl⟩
        have i1 := ih x ex
        have hx4 : x.1 4 = nI cnt := by
          rw [show x.1 = (x.1, x.2.1, x.2.2.1).1 from rfl, i1, mf_4, meet4_, h4]
        have hy : (y.1, y.2.1, y.2.2.1) = ((sp_X4_goOn1 x.1 x.2.1 x.2.2.1 c (sp_X2_advance (sp_X2_copyFrom (x.2.2.2.1) p0) S F (c j)) (x.2.2.2.2.1) (x.2.2.2.2.2.1) (x.2.2.2.2.2.2.1) (x.2.2.2.2.2.2.2) S F (nI n)).1, (sp_X4_goOn1 x.1 x.2.1 x.2.2.1 c (sp_X2_advance (sp_X2_copyFrom (x.2.2.2.1) p0) S F (c j)) (x.2.2.2.2.1) (x.2.2.2.2.2.1) (x.2.2.2.2.2.2.1) (x.2.2.2.2.2.2.2) S F (nI n)).2.1, (sp_X4_goOn1 x.1 x.2.1 x.2.2.1 c (sp_X2_advance (sp_X2_copyFrom (x.2.2.2.1) p0) S F (c j)) (x.2.2.2.2.1) (x.2.2.2.2.2.1) (x.2.2.2.2.2.2.1) (x.2.2.2.2.2.2.2) S F (nI n)).2.2.1) := by
          rw [ey, show lp (bd_X4_goOn0_58 c p0 S F (nI n)) (j + 1) ((sp_X4_meet Z t w p0 0).1, (sp_X4_meet Z t w p0 0).2.1, (sp_X4_meet Z t w p0 0).2.2, p1, p2, p3, p4, p5) = bd_X4_goOn0_58 c p0 S F (nI n) j x by rw [ex]; rfl]
          rfl
        rw [hy, go1_eq (cnt := cnt) hn hc hx4, ev_congr _ _ (adv_congr (copy_eq _ _) rfl rfl rfl), i1, List.range_succ, List.flatMap_append, mf_app, List.flatMap_singleton]
    rw [show n - 0 = (n - 1) + 1 by omega]
    simp only [sp_X4_goOn0, if_neg h5]
    rw [h4, nI_clamp hc]
    exact hl cnt _ rfl
