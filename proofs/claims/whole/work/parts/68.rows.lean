/-! PURE 29: the reference's rows. -/
theorem comes_fr (M : Nat → Int32) (L : Int64) (a12 : Nat → Int32) (a36 : Nat → Int64) (a37 : Nat → Int32) (d : Int32) (q : Nat) (hq : q ≠ 38) : (sp_X9_comes M L a12 a36 a37 d).1 q = M q := by
  simp only [sp_X9_comes]
  have : ∀ (n i : Nat), (sE (fun (x_2 : Unit) => ((upd M 38 ((M 38) + 1)), (vp_updL a36 ((M 38).toNatClampNeg) (sp_X9_stateOf M L a12)), (upd a37 ((M 38).toNatClampNeg) d))) (lq (bd_X9_comes_8 M L a12 a36 a37 d) n i ())).1 q = M q := by
    intro n
    induction n with
    | zero => intro i; exact upd_ne hq
    | succ n ih =>
      intro i
      by_cases c1 : lg_cmp (a36 i) (sp_X9_stateOf M L a12) = 0
      · by_cases c2 : a37 i ≤ d
        · rw [lq_inr (b := (M, a36, (upd a37 i (a37 i)))) (by simp only [bd_X9_comes_8, if_pos c1, if_pos c2])]
          rfl
        · rw [lq_inr (b := (M, a36, (upd a37 i d))) (by simp only [bd_X9_comes_8, if_pos c1, if_neg c2])]
          rfl
      · rw [lq_inl (a' := ()) (by simp only [bd_X9_comes_8, if_neg c1])]
        exact ih (i + 1)
  exact this _ 0
/-- a row's path -/
def rowf (cnt i : Nat) : Nat → Nat := fun j => dgt i j % cnt
def pth (c S F P : Nat → Int32) (cnt i j : Nat) : List ((Nat → Int32) × Nat) := (List.range (j + 1)).map (fun k => (qn c S F P (rowf cnt i) k, k))
theorem pth_succ (c S F P : Nat → Int32) (cnt i j : Nat) : pth c S F P cnt i (j + 1) = pth c S F P cnt i j ++ [(qn c S F P (rowf cnt i) (j + 1), j + 1)] := by
  simp only [pth]
  rw [List.range_succ (n := j + 1), List.map_append]
  rfl
theorem pth_ev {c S F P : Nat → Int32} {cnt i j n : Nat} (hc : 0 < cnt) (hj : j ≤ n) : ∀ e, e ∈ pth c S F P cnt i j → e ∈ ev c S F cnt n P 0 := by
  intro e he
  obtain ⟨k, hk, rfl⟩ := List.mem_map.mp he
  have := List.mem_range.mp hk
  exact (ev_mem n P 0 _).mpr ⟨rowf cnt i, k, by omega, fun q _ => Nat.mod_lt _ hc, by rw [Nat.zero_add]⟩
/-- within a row, j TICKS done -/
def WR (c S F P M0 : Nat → Int32) (l : List ((Nat → Int32) × Nat)) (cnt i j : Nat) (y : (Nat → Int32) × (Nat → Int32) × (Nat → Int64) × (Nat → Int32) × Int32) : Prop := RP (qn c S F P (rowf cnt i) j) y.1 y.2.1 ∧ (∀ q, q < 7 ∨ (23 ≤ q ∧ q ≠ 38) → y.1 q = M0 q) ∧ (∃ N kf, CM (l ++ pth c S F P cnt i j) y.1 y.2.2.1 y.2.2.2.1 N kf) ∧ y.2.2.2.2 = qn c S F P (rowf cnt i) j 16
set_option maxHeartbeats 1000000 in
theorem WR_step {c S F P M0 M a5 a6 : Nat → Int32} {set may : Int32} {l : List ((Nat → Int32) × Nat)} {cnt i j n : Nat} {x : (Nat → Int32) × Int64 × (Nat → Int32) × (Nat → Int64) × (Nat → Int32)} {y : (Nat → Int32) × (Nat → Int32) × (Nat → Int64) × (Nat → Int32) × Int32} (bS : BS S) (rS : RS S M0) (rF : RF F a5) (rV : RV F a6) (bP : BP P S) (h0 : P 16 = 0) (hn : n ≤ 5) (hcn : 0 < cnt ∧ cnt ≤ 4) (hch : ∀ k, k < 4 → sp_X9_chosen set may (nI k) = c (k % cnt)) (hc : ∀ k, k < 4 → ∃ q, q < 512 ∧ c k = nI q) (hl : ∀ e, e ∈ l → e ∈ ev c S F cnt n P 0) (hi : i < 1024) (hj : j < n) (h : WR c S F P M0 l cnt i j y) : WR c S F P M0 l cnt i (j + 1) (bd_X9_goesAll_46 a5 a6 set may i x j y) := by
  obtain ⟨M1, b, a36, a37, tot⟩ := y
  obtain ⟨r, f, ⟨N, kf, hC⟩, ht⟩ := h
  dsimp only at r f hC ht
  have hlt4 : ∀ k, rowf cnt i k < cnt := fun k => Nat.mod_lt _ hcn.1
  obtain ⟨bq, g, hg, eg⟩ := qn_good (f := rowf cnt i) bS rS rF rV bP h0 hc j (fun k _ => by have := hlt4 k; omega)
  have hN : N ≤ 1365 := by
    have h1 := hC.len (l' := ev c S F cnt n P 0) (fun e he => ⟨e, by
      rcases List.mem_append.mp he with q | q
      · exact hl e q
      · exact pth_ev hcn.1 (by omega) e q, rfl⟩)
    have h2 := ev_len (c := c) (S := S) (F := F) hcn.2 n P 0
    have h3 : 4 ^ (n + 1) ≤ 4 ^ 6 := Nat.pow_le_pow_right (by omega) (by omega)
    omega
  obtain ⟨u, hu, eu⟩ := hc (rowf cnt i j) (by have := hlt4 j; omega)
  have hset : sp_X9_chosen set may (((nI i) >>> ((2 * (nI j)) &&& 31)) &&& 3) = nI u := by
    rw [show (((nI i) >>> ((2 * (nI j)) &&& 31)) &&& 3) = nI (dgt i j) from dgt_tab ⟨i, hi⟩ ⟨j, by omega⟩, hch (dgt i j) (Nat.mod_lt _ (by omega)), ← eu]
    rfl
  obtain ⟨P', eP⟩ : ∃ q, q = sp_X2_advance (qn c S F P (rowf cnt i) j) S F (nI u) := ⟨_, rfl⟩
  have hP' : qn c S F P (rowf cnt i) (j + 1) = P' := by
    rw [eP, ← eu]
    rfl
  obtain ⟨M2, eM⟩ : ∃ q, q = (sp_X9_tickBy M1 x.2.1 a5 a6 b (nI u)).1 := ⟨_, rfl⟩
  obtain ⟨b2, eb⟩ : ∃ q, q = (sp_X9_tickBy M1 x.2.1 a5 a6 b (nI u)).2 := ⟨_, rfl⟩
  obtain ⟨r', bP', d16, -, -, -⟩ := tick_sim bS (rS.fr (fun q hq => f q (by omega))) rF rV r bq hu eP eM eb
  have f2 : ∀ q, q < 7 ∨ 23 ≤ q → M2 q = M1 q := fun q hq => by rw [eM]; exact tickBy_fr _ _ _ _ _ _ q hq
  have hC2 : CM (l ++ pth c S F P cnt i j) M2 a36 a37 N kf := ⟨(f2 38 (by omega)).trans hC.1, hC.2⟩
  obtain ⟨R, eR⟩ : ∃ q, q = sp_X9_comes M2 x.2.1 b2 a36 a37 (nI (j + 1)) := ⟨_, rfl⟩
  have f3 : ∀ q, q ≠ 38 → R.1 q = M2 q := fun q hq => by rw [eR]; exact comes_fr _ _ _ _ _ _ q hq
  have hC3 := CM_step (e := (P', j + 1)) hC2 (by omega) (bP'.vp bS) r' (by show j + 1 < 64; omega) eR
  have hy : bd_X9_goesAll_46 a5 a6 set may i x j (M1, b, a36, a37, tot) = (R.1, b2, R.2.1, R.2.2, tot + M2 21) := by
    simp only [bd_X9_goesAll_46, hset, ← eM, ← eb, nI_1, ← eR]
  rw [hy]
  refine ⟨?_, fun q hq => ?_, ?_, ?_⟩
  · show RP (qn c S F P (rowf cnt i) (j + 1)) R.1 b2
    rw [hP']
    exact r'.fr (fun q _ _ => f3 q (by omega))
  · show R.1 q = M0 q
    rw [f3 q (by omega), f2 q (by omega)]
    exact f q hq
  · show ∃ N kf, CM (l ++ pth c S F P cnt i (j + 1)) R.1 R.2.1 R.2.2 N kf
    rw [pth_succ, ← List.append_assoc, hP']
    exact hC3
  · show tot + M2 21 = qn c S F P (rowf cnt i) (j + 1) 16
    rw [hP', d16, ht]
/-- the rows done -/
def OR (c S F P M : Nat → Int32) (cnt n : Nat) (l : List ((Nat → Int32) × Nat)) (x : (Nat → Int32) × Int64 × (Nat → Int32) × (Nat → Int64) × (Nat → Int32)) : Prop := RP P x.1 x.2.2.1 ∧ (∀ q, q < 7 ∨ (23 ≤ q ∧ q ≠ 38 ∧ q ≠ 39) → x.1 q = M q) ∧ (∃ N kf, CM l x.1 x.2.2.2.1 x.2.2.2.2 N kf) ∧ (∀ e, e ∈ l → e ∈ ev c S F cnt n P 0) ∧ MX (fun g => ∃ e, e ∈ l ∧ e.2 = n ∧ dg e = g) (x.1 39)
theorem CM.small {c S F P : Nat → Int32} {cnt n N : Nat} {kf : Nat → Nat} {l : List ((Nat → Int32) × Nat)} {M : Nat → Int32} {a36 : Nat → Int64} {a37 : Nat → Int32} (h : CM l M a36 a37 N kf) (hn : n ≤ 5) (hc : cnt ≤ 4) (hl : ∀ e, e ∈ l → e ∈ ev c S F cnt n P 0) : N ≤ 1365 := by
  have h1 := h.len (l' := ev c S F cnt n P 0) (fun e he => ⟨e, hl e he, rfl⟩)
  have h2 := ev_len (c := c) (S := S) (F := F) hc n P 0
  have h3 : 4 ^ (n + 1) ≤ 4 ^ 6 := Nat.pow_le_pow_right (by omega) (by omega)
  omega
theorem WR_loop {c S F P M0 a5 a6 : Nat → Int32} {set may : Int32} {l : List ((Nat → Int32) × Nat)} {cnt i n : Nat} {x : (Nat → Int32) × Int64 × (Nat → Int32) × (Nat → Int64) × (Nat → Int32)} {y : (Nat → Int32) × (Nat → Int32) × (Nat → Int64) × (Nat → Int32) × Int32} (bS : BS S) (rS : RS S M0) (rF : RF F a5) (rV : RV F a6) (bP : BP P S) (h0 : P 16 = 0) (hn : n ≤ 5) (hcn : 0 < cnt ∧ cnt ≤ 4) (hch : ∀ k, k < 4 → sp_X9_chosen set may (nI k) = c (k % cnt)) (hc : ∀ k, k < 4 → ∃ q, q < 512 ∧ c k = nI q) (hl : ∀ e, e ∈ l → e ∈ ev c S F cnt n P 0) (hi : i < 1024) (h : WR c S F P M0 l cnt i 0 y) : ∀ j, j ≤ n → WR c S F P M0 l cnt i j (lp (bd_X9_goesAll_46 a5 a6 set may i x) j y) := by
  intro j
  induction j with
  | zero => intro _; exact h
  | succ j ih =>
    intro hj
    exact WR_step (M := M0) bS rS rF rV bP h0 hn hcn hch hc hl hi (by omega) (ih (by omega))
theorem WR_begin {c S F P M : Nat → Int32} {cnt n i : Nat} {l : List ((Nat → Int32) × Nat)} {x : (Nat → Int32) × Int64 × (Nat → Int32) × (Nat → Int64) × (Nat → Int32)} (bS : BS S) (bP : BP P S) (h0 : P 16 = 0) (hn : n ≤ 5) (hcn : 0 < cnt ∧ cnt ≤ 4) (h : OR c S F P M cnt n l x) : WR c S F P x.1 l cnt i 0 ((sp_X9_comes (x.1) (x.2.1) (x.2.2.1) (x.2.2.2.1) (x.2.2.2.2) 0).1, (x.2.2.1), (sp_X9_comes (x.1) (x.2.1) (x.2.2.1) (x.2.2.2.1) (x.2.2.2.2) 0).2.1, (sp_X9_comes (x.1) (x.2.1) (x.2.2.1) (x.2.2.2.1) (x.2.2.2.2) 0).2.2, 0) := by
  obtain ⟨r, f, ⟨N, kf, hC⟩, hl, hM⟩ := h
  have hN := hC.small hn hcn.2 hl
  have hC2 := CM_step (e := (P, 0)) hC (by omega) (bP.vp bS) r (by show 0 < 64; omega) (L := x.2.1) rfl
  exact ⟨r.fr (fun q _ _ => comes_fr _ _ _ _ _ _ q (by omega)), fun q hq => comes_fr _ _ _ _ _ _ q (by omega), hC2, h0.symm⟩
set_option maxHeartbeats 1000000 in
theorem OR_step {c S F P Q M a5 a6 a12 : Nat → Int32} {L : Int64} {set may : Int32} {l : List ((Nat → Int32) × Nat)} {cnt i n : Nat} {x : (Nat → Int32) × Int64 × (Nat → Int32) × (Nat → Int64) × (Nat → Int32)} (bS : BS S) (rS : RS S M) (rF : RF F a5) (rV : RV F a6) (rP : RP P M a12) (bP : BP P S) (h0 : P 16 = 0) (hn : n ≤ 5) (hcn : 0 < cnt ∧ cnt ≤ 4) (hch : ∀ k, k < 4 → sp_X9_chosen set may (nI k) = c (k % cnt)) (hc : ∀ k, k < 4 → ∃ q, q < 512 ∧ c k = nI q) (hi : i < 1024) (h : OR c S F P M cnt n l x) : OR c S F P M cnt n (l ++ pth c S F P cnt i n) (bd_X9_goesAll_25 M L a5 a6 a12 set may (nI n) i x) := by
  have hb := WR_begin (i := i) bS bP h0 hn hcn h
  obtain ⟨r, f, -, hl, hM⟩ := h
  have rSx : RS S x.1 := rS.fr (fun q hq => f q (by omega))
  have hw := WR_loop (x := x) bS rSx rF rV bP h0 hn hcn hch hc hl hi hb n (Nat.le_refl _)
  obtain ⟨y, ey⟩ : ∃ q, q = lp (bd_X9_goesAll_46 a5 a6 set may i x) n ((sp_X9_comes (x.1) (x.2.1) (x.2.2.1) (x.2.2.2.1) (x.2.2.2.2) 0).1, (x.2.2.1), (sp_X9_comes (x.1) (x.2.1) (x.2.2.1) (x.2.2.2.1) (x.2.2.2.2) 0).2.1, (sp_X9_comes (x.1) (x.2.1) (x.2.2.1) (x.2.2.2.1) (x.2.2.2.2) 0).2.2, 0) := ⟨_, rfl⟩
  rw [← ey] at hw
  obtain ⟨ry, fy, ⟨N, kf, hC⟩, ht⟩ := hw
  obtain ⟨z, ez⟩ : ∃ q : Int32, q = if y.2.2.2.2 ≤ y.1 39 then y.1 39 else y.2.2.2.2 := ⟨_, rfl⟩
  obtain ⟨R, eR⟩ : ∃ q, q = sp_X9_becomes (upd y.1 39 z) x.2.1 y.2.1 (sp_X9_stateOf M L a12) (M 18) := ⟨_, rfl⟩
  have fR : ∀ q, q < 7 ∨ 19 ≤ q → R.1 q = upd y.1 39 z q := fun q hq => by rw [eR]; exact becomes_fr _ _ _ _ _ q hq
  have hx : bd_X9_goesAll_25 M L a5 a6 a12 set may (nI n) i x = (R.1, R.2.1, R.2.2, y.2.2.1, y.2.2.2.1) := by
    simp only [bd_X9_goesAll_25, nI_clamp (show n < 2 ^ 31 by omega), ← ey, ← ez, ← eR]
  rw [hx]
  have hlt4 : ∀ k, rowf cnt i k < cnt := fun k => Nat.mod_lt _ hcn.1
  obtain ⟨bq, g, hg, eg⟩ := qn_good (f := rowf cnt i) bS rS rF rV bP h0 hc n (fun k _ => by have := hlt4 k; omega)
  refine ⟨?_, fun q hq => ?_, ⟨N, kf, ?_⟩, fun e he => ?_, ?_⟩
  · show RP P R.1 R.2.2
    rw [eR]
    exact RP_back (L := L) bS bP rP
  · show R.1 q = M q
    rw [fR q (by omega), upd_ne (by omega), fy q (by omega)]
    exact f q hq
  · show CM _ R.1 y.2.2.1 y.2.2.2.1 N kf
    exact ⟨((fR 38 (by omega)).trans (upd_ne (by omega))).trans hC.1, hC.2⟩
  · rcases List.mem_append.mp he with q | q
    · exact hl e q
    · exact pth_ev hcn.1 (Nat.le_refl _) e q
  · show MX _ (R.1 39)
    rw [fR 39 (by omega), show upd y.1 39 z 39 = z from if_pos rfl, ez, ← mx_flip, fy 39 (by omega), ht, eg]
    refine hM.step (g := g) (by omega) (fun k => ?_)
    constructor
    · rintro ⟨e, he, e2, e3⟩
      rcases List.mem_append.mp he with q | q
      · exact .inl ⟨e, q, e2, e3⟩
      · obtain ⟨w, hw, rfl⟩ := List.mem_map.mp q
        dsimp only at e2
        subst e2
        refine .inr ?_
        rw [← e3]
        show (qn c S F P (rowf cnt i) w 16).toNatClampNeg = g
        rw [eg, nI_clamp (by omega)]
    · rintro (⟨e, he, e2, e3⟩ | e3)
      · exact ⟨e, List.mem_append_left _ he, e2, e3⟩
      · refine ⟨(qn c S F P (rowf cnt i) n, n), List.mem_append_right _ (List.mem_map.mpr ⟨n, List.mem_range.mpr (by omega), rfl⟩), rfl, ?_⟩
        show (qn c S F P (rowf cnt i) n 16).toNatClampNeg = k
        rw [eg, nI_clamp (by omega), e3]
