/-! PURE 32: reach, the beginning of the class's walk. -/
theorem TI_empty {t : Nat → Int64} (h : ∀ s, s < 2048 → t s = 0) : TI t [] := ⟨List.nodup_nil, List.not_mem_nil, fun s hs q => absurd (h s hs) q, fun s s' hs _ q _ => absurd (h s hs) q, fun x hx => absurd hx List.not_mem_nil⟩
theorem fillJ_at (f : Nat → Int64) (v : Int64) : ∀ n s, s < n → sp_J7_fill_d0a16 n f v s = v := by
  intro n
  induction n with
  | zero => intro s hs; omega
  | succ n ih =>
    intro s hs
    show vp_updL (lp (bd_J7_fill_d0a16_6 v) n f) n v s = v
    by_cases q : s = n
    · exact if_pos q
    · exact (if_neg q).trans (ih s (by omega))
theorem fillI_at (f : Nat → Int32) (v : Int32) : ∀ n s, s < n → sp_J7_fill_53178 n f v s = v := by
  intro n
  induction n with
  | zero => intro s hs; omega
  | succ n ih =>
    intro s hs
    show upd (lp (bd_J7_fill_53178_5 v) n f) n v s = v
    by_cases q : s = n
    · exact if_pos q
    · exact (if_neg q).trans (ih s (by omega))
theorem RP_EqP {P P' M a12 : Nat → Int32} (h : RP P M a12) (e : ∀ k, 2 ≤ k → k < 16 → P' k = P k) : RP P' M a12 := by
  obtain ⟨h7, h8, h9, h10, h11, c0, c1, c2, h13, h14, h15, h16, h17, h18⟩ := h
  refine ⟨h7.trans (e 2 (by omega) (by omega)).symm, h8.trans (e 3 (by omega) (by omega)).symm, h9.trans (e 4 (by omega) (by omega)).symm, h10.trans (e 5 (by omega) (by omega)).symm, h11.trans (e 6 (by omega) (by omega)).symm, c0.trans (e 7 (by omega) (by omega)).symm, c1.trans (e 8 (by omega) (by omega)).symm, c2.trans (e 9 (by omega) (by omega)).symm, h13.trans (e 10 (by omega) (by omega)).symm, h14.trans (e 11 (by omega) (by omega)).symm, h15.trans (e 12 (by omega) (by omega)).symm, h16.trans (e 13 (by omega) (by omega)).symm, h17.trans (e 14 (by omega) (by omega)).symm, ?_⟩
  rw [h18, e 2 (by omega) (by omega), e 15 (by omega) (by omega)]
theorem BP_EqP {P P' S : Nat → Int32} (h : BP P S) (e : ∀ k, 2 ≤ k → k < 16 → P' k = P k) : BP P' S := by
  simp only [BP, e 2 (by omega) (by omega), e 3 (by omega) (by omega), e 4 (by omega) (by omega), e 5 (by omega) (by omega), e 6 (by omega) (by omega), e 7 (by omega) (by omega), e 8 (by omega) (by omega), e 9 (by omega) (by omega), e 10 (by omega) (by omega), e 11 (by omega) (by omega), e 12 (by omega) (by omega), e 13 (by omega) (by omega), e 14 (by omega) (by omega)]
  exact h
theorem start_eq (p0 P : Nat → Int32) : ∀ k, 2 ≤ k → k < 16 → upd (sp_X2_copyFrom p0 P) 16 0 k = P k := by
  intro k h1 h2
  rw [upd_ne (by omega)]
  exact copy_eq p0 P k h1 (by omega)
/-- the class's walk, from the beginning: what it has met -/
theorem run_MS {P S F M a5 a6 Z w0 c0 p0 p1 p2 p3 p4 p5 : Nat → Int32} {t0 : Nat → Int64} {s m n : Nat} (bS : BS S) (rS : RS S M) (rF : RF F a5) (rV : RV F a6) (bP : BP P S) (hs : s < 512) (hm : m < 512) (h2 : ¬ 2 < sp_J6_bitCount_0f7a4 (nI m)) (hn : n ≤ 5) {C : (Nat → Int32) × (Nat → Int32)} (eC : C = sp_X4_chooseSets (upd (upd Z 5 0) 6 0) c0 (nI s) (nI m)) : MS (ev C.2 S F (cntOf (nI m)) n (upd (sp_X2_copyFrom p0 P) 16 0) 0) ((sp_X4_run Z t0 w0 c0 p0 p1 p2 p3 p4 p5 S F P (nI s) (nI m) (nI n)).1, (sp_X4_run Z t0 w0 c0 p0 p1 p2 p3 p4 p5 S F P (nI s) (nI m) (nI n)).2.1, (sp_X4_run Z t0 w0 c0 p0 p1 p2 p3 p4 p5 S F P (nI s) (nI m) (nI n)).2.2.1) := by
  obtain ⟨k4, kc, -, kq, kz⟩ := choose_eq hs hm h2 eC
  have hw := walk_MS (c := C.2) (Z := C.1) (w0 := sp_J7_fill_53178 5 w0 (-9)) (t0 := sp_J7_fill_d0a16 2048 t0 0) (n := n) (P := upd (sp_X2_copyFrom p0 P) 16 0) bS rS rF rV (BP_EqP bP (start_eq p0 P)) rfl hn kc kq (TI_empty (fun q hq => fillJ_at _ _ _ q hq)) (fun j hj => fillI_at _ _ _ j hj) ((kz 5 (by omega)).trans rfl) ((kz 6 (by omega)).trans rfl)
  have hg := go0_eq (Z := C.1) (w := sp_J7_fill_53178 5 w0 (-9)) (t := sp_J7_fill_d0a16 2048 t0 0) (c := C.2) (p0 := upd (sp_X2_copyFrom p0 P) 16 0) (p1 := p1) (p2 := p2) (p3 := p3) (p4 := p4) (p5 := p5) (S := S) (F := F) hn (show cntOf (nI m) < 2 ^ 31 by omega) k4
  rw [Nat.sub_zero] at hg
  rw [← hg] at hw
  subst eC
  exact hw
