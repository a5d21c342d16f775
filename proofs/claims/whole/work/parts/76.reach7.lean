/-! PURE 36: what the contract of the reference's reach asks. -/
theorem reach_hyp {P S F M a5 a6 a12 : Nat → Int32} {L : Int64} {a36 : Nat → Int64} {a37 : Nat → Int32} {set may n : Int32} (bS : BS S) (rS : RS S M) (rF : RF F a5) (rV : RV F a6) (rP : RP P M a12) (bP : BP P S) (hv : ¬ sp_X9_isSet set = 0 ∧ ¬ sp_X9_isMay M L may = 0 ∧ ¬ sp_X9_within n 0 5 = 0) :
    (¬ (1 <<< ((2 * n) &&& 31) : Int32) < 0) ∧ (¬ n < 0) ∧ (∀ i, i < (1 <<< ((2 * n) &&& 31) : Int32).toNatClampNeg → okc (lp (bd_X9_goesAll_25 M L a5 a6 a12 set may n) i ((upd (upd M 38 0) 39 0), L, a12, a36, a37)).1) ∧ (∀ i x, i < (1 <<< ((2 * n) &&& 31) : Int32).toNatClampNeg → x = lp (bd_X9_goesAll_25 M L a5 a6 a12 set may n) i ((upd (upd M 38 0) 39 0), L, a12, a36, a37) → ∀ j, j < n.toNatClampNeg → okc (lp (bd_X9_goesAll_46 a5 a6 set may i x) j ((sp_X9_comes (x.1) (x.2.1) (x.2.2.1) (x.2.2.2.1) (x.2.2.2.2) 0).1, (x.2.2.1), (sp_X9_comes (x.1) (x.2.1) (x.2.2.1) (x.2.2.2.1) (x.2.2.2.2) 0).2.1, (sp_X9_comes (x.1) (x.2.1) (x.2.2.1) (x.2.2.2.1) (x.2.2.2.2) 0).2.2, 0)).1) ∧ ¬ (sp_X9_goesAll M L a5 a6 a12 a36 a37 set may n).1 38 < 0 ∧ ((sp_X9_goesAll M L a5 a6 a12 a36 a37 set may n).1 38).toNatClampNeg ≤ 1400 := by
  obtain ⟨v1, v2, v3⟩ := hv
  obtain ⟨s, hs, rfl⟩ := wi_ex (hi := 511) v1 (by omega)
  have v2' : ¬ sp_X8_isSet may = 0 := fun q => v2 (by simp only [sp_X9_isMay, if_pos (show sp_X9_isSet may = 0 from q)])
  obtain ⟨m, hm, rfl⟩ := wi_ex (hi := 511) v2' (by omega)
  have h2 : ¬ 2 < sp_J6_bitCount_0f7a4 (nI m) := fun q => v2 ((may_eq (by omega)).mpr q)
  obtain ⟨n, hn, rfl⟩ := wi_ex (hi := 5) v3 (by omega)
  obtain ⟨g1, g2⟩ := shl_tab ⟨n, by omega⟩
  dsimp only at g1 g2
  obtain ⟨C, eC⟩ : ∃ q, q = sp_X4_chooseSets (upd (upd (fun _ => 0) 5 0) 6 0) (fun _ => 0) (nI s) (nI m) := ⟨_, rfl⟩
  obtain ⟨-, kc, kh, kq, -⟩ := choose_eq (by omega) (by omega) h2 eC
  have hO := goes_OR (p0 := fun _ => 0) (L := L) (a36 := a36) (a37 := a37) bS rS rF rV rP bP (show s < 512 by omega) (show m < 512 by omega) h2 hn eC
  have h4 : 4 ^ n ≤ 4 ^ 5 := Nat.pow_le_pow_right (by omega) hn
  have ok1 : ∀ i, i ≤ 4 ^ n → okc (lp (bd_X9_goesAll_25 M L a5 a6 a12 (nI s) (nI m) (nI n)) i ((upd (upd M 38 0) 39 0), L, a12, a36, a37)).1 := by
    intro i hi
    obtain ⟨-, -, ⟨N, kf, hC⟩, hl, -⟩ := hO i hi
    exact okc_of hC (hC.small hn kc.2 hl)
  rw [g1]
  refine ⟨g2, ?_, fun i hi => ok1 i (by omega), fun i x hi ex j hj => ?_, ?_, ?_⟩
  · rw [Int32.lt_iff_toInt_lt, nI_toInt (by omega)]
    have z : (0 : Int32).toInt = 0 := by decide
    omega
  · rw [nI_clamp (by omega)] at hj
    have h := hO i (by omega)
    rw [← ex] at h
    have hb := WR_begin (i := i) bS (BP_EqP bP (start_eq (fun _ => 0) P)) rfl hn kc h
    have rSx : RS S x.1 := rS.fr (fun q hq => h.2.1 q (by omega))
    obtain ⟨-, -, ⟨N, kf, hC⟩, -⟩ := WR_loop (x := x) bS rSx rF rV (BP_EqP bP (start_eq (fun _ => 0) P)) rfl hn kc kh kq h.2.2.2.1 (by omega) hb j (by omega)
    refine okc_of hC (hC.small (c := C.2) (S := S) (F := F) (P := upd (sp_X2_copyFrom (fun _ => 0) P) 16 0) hn kc.2 (fun e he => ?_))
    rcases List.mem_append.mp he with q | q
    · exact h.2.2.2.1 e q
    · exact pth_ev kc.1 (by omega) e q
  · rw [goes_lp hn]
    exact (ok1 (4 ^ n) (Nat.le_refl _)).1
  · rw [goes_lp hn]
    have := (ok1 (4 ^ n) (Nat.le_refl _)).2
    omega
