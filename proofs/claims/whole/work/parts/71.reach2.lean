/-! PURE 31: the least depth of a MODE in the reference's list. -/
theorem LD.wk {Q Q' : Nat → Prop} {x : Int32} (h : LD Q x) (h1 : ∀ k, Q k → Q' k) (h2 : ∀ k, Q' k → ∃ k', k' ≤ k ∧ Q k') : LD Q' x := by
  rcases h with ⟨h, n⟩ | ⟨k, hk, h, q, l⟩
  · refine .inl ⟨h, fun k w => ?_⟩
    obtain ⟨k', -, w'⟩ := h2 k w
    exact n k' w'
  · refine .inr ⟨k, hk, h, h1 k q, fun k' w => ?_⟩
    obtain ⟨k2, h3, w'⟩ := h2 k' w
    have := l k2 w'
    omega
theorem OK_mode {P : Nat → Int32} (h : OK P) : (P 2).toNatClampNeg = nnk P / 2 ^ 39 := by
  obtain ⟨-, -, e, l⟩ := h.code (L := 0) (mkM_RP P P)
  rw [e, nI_clamp (by omega)]
theorem modeOf_eq {M : Nat → Int32} {L : Int64} {κ : Nat} (h : κ < 2 ^ 42) : sp_X9_modeOf M L (lN κ) = nI (κ / 2 ^ 39) := by
  have h1 : (lN κ >>> ((39 : Int32).toInt64 &&& 63) : Int64) = lN (κ / 2 ^ 39) := by
    apply Int64.toBitVec_inj.mp
    rw [Int64.toBitVec_shiftRight]
    apply BitVec.eq_of_toNat_eq
    rw [show ((((39 : Int32).toInt64 &&& 63 : Int64).toBitVec.smod 64) : BitVec 64) = 39#64 by decide +kernel]
    rw [BitVec.sshiftRight_eq', BitVec.toNat_sshiftRight_of_msb_false]
    · simp only [lN, Int64.toBitVec_ofNat', BitVec.toNat_ofNat]
      rw [Nat.shiftRight_eq_div_pow, show (39 % 2 ^ 64 : Nat) = 39 from rfl]
      omega
    · simp only [lN, Int64.toBitVec_ofNat', BitVec.msb_eq_decide, BitVec.toNat_ofNat]
      rw [Nat.mod_eq_of_lt (by omega)]
      simp
      omega
  simp only [sp_X9_modeOf]
  rw [h1]
  apply Int32.toBitVec_inj.mp
  simp only [lN, nI, Int64.toBitVec_toInt32, Int64.toBitVec_ofNat', Int32.toBitVec_ofNat']
  rw [BitVec.signExtend_eq_setWidth_of_le _ (by omega)]
  apply BitVec.eq_of_toNat_eq
  simp only [BitVec.toNat_setWidth, BitVec.toNat_ofNat]
  omega
theorem nnk_lt {P : Nat → Int32} (h : OK P) : nnk P < 2 ^ 42 := by
  obtain ⟨-, -, -, l⟩ := h.code (L := 0) (mkM_RP P P)
  omega
/-- the reference's loop for the least depth of a MODE -/
theorem mode_loop {l : List ((Nat → Int32) × Nat)} {M M' : Nat → Int32} {L : Int64} {a36 : Nat → Int64} {a37 : Nat → Int32} {N j : Nat} {kf : Nat → Nat} (h : CM l M a36 a37 N kf) (hj : j < 5) (ok : ∀ e, e ∈ l → OK e.1) : ∀ m, m ≤ N → LD (fun k => ∃ i, i < m ∧ kf i / 2 ^ 39 = j ∧ ∃ e, e ∈ l ∧ nnk e.1 = kf i ∧ e.2 = k) (lp (bd_X9_reach_86 (nI (10 + j)) M' L a36 a37) m (-9)) := by
  obtain ⟨-, -, ha, hK, hL⟩ := h
  intro m
  induction m with
  | zero =>
    intro _
    exact .inl ⟨rfl, fun k ⟨i, hi, _⟩ => by omega⟩
  | succ m ih =>
    intro hm
    have hx := ih (by omega)
    obtain ⟨x, ex⟩ : ∃ q, q = lp (bd_X9_reach_86 (nI (10 + j)) M' L a36 a37) m (-9) := ⟨_, rfl⟩
    rw [← ex] at hx
    show LD _ (bd_X9_reach_86 (nI (10 + j)) M' L a36 a37 m (lp (bd_X9_reach_86 (nI (10 + j)) M' L a36 a37) m (-9)))
    rw [← ex]
    obtain ⟨e0, he0, k0⟩ := (hK (kf m)).mp ⟨m, by omega, rfl⟩
    have hlt : kf m < 2 ^ 42 := by rw [← k0]; exact nnk_lt (ok e0 he0)
    have hmd : sp_X9_modeOf M' L (a36 m) = nI (kf m / 2 ^ 39) := by rw [(ha m (by omega)).1]; exact modeOf_eq hlt
    have hw : (nI (10 + j)) - 10 = nI j := by
      rw [show (10 : Int32) = nI 10 from rfl, nI_sub (by omega), Nat.add_sub_cancel_left]
    by_cases c : kf m / 2 ^ 39 = j
    · have hb : bd_X9_reach_86 (nI (10 + j)) M' L a36 a37 m x = (if x = (-9) then a37 m else if x ≤ a37 m then x else a37 m) := by
        simp only [bd_X9_reach_86, hmd, hw, c]
        rfl
      rw [hb]
      rcases hL m (by omega) with ⟨-, n⟩ | ⟨d, hd, ed, qd, ld⟩
      · exact absurd ⟨e0, he0, k0, rfl⟩ (n e0.2)
      · rw [ed]
        refine (hx.step (Q' := fun k => (∃ i, i < m ∧ kf i / 2 ^ 39 = j ∧ ∃ e, e ∈ l ∧ nnk e.1 = kf i ∧ e.2 = k) ∨ k = d) hd (fun k => Iff.rfl)).wk (fun k w => ?_) (fun k w => ?_)
        · rcases w with ⟨i, hi, w⟩ | w
          · exact ⟨i, by omega, w⟩
          · subst w
            exact ⟨m, by omega, c, qd⟩
        · obtain ⟨i, hi, w1, w2⟩ := w
          by_cases q : i = m
          · subst q
            exact ⟨d, ld k w2, .inr rfl⟩
          · exact ⟨k, Nat.le_refl _, .inl ⟨i, by omega, w1, w2⟩⟩
    · have hne : ¬ nI (kf m / 2 ^ 39) = nI j := fun q => c ((nI_eq (by omega) (by omega)).mp q)
      have hb : bd_X9_reach_86 (nI (10 + j)) M' L a36 a37 m x = x := by
        simp only [bd_X9_reach_86, hmd, hw, if_neg hne, if_true]
      rw [hb]
      exact hx.same (fun k => ⟨fun ⟨i, hi, w1, w2⟩ => ⟨i, by
        have : i ≠ m := fun q => c (q ▸ w1)
        omega, w1, w2⟩, fun ⟨i, hi, w⟩ => ⟨i, by omega, w⟩⟩)
theorem mode_all {l : List ((Nat → Int32) × Nat)} {M M' : Nat → Int32} {L : Int64} {a36 : Nat → Int64} {a37 : Nat → Int32} {N j : Nat} {kf : Nat → Nat} (h : CM l M a36 a37 N kf) (hj : j < 5) (ok : ∀ e, e ∈ l → OK e.1) : LD (fun k => ∃ e, e ∈ l ∧ md e = j ∧ e.2 = k) (lp (bd_X9_reach_86 (nI (10 + j)) M' L a36 a37) N (-9)) := by
  refine (mode_loop h hj ok N (Nat.le_refl _)).same (fun k => ⟨fun ⟨e, he, w1, w2⟩ => ?_, fun ⟨i, hi, w1, e, he, w2, w3⟩ => ⟨e, he, ?_, w3⟩⟩)
  · obtain ⟨i, hi, w⟩ := (h.2.2.2.1 (nnk e.1)).mpr ⟨e, he, rfl⟩
    refine ⟨i, hi, ?_, e, he, w.symm, w2⟩
    rw [w, ← OK_mode (ok e he)]
    exact w1
  · show (e.1 2).toNatClampNeg = j
    rw [OK_mode (ok e he), w2, w1]
