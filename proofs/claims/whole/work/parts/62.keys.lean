/-! PURE 23: the key of a STATE. -/
def nnk (P : Nat → Int32) : Nat := nc (P 2).toNatClampNeg (P 3).toNatClampNeg (P 4).toNatClampNeg (P 5).toNatClampNeg (P 6).toNatClampNeg (P 7).toNatClampNeg (P 8).toNatClampNeg (P 9).toNatClampNeg (P 10).toNatClampNeg (P 11).toNatClampNeg (P 12).toNatClampNeg (P 13).toNatClampNeg (P 14).toNatClampNeg
theorem VP.nn {P : Nat → Int32} {m h s mu mf x0 x1 x2 un cm p br rs : Nat} (v : VP P m h s mu mf x0 x1 x2 un cm p br rs) : nnk P = nc m h s mu mf x0 x1 x2 un cm p br rs := by
  obtain ⟨⟨e2, e3, e4, e5, e6, e7, e8, e9, e10, e11, e12, e13, e14⟩, hm, hh, hs, hmu, hmf, h0, h1, h2, hu, hc, hp, hb, hr⟩ := v
  simp only [nnk, e2, e3, e4, e5, e6, e7, e8, e9, e10, e11, e12, e13, e14, nI_clamp (show m < 2 ^ 31 by omega), nI_clamp (show h < 2 ^ 31 by omega), nI_clamp (show s < 2 ^ 31 by omega), nI_clamp (show mu < 2 ^ 31 by omega), nI_clamp (show mf < 2 ^ 31 by omega), nI_clamp (show x0 < 2 ^ 31 by omega), nI_clamp (show x1 < 2 ^ 31 by omega), nI_clamp (show x2 < 2 ^ 31 by omega), nI_clamp (show un < 2 ^ 31 by omega), nI_clamp (show cm < 2 ^ 31 by omega), nI_clamp (show p < 2 ^ 31 by omega), nI_clamp (show br < 2 ^ 31 by omega), nI_clamp (show rs < 2 ^ 31 by omega)]
theorem number_vp {P : Nat → Int32} {m h s mu mf x0 x1 x2 un cm p br rs : Nat} (v : VP P m h s mu mf x0 x1 x2 un cm p br rs) : sp_X2_stateNumber P = lN (cc_ m h s mu mf x0 x1 x2 un cm p br rs) := by
  obtain ⟨⟨e2, e3, e4, e5, e6, e7, e8, e9, e10, e11, e12, e13, e14⟩, hm, hh, hs, hmu, hmf, h0, h1, h2, hu, hc, hp, hb, hr⟩ := v
  exact number_eq e2 e3 e4 e5 e6 e7 e8 e9 e10 e11 e12 e13 e14 (by omega) (by omega) (by omega) (by omega) (by omega) (by omega) (by omega) (by omega) (by omega) (by omega) (by omega) (by omega) (by omega)
theorem cc_lt {m h s mu mf x0 x1 x2 un cm p br rs : Nat} (hm : m ≤ 4) (hh : h ≤ 3) (hs : s ≤ 9) (hmu : mu ≤ 4) (hmf : mf ≤ 30) (h0 : x0 ≤ 9) (h1 : x1 ≤ 9) (h2 : x2 ≤ 9) (hu : un ≤ 9) (hc : cm ≤ 1) (hp : p ≤ 17) (hb : br ≤ 3) (hr : rs ≤ 1) : 0 < cc_ m h s mu mf x0 x1 x2 un cm p br rs ∧ cc_ m h s mu mf x0 x1 x2 un cm p br rs < 2 ^ 63 := by
  simp only [cc_]
  omega
theorem nc_lt {m h s mu mf x0 x1 x2 un cm p br rs : Nat} (hm : m ≤ 4) (hh : h ≤ 3) (hs : s ≤ 9) (hmu : mu ≤ 4) (hmf : mf ≤ 30) (h0 : x0 ≤ 9) (h1 : x1 ≤ 9) (h2 : x2 ≤ 9) (hu : un ≤ 9) (hc : cm ≤ 1) (hp : p ≤ 17) (hb : br ≤ 3) (hr : rs ≤ 1) : nc m h s mu mf x0 x1 x2 un cm p br rs < 2 ^ 63 ∧ nc m h s mu mf x0 x1 x2 un cm p br rs / 2 ^ 39 = m := by
  simp only [nc]
  omega
theorem key_iff {P P' : Nat → Int32} {m h s mu mf x0 x1 x2 un cm p br rs m' h' s' mu' mf' x0' x1' x2' un' cm' p' br' rs' : Nat} (v : VP P m h s mu mf x0 x1 x2 un cm p br rs) (v' : VP P' m' h' s' mu' mf' x0' x1' x2' un' cm' p' br' rs') : sp_X2_stateNumber P = sp_X2_stateNumber P' ↔ nnk P = nnk P' := by
  rw [number_vp v, number_vp v', v.nn, v'.nn]
  obtain ⟨-, hm, hh, hs, hmu, hmf, h0, h1, h2, hu, hc, hp, hb, hr⟩ := v
  obtain ⟨-, hm', hh', hs', hmu', hmf', h0', h1', h2', hu', hc', hp', hb', hr'⟩ := v'
  rw [lN_eq6 (cc_lt hm hh hs hmu hmf h0 h1 h2 hu hc hp hb hr).2 (cc_lt hm' hh' hs' hmu' hmf' h0' h1' h2' hu' hc' hp' hb' hr').2]
  constructor
  · intro q
    simp only [cc_] at q
    obtain ⟨q1, r1⟩ := mix q (by omega) (by omega)
    obtain ⟨q2, r2⟩ := mix q1 (by omega) (by omega)
    obtain ⟨q3, r3⟩ := mix q2 (by omega) (by omega)
    obtain ⟨q4, r4⟩ := mix q3 (by omega) (by omega)
    obtain ⟨q5, r5⟩ := mix q4 (by omega) (by omega)
    obtain ⟨q6, r6⟩ := mix q5 (by omega) (by omega)
    obtain ⟨q7, r7⟩ := mix q6 (by omega) (by omega)
    obtain ⟨q8, r8⟩ := mix q7 (by omega) (by omega)
    obtain ⟨q9, r9⟩ := mix q8 (by omega) (by omega)
    obtain ⟨q10, r10⟩ := mix q9 (by omega) (by omega)
    obtain ⟨q11, r11⟩ := mix q10 (by omega) (by omega)
    obtain ⟨q12, r12⟩ := mix q11 (by omega) (by omega)
    have q13 : m = m' := by omega
    rw [q13, r1, r2, r3, r4, r5, r6, r7, r8, r9, r10, r11, r12]
  · intro q
    simp only [nc] at q
    obtain ⟨q1, r1⟩ := mix q (by omega) (by omega)
    obtain ⟨q2, r2⟩ := mix q1 (by omega) (by omega)
    obtain ⟨q3, r3⟩ := mix q2 (by omega) (by omega)
    obtain ⟨q4, r4⟩ := mix q3 (by omega) (by omega)
    obtain ⟨q5, r5⟩ := mix q4 (by omega) (by omega)
    obtain ⟨q6, r6⟩ := mix q5 (by omega) (by omega)
    obtain ⟨q7, r7⟩ := mix q6 (by omega) (by omega)
    obtain ⟨q8, r8⟩ := mix q7 (by omega) (by omega)
    obtain ⟨q9, r9⟩ := mix q8 (by omega) (by omega)
    obtain ⟨q10, r10⟩ := mix q9 (by omega) (by omega)
    obtain ⟨q11, r11⟩ := mix q10 (by omega) (by omega)
    obtain ⟨q12, r12⟩ := mix q11 (by omega) (by omega)
    rw [q12, r1, r2, r3, r4, r5, r6, r7, r8, r9, r10, r11, r12]
/-- of one press: bounds as `BP` gives them -/
def OK (P : Nat → Int32) : Prop := ∃ m h s mu mf x0 x1 x2 un cm p br rs : Nat, VP P m h s mu mf x0 x1 x2 un cm p br rs
theorem OK.iff {P P' : Nat → Int32} (h : OK P) (h' : OK P') : sp_X2_stateNumber P = sp_X2_stateNumber P' ↔ nnk P = nnk P' := by
  obtain ⟨m, h, s, mu, mf, x0, x1, x2, un, cm, p, br, rs, v⟩ := h
  obtain ⟨m', h', s', mu', mf', x0', x1', x2', un', cm', p', br', rs', v'⟩ := h'
  exact key_iff v v'
theorem OK.num {P : Nat → Int32} (h : OK P) : ¬ sp_X2_stateNumber P = 0 := by
  obtain ⟨m, h, s, mu, mf, x0, x1, x2, un, cm, p, br, rs, v⟩ := h
  rw [number_vp v]
  obtain ⟨-, hm, hh, hs, hmu, hmf, h0, h1, h2, hu, hc, hp, hb, hr⟩ := v
  obtain ⟨g0, g1⟩ := cc_lt hm hh hs hmu hmf h0 h1 h2 hu hc hp hb hr
  intro q
  have := (lN_eq6 g1 (show 0 < 2 ^ 63 by omega)).mp q
  omega
/-- the reference's number of a STATE, and the MODE in it -/
theorem OK.code {P M a12 : Nat → Int32} {L : Int64} (h : OK P) (r : RP P M a12) : sp_X9_stateOf M L a12 = lN (nnk P) ∧ nnk P < 2 ^ 63 ∧ P 2 = nI (nnk P / 2 ^ 39) ∧ nnk P / 2 ^ 39 ≤ 4 := by
  obtain ⟨m, h, s, mu, mf, x0, x1, x2, un, cm, p, br, rs, v⟩ := h
  have e := (RP_code (L := L) v r).1
  rw [v.nn, e]
  obtain ⟨⟨e2, -⟩, hm, hh, hs, hmu, hmf, h0, h1, h2, hu, hc, hp, hb, hr⟩ := v
  obtain ⟨g0, g1⟩ := nc_lt hm hh hs hmu hmf h0 h1 h2 hu hc hp hb hr
  rw [g1]
  exact ⟨rfl, g0, e2, hm⟩
