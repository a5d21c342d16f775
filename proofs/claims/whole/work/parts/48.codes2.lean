/-! PURE 9: a STATE kept aside comes back; two numbers of a STATE. -/
def VP (P : Nat → Int32) (m h s mu mf x0 x1 x2 un cm p br rs : Nat) : Prop := (P 2 = nI m ∧ P 3 = nI h ∧ P 4 = nI s ∧ P 5 = nI mu ∧ P 6 = nI mf ∧ P 7 = nI x0 ∧ P 8 = nI x1 ∧ P 9 = nI x2 ∧ P 10 = nI un ∧ P 11 = nI cm ∧ P 12 = nI p ∧ P 13 = nI br ∧ P 14 = nI rs) ∧ m ≤ 4 ∧ h ≤ 3 ∧ s ≤ 9 ∧ mu ≤ 4 ∧ mf ≤ 30 ∧ x0 ≤ 9 ∧ x1 ≤ 9 ∧ x2 ≤ 9 ∧ un ≤ 9 ∧ cm ≤ 1 ∧ p ≤ 17 ∧ br ≤ 3 ∧ rs ≤ 1
theorem BP.vp {P S : Nat → Int32} (bS : BS S) (bP : BP P S) : ∃ m h s mu mf x0 x1 x2 un cm p br rs : Nat, VP P m h s mu mf x0 x1 x2 un cm p br rs := by
  obtain ⟨-, -, -, -, -, b, hb2, hb9, s4⟩ := bS
  obtain ⟨⟨m, hm, e2⟩, ⟨h, hh, e3⟩, ⟨s, hs, e4⟩, ⟨mu, hmu, e5⟩, ⟨mf, hmf, e6⟩, ⟨x0, h0, e7⟩, ⟨x1, h1, e8⟩, ⟨x2, h2, e9⟩, ⟨un, hu, e10⟩, ⟨cm, hc, e11⟩, ⟨p, hp, e12⟩, ⟨br, hb, e13⟩, ⟨rs, hr, e14⟩⟩ := bP
  rw [s4, nI_clamp (by omega)] at hp
  exact ⟨m, h, s, mu, mf, x0, x1, x2, un, cm, p, br, rs, ⟨e2, e3, e4, e5, e6, e7, e8, e9, e10, e11, e12, e13, e14⟩, hm, hh, hs, hmu, hmf, h0, h1, h2, hu, hc, by omega, hb, hr⟩
set_option maxHeartbeats 2000000 in
theorem becomes_eq {M a12 : Nat → Int32} {L : Int64} {cause : Int32} {m h s mu mf x0 x1 x2 un cm p br rs : Nat} (hm : m ≤ 4) (hh : h ≤ 3) (hs : s ≤ 9) (hmu : mu ≤ 4) (hmf : mf ≤ 30) (h0 : x0 ≤ 9) (h1 : x1 ≤ 9) (h2 : x2 ≤ 9) (hu : un ≤ 9) (hc : cm ≤ 1) (hp : p ≤ 17) (hb : br ≤ 3) (hr : rs ≤ 1) {R : (Nat → Int32) × Int64 × (Nat → Int32)} (eR : R = sp_X9_becomes M L a12 (lN (nc m h s mu mf x0 x1 x2 un cm p br rs)) cause) :
    R.1 7 = nI m ∧ R.1 8 = nI h ∧ R.1 9 = nI s ∧ R.1 10 = nI mu ∧ R.1 11 = nI mf ∧ R.2.2 0 = nI x0 ∧ R.2.2 1 = nI x1 ∧ R.2.2 2 = nI x2 ∧ R.1 13 = nI un ∧ R.1 14 = nI cm ∧ R.1 15 = nI p ∧ R.1 16 = nI br ∧ R.1 17 = nI rs ∧ R.1 18 = cause := by
  obtain ⟨c1, k1⟩ : ∃ c, c = m * 4 + h := ⟨_, rfl⟩
  obtain ⟨c2, k2⟩ : ∃ c, c = c1 * 16 + s := ⟨_, rfl⟩
  obtain ⟨c3, k3⟩ : ∃ c, c = c2 * 8 + mu := ⟨_, rfl⟩
  obtain ⟨c4, k4⟩ : ∃ c, c = c3 * 32 + mf := ⟨_, rfl⟩
  obtain ⟨c5, k5⟩ : ∃ c, c = c4 * 16 + x0 := ⟨_, rfl⟩
  obtain ⟨c6, k6⟩ : ∃ c, c = c5 * 16 + x1 := ⟨_, rfl⟩
  obtain ⟨c7, k7⟩ : ∃ c, c = c6 * 16 + x2 := ⟨_, rfl⟩
  obtain ⟨c8, k8⟩ : ∃ c, c = c7 * 16 + un := ⟨_, rfl⟩
  obtain ⟨c9, k9⟩ : ∃ c, c = c8 * 2 + cm := ⟨_, rfl⟩
  obtain ⟨c10, k10⟩ : ∃ c, c = c9 * 32 + p := ⟨_, rfl⟩
  obtain ⟨c11, k11⟩ : ∃ c, c = c10 * 4 + br := ⟨_, rfl⟩
  have b1 : c1 ≤ 19 := by omega
  have b2 : c2 ≤ 313 := by omega
  have b3 : c3 ≤ 2508 := by omega
  have b4 : c4 ≤ 80286 := by omega
  have b5 : c5 ≤ 1284585 := by omega
  have b6 : c6 ≤ 20553369 := by omega
  have b7 : c7 ≤ 328853913 := by omega
  have b8 : c8 ≤ 5261662617 := by omega
  have b9 : c9 ≤ 10523325235 := by omega
  have b10 : c10 ≤ 336746407537 := by omega
  have b11 : c11 ≤ 1346985630151 := by omega
  have hN : nc m h s mu mf x0 x1 x2 un cm p br rs = c11 * 2 + rs := by
    subst k11 k10 k9 k8 k7 k6 k5 k4 k3 k2 k1
    rfl
  have t1 : ∀ M, sp_X9_takes M (lN (c11 * 2 + rs)) 2 = (nI rs, lN c11) := fun M => takes_eq rfl (by omega) (by decide) (by omega)
  have t2 : ∀ M, sp_X9_takes M (lN c11) 4 = (nI br, lN c10) := fun M => by rw [k11]; exact takes_eq rfl (by omega) (by decide) (by omega)
  have t3 : ∀ M, sp_X9_takes M (lN c10) 32 = (nI p, lN c9) := fun M => by rw [k10]; exact takes_eq rfl (by omega) (by decide) (by omega)
  have t4 : ∀ M, sp_X9_takes M (lN c9) 2 = (nI cm, lN c8) := fun M => by rw [k9]; exact takes_eq rfl (by omega) (by decide) (by omega)
  have t5 : ∀ M, sp_X9_takes M (lN c8) 16 = (nI un, lN c7) := fun M => by rw [k8]; exact takes_eq rfl (by omega) (by decide) (by omega)
  have t6 : ∀ M, sp_X9_takes M (lN c7) 16 = (nI x2, lN c6) := fun M => by rw [k7]; exact takes_eq rfl (by omega) (by decide) (by omega)
  have t7 : ∀ M, sp_X9_takes M (lN c6) 16 = (nI x1, lN c5) := fun M => by rw [k6]; exact takes_eq rfl (by omega) (by decide) (by omega)
  have t8 : ∀ M, sp_X9_takes M (lN c5) 16 = (nI x0, lN c4) := fun M => by rw [k5]; exact takes_eq rfl (by omega) (by decide) (by omega)
  have t9 : ∀ M, sp_X9_takes M (lN c4) 32 = (nI mf, lN c3) := fun M => by rw [k4]; exact takes_eq rfl (by omega) (by decide) (by omega)
  have t10 : ∀ M, sp_X9_takes M (lN c3) 8 = (nI mu, lN c2) := fun M => by rw [k3]; exact takes_eq rfl (by omega) (by decide) (by omega)
  have t11 : ∀ M, sp_X9_takes M (lN c2) 16 = (nI s, lN c1) := fun M => by rw [k2]; exact takes_eq rfl (by omega) (by decide) (by omega)
  have t12 : ∀ M, sp_X9_takes M (lN c1) 4 = (nI h, lN m) := fun M => by rw [k1]; exact takes_eq rfl (by omega) (by decide) (by omega)
  rw [hN] at eR
  simp only [sp_X9_becomes, t1, t2, t3, t4, t5, t6, t7, t8, t9, t10, t11, t12, lN_i] at eR
  subst eR
  exact ⟨rfl, rfl, rfl, rfl, rfl, rfl, rfl, rfl, rfl, rfl, rfl, rfl, rfl, rfl⟩
theorem RP_code {P M a12 : Nat → Int32} {L : Int64} {m h s mu mf x0 x1 x2 un cm p br rs : Nat} (v : VP P m h s mu mf x0 x1 x2 un cm p br rs) (rP : RP P M a12) : sp_X9_stateOf M L a12 = lN (nc m h s mu mf x0 x1 x2 un cm p br rs) ∧ sp_X2_stateNumber P = lN (cc_ m h s mu mf x0 x1 x2 un cm p br rs) := by
  obtain ⟨⟨e2, e3, e4, e5, e6, e7, e8, e9, e10, e11, e12, e13, e14⟩, hm, hh, hs, hmu, hmf, h0, h1, h2, hu, hc, hp, hb, hr⟩ := v
  obtain ⟨p7, p8, p9, p10, p11, c0, c1, c2, p13, p14, p15, p16, p17, -⟩ := rP
  exact ⟨stateOf_eq (p7.trans e2) (p8.trans e3) (p9.trans e4) (p10.trans e5) (p11.trans e6) (c0.trans e7) (c1.trans e8) (c2.trans e9) (p13.trans e10) (p14.trans e11) (p15.trans e12) (p16.trans e13) (p17.trans e14) (by omega) (by omega) (by omega) (by omega) (by omega) (by omega) (by omega) (by omega) (by omega) (by omega) (by omega) (by omega) (by omega), number_eq e2 e3 e4 e5 e6 e7 e8 e9 e10 e11 e12 e13 e14 (by omega) (by omega) (by omega) (by omega) (by omega) (by omega) (by omega) (by omega) (by omega) (by omega) (by omega) (by omega) (by omega)⟩
/-- what was kept aside comes back -/
theorem RP_back {P S M a12 M2 a2 : Nat → Int32} {L L2 : Int64} (bS : BS S) (bP : BP P S) (rP : RP P M a12) : RP P (sp_X9_becomes M2 L2 a2 (sp_X9_stateOf M L a12) (M 18)).1 (sp_X9_becomes M2 L2 a2 (sp_X9_stateOf M L a12) (M 18)).2.2 := by
  obtain ⟨m, h, s, mu, mf, x0, x1, x2, un, cm, p, br, rs, v⟩ := bP.vp bS
  rw [(RP_code (L := L) v rP).1]
  obtain ⟨⟨e2, e3, e4, e5, e6, e7, e8, e9, e10, e11, e12, e13, e14⟩, hm, hh, hs, hmu, hmf, h0, h1, h2, hu, hc, hp, hb, hr⟩ := v
  obtain ⟨r7, r8, r9, r10, r11, d0, d1, d2, r13, r14, r15, r16, r17, r18⟩ := becomes_eq (M := M2) (a12 := a2) (L := L2) (cause := M 18) hm hh hs hmu hmf h0 h1 h2 hu hc hp hb hr rfl
  exact ⟨r7.trans e2.symm, r8.trans e3.symm, r9.trans e4.symm, r10.trans e5.symm, r11.trans e6.symm, d0.trans e7.symm, d1.trans e8.symm, d2.trans e9.symm, r13.trans e10.symm, r14.trans e11.symm, r15.trans e12.symm, r16.trans e13.symm, r17.trans e14.symm, r18.trans rP.2.2.2.2.2.2.2.2.2.2.2.2.2⟩
theorem mix {k a b r q : Nat} (h : a * k + r = b * k + q) (hr : r < k) (hq : q < k) : a = b ∧ r = q := by
  have h1 := congrArg (· % k) h
  have h2 := congrArg (· / k) h
  simp only [Nat.mul_add_mod_self_right, Nat.mod_eq_of_lt hr, Nat.mod_eq_of_lt hq] at h1
  rw [h1] at h
  have h3 : a * k = b * k := Nat.add_right_cancel h
  exact ⟨Nat.eq_of_mul_eq_mul_right (by omega) h3, h1⟩
