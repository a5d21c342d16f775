/-! PURE 38: what is noted and counted, as the calls tell it. -/
theorem bc_tab : ∀ n : Fin 512, sp_J6_bitCount_0f7a4 (nI n.val) = lp (fun i x => x + nb (n.val.testBit i)) 9 0 := by decide +kernel
theorem many_sim {G S F P N n0 n1 n2 K k U M a5 a6 a12 a28 a29 a31 a32 : Nat → Int32} {L : Int64} {T : Nat} (h : INV G S F P N n0 n1 n2 K k U M a5 a6 a12 a28 a29 a31 a32 T) (w : Int32) : sp_X8_many G F P K N w = sp_X9_many M L a5 a6 w := by
  obtain ⟨bS, rS, rF, ⟨v2, v3⟩, rP, bP, e25, e26, ⟨tab, ord, kn, pl, t1, t2, t3, t4, t5, t6, t7, t8, t9, t10, t11, t12, t13, t14⟩, cn, ⟨c1, c2, c3, c4⟩, rU⟩ := h
  have e4 : sp_J6_bitCount_0f7a4 (F 0 ||| F 1) = lp (bd_X9_many_66 a5) 9 0 := by
    obtain ⟨o, f, ho, hf, h1, h0, hk⟩ := rF
    rw [h1, h0, ofn_or, bc_tab ⟨f ||| o, Nat.or_lt_two_pow (n := 9) hf ho⟩]
    refine lp_congr 9 0 (fun i x hi => ?_)
    simp only [bd_X9_many_66]
    rw [(hk i hi).2, Nat.testBit_or]
    cases o.testBit i <;> cases f.testBit i <;> rfl
  simp only [sp_X8_many, sp_X9_many, sp_X0_valvesStuck, e4, v2, v3, e25, e26, c2, c3, t12, t13]
theorem cause_sim {N n0 n1 n2 M a28 a29 a31 G : Nat → Int32} {L : Int64} {T : Nat} (rN : RN N n0 n1 n2 M a28 a29 a31 T) (k0 : Int32) : sp_X8_cause G N n0 n1 n2 k0 = sp_X9_cause M L a29 k0 := by
  obtain ⟨tab, ord, kn, pl, t1, t2, t3, t4, t5, t6, t7, t8, t9, t10, t11, t12, t13, t14⟩ := rN
  simp only [sp_X8_cause, sp_X9_cause, sp_X1_causeInOrder, t4, t5]
  by_cases w : sp_X8_within k0 0 4 = 0
  · rw [if_pos w, if_pos (show sp_X9_within k0 0 4 = 0 from w)]
  · rw [if_neg w, if_neg (show ¬ sp_X9_within k0 0 4 = 0 from w)]
    obtain ⟨j, hj, rfl⟩ := wi_ex (hi := 4) w (by omega)
    rw [if_neg (nI_pos (show j < 2 ^ 31 by omega)), if_neg (show ¬ (5 : Int32) ≤ nI j from nI_ge (b := 5) (by omega) (by omega)), nI_clamp (by omega)]
    by_cases q : nI kn ≤ nI j
    · rw [if_pos q, if_pos q]
    · rw [if_neg q, if_neg q]
      have hj : j < kn := by
        rcases Nat.lt_or_ge j kn with h | h
        · exact h
        · exact absurd (nI_le h (by omega)) q
      obtain ⟨h1, h2, -⟩ := t6 j hj
      rw [h1, h2]
theorem followed_sim {N n0 n1 n2 M a28 a29 a31 G : Nat → Int32} {L : Int64} {T : Nat} (rN : RN N n0 n1 n2 M a28 a29 a31 T) (k0 : Int32) : sp_X8_followed G N n0 n1 n2 k0 = sp_X9_followed M L a31 k0 := by
  obtain ⟨tab, ord, kn, pl, t1, t2, t3, t4, t5, t6, t7, t8, t9, t10, t11, t12, t13, t14⟩ := rN
  simp only [sp_X8_followed, sp_X9_followed, sp_X1_modesBehind]
  by_cases w : sp_X8_within k0 0 4 = 0
  · rw [if_pos w, if_pos (show sp_X9_within k0 0 4 = 0 from w)]
  · rw [if_neg w, if_neg w, if_neg (show ¬ sp_X9_within k0 0 4 = 0 from w)]
    obtain ⟨j, hj, rfl⟩ := wi_ex (hi := 4) w (by omega)
    rw [nI_clamp (by omega)]
    exact t14 j (by omega)
theorem lp_one {f : Nat → Int32 → Int32} {p : Nat} {a : Int32} : ∀ n, (∀ i x, i < n → f i x = x + (if p = i then a else 0)) → lp f n 0 = if p < n then a else 0 := by
  intro n
  induction n with
  | zero => intro _; rfl
  | succ n ih =>
    intro hf
    show f n (lp f n 0) = _
    rw [hf n _ (by omega), ih (fun i x hi => hf i x (by omega))]
    rcases Nat.lt_trichotomy p n with q | q | q
    · rw [if_pos q, if_neg (by omega), if_pos (by omega), Int32.add_zero]
    · rw [if_neg (by omega), if_pos q, if_pos (by omega), Int32.zero_add]
    · rw [if_neg (by omega), if_neg (by omega), if_neg (by omega), Int32.add_zero]
theorem locked_sim {N n0 n1 n2 M a28 a29 a31 G : Nat → Int32} {L : Int64} {T : Nat} (rN : RN N n0 n1 n2 M a28 a29 a31 T) (cause place : Int32) : sp_X8_locked G N n0 n1 n2 cause place = sp_X9_locked M L a28 cause place := by
  obtain ⟨tab, ord, kn, pl, t1, t2, t3, t4, t5, t6, t7, t8, t9, t10, t11, t12, t13, t14⟩ := rN
  simp only [sp_X8_locked, sp_X9_locked]
  by_cases w : sp_X8_within cause 1 5 = 0
  · rw [if_pos w, if_pos (show sp_X9_within cause 1 5 = 0 from w)]
  rw [if_neg w, if_neg (show ¬ sp_X9_within cause 1 5 = 0 from w)]
  obtain ⟨c1, h1, h5, rfl⟩ := wi_two (lo := 1) (hi := 5) w (by omega) (by omega)
  obtain ⟨c, rfl⟩ : ∃ c, c1 = c + 1 := ⟨c1 - 1, by omega⟩
  have hc : c < 5 := by omega
  have hx : ∀ p, p < 18 → n0 (c * 18 + p) = a28 (c * 18 + p) := fun p hp => by
    obtain ⟨q1, q2⟩ := t1 (c * 18 + p) (by omega)
    rw [q1, q2]
  by_cases w9 : place = (-9)
  · rw [if_pos w9, if_pos w9]
    show lp (bd_X1_locksBy_4 N n0 n1 n2 (nI (c + 1))) 18 0 = lp (bd_X9_locked_35 a28 (nI (c + 1))) 18 0
    refine lp_congr 18 0 (fun i x hi => ?_)
    simp only [bd_X1_locksBy_4, bd_X9_locked_35]
    rw [locksAt_eq hc hi, (lock_ix hc hi).2, hx i hi]
  rw [if_neg w9, if_neg w9]
  by_cases wp : sp_X8_within place 0 17 = 0
  · rw [if_pos wp, if_pos (show sp_X9_within place 0 17 = 0 from wp)]
  rw [if_neg wp, if_neg (show ¬ sp_X9_within place 0 17 = 0 from wp)]
  obtain ⟨p, hp, rfl⟩ := wi_ex (hi := 17) wp (by omega)
  have hp : p < 18 := by omega
  rw [locksAt_eq hc hp, hx p hp, lp_one (p := p) (a := a28 (c * 18 + p)) 18 (fun i x hi => ?_), if_pos hp]
  simp only [bd_X9_locked_35b]
  by_cases q : p = i
  · subst q
    rw [if_pos rfl, if_pos rfl, (lock_ix hc hp).2]
  · rw [if_neg q, if_neg (fun e => q ((nI_eq (by omega) (by omega)).mp e))]
def bcN (n : Nat) : Nat :=
  (fun a => (fun b => (fun c => (fun d => Nat.land (Nat.add d (Nat.shiftRight d 16)) 63) (Nat.add c (Nat.shiftRight c 8))) (Nat.land (Nat.add b (Nat.shiftRight b 4)) 252645135)) (Nat.add (Nat.land a 858993459) (Nat.land (Nat.shiftRight a 2) 858993459))) (Nat.sub n (Nat.land (Nat.shiftRight n 1) 1431655765))
theorem ushr_eq {n k : Nat} (hn : n < 2 ^ 32) (hk : k < 32) : ((nI n).toUInt32 >>> ((nI k).toUInt32 &&& Int32.toUInt32 31)).toInt32 = nI (n >>> k) := by
  apply Int32.toBitVec_inj.mp
  apply BitVec.eq_of_toNat_eq
  have e1 : (((nI n).toUInt32 >>> ((nI k).toUInt32 &&& Int32.toUInt32 31)).toInt32).toBitVec.toNat = ((nI n).toUInt32 >>> ((nI k).toUInt32 &&& Int32.toUInt32 31)).toNat := rfl
  have e2 : (nI n).toUInt32.toNat = n := by
    show (BitVec.ofNat 32 n).toNat = n
    rw [BitVec.toNat_ofNat]
    exact Nat.mod_eq_of_lt hn
  have e3 : (nI k).toUInt32.toNat = k := by
    show (BitVec.ofNat 32 k).toNat = k
    rw [BitVec.toNat_ofNat]
    exact Nat.mod_eq_of_lt (by omega)
  have e4 : (Int32.toUInt32 31).toNat = 31 := by decide
  have e5 : k &&& 31 = k := by
    have : ∀ q : Fin 32, q.val &&& 31 = q.val := by decide
    exact this ⟨k, hk⟩
  rw [e1, UInt32.toNat_shiftRight, UInt32.toNat_and, e2, e3, e4, e5, Nat.mod_eq_of_lt hk]
  show _ = (BitVec.ofNat 32 (n >>> k)).toNat
  rw [BitVec.toNat_ofNat, Nat.mod_eq_of_lt]
  rw [Nat.shiftRight_eq_div_pow]
  exact Nat.lt_of_le_of_lt (Nat.div_le_self _ _) hn
theorem bc_eq {n : Nat} (hn : n < 2 ^ 18) : sp_J6_bitCount_0f7a4 (nI n) = nI (bcN n) := by
  obtain ⟨a, ea⟩ : ∃ a, a = n - ((n >>> 1) &&& 1431655765) := ⟨_, rfl⟩
  obtain ⟨b, eb⟩ : ∃ b, b = (a &&& 858993459) + ((a >>> 2) &&& 858993459) := ⟨_, rfl⟩
  obtain ⟨c, ec⟩ : ∃ c, c = (b + (b >>> 4)) &&& 252645135 := ⟨_, rfl⟩
  obtain ⟨d, ed⟩ : ∃ d, d = c + (c >>> 8) := ⟨_, rfl⟩
  have hN : bcN n = (d + (d >>> 16)) &&& 63 := by
    rw [ed, ec, eb, ea]; rfl
  have sh : ∀ x k : Nat, x >>> k ≤ x := fun x k => by rw [Nat.shiftRight_eq_div_pow]; exact Nat.div_le_self _ _
  have ba : a ≤ n := by omega
  have bb : b ≤ 2 * n := by
    have h1 : a &&& 858993459 ≤ a := Nat.and_le_left
    have h2 : (a >>> 2) &&& 858993459 ≤ a >>> 2 := Nat.and_le_left
    have h3 := sh a 2
    omega
  have bc : c ≤ 4 * n := by
    have h1 : (b + (b >>> 4)) &&& 252645135 ≤ b + (b >>> 4) := Nat.and_le_left
    have h3 := sh b 4
    omega
  have bd : d ≤ 8 * n := by
    have h3 := sh c 8
    omega
  have m1 : (n >>> 1) &&& 1431655765 ≤ n := Nat.le_trans Nat.and_le_left (sh n 1)
  simp only [sp_J6_bitCount_0f7a4]
  rw [show ((1 : Int32)) = nI 1 from rfl, show ((2 : Int32)) = nI 2 from rfl, show ((4 : Int32)) = nI 4 from rfl, show ((8 : Int32)) = nI 8 from rfl, show ((16 : Int32)) = nI 16 from rfl, show (1431655765 : Int32) = nI 1431655765 from rfl, show (858993459 : Int32) = nI 858993459 from rfl, show (252645135 : Int32) = nI 252645135 from rfl, show (63 : Int32) = nI 63 from rfl]
  rw [ushr_eq (by omega) (by omega), ofn_and, nI_sub m1, ← ea]
  rw [ofn_and, ushr_eq (by omega) (by omega), ofn_and, nI_add, ← eb]
  rw [ushr_eq (by omega) (by omega), nI_add, ofn_and, ← ec]
  rw [ushr_eq (by omega) (by omega), nI_add, ← ed]
  rw [ushr_eq (by omega) (by omega), nI_add, ofn_and, hN]
def bcA : Nat → Nat → Nat → Bool
  | 0, b, c => Nat.beq (bcN b) c
  | d + 1, b, c => bcA d b c && bcA d (Nat.add b (Nat.pow 2 d)) (Nat.add c 1)
theorem bcA_ok : ∀ (d b c : Nat), bcA d b c = true → ∀ n, n < 2 ^ d → bcN (b + n) = c + sm (fun i => (n.testBit i).toNat) d := by
  intro d
  induction d with
  | zero =>
    intro b c h n hn
    have : n = 0 := by omega
    subst this
    exact Nat.eq_of_beq_eq_true h
  | succ d ih =>
    intro b c h n hn
    have h' : (bcA d b c && bcA d (Nat.add b (Nat.pow 2 d)) (Nat.add c 1)) = true := h
    obtain ⟨g1, g2⟩ := Bool.and_eq_true_iff.mp h'
    rw [Nat.pow_succ] at hn
    rcases Nat.lt_or_ge n (2 ^ d) with q | q
    · rw [ih b c g1 n q]
      show _ = c + (sm _ d + (n.testBit d).toNat)
      rw [Nat.testBit_lt_two_pow q]
      rfl
    · obtain ⟨m, rfl⟩ : ∃ m, n = 2 ^ d + m := ⟨n - 2 ^ d, by omega⟩
      have hm : m < 2 ^ d := by omega
      have g := ih _ _ g2 m hm
      have e : sm (fun i => ((2 ^ d + m).testBit i).toNat) d = sm (fun i => (m.testBit i).toNat) d := by
        have : ∀ j, j ≤ d → sm (fun i => ((2 ^ d + m).testBit i).toNat) j = sm (fun i => (m.testBit i).toNat) j := by
          intro j
          induction j with
          | zero => intro _; rfl
          | succ j ihj =>
            intro hj
            show sm _ j + ((2 ^ d + m).testBit j).toNat = sm _ j + (m.testBit j).toNat
            rw [ihj (by omega), Nat.testBit_two_pow_add_gt (by omega)]
        exact this d (Nat.le_refl _)
      show _ = c + (sm (fun i => ((2 ^ d + m).testBit i).toNat) d + ((2 ^ d + m).testBit d).toNat)
      rw [e, Nat.testBit_two_pow_add_eq, Nat.testBit_lt_two_pow hm]
      have g' : bcN (b + 2 ^ d + m) = c + 1 + sm (fun i => (m.testBit i).toNat) d := g
      rw [← Nat.add_assoc, g']
      show _ = c + (_ + 1)
      omega
theorem bcA_and {d b c b' c' : Nat} (h1 : bcA d b c = true) (h2 : bcA d b' c' = true) (hb : b' = Nat.add b (Nat.pow 2 d)) (hc : c' = Nat.add c 1) : bcA (d + 1) b c = true := by
  subst hb hc
  show (bcA d b c && bcA d (Nat.add b (Nat.pow 2 d)) (Nat.add c 1)) = true
  rw [h1, h2]
  rfl
theorem bcA_0 : bcA 15 0 0 = true := by decide +kernel
theorem bcA_1 : bcA 15 32768 1 = true := by decide +kernel
theorem bcA_2 : bcA 15 65536 1 = true := by decide +kernel
theorem bcA_3 : bcA 15 98304 2 = true := by decide +kernel
theorem bcA_4 : bcA 15 131072 1 = true := by decide +kernel
theorem bcA_5 : bcA 15 163840 2 = true := by decide +kernel
theorem bcA_6 : bcA 15 196608 2 = true := by decide +kernel
theorem bcA_7 : bcA 15 229376 3 = true := by decide +kernel
theorem bcA_all : bcA 18 0 0 = true := bcA_and (bcA_and (bcA_and bcA_0 bcA_1 (by decide) (by decide)) (bcA_and bcA_2 bcA_3 (by decide) (by decide)) (by decide) (by decide)) (bcA_and (bcA_and bcA_4 bcA_5 (by decide) (by decide)) (bcA_and bcA_6 bcA_7 (by decide) (by decide)) (by decide) (by decide)) (by decide) (by decide)
theorem sm_congr {f g : Nat → Nat} : ∀ {n : Nat}, (∀ i, i < n → f i = g i) → sm f n = sm g n := by
  intro n
  induction n with
  | zero => intro _; rfl
  | succ n ih =>
    intro h
    show sm f n + f n = sm g n + g n
    rw [ih (fun i hi => h i (by omega)), h n (by omega)]
theorem places_sim {N n0 n1 n2 M a28 a29 a31 G : Nat → Int32} {L : Int64} {T : Nat} (hT : T < 2 ^ 28) (rN : RN N n0 n1 n2 M a28 a29 a31 T) : sp_X8_places G N = sp_X9_places M L a28 := by
  obtain ⟨tab, ord, kn, pl, t1, t2, t3, t4, t5, t6, t7, t8, t9, t10, t11, t12, t13, t14⟩ := rN
  have e1 : sp_X8_places G N = nI (sm (fun i => (pl.testBit i).toNat) 18) := by
    show sp_J6_bitCount_0f7a4 (N 4) = _
    rw [t10, bc_eq t9]
    have := bcA_ok 18 0 0 bcA_all pl t9
    rw [Nat.zero_add, Nat.zero_add] at this
    rw [this]
  have e2 : sp_X9_places M L a28 = nI (sm (fun i => (pl.testBit i).toNat) 18) := by
    show lp (bd_X9_places_4 a28) 18 0 = _
    refine lp_sum 18 (fun i x hi => ?_)
    have e3 : lp (bd_X9_places_15 a28 i) 5 0 = nI (sm (fun c => tab (18 * c + i)) 5) := lp_sum 5 (fun c x hc => by
      simp only [bd_X9_places_15]
      rw [(t1 (18 * c + i) (by omega)).2])
    have hb : ∀ c, c < 5 → tab (18 * c + i) ≤ T := fun c hc => Nat.le_trans (sm_le (show 18 * c + i < 90 by omega)) t2
    have hs : sm (fun c => tab (18 * c + i)) 5 ≤ 5 * T := by
      have b0 := hb 0 (by omega)
      have b1 := hb 1 (by omega)
      have b2 := hb 2 (by omega)
      have b3 := hb 3 (by omega)
      have b4 := hb 4 (by omega)
      simp only [sm]
      omega
    simp only [bd_X9_places_4, e3]
    congr 1
    have hz := sm_zero (f := fun c => tab (18 * c + i)) (n := 5)
    by_cases q : pl.testBit i = true
    · obtain ⟨c, hc, hp⟩ := (t11 i hi).mp q
      have : ¬ sm (fun c => tab (18 * c + i)) 5 = 0 := fun z => by
        have := hz.mp z c hc
        rw [show c * 18 + i = 18 * c + i by omega] at hp
        omega
      rw [if_neg (nI_nle (by omega) (by omega)), q]
      rfl
    · have : sm (fun c => tab (18 * c + i)) 5 = 0 := hz.mpr (fun c hc => by
        rcases Nat.eq_zero_or_pos (tab (18 * c + i)) with z | z
        · exact z
        · exact absurd ((t11 i hi).mpr ⟨c, hc, by rw [show c * 18 + i = 18 * c + i by omega]; exact z⟩) q)
      have q' : pl.testBit i = false := by simpa using q
      rw [this, if_pos (by decide), q']
      rfl
  rw [e1, e2]
