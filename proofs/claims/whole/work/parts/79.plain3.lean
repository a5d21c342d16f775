/-! PURE 39: anew, ticks and the calls that put things back: the whole state goes on. -/
theorem lp_fill {f : Nat → (Nat → Int32) → (Nat → Int32)} {v : Int32} (hf : ∀ i x, f i x = upd x i v) (a : Nat → Int32) : ∀ n k, k < n → lp f n a k = v := by
  intro n
  induction n with
  | zero => intro k h; omega
  | succ n ih =>
    intro k h
    show f n (lp f n a) k = v
    rw [hf]
    by_cases q : k = n
    · exact if_pos q
    · rw [upd_ne q]
      exact ih k (by omega)
set_option maxHeartbeats 1000000 in
theorem anew_sim {G S F P N n0 n1 n2 K k U M a5 a6 a12 a28 a29 a31 a32 : Nat → Int32} {L : Int64} {T : Nat} {p0 p1 p2 p3 p4 : Int32} (h : INV G S F P N n0 n1 n2 K k U M a5 a6 a12 a28 a29 a31 a32 T)
    {A : Int32 × (Nat → Int32) × (Nat → Int32) × (Nat → Int32) × (Nat → Int32) × (Nat → Int32) × (Nat → Int32) × (Nat → Int32) × (Nat → Int32)} {B : Int32 × (Nat → Int32) × Int64 × (Nat → Int32) × (Nat → Int32) × (Nat → Int32) × (Nat → Int32) × (Nat → Int32)}
    (eA : A = sp_X8_anew G S F P N n0 n1 n2 p0 p1 p2 p3 p4) (eB : B = sp_X9_anew M L a5 a6 a12 a28 a31 p0 p1 p2 p3 p4) :
    A.1 = B.1 ∧ INV A.2.1 A.2.2.1 A.2.2.2.1 A.2.2.2.2.1 A.2.2.2.2.2.1 A.2.2.2.2.2.2.1 A.2.2.2.2.2.2.2.1 A.2.2.2.2.2.2.2.2 K k U B.2.1 B.2.2.2.1 B.2.2.2.2.1 B.2.2.2.2.2.1 B.2.2.2.2.2.2.1 a29 B.2.2.2.2.2.2.2 a32 (T + 60) := by
  by_cases w0 : sp_X8_within p0 0 5 = 0
  · simp only [sp_X8_anew, if_pos w0, reduceIte] at eA
    simp only [sp_X9_anew, if_pos (show sp_X9_within p0 0 5 = 0 from w0)] at eB
    subst eA eB
    exact ⟨rfl, h.mono⟩
  by_cases w1 : sp_X8_within p1 1 9 = 0
  · simp only [sp_X8_anew, if_neg w0, if_pos w1, reduceIte] at eA
    simp only [sp_X9_anew, if_neg (show ¬ sp_X9_within p0 0 5 = 0 from w0), if_pos (show sp_X9_within p1 1 9 = 0 from w1)] at eB
    subst eA eB
    exact ⟨rfl, h.mono⟩
  by_cases w2 : sp_X8_within p2 1 30 = 0
  · simp only [sp_X8_anew, if_neg w0, if_neg w1, if_pos w2, reduceIte] at eA
    simp only [sp_X9_anew, if_neg (show ¬ sp_X9_within p0 0 5 = 0 from w0), if_neg (show ¬ sp_X9_within p1 1 9 = 0 from w1), if_pos (show sp_X9_within p2 1 30 = 0 from w2)] at eB
    subst eA eB
    exact ⟨rfl, h.mono⟩
  by_cases w3 : sp_X8_within p3 0 3 = 0
  · simp only [sp_X8_anew, if_neg w0, if_neg w1, if_neg w2, if_pos w3, reduceIte] at eA
    simp only [sp_X9_anew, if_neg (show ¬ sp_X9_within p0 0 5 = 0 from w0), if_neg (show ¬ sp_X9_within p1 1 9 = 0 from w1), if_neg (show ¬ sp_X9_within p2 1 30 = 0 from w2), if_pos (show sp_X9_within p3 0 3 = 0 from w3)] at eB
    subst eA eB
    exact ⟨rfl, h.mono⟩
  by_cases w4 : sp_X8_within p4 2 9 = 0
  · simp only [sp_X8_anew, if_neg w0, if_neg w1, if_neg w2, if_neg w3, if_pos w4, reduceIte] at eA
    simp only [sp_X9_anew, if_neg (show ¬ sp_X9_within p0 0 5 = 0 from w0), if_neg (show ¬ sp_X9_within p1 1 9 = 0 from w1), if_neg (show ¬ sp_X9_within p2 1 30 = 0 from w2), if_neg (show ¬ sp_X9_within p3 0 3 = 0 from w3), if_pos (show sp_X9_within p4 2 9 = 0 from w4)] at eB
    subst eA eB
    exact ⟨rfl, h.mono⟩
  simp only [sp_X8_anew, if_neg w0, if_neg w1, if_neg w2, if_neg w3, if_neg w4, if_neg (show ¬ (1 : Int32) = 0 by decide)] at eA
  simp only [sp_X9_anew, if_neg (show ¬ sp_X9_within p0 0 5 = 0 from w0), if_neg (show ¬ sp_X9_within p1 1 9 = 0 from w1), if_neg (show ¬ sp_X9_within p2 1 30 = 0 from w2), if_neg (show ¬ sp_X9_within p3 0 3 = 0 from w3), if_neg (show ¬ sp_X9_within p4 2 9 = 0 from w4)] at eB
  obtain ⟨-, -, -, -, -, -, -, -, -, cn, ⟨c1, c2, c3, c4⟩, -⟩ := h
  obtain ⟨j0, hj0, rfl⟩ := wi_ex (hi := 5) w0 (by omega)
  obtain ⟨j1, hj1, hj1', rfl⟩ := wi_two (lo := 1) (hi := 9) w1 (by omega) (by omega)
  obtain ⟨j2, -, hj2, rfl⟩ := wi_two (lo := 1) (hi := 30) w2 (by omega) (by omega)
  obtain ⟨j3, hj3, rfl⟩ := wi_ex (hi := 3) w3 (by omega)
  obtain ⟨j4, hj4, hj4', rfl⟩ := wi_two (lo := 2) (hi := 9) w4 (by omega) (by omega)
  obtain ⟨M9, eM9⟩ : ∃ q, q = upd (upd (upd (upd (upd M 0 (nI j0)) 1 (nI j1)) 2 (nI j2)) 3 (nI j3)) 4 (nI j4) := ⟨_, rfl⟩
  rw [← eM9] at eB
  obtain ⟨b, eb⟩ : ∃ q, q = sp_X9_begins M9 L a12 := ⟨_, rfl⟩
  have rb : RP (sp_X2_begin P) b.1 b.2.2 := by rw [eb]; exact begins_RP P M9 a12 L
  have fb : ∀ q, q < 7 ∨ 19 ≤ q → b.1 q = M9 q := fun q hq => by rw [eb]; exact begins_fr _ _ _ _ hq
  rw [← eb] at eB
  have bS : BS (sp_X5_become S (nI j0) (nI j1) (nI j2) (nI j3) (nI j4)) := ⟨⟨j0, hj0, rfl⟩, ⟨j1, hj1', rfl⟩, nI_le (a := 1) hj1 (by omega), ⟨j2, hj2, rfl⟩, ⟨j3, hj3, rfl⟩, j4, hj4, hj4', rfl⟩
  subst eA eB
  refine ⟨rfl, bS, ?_, ?_, ⟨rfl, rfl⟩, rb.fr (fun q h1 h2 => ?_), BP_begin P _ bS, rfl, rfl, ?_, cn, ⟨c1, c2, ?_, c4⟩, fun g => absurd rfl g⟩
  · have m0 : ∀ q, q < 5 → upd (upd (upd (upd (upd b.1 24 0) 25 0) 26 0) 27 0) 30 0 q = M9 q := fun q hq => by
      rw [upd_ne (by omega), upd_ne (by omega), upd_ne (by omega), upd_ne (by omega), upd_ne (by omega), fb q (by omega)]
    exact ⟨(m0 0 (by omega)).trans (by rw [eM9]; rfl), (m0 1 (by omega)).trans (by rw [eM9]; rfl), (m0 2 (by omega)).trans (by rw [eM9]; rfl), (m0 3 (by omega)).trans (by rw [eM9]; rfl), (m0 4 (by omega)).trans (by rw [eM9]; rfl)⟩
  · refine ⟨0, 0, by omega, by omega, rfl, rfl, fun q hq => ?_⟩
    rw [Nat.zero_testBit, if_neg (by decide), if_neg (by decide)]
    exact ⟨fun z => absurd z (by decide), lp_fill (fun _ _ => rfl) a5 9 q hq⟩
  · show upd (upd (upd (upd (upd b.1 24 0) 25 0) 26 0) 27 0) 30 0 q = b.1 q
    rw [upd_ne (by omega), upd_ne (by omega), upd_ne (by omega), upd_ne (by omega), upd_ne (by omega)]
  · refine ⟨fun _ => 0, fun _ => 0, 0, 0, fun q hq => ⟨lp_fill (fun _ _ => rfl) n0 90 q hq, lp_fill (fun _ _ => rfl) a28 90 q hq⟩, ?_, by omega, rfl, rfl, fun i hi => absurd hi (by omega), fun i j hi => absurd hi (by omega), ?_, by omega, rfl, ?_, rfl, rfl, fun q hq => ?_⟩
    · rw [sm_zero.mpr (fun _ _ => rfl)]
      omega
    · intro c hc
      exact ⟨fun ⟨i, hi, _⟩ => absurd hi (by omega), fun ⟨p, _, z⟩ => absurd z (Nat.lt_irrefl 0)⟩
    · intro p hp
      rw [Nat.zero_testBit]
      exact ⟨fun z => absurd z (by decide), fun ⟨c, _, z⟩ => absurd z (Nat.lt_irrefl 0)⟩
    · exact (lp_fill (f := bd_J7_fill_53178_5 0) (fun _ _ => rfl) n2 5 q hq).trans (lp_fill (f := bd_X9_anew_177) (fun _ _ => rfl) a31 5 q hq).symm
  · show upd (upd (upd (upd (upd b.1 24 0) 25 0) 26 0) 27 0) 30 0 33 = nI cn
    rw [upd_ne (by omega), upd_ne (by omega), upd_ne (by omega), upd_ne (by omega), upd_ne (by omega), fb 33 (by omega), eM9, upd_ne (by omega), upd_ne (by omega), upd_ne (by omega), upd_ne (by omega), upd_ne (by omega)]
    exact c3
theorem INV.rt {G S F P N n0 n1 n2 K k U M a5 a6 a12 a28 a29 a31 a32 : Nat → Int32} {T : Nat} (h : INV G S F P N n0 n1 n2 K k U M a5 a6 a12 a28 a29 a31 a32 T) : RT S (P, N, n0, n1, n2) (M, a12, a28, a29, a31) T := by
  obtain ⟨bS, rS, rF, rV, rP, bP, e25, e26, rN, -⟩ := h
  exact ⟨rS, rP, bP, e25, e26, rN⟩
theorem INV.tk {G S F P N n0 n1 n2 K k U M a5 a6 a12 a28 a29 a31 a32 : Nat → Int32} {T c : Nat} (h : INV G S F P N n0 n1 n2 K k U M a5 a6 a12 a28 a29 a31 a32 T) {x y : (Nat → Int32) × (Nat → Int32) × (Nat → Int32) × (Nat → Int32) × (Nat → Int32)} (hc : c ≤ 60) (r : RT S x y (T + c)) (f : ∀ k, k < 7 ∨ 31 ≤ k → y.1 k = M k) : x.1 2 = y.1 7 ∧ INV G S F x.1 x.2.1 x.2.2.1 x.2.2.2.1 x.2.2.2.2 K k U y.1 a5 a6 y.2.1 y.2.2.1 y.2.2.2.1 y.2.2.2.2 a32 (T + 60) := by
  obtain ⟨bS, rS, rF, rV, rP, bP, e25, e26, rN, cn, ⟨c1, c2, c3, c4⟩, rU⟩ := h
  obtain ⟨q1, q2, q3, q4, q5, q6⟩ := r
  exact ⟨q2.1.symm, bS, q1, rF, rV, q2, q3, q4, q5, q6.mono (by omega), cn, ⟨c1, c2, (f 33 (by omega)).trans c3, c4⟩, rU⟩
theorem ticks_law {G S F P N n0 n1 n2 K k U M a5 a6 a12 a28 a29 a31 a32 : Nat → Int32} {L : Int64} {T : Nat} {set n : Int32} (hT : T + 60 < 2 ^ 30) (h : INV G S F P N n0 n1 n2 K k U M a5 a6 a12 a28 a29 a31 a32 T) {A B : Int32 × (Nat → Int32) × (Nat → Int32) × (Nat → Int32) × (Nat → Int32) × (Nat → Int32)} (eA : A = sp_X8_ticks G S F P N n0 n1 n2 set n) (eB : B = sp_X9_ticks M L a5 a6 a12 a28 a29 a31 set n) :
    A.1 = B.1 ∧ INV G S F A.2.1 A.2.2.1 A.2.2.2.1 A.2.2.2.2.1 A.2.2.2.2.2 K k U B.2.1 a5 a6 B.2.2.1 B.2.2.2.1 B.2.2.2.2.1 B.2.2.2.2.2 a32 (T + 60) := by
  by_cases w1 : sp_X8_isSet set = 0
  · simp only [sp_X8_ticks, if_pos w1] at eA
    simp only [sp_X9_ticks, if_pos (show sp_X9_isSet set = 0 from w1)] at eB
    subst eA eB
    exact ⟨rfl, h.mono⟩
  by_cases w2 : sp_X8_within n 0 60 = 0
  · simp only [sp_X8_ticks, if_neg w1, if_pos w2] at eA
    simp only [sp_X9_ticks, if_neg (show ¬ sp_X9_isSet set = 0 from w1), if_pos (show sp_X9_within n 0 60 = 0 from w2)] at eB
    subst eA eB
    exact ⟨rfl, h.mono⟩
  simp only [sp_X8_ticks, if_neg w1, if_neg w2] at eA
  simp only [sp_X9_ticks, if_neg (show ¬ sp_X9_isSet set = 0 from w1), if_neg (show ¬ sp_X9_within n 0 60 = 0 from w2)] at eB
  obtain ⟨t, ht, rfl⟩ := wi_ex (hi := 511) w1 (by omega)
  obtain ⟨c, hc, rfl⟩ := wi_ex (hi := 60) w2 (by omega)
  rw [nI_clamp (by omega)] at eA eB
  obtain ⟨g1, g2⟩ := ticks_all (G := G) (L := L) h.1 h.2.2.1 h.2.2.2.1 h.rt (show t < 512 by omega) c (by omega)
  have g := h.tk hc g1 g2
  subst eA eB
  exact g
theorem ticks_h8 {G S F P N n0 n1 n2 K k U M a5 a6 a12 a28 a29 a31 a32 : Nat → Int32} {T : Nat} {set n : Int32} (hT : T + 60 < 2 ^ 30) (h : INV G S F P N n0 n1 n2 K k U M a5 a6 a12 a28 a29 a31 a32 T) : ¬ sp_X8_isSet set = 0 → ¬ sp_X8_within n 0 60 = 0 → ∀ i, i < n.toNatClampNeg → ¬ (lp (bd_X8_ticks_22 G S F set) i (P, N, n0, n1, n2)).2.1 3 < 0 := by
  intro w1 w2 i hi
  obtain ⟨t, ht, rfl⟩ := wi_ex (hi := 511) w1 (by omega)
  obtain ⟨c, hc, rfl⟩ := wi_ex (hi := 60) w2 (by omega)
  rw [nI_clamp (by omega)] at hi
  exact (ticks_all (G := G) (L := 0) h.1 h.2.2.1 h.2.2.2.1 h.rt (show t < 512 by omega) i (by omega)).1.known
theorem ticks_h9 {G S F P N n0 n1 n2 K k U M a5 a6 a12 a28 a29 a31 a32 : Nat → Int32} {L : Int64} {T : Nat} {set n : Int32} (hT : T + 60 < 2 ^ 30) (h : INV G S F P N n0 n1 n2 K k U M a5 a6 a12 a28 a29 a31 a32 T) : ¬ sp_X9_isSet set = 0 → ¬ sp_X9_within n 0 60 = 0 → ∀ i x, i < n.toNatClampNeg → x = lp (bd_X9_ticks_22 L a5 a6 set) i (M, a12, a28, a29, a31) → okn (sp_X9_tickBy x.1 L a5 a6 x.2.1 set).1 x.2.2.2.1 (x.1 7) := by
  intro w1 w2 i x hi ex
  obtain ⟨t, ht, rfl⟩ := wi_ex (hi := 511) w1 (by omega)
  obtain ⟨c, hc, rfl⟩ := wi_ex (hi := 60) w2 (by omega)
  rw [nI_clamp (by omega)] at hi
  have g := (ticks_all (G := G) (L := L) h.1 h.2.2.1 h.2.2.2.1 h.rt (show t < 512 by omega) i (by omega)).1
  rw [ex]
  exact (tick_all (G := G) (L := L) (i := i) h.1 h.2.2.1 h.2.2.2.1 g (by omega) (by omega)).2.1
theorem tick_law {G S F P N n0 n1 n2 K k U M a5 a6 a12 a28 a29 a31 a32 : Nat → Int32} {L : Int64} {T : Nat} {set : Int32} (hT : T + 60 < 2 ^ 30) (h : INV G S F P N n0 n1 n2 K k U M a5 a6 a12 a28 a29 a31 a32 T) {A B : Int32 × (Nat → Int32) × (Nat → Int32) × (Nat → Int32) × (Nat → Int32) × (Nat → Int32)} (eA : A = sp_X8_tick G S F P N n0 n1 n2 set) (eB : B = sp_X9_tick M L a5 a6 a12 a28 a29 a31 set) :
    A.1 = B.1 ∧ INV G S F A.2.1 A.2.2.1 A.2.2.2.1 A.2.2.2.2.1 A.2.2.2.2.2 K k U B.2.1 a5 a6 B.2.2.1 B.2.2.2.1 B.2.2.2.2.1 B.2.2.2.2.2 a32 (T + 60) := by
  have e1 : sp_X9_tick M L a5 a6 a12 a28 a29 a31 set = sp_X9_ticks M L a5 a6 a12 a28 a29 a31 set 1 := rfl
  have e2 : sp_X8_tick G S F P N n0 n1 n2 set = sp_X8_ticks G S F P N n0 n1 n2 set 1 := by
    have w : ¬ sp_X8_within 1 0 60 = 0 := by decide
    have c : (1 : Int32).toNatClampNeg = 1 := by decide
    simp only [sp_X8_tick, sp_X8_ticks, if_neg w, c]
    rfl
  rw [e1] at eB
  rw [e2] at eA
  exact ticks_law hT h eA eB
theorem INV.kn {G S F P N n0 n1 n2 K k U M a5 a6 a12 a28 a29 a31 a32 : Nat → Int32} {T : Nat} (h : INV G S F P N n0 n1 n2 K k U M a5 a6 a12 a28 a29 a31 a32 T) : ¬ N 3 < 0 := h.rt.known
/-- a call that puts the reference back as it was -/
theorem INV.back {G S F P N n0 n1 n2 K k U M a5 a6 a12 a28 a29 a31 a32 M' a5' a6' a12' : Nat → Int32} {T : Nat} (h : INV G S F P N n0 n1 n2 K k U M a5 a6 a12 a28 a29 a31 a32 T) (rP' : RP P M' a12') (f : ∀ q, q < 7 ∨ (23 ≤ q ∧ q ≠ 38 ∧ q ≠ 39) → M' q = M q) (f5 : ∀ j, j < 9 → a5' j = a5 j) (f60 : a6' 0 = a6 0) (f61 : a6' 1 = a6 1) : INV G S F P N n0 n1 n2 K k U M' a5' a6' a12' a28 a29 a31 a32 (T + 60) := by
  obtain ⟨bS, rS, ⟨o, fo, ho, hf, h1, h0, hk⟩, ⟨v2, v3⟩, rP, bP, e25, e26, rN, cn, ⟨c1, c2, c3, c4⟩, rU⟩ := h
  exact ⟨bS, rS.fr (fun q hq => f q (by omega)), ⟨o, fo, ho, hf, h1, h0, fun q hq => ⟨(hk q hq).1, (f5 q hq).trans (hk q hq).2⟩⟩, ⟨v2.trans f60.symm, v3.trans f61.symm⟩, rP', bP, (f 25 (by omega)).trans e25, (f 26 (by omega)).trans e26, (rN.fr (fun q h1 h2 => f q (by omega))).mono (by omega), cn, ⟨c1, c2, (f 33 (by omega)).trans c3, c4⟩, rU⟩
theorem INV.cnt {G S F P N n0 n1 n2 K k U M a5 a6 a12 a28 a29 a31 a32 : Nat → Int32} {T : Nat} (h : INV G S F P N n0 n1 n2 K k U M a5 a6 a12 a28 a29 a31 a32 T) : (¬ K 1 < 0) ∧ (¬ M 33 < 0) ∧ (M 33).toNatClampNeg ≤ 32 ∧ (¬ 32 < M 33) ∧ ¬ 18 * M 33 < 0 := by
  obtain ⟨-, -, -, -, -, -, -, -, -, cn, ⟨c1, c2, c3, c4⟩, -⟩ := h
  rw [c2, c3]
  refine ⟨nI_pos (by omega), nI_pos (by omega), by rw [nI_clamp (by omega)]; exact c1, nI_nlt (a := 32) (b := cn) c1 (by omega), ?_⟩
  · rw [show (18 : Int32) = nI 18 from rfl, nI_mul]
    exact nI_pos (by omega)
theorem choose_h {Z c0 : Nat → Int32} {set may : Int32} (w : ¬ sp_X8_isSet may = 0) : (¬ (sp_X4_chooseSets (upd (upd Z 5 0) 6 0) c0 set may).1 4 < 0) ∧ ((sp_X4_chooseSets (upd (upd Z 5 0) 6 0) c0 set may).1 4).toNatClampNeg ≤ 4 := by
  obtain ⟨m, hm, rfl⟩ := wi_ex (hi := 511) w (by omega)
  obtain ⟨h1, h2, h3⟩ := cnt_tab ⟨m, by omega⟩
  dsimp only at h1 h2 h3
  have e : (sp_X4_chooseSets (upd (upd Z 5 0) 6 0) c0 set (nI m)).1 4 = nI (cntOf (nI m)) := h3
  rw [e, nI_clamp (by omega)]
  exact ⟨nI_pos (by omega), h2⟩
