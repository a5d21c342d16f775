/-! LAW 4: one call, both sides, the whole state. -/
theorem now_law {G S F P N n0 n1 n2 K k U M a5 a6 a12 a28 a29 a31 a32 : Nat → Int32} {L : Int64} {T : Nat} {x : Int32} (h : INV G S F P N n0 n1 n2 K k U M a5 a6 a12 a28 a29 a31 a32 T) {A B : Int32} (eA : A = sp_X8_now G P x) (eB : B = sp_X9_now M L a12 x) : A = B ∧ INV G S F P N n0 n1 n2 K k U M a5 a6 a12 a28 a29 a31 a32 (T + 60) := ⟨by rw [eA, eB]; exact now_sim h.2.2.2.2.1 x, h.mono⟩
theorem setting_law {G S F P N n0 n1 n2 K k U M a5 a6 a12 a28 a29 a31 a32 : Nat → Int32} {L : Int64} {T : Nat} {x : Int32} (h : INV G S F P N n0 n1 n2 K k U M a5 a6 a12 a28 a29 a31 a32 T) {A B : Int32} (eA : A = sp_X8_setting G S x) (eB : B = sp_X9_setting M L x) : A = B ∧ INV G S F P N n0 n1 n2 K k U M a5 a6 a12 a28 a29 a31 a32 (T + 60) := ⟨by rw [eA, eB]; exact setting_sim h.2.1 x, h.mono⟩
theorem locked_law {G S F P N n0 n1 n2 K k U M a5 a6 a12 a28 a29 a31 a32 : Nat → Int32} {L : Int64} {T : Nat} {x : Int32} {y : Int32} (h : INV G S F P N n0 n1 n2 K k U M a5 a6 a12 a28 a29 a31 a32 T) {A B : Int32} (eA : A = sp_X8_locked G N n0 n1 n2 x y) (eB : B = sp_X9_locked M L a28 x y) : A = B ∧ INV G S F P N n0 n1 n2 K k U M a5 a6 a12 a28 a29 a31 a32 (T + 60) := ⟨by rw [eA, eB]; exact locked_sim h.2.2.2.2.2.2.2.2.1 x y, h.mono⟩
theorem cause_law {G S F P N n0 n1 n2 K k U M a5 a6 a12 a28 a29 a31 a32 : Nat → Int32} {L : Int64} {T : Nat} {x : Int32} (h : INV G S F P N n0 n1 n2 K k U M a5 a6 a12 a28 a29 a31 a32 T) {A B : Int32} (eA : A = sp_X8_cause G N n0 n1 n2 x) (eB : B = sp_X9_cause M L a29 x) : A = B ∧ INV G S F P N n0 n1 n2 K k U M a5 a6 a12 a28 a29 a31 a32 (T + 60) := ⟨by rw [eA, eB]; exact cause_sim h.2.2.2.2.2.2.2.2.1 x, h.mono⟩
theorem followed_law {G S F P N n0 n1 n2 K k U M a5 a6 a12 a28 a29 a31 a32 : Nat → Int32} {L : Int64} {T : Nat} {x : Int32} (h : INV G S F P N n0 n1 n2 K k U M a5 a6 a12 a28 a29 a31 a32 T) {A B : Int32} (eA : A = sp_X8_followed G N n0 n1 n2 x) (eB : B = sp_X9_followed M L a31 x) : A = B ∧ INV G S F P N n0 n1 n2 K k U M a5 a6 a12 a28 a29 a31 a32 (T + 60) := ⟨by rw [eA, eB]; exact followed_sim h.2.2.2.2.2.2.2.2.1 x, h.mono⟩
theorem places_law {G S F P N n0 n1 n2 K k U M a5 a6 a12 a28 a29 a31 a32 : Nat → Int32} {L : Int64} {T : Nat} (hT : T < 2 ^ 28) (h : INV G S F P N n0 n1 n2 K k U M a5 a6 a12 a28 a29 a31 a32 T) {A B : Int32} (eA : A = sp_X8_places G N) (eB : B = sp_X9_places M L a28) : A = B ∧ INV G S F P N n0 n1 n2 K k U M a5 a6 a12 a28 a29 a31 a32 (T + 60) := ⟨by rw [eA, eB]; exact places_sim hT h.2.2.2.2.2.2.2.2.1, h.mono⟩
theorem many_law {G S F P N n0 n1 n2 K k U M a5 a6 a12 a28 a29 a31 a32 : Nat → Int32} {L : Int64} {T : Nat} {x : Int32} (h : INV G S F P N n0 n1 n2 K k U M a5 a6 a12 a28 a29 a31 a32 T) {A B : Int32} (eA : A = sp_X8_many G F P K N x) (eB : B = sp_X9_many M L a5 a6 x) : A = B ∧ INV G S F P N n0 n1 n2 K k U M a5 a6 a12 a28 a29 a31 a32 (T + 60) := ⟨by rw [eA, eB]; exact many_sim h x, h.mono⟩
theorem stepAt_law {G S F P N n0 n1 n2 K k U M a5 a6 a12 a28 a29 a31 a32 : Nat → Int32} {L : Int64} {T : Nat} {x : Int32} (h : INV G S F P N n0 n1 n2 K k U M a5 a6 a12 a28 a29 a31 a32 T) {A B : Int32} (eA : A = sp_X8_stepAt G K k x) (eB : B = sp_X9_stepAt M L a32 x) : A = B ∧ INV G S F P N n0 n1 n2 K k U M a5 a6 a12 a28 a29 a31 a32 (T + 60) := by
  refine ⟨?_, h.mono⟩
  obtain ⟨-, -, -, -, -, -, -, -, -, cn, rK, -⟩ := h
  rw [eA, eB]
  exact stepAt_sim rK
theorem wipe_law {G S F P N n0 n1 n2 K k U M a5 a6 a12 a28 a29 a31 a32 : Nat → Int32} {L : Int64} {T : Nat} (h : INV G S F P N n0 n1 n2 K k U M a5 a6 a12 a28 a29 a31 a32 T) {A : Int32 × (Nat → Int32) × (Nat → Int32)} {B : Int32 × (Nat → Int32)} (eA : A = sp_X8_wipe G K) (eB : B = sp_X9_wipe M L) : A.1 = B.1 ∧ INV A.2.1 S F P N n0 n1 n2 A.2.2 k U B.2 a5 a6 a12 a28 a29 a31 a32 (T + 60) := by
  rw [eA, eB]
  exact wipe_sim h
theorem stick_law {G S F P N n0 n1 n2 K k U M a5 a6 a12 a28 a29 a31 a32 : Nat → Int32} {L : Int64} {T : Nat} {x y : Int32} (h : INV G S F P N n0 n1 n2 K k U M a5 a6 a12 a28 a29 a31 a32 T) {A B : Int32 × (Nat → Int32)} (eA : A = sp_X8_stick G F x y) (eB : B = sp_X9_stick M L a5 x y) : A.1 = B.1 ∧ INV G S A.2 P N n0 n1 n2 K k U M B.2 a6 a12 a28 a29 a31 a32 (T + 60) := by
  obtain ⟨bS, rS, rF, rV, rP, bP, e25, e26, rN, rK⟩ := h
  obtain ⟨q1, q2, q3, q4⟩ := stick_sim rF eA eB
  exact ⟨q1, bS, rS, q2, ⟨q3.trans rV.1, q4.trans rV.2⟩, rP, bP, e25, e26, rN.mono (by omega), rK⟩
theorem valve_law {G S F P N n0 n1 n2 K k U M a5 a6 a12 a28 a29 a31 a32 : Nat → Int32} {L : Int64} {T : Nat} {x y : Int32} (h : INV G S F P N n0 n1 n2 K k U M a5 a6 a12 a28 a29 a31 a32 T) {A B : Int32 × (Nat → Int32)} (eA : A = sp_X8_valve G F x y) (eB : B = sp_X9_valve M L a6 x y) : A.1 = B.1 ∧ INV G S A.2 P N n0 n1 n2 K k U M a5 B.2 a12 a28 a29 a31 a32 (T + 60) := by
  obtain ⟨bS, rS, rF, rV, rP, bP, e25, e26, rN, rK⟩ := h
  obtain ⟨q1, q2, q3⟩ := valve_sim rF rV eA eB
  exact ⟨q1, bS, rS, q2, q3, rP, bP, e25, e26, rN.mono (by omega), rK⟩
theorem leads_law {G S F P N n0 n1 n2 K k U M a5 a6 a12 a28 a29 a31 a32 : Nat → Int32} {L : Int64} {T : Nat} {x : Int32} {Q1 : Nat → Int32} (h : INV G S F P N n0 n1 n2 K k U M a5 a6 a12 a28 a29 a31 a32 T) {A : Int32 × (Nat → Int32)} {B : Int32 × (Nat → Int32) × Int64 × (Nat → Int32)} (eA : A = sp_X8_leadsTo G S F P Q1 x) (eB : B = sp_X9_leadsTo M L a5 a6 a12 x) : A.1 = B.1 ∧ INV G S F P N n0 n1 n2 K k U B.2.1 a5 a6 B.2.2.2 a28 a29 a31 a32 (T + 60) := by
  obtain ⟨q1, q2, q3⟩ := leadsM_sim (G := G) (Q := Q1) h.1 h.2.1 h.2.2.1 h.2.2.2.1 h.2.2.2.2.1 h.2.2.2.2.2.1 eB
  exact ⟨by rw [eA, q1], h.back q2 (fun q hq => q3 q (by omega)) (fun _ _ => rfl) rfl rfl⟩
theorem reach_law {G S F P N n0 n1 n2 K k U M a5 a6 a12 a28 a29 a31 a32 : Nat → Int32} {L : Int64} {T : Nat} {x1 x2 x3 x4 : Int32} {Z w0 c0 p0 p1 p2 p3 p4 p5 a37 : Nat → Int32} {t0 a36 : Nat → Int64} (h : INV G S F P N n0 n1 n2 K k U M a5 a6 a12 a28 a29 a31 a32 T) {A : Int32 × (Nat → Int32) × (Nat → Int64) × (Nat → Int32) × (Nat → Int32) × (Nat → Int32) × (Nat → Int32) × (Nat → Int32) × (Nat → Int32) × (Nat → Int32) × (Nat → Int32)} {B : Int32 × (Nat → Int32) × Int64 × (Nat → Int32) × (Nat → Int64) × (Nat → Int32)} (eA : A = sp_X8_reach G S F P Z t0 w0 c0 p0 p1 p2 p3 p4 p5 x1 x2 x3 x4) (eB : B = sp_X9_reach M L a5 a6 a12 a36 a37 x1 x2 x3 x4) : A.1 = B.1 ∧ INV G S F P N n0 n1 n2 K k U B.2.1 a5 a6 B.2.2.2.1 a28 a29 a31 a32 (T + 60) := by
  obtain ⟨q1, q2, q3⟩ := reachM_sim (G := G) (Z := Z) (t0 := t0) (w0 := w0) (c0 := c0) (p0 := p0) (p1 := p1) (p2 := p2) (p3 := p3) (p4 := p4) (p5 := p5) h.1 h.2.1 h.2.2.1 h.2.2.2.1 h.2.2.2.2.1 h.2.2.2.2.2.1 eB
  exact ⟨by rw [eA, q1], h.back q2 q3 (fun _ _ => rfl) rfl rfl⟩
theorem trial_law {G S F P N n0 n1 n2 K k U M a5 a6 a12 a28 a29 a31 a32 : Nat → Int32} {L : Int64} {T : Nat} {x1 x2 x3 x4 : Int32} {V E B0 a34 a35 : Nat → Int32} (h : INV G S F P N n0 n1 n2 K k U M a5 a6 a12 a28 a29 a31 a32 T) {A : Int32 × (Nat → Int32) × (Nat → Int32) × (Nat → Int32)} {B : Int32 × (Nat → Int32) × (Int64) × (Nat → Int32) × (Nat → Int32) × (Nat → Int32) × (Nat → Int32) × (Nat → Int32)} (eA : A = sp_X8_trial G S K k V E B0 x1 x2 x3 x4) (eB : B = sp_X9_trial M L a5 a6 a12 a32 a34 a35 x1 x2 x3 x4) : A.1 = B.1 ∧ INV G S F P N n0 n1 n2 K k U B.2.1 B.2.2.2.1 B.2.2.2.2.1 B.2.2.2.2.2.1 a28 a29 a31 a32 (T + 60) := by
  have h' := h
  obtain ⟨bS, rS, rF, rV, rP, bP, e25, e26, rN, cn, rK, rU⟩ := h
  obtain ⟨q1, m1, m2, m3, m4, m5⟩ := trialM_sim (V := V) (E := E) (B := B0) (G := G) bS rS rK rP bP eB
  exact ⟨by rw [eA, q1], h'.back m1 (fun q hq => m2 q (by omega)) m3 m4 m5⟩
theorem trials_law {G S F P N n0 n1 n2 K k U M a5 a6 a12 a28 a29 a31 a32 : Nat → Int32} {L : Int64} {T : Nat} {x : Int32} {V E B0 a34 a35 : Nat → Int32} (h : INV G S F P N n0 n1 n2 K k U M a5 a6 a12 a28 a29 a31 a32 T) {A : Int32 × (Nat → Int32) × (Nat → Int32) × (Nat → Int32) × (Nat → Int32) × (Nat → Int32)} {B : Int32 × (Nat → Int32) × (Int64) × (Nat → Int32) × (Nat → Int32) × (Nat → Int32) × (Nat → Int32) × (Nat → Int32)} (eA : A = sp_X8_trials G U S K k V E B0 x) (eB : B = sp_X9_trials M L a5 a6 a12 a32 a34 a35 x) : A.1 = B.1 ∧ INV A.2.1 S F P N n0 n1 n2 K k A.2.2.1 B.2.1 B.2.2.2.1 B.2.2.2.2.1 B.2.2.2.2.2.1 a28 a29 a31 a32 (T + 60) := by
  have h' := h
  obtain ⟨bS, rS, rF, rV, rP, bP, e25, e26, rN, cn, rK, rU⟩ := h
  obtain ⟨q1, ⟨m1, m2, m3, m4, m5⟩, u, -⟩ := trialsM_sim (V := V) (E := E) (B := B0) bS rS rK rP bP rU eB eA
  obtain ⟨g1, g2, g3, g4, g5, g6, g7, g8, g9, cn', gK, -⟩ := h'.back m1 (fun q hq => m2 q (by omega)) m3 m4 m5
  have ec : cn' = cn := by
    have e1 := gK.2.1
    rw [rK.2.1] at e1
    have := rK.1
    have := gK.1
    exact ((nI_eq (by omega) (by omega)).mp e1).symm
  subst ec
  exact ⟨q1.symm, g1, g2, g3, g4, g5, g6, g7, g8, g9, cn', gK, u⟩
