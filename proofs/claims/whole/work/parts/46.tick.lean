/-! PURE 7: the TICK of the class and the reference's keep their states together. -/
theorem nmode_zero {md ls hands pos bot taken barred lg : Int32} (h0 : ¬ md = 0) (h : rg md 4) : nmode md ls hands pos bot taken barred lg = 0 ↔ ¬ ls = 0 := by
  simp only [nmode, if_neg h0]
  by_cases hl : ls = 0
  · rcases rg4 h with h2 | h2 | h2 | h2 | h2
    · exact absurd h2 h0
    · by_cases ht : taken = 0 <;> by_cases hb : barred = 0 <;> simp [h2, hl, ht, hb]
    · by_cases hh : hands = 2 <;> by_cases hb : barred = 0 <;> simp [h2, hl, hh, hb]
    · by_cases ht : taken = 0 <;> by_cases hb : barred = 0 <;> by_cases hp : bot ≤ pos <;> simp [h2, hl, ht, hb, hp]
    · simp [h2, hl]
  · simp [hl]
set_option maxHeartbeats 4000000 in
theorem tick_sim {P S F M a5 a6 a12 : Nat → Int32} {L : Int64} {t : Nat} (bS : BS S) (rS : RS S M) (rF : RF F a5) (rV : RV F a6) (rP : RP P M a12) (bP : BP P S) (ht : t < 512) {P' M' a' : Nat → Int32} (eP' : P' = sp_X2_advance P S F (nI t)) (eM' : M' = (sp_X9_tickBy M L a5 a6 a12 (nI t)).1) (ea' : a' = (sp_X9_tickBy M L a5 a6 a12 (nI t)).2) :
    RP P' M' a' ∧ BP P' S ∧ P' 16 = P 16 + M' 21 ∧ P' 17 = P 17 + M' 22 ∧ M' 19 = (if P 2 = 0 then (-9) else if P' 2 = 0 then P' 15 else (-9)) ∧ (¬ P 2 = 0 → P' 2 = 0 → M' 20 = P 12 ∧ ∃ j : Nat, 1 ≤ j ∧ j ≤ 5 ∧ P' 15 = nI j) := by
  obtain ⟨s0, s1, s1', s2, s3, b, hb2, hb9, s4⟩ := bS
  obtain ⟨m0, m1, m2, m3, m4⟩ := rS
  obtain ⟨p7, p8, p9, p10, p11, c0, c1, c2, p13, p14, p15, p16, p17, p18⟩ := rP
  obtain ⟨q2, q3, q4, q5, q6, q7, q8, q9, q10, q11, ⟨p, hp, q12⟩, q13, q14⟩ := bP
  have hbc : (S 4).toNatClampNeg = b := by rw [s4]; exact nI_clamp (by omega)
  rw [hbc] at hp
  obtain ⟨n, hn, en, em⟩ := seen_eq (M := M) (L := L) rF ht
  -- the class
  obtain ⟨P1, e1⟩ : ∃ q : Nat → Int32, q = upd (upd (upd P 7 (sp_X2_apartThen (P 7) (nI n) 0)) 8 (sp_X2_apartThen (P 8) (nI n) 2)) 9 (sp_X2_apartThen (P 9) (nI n) 4) := ⟨_, rfl⟩
  obtain ⟨P2, e2⟩ : ∃ q : Nat → Int32, q = sp_X2_moveMuting P1 S (nI n) := ⟨_, rfl⟩
  obtain ⟨P3, e3⟩ : ∃ q : Nat → Int32, q = sp_X2_moveHands P2 S (nI n) := ⟨_, rfl⟩
  obtain ⟨ctk, ectk⟩ : ∃ q : Int32, q = if P3 3 = 2 then (if P2 3 = 2 then 0 else 1) else 0 := ⟨_, rfl⟩
  obtain ⟨cun, ecun⟩ : ∃ q : Int32, q = if sp_X0_valvesObey F (P3 11) = 0 then sp_X2_oneMore (P3 10) else 0 := ⟨_, rfl⟩
  obtain ⟨cba, ecba⟩ : ∃ q : Int32, q = if sp_X8_pairCount (nI n) 4 = 2 then 0 else (if sp_X2_isMuted (upd P3 10 cun) = 0 then 1 else 0) := ⟨_, rfl⟩
  obtain ⟨P5, e5⟩ : ∃ q : Nat → Int32, q = sp_X2_changeMode (upd P3 10 cun) S (nI n) ctk cba := ⟨_, rfl⟩
  obtain ⟨ccm, eccm⟩ : ∃ q : Int32, q = if P5 2 = 2 then 1 else (if P5 2 = 4 then 1 else 0) := ⟨_, rfl⟩
  obtain ⟨P7, e7⟩ : ∃ q : Nat → Int32, q = sp_X2_moveSlide (upd P5 11 ccm) S F (nI t) := ⟨_, rfl⟩
  have hC := adv_unf en.symm e1 e2 e3 ectk ecun ecba e5 eccm e7
  -- the reference
  obtain ⟨x2, ex⟩ : ∃ q : Nat → Int32, q = lp (bd_X9_tickBy_8 M L a5 (nI t)) 3 a12 := ⟨_, rfl⟩
  obtain ⟨z4, ez4⟩ : ∃ q : Int32, q = sp_X9_mutingBy (M 10) (sp_X9_bit (nI n) 6) (sp_X9_bit (nI n) 7) := ⟨_, rfl⟩
  obtain ⟨z5, ez5⟩ : ∃ q : Int32, q = if z4 = 2 then (M 11) + 1 else (if z4 = 3 then (M 11) + 1 else 0) := ⟨_, rfl⟩
  obtain ⟨M1, eM1⟩ : ∃ q : Nat → Int32, q = if z5 ≤ M 2 then upd (upd M 10 z4) 11 z5 else upd (upd M 10 4) 11 0 := ⟨_, rfl⟩
  obtain ⟨mu, emu⟩ : ∃ q : Int32, q = if M1 10 = 2 then 1 else (if M1 10 = 3 then 1 else 0) := ⟨_, rfl⟩
  obtain ⟨on, eon⟩ : ∃ q : Int32, q = (if sp_X9_isOn (nI n) 0 = 0 then 0 else 1) + (if sp_X9_isOn (nI n) 1 = 0 then 0 else 1) := ⟨_, rfl⟩
  obtain ⟨hh, ehh⟩ : ∃ q : Int32, q = sp_X9_handsBy M1 L on := ⟨_, rfl⟩
  obtain ⟨tk, etk⟩ : ∃ q : Int32, q = if hh = 2 then (if M1 8 = 2 then 0 else 1) else 0 := ⟨_, rfl⟩
  obtain ⟨si, esi⟩ : ∃ q : Int32, q = if hh = 1 then (if M1 8 = 1 then (M1 9) + 1 else 1) else 0 := ⟨_, rfl⟩
  obtain ⟨un, eun⟩ : ∃ q : Int32, q = if sp_X9_valveAt (upd (upd M1 8 hh) 9 si) L a6 0 = M1 14 then (if sp_X9_valveAt (upd (upd M1 8 hh) 9 si) L a6 1 = M1 14 then 0 else sp_X9_more (M1 13)) else sp_X9_more (M1 13) := ⟨_, rfl⟩
  obtain ⟨ba, eba⟩ : ∃ q : Int32, q = if sp_X9_isOn (nI n) 2 = 0 then (if mu = 0 then 1 else 0) else 0 := ⟨_, rfl⟩
  obtain ⟨lg, elg⟩ : ∃ q : Int32, q = if M1 17 = 1 then (if sp_X9_bit (nI n) 8 = 0 then 1 else 0) else 0 := ⟨_, rfl⟩
  obtain ⟨M3, eM3⟩ : ∃ q : Nat → Int32, q = upd (upd (upd M1 8 hh) 9 si) 13 un := ⟨_, rfl⟩
  obtain ⟨M4, eM4⟩ : ∃ q : Nat → Int32, q = sp_X9_goesOn M3 L x2 tk ba lg := ⟨_, rfl⟩
  obtain ⟨cm, ecm⟩ : ∃ q : Int32, q = if M4 7 = 2 then 1 else (if M4 7 = 4 then 1 else 0) := ⟨_, rfl⟩
  have hR := tick_unf (a6 := a6) em.symm ex ez4 ez5 eM1 emu eon ehh etk esi eun eba elg eM3 eM4 ecm
  rw [hR] at eM' ea'
  rw [hC] at eP'
  clear hR hC
  obtain ⟨M7, e8⟩ : ∃ q : Nat → Int32, q = sp_X9_slides (upd (upd M4 14 cm) 17 (sp_X9_bit (nI n) 8)) L a6 (nI t) mu := ⟨_, rfl⟩
  have eM' : M' = M7 := eM'.trans e8.symm
  have ea' : a' = x2 := ea'
  -- apart
  obtain ⟨x0, x1, x2', r7, r8, r9⟩ := st_apart hn q7 q8 q9 c0 c1 c2 (f := bd_X9_tickBy_8 M L a5 (nI t)) (by funext i x; simp only [bd_X9_tickBy_8, em])
  rw [← ex] at x0 x1 x2'
  have a7 : P1 7 = x2 0 := by rw [x0, e1]; rfl
  have a8 : P1 8 = x2 1 := by rw [x1, e1]; rfl
  have a9 : P1 9 = x2 2 := by rw [x2', e1]; rfl
  rw [← x0] at r7
  rw [← x1] at r8
  rw [← x2'] at r9
  have aF : ∀ k, k ≠ 7 → k ≠ 8 → k ≠ 9 → P1 k = P k := fun k k7 k8 k9 => by rw [e1, upd_ne k9, upd_ne k8, upd_ne k7]
  -- muting
  obtain ⟨u5, u6, v5, v6, uF, wF⟩ := st_mut (P := P1) hn (by rw [aF 5 (by omega) (by omega) (by omega)]; exact q5) (by rw [aF 6 (by omega) (by omega) (by omega)]; exact q6) s2 (by rw [aF 5 (by omega) (by omega) (by omega)]; exact p10) (by rw [aF 6 (by omega) (by omega) (by omega)]; exact p11) m2 ez4 ez5 eM1
  rw [← e2] at u5 u6 uF
  have u3 : P2 3 = P 3 := by rw [uF 3 (by omega) (by omega), aF 3 (by omega) (by omega) (by omega)]
  have u4 : P2 4 = P 4 := by rw [uF 4 (by omega) (by omega), aF 4 (by omega) (by omega) (by omega)]
  have hmu : sp_X2_isMuted P2 = mu := by
    rw [emu, ← u5]
    rfl
  -- hands
  obtain ⟨h3, rh, rs⟩ := st_hands (P := P2) (M := M1) (L := L) hn (by rw [u3]; exact q3) (by rw [u4]; exact q4) s1' s1 (by rw [wF 8 (by omega) (by omega), u3]; exact p8) (by rw [wF 9 (by omega) (by omega), u4]; exact p9) (by rw [wF 1 (by omega) (by omega)]; exact m1) eon ehh esi
  rw [← e3] at h3
  have t3 : P3 3 = hh := by rw [h3]; rfl
  have t4 : P3 4 = si := by rw [h3]; rfl
  have tF : ∀ k, k ≠ 3 → k ≠ 4 → P3 k = P2 k := fun k k3 k4 => by rw [h3, upd_ne k4, upd_ne k3]
  have htk : ctk = tk := by rw [ectk, etk, t3, u3, wF 8 (by omega) (by omega), p8]
  -- unlike
  have f11 : P3 11 = P 11 := by rw [tF 11 (by omega) (by omega), uF 11 (by omega) (by omega), aF 11 (by omega) (by omega) (by omega)]
  have f10 : P3 10 = P 10 := by rw [tF 10 (by omega) (by omega), uF 10 (by omega) (by omega), aF 10 (by omega) (by omega) (by omega)]
  have g14 : M1 14 = P 11 := by rw [wF 14 (by omega) (by omega)]; exact p14
  have g13 : M1 13 = P 10 := by rw [wF 13 (by omega) (by omega)]; exact p13
  have hv := (st_valve (F := F) (M := upd (upd M1 8 hh) 9 si) (L := L) (x := 0) (y := 0) rV.1 rV.2 (cm := P 11) g14).1
  have hun : cun = un := by
    rw [ecun, eun, f11, f10, g14, g13, more_eq q10]
    by_cases w0 : sp_X9_valveAt (upd (upd M1 8 hh) 9 si) L a6 0 = P 11 <;> by_cases w1 : sp_X9_valveAt (upd (upd M1 8 hh) 9 si) L a6 1 = P 11
    · have : ¬ sp_X0_valvesObey F (P 11) = 0 := fun h => hv.mp h ⟨w0, w1⟩
      rw [if_neg this, if_pos w0, if_pos w1]
    · have : sp_X0_valvesObey F (P 11) = 0 := hv.mpr fun h => w1 h.2
      rw [if_pos this, if_pos w0, if_neg w1]
    · have : sp_X0_valvesObey F (P 11) = 0 := hv.mpr fun h => w0 h.1
      rw [if_pos this, if_neg w0]
    · have : sp_X0_valvesObey F (P 11) = 0 := hv.mpr fun h => w0 h.1
      rw [if_pos this, if_neg w0]
  have run : rg un 9 := by
    rw [eun, g13]
    exact rg_ite (fun _ => rg_ite (fun _ => ⟨0, by omega, rfl⟩) (fun _ => more_rg q10)) (fun _ => more_rg q10)
  -- barred
  obtain ⟨-, -, hon, -⟩ := SF_ok hn
  have hmu4 : sp_X2_isMuted (upd P3 10 cun) = mu := by
    rw [← hmu]
    show (if P3 5 = 2 then (1 : Int32) else if P3 5 = 3 then 1 else 0) = _
    rw [tF 5 (by omega) (by omega)]
    rfl
  have hba : cba = ba := by
    rw [ecba, eba, hmu4]
    by_cases w : sp_X8_pairCount (nI n) 4 = 2
    · rw [if_pos w, if_neg (hon.mp w)]
    · have : sp_X9_isOn (nI n) 2 = 0 := Decidable.byContradiction fun h => w (hon.mpr h)
      rw [if_neg w, if_pos this]
  -- modes
  obtain ⟨b01, b98⟩ := bit_is hn (k := 8) (by omega)
  rw [show nI 8 = (8 : Int32) from rfl] at b01 b98
  rw [htk, hun, hba] at e5
  obtain ⟨P4, e4⟩ : ∃ q : Nat → Int32, q = upd P3 10 un := ⟨_, rfl⟩
  rw [← e4] at e5
  have k4 : ∀ k, k ≠ 10 → P4 k = P3 k := fun k hk => by rw [e4, upd_ne hk]
  have kP : ∀ k, k ≠ 3 → k ≠ 4 → k ≠ 5 → k ≠ 6 → k ≠ 7 → k ≠ 8 → k ≠ 9 → k ≠ 10 → P4 k = P k := fun k k3 k4' k5 k6 k7 k8 k9 k10 => by rw [k4 k k10, tF k k3 k4', uF k k5 k6, aF k k7 k8 k9]
  have kM : ∀ k, k ≠ 8 → k ≠ 9 → k ≠ 10 → k ≠ 11 → k ≠ 13 → M3 k = M k := fun k k8 k9 k10 k11 k13 => by rw [eM3, upd_ne k13, upd_ne k9, upd_ne k8, wF k k10 k11]
  have j3 : P4 3 = hh := by rw [k4 3 (by omega)]; exact t3
  have j4 : P4 4 = si := by rw [k4 4 (by omega)]; exact t4
  have j5 : P4 5 = M1 10 := by rw [k4 5 (by omega), tF 5 (by omega) (by omega)]; exact u5
  have j6 : P4 6 = M1 11 := by rw [k4 6 (by omega), tF 6 (by omega) (by omega)]; exact u6
  have j7 : P4 7 = x2 0 := by rw [k4 7 (by omega), tF 7 (by omega) (by omega), uF 7 (by omega) (by omega)]; exact a7
  have j8 : P4 8 = x2 1 := by rw [k4 8 (by omega), tF 8 (by omega) (by omega), uF 8 (by omega) (by omega)]; exact a8
  have j9 : P4 9 = x2 2 := by rw [k4 9 (by omega), tF 9 (by omega) (by omega), uF 9 (by omega) (by omega)]; exact a9
  have j10 : P4 10 = un := by rw [e4]; rfl
  have j2 : P4 2 = P 2 := kP 2 (by omega) (by omega) (by omega) (by omega) (by omega) (by omega) (by omega) (by omega)
  have j12 : P4 12 = P 12 := kP 12 (by omega) (by omega) (by omega) (by omega) (by omega) (by omega) (by omega) (by omega)
  have j14 : P4 14 = P 14 := kP 14 (by omega) (by omega) (by omega) (by omega) (by omega) (by omega) (by omega) (by omega)
  have j15 : P4 15 = P 15 := kP 15 (by omega) (by omega) (by omega) (by omega) (by omega) (by omega) (by omega) (by omega)
  have i7 : M3 7 = P 2 := by rw [kM 7 (by omega) (by omega) (by omega) (by omega) (by omega)]; exact p7
  have i8 : M3 8 = hh := by rw [eM3]; rfl
  have i9 : M3 9 = si := by rw [eM3]; rfl
  have i10 : M3 10 = M1 10 := by rw [eM3]; rfl
  have i11 : M3 11 = M1 11 := by rw [eM3]; rfl
  have i13 : M3 13 = un := by rw [eM3]; rfl
  have i14 : M3 14 = P 11 := by rw [kM 14 (by omega) (by omega) (by omega) (by omega) (by omega)]; exact p14
  have i15 : M3 15 = P 12 := by rw [kM 15 (by omega) (by omega) (by omega) (by omega) (by omega)]; exact p15
  have i16 : M3 16 = P 13 := by rw [kM 16 (by omega) (by omega) (by omega) (by omega) (by omega)]; exact p16
  have i18 : M3 18 = (if P 2 = 0 then P 15 else (-9)) := by rw [kM 18 (by omega) (by omega) (by omega) (by omega) (by omega)]; exact p18
  have i4 : M3 4 = S 4 := by rw [kM 4 (by omega) (by omega) (by omega) (by omega) (by omega)]; exact m4
  have i3 : M3 3 = S 3 := by rw [kM 3 (by omega) (by omega) (by omega) (by omega) (by omega)]; exact m3
  have i0 : M3 0 = S 0 := by rw [kM 0 (by omega) (by omega) (by omega) (by omega) (by omega)]; exact m0
  obtain ⟨ls, els⟩ : ∃ q : Int32, q = sp_X2_leastCause P4 S := ⟨_, rfl⟩
  have hls : sp_X9_leastCause M3 L x2 (M3 7) = if ls = 0 then (-9) else ls := by
    rw [els]
    exact least_eq i0 j7.symm j8.symm j9.symm (by rw [i13, j10]) (by rw [i10, j5]) (by rw [i7, j2])
  have rls : rg ls 5 := by rw [els]; exact least_rg
  have r37 : rg (M3 7) 4 := by rw [i7]; exact q2
  have rP4 : rg (P4 2) 4 := by rw [j2]; exact q2
  have o2 := cm_mode (S := S) (seen := nI n) (taken := tk) (barred := ba) rP4
  have o15 := cm_cause (S := S) (seen := nI n) (taken := tk) (barred := ba) rP4
  rw [← e5, ← els, j2, j3, j12, j14] at o2
  rw [← e5, ← els, j2, j15] at o15
  have w7 := go_mode (t := tk) (b := ba) (g := lg) hls rls r37
  obtain ⟨w18, w19, w20⟩ := go_by (t := tk) (b := ba) (g := lg) hls rls r37
  rw [← eM4, i7, i8, i15, i4] at w7
  rw [← eM4, i7, i8, i15, i4, i18] at w18
  rw [← eM4, i7] at w19
  rw [← eM4, i7, i15] at w20
  have hlg : letgo (P 14) (sp_X8_bit (nI n) 8) = lg := by
    rw [elg, wF 17 (by omega) (by omega), p17, b98]
  rw [hlg] at o2
  have oF : ∀ k, k ≠ 2 ∧ k ≠ 15 → P5 k = P4 k := fun k hk => by rw [e5]; exact cm_fr hk
  have gF : ∀ k, k ≠ 7 ∧ k ≠ 18 ∧ k ≠ 19 ∧ k ≠ 20 → M4 k = M3 k := fun k hk => by rw [eM4]; exact go_fr hk
  have m52 : M4 7 = P5 2 := by rw [w7, o2]
  have r52 : rg (P5 2) 4 := by rw [o2]; exact nmode_rg q2
  have hcm : ccm = cm := by rw [eccm, ecm, m52]
  have rcm : rg cm 1 := by
    rw [ecm]
    exact rg_ite (fun _ => ⟨1, by omega, rfl⟩) (fun _ => rg_ite (fun _ => ⟨1, by omega, rfl⟩) (fun _ => ⟨0, by omega, rfl⟩))
  rw [hcm] at e7
  -- the slide
  obtain ⟨P6, e6⟩ : ∃ q : Nat → Int32, q = upd P5 11 cm := ⟨_, rfl⟩
  obtain ⟨M5, eM5⟩ : ∃ q : Nat → Int32, q = upd (upd M4 14 cm) 17 (sp_X9_bit (nI n) 8) := ⟨_, rfl⟩
  rw [← e6] at e7
  rw [← eM5] at e8
  have y6 : ∀ k, k ≠ 11 → P6 k = P5 k := fun k hk => by rw [e6, upd_ne hk]
  have y5 : ∀ k, k ≠ 14 → k ≠ 17 → M5 k = M4 k := fun k h1 h2 => by rw [eM5, upd_ne h2, upd_ne h1]
  have d11 : P6 11 = cm := by rw [e6]; rfl
  have d14 : M5 14 = cm := by rw [eM5]; rfl
  have d17 : M5 17 = sp_X9_bit (nI n) 8 := by rw [eM5]; rfl
  have d2 : P6 2 = P5 2 := y6 2 (by omega)
  have d12 : P6 12 = P 12 := by rw [y6 12 (by omega), oF 12 (by omega), j12]
  have d13 : P6 13 = P 13 := by rw [y6 13 (by omega), oF 13 (by omega)]; exact kP 13 (by omega) (by omega) (by omega) (by omega) (by omega) (by omega) (by omega) (by omega)
  have d16 : P6 16 = P 16 := by rw [y6 16 (by omega), oF 16 (by omega)]; exact kP 16 (by omega) (by omega) (by omega) (by omega) (by omega) (by omega) (by omega) (by omega)
  have d17' : P6 17 = P 17 := by rw [y6 17 (by omega), oF 17 (by omega)]; exact kP 17 (by omega) (by omega) (by omega) (by omega) (by omega) (by omega) (by omega) (by omega)
  have d15 : P6 15 = P5 15 := y6 15 (by omega)
  have d5 : P6 5 = P2 5 := by rw [y6 5 (by omega), oF 5 (by omega), k4 5 (by omega), tF 5 (by omega) (by omega)]
  have hmu6 : sp_X2_isMuted P6 = mu := by
    rw [← hmu]
    show (if P6 5 = 2 then (1 : Int32) else if P6 5 = 3 then 1 else 0) = _
    rw [d5]
    rfl
  obtain ⟨z1, z2, z3, z4', z5', z6, z7, z8, ⟨p', hp', z9⟩, zP, zM⟩ := st_slide (P := P6) (S := S) (F := F) (M := M5) (a6 := a6) (L := L) ht (by rw [y5 7 (by omega) (by omega), d2, m52]) (by rw [y5 15 (by omega) (by omega), gF 15 (by omega), i15, d12]) (by rw [y5 16 (by omega) (by omega), gF 16 (by omega), i16, d13]) (by rw [d14, d11]) (by rw [y5 4 (by omega) (by omega), gF 4 (by omega), i4]) (by rw [y5 3 (by omega) (by omega), gF 3 (by omega), i3]) rV hmu6 s4 hb2 hb9 hp (by rw [d12]; exact q12) (by rw [d13]; exact q13) s3 (by rw [d2]; exact r52)
  rw [← e7] at z1 z2 z3 z4' z5' z6 z7 z8 z9 zP
  rw [← e8] at z1 z2 z3 z4' z5' zM
  rw [d16] at z4'
  rw [d17'] at z5'
  have yP : ∀ k, k ≠ 2 → k ≠ 11 → k ≠ 12 → k ≠ 13 → k ≠ 15 → k ≠ 16 → k ≠ 17 → P7 k = P4 k := fun k k2 k11 k12 k13 k15 k16 k17 => by rw [zP k ⟨k2, k12, k13, k16, k17⟩, y6 k k11, oF k ⟨k2, k15⟩]
  have yM : ∀ k, k ≠ 7 → k ≠ 14 → k ≠ 15 → k ≠ 16 → k ≠ 17 → k ≠ 18 → k ≠ 19 → k ≠ 20 → k ≠ 21 → k ≠ 22 → M7 k = M3 k := fun k k7 k14 k15 k16 k17 k18 k19 k20 k21 k22 => by rw [zM k ⟨k7, k15, k16, k21, k22⟩, y5 k k14 k17, gF k ⟨k7, k18, k19, k20⟩]
  have E : ∀ k, k ≠ 14 → P' k = P7 k := fun k hk => by rw [eP', upd_ne hk]
  have E14 : P' 14 = sp_X8_bit (nI n) 8 := by rw [eP']; rfl
  have l3 : P7 3 = hh := by rw [yP 3 (by omega) (by omega) (by omega) (by omega) (by omega) (by omega) (by omega)]; exact j3
  have l4 : P7 4 = si := by rw [yP 4 (by omega) (by omega) (by omega) (by omega) (by omega) (by omega) (by omega)]; exact j4
  have l5 : P7 5 = M1 10 := by rw [yP 5 (by omega) (by omega) (by omega) (by omega) (by omega) (by omega) (by omega)]; exact j5
  have l6 : P7 6 = M1 11 := by rw [yP 6 (by omega) (by omega) (by omega) (by omega) (by omega) (by omega) (by omega)]; exact j6
  have l7 : P7 7 = x2 0 := by rw [yP 7 (by omega) (by omega) (by omega) (by omega) (by omega) (by omega) (by omega)]; exact j7
  have l8 : P7 8 = x2 1 := by rw [yP 8 (by omega) (by omega) (by omega) (by omega) (by omega) (by omega) (by omega)]; exact j8
  have l9 : P7 9 = x2 2 := by rw [yP 9 (by omega) (by omega) (by omega) (by omega) (by omega) (by omega) (by omega)]; exact j9
  have l10 : P7 10 = un := by rw [yP 10 (by omega) (by omega) (by omega) (by omega) (by omega) (by omega) (by omega)]; exact j10
  have l11 : P7 11 = cm := by rw [zP 11 (by omega)]; exact d11
  have l15 : P7 15 = P5 15 := by rw [zP 15 (by omega)]; exact d15
  have n18 : M7 18 = M4 18 := by rw [zM 18 (by omega), y5 18 (by omega) (by omega)]
  have n19 : M7 19 = M4 19 := by rw [zM 19 (by omega), y5 19 (by omega) (by omega)]
  have n20 : M7 20 = M4 20 := by rw [zM 20 (by omega), y5 20 (by omega) (by omega)]
  have hz0 : P7 2 = 0 ↔ P5 2 = 0 := by rw [z8, d2]
  -- the CAUSE
  have nm : nmode (P 2) ls hh (P 12) (S 4) tk ba lg = P5 2 := o2.symm
  rw [nm] at w18
  have hlock : ¬ P 2 = 0 → (P5 2 = 0 ↔ ¬ ls = 0) := fun hP2 => by
    rw [o2]
    exact nmode_zero hP2 q2
  have C18 : M7 18 = if P' 2 = 0 then P' 15 else (-9) := by
    rw [E 2 (by omega), E 15 (by omega), l15, n18, w18, o15]
    by_cases hP2 : P 2 = 0
    · rw [if_pos hP2, if_pos hP2, if_pos hP2]
      by_cases h5 : P5 2 = 0
      · rw [if_pos h5, if_pos (hz0.mpr h5)]
      · rw [if_neg h5, if_neg (fun h => h5 (hz0.mp h))]
    · rw [if_neg hP2, if_neg hP2, if_neg hP2]
      by_cases hl : ls = 0
      · have h5 : ¬ P5 2 = 0 := fun h => (hlock hP2).mp h hl
        rw [if_pos hl, if_pos hl, if_neg (fun h => h5 (hz0.mp h))]
      · have h5 : P5 2 = 0 := (hlock hP2).mpr hl
        rw [if_neg hl, if_neg hl, if_pos (hz0.mpr h5)]
  have C19 : M7 19 = (if P 2 = 0 then (-9) else if P' 2 = 0 then P' 15 else (-9)) := by
    rw [E 2 (by omega), E 15 (by omega), l15, n19, w19, o15]
    by_cases hP2 : P 2 = 0
    · rw [if_pos hP2, if_pos hP2]
    · rw [if_neg hP2, if_neg hP2, if_neg hP2]
      by_cases hl : ls = 0
      · have h5 : ¬ P5 2 = 0 := fun h => (hlock hP2).mp h hl
        rw [if_pos hl, if_neg (fun h => h5 (hz0.mp h))]
      · have h5 : P5 2 = 0 := (hlock hP2).mpr hl
        rw [if_neg hl, if_pos (hz0.mpr h5), if_neg hl]
  subst eM' ea'
  refine ⟨⟨?_, ?_, ?_, ?_, ?_, ?_, ?_, ?_, ?_, ?_, ?_, ?_, ?_, C18⟩, ⟨?_, ?_, ?_, ?_, ?_, ?_, ?_, ?_, ?_, ?_, ⟨p', ?_, ?_⟩, ?_, ?_⟩, ?_, ?_, C19, ?_⟩
  · rw [E 2 (by omega)]; exact z1
  · rw [E 3 (by omega), l3, yM 8 (by omega) (by omega) (by omega) (by omega) (by omega) (by omega) (by omega) (by omega) (by omega) (by omega)]; exact i8
  · rw [E 4 (by omega), l4, yM 9 (by omega) (by omega) (by omega) (by omega) (by omega) (by omega) (by omega) (by omega) (by omega) (by omega)]; exact i9
  · rw [E 5 (by omega), l5, yM 10 (by omega) (by omega) (by omega) (by omega) (by omega) (by omega) (by omega) (by omega) (by omega) (by omega)]; exact i10
  · rw [E 6 (by omega), l6, yM 11 (by omega) (by omega) (by omega) (by omega) (by omega) (by omega) (by omega) (by omega) (by omega) (by omega)]; exact i11
  · rw [E 7 (by omega)]; exact l7.symm
  · rw [E 8 (by omega)]; exact l8.symm
  · rw [E 9 (by omega)]; exact l9.symm
  · rw [E 10 (by omega), l10, yM 13 (by omega) (by omega) (by omega) (by omega) (by omega) (by omega) (by omega) (by omega) (by omega) (by omega)]; exact i13
  · rw [E 11 (by omega), l11, zM 14 (by omega)]; exact d14
  · rw [E 12 (by omega)]; exact z2
  · rw [E 13 (by omega)]; exact z3
  · rw [E14, zM 17 (by omega), d17]; exact b98
  · rw [E 2 (by omega)]; exact z7
  · rw [E 3 (by omega), l3]; exact rh
  · rw [E 4 (by omega), l4]; exact rs
  · rw [E 5 (by omega), l5]; exact v5
  · rw [E 6 (by omega), l6]; exact v6
  · rw [E 7 (by omega), l7]; exact r7
  · rw [E 8 (by omega), l8]; exact r8
  · rw [E 9 (by omega), l9]; exact r9
  · rw [E 10 (by omega), l10]; exact run
  · rw [E 11 (by omega), l11]; exact rcm
  · rw [hbc]; exact hp'
  · rw [E 12 (by omega)]; exact z9
  · rw [E 13 (by omega)]; exact z6
  · rw [E14]
    rcases b01 with h | h
    · rw [h]; exact ⟨0, by omega, rfl⟩
    · rw [h]; exact ⟨1, by omega, rfl⟩
  · rw [E 16 (by omega)]; exact z4'
  · rw [E 17 (by omega)]; exact z5'
  · intro hP2 h2'
    rw [E 2 (by omega)] at h2'
    have h5 : P5 2 = 0 := hz0.mp h2'
    have hl := (hlock hP2).mp h5
    refine ⟨by rw [n20]; exact w20 hP2 hl, ?_⟩
    obtain ⟨j, hj, e⟩ := rls
    refine ⟨j, ?_, hj, by rw [E 15 (by omega), l15, o15, if_neg hP2, if_neg hl]; exact e⟩
    rcases Nat.eq_zero_or_pos j with h | h
    · exact absurd (by rw [e, h]; rfl) hl
    · exact h
