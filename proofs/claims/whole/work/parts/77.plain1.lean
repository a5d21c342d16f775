/-! PURE 37: the plain methods, both sides. -/
def INV (G S F P N n0 n1 n2 K k U M a5 a6 a12 a28 a29 a31 a32 : Nat → Int32) (T : Nat) : Prop :=
  BS S ∧ RS S M ∧ RF F a5 ∧ RV F a6 ∧ RP P M a12 ∧ BP P S ∧ M 25 = P 16 ∧ M 26 = P 17 ∧ RN N n0 n1 n2 M a28 a29 a31 T ∧ ∃ cn, RK K k M a32 cn ∧ RU G U S K k cn
theorem wi_two {x : Int32} {lo hi : Nat} (h : ¬ sp_X8_within x (nI lo) (nI hi) = 0) (hl : lo < 2 ^ 31) (hh : hi < 2 ^ 31) : ∃ j : Nat, lo ≤ j ∧ j ≤ hi ∧ x = nI j := by
  obtain ⟨h1, h2⟩ := wi_ok h
  rw [Int32.lt_iff_toInt_lt, nI_toInt hl] at h1
  rw [Int32.lt_iff_toInt_lt, nI_toInt hh] at h2
  refine ⟨x.toInt.toNat, by omega, by omega, ?_⟩
  apply Int32.toInt_inj.mp
  rw [nI_toInt (by omega)]
  omega
theorem RN.mono {N n0 n1 n2 M a28 a29 a31 : Nat → Int32} {T T' : Nat} (h : RN N n0 n1 n2 M a28 a29 a31 T) (hT : T ≤ T') : RN N n0 n1 n2 M a28 a29 a31 T' := by
  obtain ⟨tab, ord, kn, pl, t1, t2, t⟩ := h
  exact ⟨tab, ord, kn, pl, t1, Nat.le_trans t2 hT, t⟩
theorem INV.mono {G S F P N n0 n1 n2 K k U M a5 a6 a12 a28 a29 a31 a32 : Nat → Int32} {T : Nat} (h : INV G S F P N n0 n1 n2 K k U M a5 a6 a12 a28 a29 a31 a32 T) : INV G S F P N n0 n1 n2 K k U M a5 a6 a12 a28 a29 a31 a32 (T + 60) := by
  obtain ⟨bS, rS, rF, rV, rP, bP, e25, e26, rN, rK⟩ := h
  exact ⟨bS, rS, rF, rV, rP, bP, e25, e26, rN.mono (by omega), rK⟩
theorem now_sim {P M a12 G : Nat → Int32} {L : Int64} (rP : RP P M a12) (w : Int32) : sp_X8_now G P w = sp_X9_now M L a12 w := by
  obtain ⟨p7, p8, p9, p10, p11, c0, c1, c2, p13, p14, p15, p16, p17, p18⟩ := rP
  simp only [sp_X8_now, sp_X2_part, sp_X9_now, p7, p8, p9, p10, p11, c0, c1, c2, p13, p14, p15, p16, p17, p18]
theorem setting_sim {S M G : Nat → Int32} {L : Int64} (rS : RS S M) (w : Int32) : sp_X8_setting G S w = sp_X9_setting M L w := by
  obtain ⟨s0, s1, s2, s3, s4⟩ := rS
  simp only [sp_X8_setting, sp_X5_part, sp_X9_setting, s0, s1, s2, s3, s4]
theorem bit8 {o j : Nat} (ho : o < 512) (hj : j < 9) : sp_X8_bit (nI o) (nI j) = nb (o.testBit j) := by
  rw [← (bit_is ho hj).2]
  exact bit_tb ⟨o, ho⟩ ⟨j, hj⟩
theorem nb1 (b : Bool) : nb b = 1 ↔ b = true := by cases b <;> decide
theorem tb_clr {o j q : Nat} (hq : q < 9) : (o &&& (2 ^ j ^^^ 4294967295)).testBit q = (o.testBit q && !decide (j = q)) := by
  have hx : (4294967295 : Nat).testBit q = true := by
    have : ∀ k : Fin 9, (4294967295 : Nat).testBit k.val = true := by decide +kernel
    exact this ⟨q, hq⟩
  rw [Nat.testBit_and, Nat.testBit_xor, Nat.testBit_two_pow, hx, Bool.xor_true]
def stN (b : Bool) (o j : Nat) : Nat := if b = true then o ||| 2 ^ j else o &&& (2 ^ j ^^^ 4294967295)
theorem stN_lt {b : Bool} {o j : Nat} (ho : o < 512) (hj : j < 9) : stN b o j < 512 := by
  simp only [stN]
  split
  · exact Nat.or_lt_two_pow (n := 9) ho (pw512 hj)
  · exact Nat.lt_of_le_of_lt Nat.and_le_left ho
theorem stN_bit {b : Bool} {o j q : Nat} (hq : q < 9) : (stN b o j).testBit q = if j = q then b else o.testBit q := by
  simp only [stN]
  cases b
  · rw [if_neg (by decide), tb_clr hq]
    by_cases h : j = q
    · simp [h]
    · simp [h]
  · rw [if_pos rfl, tb_or]
    by_cases h : j = q
    · simp [h]
    · simp [h]
theorem set_in {F : Nat → Int32} {o f j u : Nat} (h1 : F 1 = nI o) (h0 : F 0 = nI f) (hj : j < 9) (hu : u ≤ 2) : sp_X0_setInput F (nI j) (nI u) 1 = nI (stN (decide (u = 1)) o j) ∧ sp_X0_setInput F (nI j) (nI u) 0 = nI (stN (decide (u = 0)) f j) := by
  have hs : (1 <<< (nI j &&& 31) : Int32) = nI (2 ^ j) := shl1 ⟨j, by omega⟩
  have e1 : sp_X0_setInput F (nI j) (nI u) 1 = (if nI u = 1 then (F 1 ||| (1 <<< (nI j &&& 31))) else (F 1 &&& ((1 <<< (nI j &&& 31)) ^^^ (-1)))) := rfl
  have e0 : sp_X0_setInput F (nI j) (nI u) 0 = (if nI u = 0 then (F 0 ||| (1 <<< (nI j &&& 31))) else (F 0 &&& ((1 <<< (nI j &&& 31)) ^^^ (-1)))) := rfl
  rw [e1, e0, hs, h1, h0, show (-1 : Int32) = nI 4294967295 by decide]
  simp only [ofn_or, ofn_xor, ofn_and, stN]
  rcases (show u = 0 ∨ u = 1 ∨ u = 2 by omega) with rfl | rfl | rfl
  · rw [if_neg (show ¬ nI 0 = 1 by decide), if_pos (show nI 0 = 0 by decide)]
    exact ⟨rfl, rfl⟩
  · rw [if_pos (show nI 1 = 1 by decide), if_neg (show ¬ nI 1 = 0 by decide)]
    exact ⟨rfl, rfl⟩
  · rw [if_neg (show ¬ nI 2 = 1 by decide), if_neg (show ¬ nI 2 = 0 by decide)]
    exact ⟨rfl, rfl⟩
theorem stick_sim {F a5 M G : Nat → Int32} {L : Int64} {i v : Int32} (rF : RF F a5) {A B : Int32 × (Nat → Int32)} (eA : A = sp_X8_stick G F i v) (eB : B = sp_X9_stick M L a5 i v) : A.1 = B.1 ∧ RF A.2 B.2 ∧ A.2 2 = F 2 ∧ A.2 3 = F 3 := by
  by_cases w1 : sp_X8_within i 0 8 = 0
  · simp only [sp_X8_stick, if_pos w1] at eA
    simp only [sp_X9_stick, if_pos (show sp_X9_within i 0 8 = 0 from w1)] at eB
    subst eA eB
    exact ⟨rfl, rF, rfl, rfl⟩
  by_cases w2 : sp_X8_within v 0 2 = 0
  · simp only [sp_X8_stick, if_neg w1, if_pos w2] at eA
    simp only [sp_X9_stick, if_neg (show ¬ sp_X9_within i 0 8 = 0 from w1), if_pos (show sp_X9_within v 0 2 = 0 from w2)] at eB
    subst eA eB
    exact ⟨rfl, rF, rfl, rfl⟩
  simp only [sp_X8_stick, if_neg w1, if_neg w2] at eA
  simp only [sp_X9_stick, if_neg (show ¬ sp_X9_within i 0 8 = 0 from w1), if_neg (show ¬ sp_X9_within v 0 2 = 0 from w2)] at eB
  obtain ⟨j, hj, rfl⟩ := wi_ex (hi := 8) w1 (by omega)
  obtain ⟨u, hu, rfl⟩ := wi_ex (hi := 2) w2 (by omega)
  rw [nI_clamp (by omega)] at eB
  obtain ⟨o, f, ho, hf, h1, h0, hk⟩ := rF
  have hj9 : j < 9 := by omega
  obtain ⟨g1, g0⟩ := set_in h1 h0 hj9 hu
  subst eA eB
  refine ⟨?_, ⟨stN (decide (u = 1)) o j, stN (decide (u = 0)) f j, stN_lt ho hj9, stN_lt hf hj9, g1, g0, ?_⟩, rfl, rfl⟩
  · show sp_X0_inputStuckAt F (nI j) = a5 j
    rw [(hk j hj9).2]
    simp only [sp_X0_inputStuckAt, h1, h0, bit8 ho hj9, bit8 hf hj9, nb1]
  · intro q hq
    obtain ⟨d, e⟩ := hk q hq
    show _ ∧ upd a5 j (nI u) q = _
    rw [stN_bit hq, stN_bit hq]
    by_cases hjq : q = j
    · subst hjq
      rw [if_pos rfl, if_pos rfl]
      have eu : upd a5 q (nI u) q = nI u := if_pos rfl
      rw [eu]
      rcases (show u = 0 ∨ u = 1 ∨ u = 2 by omega) with rfl | rfl | rfl
      · exact ⟨fun h => absurd h (by decide), rfl⟩
      · exact ⟨fun _ => rfl, rfl⟩
      · exact ⟨fun h => absurd h (by decide), rfl⟩
    · have hjq' : ¬ j = q := fun h => hjq h.symm
      rw [if_neg hjq', if_neg hjq', upd_ne hjq]
      exact ⟨d, e⟩
theorem valve_sim {F a5 a6 M G : Nat → Int32} {L : Int64} {i v : Int32} (rF : RF F a5) (rV : RV F a6) {A B : Int32 × (Nat → Int32)} (eA : A = sp_X8_valve G F i v) (eB : B = sp_X9_valve M L a6 i v) : A.1 = B.1 ∧ RF A.2 a5 ∧ RV A.2 B.2 := by
  by_cases w1 : sp_X8_within i 0 1 = 0
  · simp only [sp_X8_valve, if_pos w1] at eA
    simp only [sp_X9_valve, if_pos (show sp_X9_within i 0 1 = 0 from w1)] at eB
    subst eA eB
    exact ⟨rfl, rF, rV⟩
  by_cases w2 : sp_X8_within v 0 2 = 0
  · simp only [sp_X8_valve, if_neg w1, if_pos w2] at eA
    simp only [sp_X9_valve, if_neg (show ¬ sp_X9_within i 0 1 = 0 from w1), if_pos (show sp_X9_within v 0 2 = 0 from w2)] at eB
    subst eA eB
    exact ⟨rfl, rF, rV⟩
  simp only [sp_X8_valve, if_neg w1, if_neg w2] at eA
  simp only [sp_X9_valve, if_neg (show ¬ sp_X9_within i 0 1 = 0 from w1), if_neg (show ¬ sp_X9_within v 0 2 = 0 from w2)] at eB
  obtain ⟨j, hj, rfl⟩ := wi_ex (hi := 1) w1 (by omega)
  rw [nI_clamp (by omega)] at eB
  obtain ⟨o, f, ho, hf, h1, h0, hk⟩ := rF
  obtain ⟨v2, v3⟩ := rV
  rcases (show j = 0 ∨ j = 1 by omega) with rfl | rfl
  · have z0 : nI 0 = 0 := by decide
    have za : sp_X0_setValve F (nI 0) v = upd F 2 v := by simp only [sp_X0_setValve, if_pos z0]
    have zb : sp_X0_valveStuckAt F (nI 0) = F 2 := by simp only [sp_X0_valveStuckAt, if_pos z0]
    rw [za, zb] at eA
    subst eA eB
    exact ⟨v2, ⟨o, f, ho, hf, h1, h0, hk⟩, rfl, v3⟩
  · have z0 : ¬ nI 1 = 0 := by decide
    have za : sp_X0_setValve F (nI 1) v = upd F 3 v := by simp only [sp_X0_setValve, if_neg z0]
    have zb : sp_X0_valveStuckAt F (nI 1) = F 3 := by simp only [sp_X0_valveStuckAt, if_neg z0]
    rw [za, zb] at eA
    subst eA eB
    exact ⟨v3, ⟨o, f, ho, hf, h1, h0, hk⟩, v2, rfl⟩
theorem wipe_sim {G S F P N n0 n1 n2 K k U M a5 a6 a12 a28 a29 a31 a32 : Nat → Int32} {L : Int64} {T : Nat} (h : INV G S F P N n0 n1 n2 K k U M a5 a6 a12 a28 a29 a31 a32 T) : (sp_X8_wipe G K).1 = (sp_X9_wipe M L).1 ∧ INV (sp_X8_wipe G K).2.1 S F P N n0 n1 n2 (sp_X8_wipe G K).2.2 k U (sp_X9_wipe M L).2 a5 a6 a12 a28 a29 a31 a32 (T + 60) := by
  obtain ⟨bS, rS, rF, rV, rP, bP, e25, e26, rN, cn, ⟨c1, c2, c3, c4⟩, rU⟩ := h
  refine ⟨c2.trans c3.symm, bS, rS.fr (fun q hq => upd_ne (by omega)), rF, rV, rP.fr (fun q h1 h2 => upd_ne (by omega)), bP, e25, e26, (rN.fr (fun q h1 h2 => upd_ne (by omega))).mono (by omega), 0, ⟨by omega, rfl, rfl, fun j hj => absurd hj (by omega)⟩, fun g => absurd rfl g⟩
theorem step_sim {G S F P N n0 n1 n2 K k U M a5 a6 a12 a28 a29 a31 a32 : Nat → Int32} {L : Int64} {T : Nat} {set : Int32} (h : INV G S F P N n0 n1 n2 K k U M a5 a6 a12 a28 a29 a31 a32 T) {A : Int32 × (Nat → Int32) × (Nat → Int32) × (Nat → Int32)} {B : Int32 × (Nat → Int32) × (Nat → Int32)} (eA : A = sp_X8_step G K k set) (eB : B = sp_X9_step M L a32 set) : A.1 = B.1 ∧ INV A.2.1 S F P N n0 n1 n2 A.2.2.1 A.2.2.2 U B.2.1 a5 a6 a12 a28 a29 a31 B.2.2 (T + 60) := by
  by_cases w1 : sp_X8_isSet set = 0
  · simp only [sp_X8_step, if_pos w1] at eA
    simp only [sp_X9_step, if_pos (show sp_X9_isSet set = 0 from w1)] at eB
    subst eA eB
    exact ⟨rfl, h.mono⟩
  have h' := h
  obtain ⟨bS, rS, rF, rV, rP, bP, e25, e26, rN, cn, ⟨c1, c2, c3, c4⟩, rU⟩ := h
  by_cases w2 : cn = 32
  · have y1 : ¬ K 1 < 32 := by rw [c2, w2]; decide
    have y2 : M 33 = 32 := by rw [c3, w2]; decide
    simp only [sp_X8_step, if_neg w1, if_neg y1] at eA
    simp only [sp_X9_step, if_neg (show ¬ sp_X9_isSet set = 0 from w1), if_pos y2] at eB
    subst eA eB
    exact ⟨rfl, h'.mono⟩
  have y1 : nI cn < 32 := nI_lt (b := 32) (by omega) (by omega)
  have y2 : ¬ nI cn = 32 := fun q => w2 ((nI_eq (b := 32) (by omega) (by omega)).mp q)
  have yw : ¬ sp_X8_within (nI cn) 0 31 = 0 := by
    rw [show sp_X8_within (nI cn) 0 31 = 1 from wi_yes (lo := 0) (hi := 31) (by omega) (by omega) (by omega)]
    decide
  obtain ⟨s, hs, rfl⟩ := wi_ex (hi := 511) w1 (by omega)
  have ea : sp_X3_append K k (nI s) = (upd K 1 (nI (cn + 1)), upd k cn (nI s)) := by
    simp only [sp_X3_append, c2, if_neg yw, nI_1, nI_clamp (show cn < 2 ^ 31 by omega)]
  simp only [sp_X8_step, if_neg w1, c2, if_pos y1, ea] at eA
  simp only [sp_X9_step, if_neg (show ¬ sp_X9_isSet (nI s) = 0 from w1), c3, if_neg y2, nI_1, nI_clamp (show cn < 2 ^ 31 by omega)] at eB
  subst eA eB
  refine ⟨rfl, bS, rS.fr (fun q hq => upd_ne (by omega)), rF, rV, rP.fr (fun q h1 h2 => upd_ne (by omega)), bP, e25, e26, (rN.fr (fun q h1 h2 => upd_ne (by omega))).mono (by omega), cn + 1, ⟨by omega, rfl, rfl, fun j hj => ?_⟩, fun g => absurd rfl g⟩
  show ∃ t : Nat, t < 512 ∧ upd k cn (nI s) j = nI t ∧ upd a32 cn (nI s) j = nI t
  by_cases q : j = cn
  · subst q
    exact ⟨s, by omega, if_pos rfl, if_pos rfl⟩
  · rw [upd_ne q, upd_ne q]
    exact c4 j (by omega)
theorem stepAt_sim {K k M a32 G : Nat → Int32} {L : Int64} {cn : Nat} {k0 : Int32} (rK : RK K k M a32 cn) : sp_X8_stepAt G K k k0 = sp_X9_stepAt M L a32 k0 := by
  obtain ⟨c1, c2, c3, c4⟩ := rK
  simp only [sp_X8_stepAt, sp_X9_stepAt, c2, c3]
  by_cases w : sp_X8_within k0 0 (nI cn - 1) = 0
  · rw [if_pos w, if_pos (show sp_X9_within k0 0 (nI cn - 1) = 0 from w)]
  · rw [if_neg w, if_neg (show ¬ sp_X9_within k0 0 (nI cn - 1) = 0 from w)]
    cases cn with
    | zero =>
      obtain ⟨a, b⟩ := wi_ok w
      exfalso
      rw [Int32.lt_iff_toInt_lt] at a b
      have z : (0 : Int32).toInt = 0 := by decide
      have z1 : (nI 0 - 1 : Int32).toInt = -1 := by decide
      omega
    | succ cn =>
      rw [nI_pred] at w
      obtain ⟨j, hj, rfl⟩ := wi_ex w (by omega)
      rw [setAt_eq (by omega), nI_clamp (by omega)]
      obtain ⟨t, -, h1, h2⟩ := c4 j (by omega)
      rw [h1, h2]
