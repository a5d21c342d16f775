/-! LAW 10: the law's loop. -/
theorem len6 {L i : Nat} (hL : L ≤ 3072) (hi : i ≤ L) (g : ¬ (nI L - 6) < nI i) : i + 6 ≤ L := by
  rcases Nat.lt_or_ge L 6 with q | q
  · exfalso
    have z : ∀ k : Fin 6, (nI k.val - 6 : Int32).toInt < 0 := by decide +kernel
    have z1 := z ⟨L, q⟩
    rw [Int32.lt_iff_toInt_lt, nI_toInt (show i < 2 ^ 31 by omega)] at g
    dsimp only at z1
    omega
  · rw [show (nI L - 6 : Int32) = nI (L - 6) from nI_sub (b := 6) q, nI_ltI (by omega) (by omega)] at g
    omega
set_option maxHeartbeats 4000000 in
set_option maxRecDepth 100000 in
theorem law_iter {p : Program} {l : Launch} {e : Env} {s : State} {m : MethodId} {below : List Frame} {meth : Method} {c : Code} {D : va_G} {cI cJ cO : ClassId} {b h : Nat} {r v w : Nat → Nat} {hm : Nat} {rm : Nat → Nat} {L : Nat} {xs : Nat → Int32} {i T : Nat} (C : LC p s m c D cI cJ cO b L xs i) (hT : T + 60 < 2 ^ 28) (hk : LH p l e s m below meth c D cI cJ cO b h r v w hm rm 681 i (T + 60)) : LH p l e s m below meth c D cI cJ cO b h r v w hm rm 27 i T := by
  obtain ⟨hx, hb, hml, hown, hts, hX, hbl, hK, hN, hi, hL⟩ := id C
  have hbA : ¬ (fun q : Nat => s.heap.size ≤ q) b := Nat.not_le.mpr hbl
  intro G S F P Q1 N n0 n1 n2 K k V E B0 U Z t0 w0 c0 p0 p1 p2 p3 p4 p5 M L0 a5 a6 a12 a28 a29 a31 a32 a34 a35 a36 a37 H locs ls hI hP hD hS hl
  refine lv_aload_n hx hb dL_law_27 rfl (lv_at hl 0 rfl) ?_
  refine lv_iload_n hx hb dL_law_28 rfl (lv_at hl 3 rfl) ?_
  refine va_sld hx hb hX hbl hbA hS (vp_in_nI (show i < L by omega) (by omega)) dL_law_29 ?_
  refine lv_bipush (v := 31) hx hb dL_law_30 (by decide +kernel) ?_
  refine lv_iand hx hb dL_law_32 ?_
  refine lv_topi (fun x0 ex0 => ?_)
  clear ex0
  rcases Classical.em (x0.toInt < 0 ∨ 18 < x0.toInt) with g | g
  · refine lv_tableOut (tgt := 681) hx hb dL_law_33 g (by decide) ?_
    exact hk G S F P Q1 N n0 n1 n2 K k V E B0 U Z t0 w0 c0 p0 p1 p2 p3 p4 p5 M L0 a5 a6 a12 a28 a29 a31 a32 a34 a35 a36 a37 H locs ls hI.mono hP hD hS hl
  · obtain ⟨y, hy, rfl⟩ : ∃ y : Nat, y ≤ 18 ∧ x0 = nI y := ⟨x0.toInt.toNat, by omega, by apply Int32.toInt_inj.mp; rw [nI_toInt (by omega)]; omega⟩
    clear g
    rcases (show y = 0 ∨ y = 1 ∨ y = 2 ∨ y = 3 ∨ y = 4 ∨ y = 5 ∨ y = 6 ∨ y = 7 ∨ y = 8 ∨ y = 9 ∨ y = 10 ∨ y = 11 ∨ y = 12 ∨ y = 13 ∨ y = 14 ∨ y = 15 ∨ y = 16 ∨ y = 17 ∨ y = 18 by omega) with rfl | rfl | rfl | rfl | rfl | rfl | rfl | rfl | rfl | rfl | rfl | rfl | rfl | rfl | rfl | rfl | rfl | rfl | rfl
    · refine lv_tableIn (off := 91) (tgt := 124) hx hb dL_law_33 (by decide) (by decide) rfl (by decide) ?_
      exact lc_anew C hT hk G S F P Q1 N n0 n1 n2 K k V E B0 U Z t0 w0 c0 p0 p1 p2 p3 p4 p5 M L0 a5 a6 a12 a28 a29 a31 a32 a34 a35 a36 a37 H locs ls hI hP hD hS hl
    · refine lv_tableIn (off := 154) (tgt := 187) hx hb dL_law_33 (by decide) (by decide) rfl (by decide) ?_
      exact lc_stick C hT hk G S F P Q1 N n0 n1 n2 K k V E B0 U Z t0 w0 c0 p0 p1 p2 p3 p4 p5 M L0 a5 a6 a12 a28 a29 a31 a32 a34 a35 a36 a37 H locs ls hI hP hD hS hl
    · refine lv_tableIn (off := 187) (tgt := 220) hx hb dL_law_33 (by decide) (by decide) rfl (by decide) ?_
      exact lc_valve C hT hk G S F P Q1 N n0 n1 n2 K k V E B0 U Z t0 w0 c0 p0 p1 p2 p3 p4 p5 M L0 a5 a6 a12 a28 a29 a31 a32 a34 a35 a36 a37 H locs ls hI hP hD hS hl
    · refine lv_tableIn (off := 220) (tgt := 253) hx hb dL_law_33 (by decide) (by decide) rfl (by decide) ?_
      exact lc_tick C hT hk G S F P Q1 N n0 n1 n2 K k V E B0 U Z t0 w0 c0 p0 p1 p2 p3 p4 p5 M L0 a5 a6 a12 a28 a29 a31 a32 a34 a35 a36 a37 H locs ls hI hP hD hS hl
    · refine lv_tableIn (off := 243) (tgt := 276) hx hb dL_law_33 (by decide) (by decide) rfl (by decide) ?_
      exact lc_ticks C hT hk G S F P Q1 N n0 n1 n2 K k V E B0 U Z t0 w0 c0 p0 p1 p2 p3 p4 p5 M L0 a5 a6 a12 a28 a29 a31 a32 a34 a35 a36 a37 H locs ls hI hP hD hS hl
    · refine lv_tableIn (off := 276) (tgt := 309) hx hb dL_law_33 (by decide) (by decide) rfl (by decide) ?_
      exact lc_now C hT hk G S F P Q1 N n0 n1 n2 K k V E B0 U Z t0 w0 c0 p0 p1 p2 p3 p4 p5 M L0 a5 a6 a12 a28 a29 a31 a32 a34 a35 a36 a37 H locs ls hI hP hD hS hl
    · refine lv_tableIn (off := 299) (tgt := 332) hx hb dL_law_33 (by decide) (by decide) rfl (by decide) ?_
      exact lc_setting C hT hk G S F P Q1 N n0 n1 n2 K k V E B0 U Z t0 w0 c0 p0 p1 p2 p3 p4 p5 M L0 a5 a6 a12 a28 a29 a31 a32 a34 a35 a36 a37 H locs ls hI hP hD hS hl
    · refine lv_tableIn (off := 322) (tgt := 355) hx hb dL_law_33 (by decide) (by decide) rfl (by decide) ?_
      exact lc_leadsTo C hT hk G S F P Q1 N n0 n1 n2 K k V E B0 U Z t0 w0 c0 p0 p1 p2 p3 p4 p5 M L0 a5 a6 a12 a28 a29 a31 a32 a34 a35 a36 a37 H locs ls hI hP hD hS hl
    · refine lv_tableIn (off := 345) (tgt := 378) hx hb dL_law_33 (by decide) (by decide) rfl (by decide) ?_
      exact lc_locked C hT hk G S F P Q1 N n0 n1 n2 K k V E B0 U Z t0 w0 c0 p0 p1 p2 p3 p4 p5 M L0 a5 a6 a12 a28 a29 a31 a32 a34 a35 a36 a37 H locs ls hI hP hD hS hl
    · refine lv_tableIn (off := 378) (tgt := 411) hx hb dL_law_33 (by decide) (by decide) rfl (by decide) ?_
      exact lc_cause C hT hk G S F P Q1 N n0 n1 n2 K k V E B0 U Z t0 w0 c0 p0 p1 p2 p3 p4 p5 M L0 a5 a6 a12 a28 a29 a31 a32 a34 a35 a36 a37 H locs ls hI hP hD hS hl
    · refine lv_tableIn (off := 401) (tgt := 434) hx hb dL_law_33 (by decide) (by decide) rfl (by decide) ?_
      exact lc_followed C hT hk G S F P Q1 N n0 n1 n2 K k V E B0 U Z t0 w0 c0 p0 p1 p2 p3 p4 p5 M L0 a5 a6 a12 a28 a29 a31 a32 a34 a35 a36 a37 H locs ls hI hP hD hS hl
    · refine lv_tableIn (off := 424) (tgt := 457) hx hb dL_law_33 (by decide) (by decide) rfl (by decide) ?_
      exact lc_places C hT hk G S F P Q1 N n0 n1 n2 K k V E B0 U Z t0 w0 c0 p0 p1 p2 p3 p4 p5 M L0 a5 a6 a12 a28 a29 a31 a32 a34 a35 a36 a37 H locs ls hI hP hD hS hl
    · refine lv_tableIn (off := 437) (tgt := 470) hx hb dL_law_33 (by decide) (by decide) rfl (by decide) ?_
      exact lc_step C hT hk G S F P Q1 N n0 n1 n2 K k V E B0 U Z t0 w0 c0 p0 p1 p2 p3 p4 p5 M L0 a5 a6 a12 a28 a29 a31 a32 a34 a35 a36 a37 H locs ls hI hP hD hS hl
    · refine lv_tableIn (off := 460) (tgt := 493) hx hb dL_law_33 (by decide) (by decide) rfl (by decide) ?_
      exact lc_wipe C hT hk G S F P Q1 N n0 n1 n2 K k V E B0 U Z t0 w0 c0 p0 p1 p2 p3 p4 p5 M L0 a5 a6 a12 a28 a29 a31 a32 a34 a35 a36 a37 H locs ls hI hP hD hS hl
    · refine lv_tableIn (off := 473) (tgt := 506) hx hb dL_law_33 (by decide) (by decide) rfl (by decide) ?_
      exact lc_stepAt C hT hk G S F P Q1 N n0 n1 n2 K k V E B0 U Z t0 w0 c0 p0 p1 p2 p3 p4 p5 M L0 a5 a6 a12 a28 a29 a31 a32 a34 a35 a36 a37 H locs ls hI hP hD hS hl
    · refine lv_tableIn (off := 496) (tgt := 529) hx hb dL_law_33 (by decide) (by decide) rfl (by decide) ?_
      exact lc_trial C hT hk G S F P Q1 N n0 n1 n2 K k V E B0 U Z t0 w0 c0 p0 p1 p2 p3 p4 p5 M L0 a5 a6 a12 a28 a29 a31 a32 a34 a35 a36 a37 H locs ls hI hP hD hS hl
    · refine lv_tableIn (off := 549) (tgt := 582) hx hb dL_law_33 (by decide) (by decide) rfl (by decide) ?_
      exact lc_trials C hT hk G S F P Q1 N n0 n1 n2 K k V E B0 U Z t0 w0 c0 p0 p1 p2 p3 p4 p5 M L0 a5 a6 a12 a28 a29 a31 a32 a34 a35 a36 a37 H locs ls hI hP hD hS hl
    · refine lv_tableIn (off := 572) (tgt := 605) hx hb dL_law_33 (by decide) (by decide) rfl (by decide) ?_
      exact lc_reach C hT hk G S F P Q1 N n0 n1 n2 K k V E B0 U Z t0 w0 c0 p0 p1 p2 p3 p4 p5 M L0 a5 a6 a12 a28 a29 a31 a32 a34 a35 a36 a37 H locs ls hI hP hD hS hl
    · refine lv_tableIn (off := 625) (tgt := 658) hx hb dL_law_33 (by decide) (by decide) rfl (by decide) ?_
      exact lc_many C hT hk G S F P Q1 N n0 n1 n2 K k V E B0 U Z t0 w0 c0 p0 p1 p2 p3 p4 p5 M L0 a5 a6 a12 a28 a29 a31 a32 a34 a35 a36 a37 H locs ls hI hP hD hS hl
set_option maxHeartbeats 4000000 in
set_option maxRecDepth 100000 in
theorem law_loop {p : Program} {l : Launch} {e : Env} {s : State} {m : MethodId} {below : List Frame} {meth : Method} {c : Code} {D : va_G} {cI cJ cO : ClassId} {b h : Nat} {r v w : Nat → Nat} {hm : Nat} {rm : Nat → Nat} {L : Nat} {xs : Nat → Int32} (hL : L ≤ 3072) (hr : meth.sig.returnType = ret) (hlocks : meth.locks = false) (hx : p.tables.exec = Jvm.exec) (hb : c.code = cL_law) (hX : va_X b L xs s s.heap) (hbl : b < s.heap.size) (C : ∀ i, i + 6 ≤ L → LC p s m c D cI cJ cO b L xs i) : ∀ (n i : Nat), i ≤ L → L + 1 ≤ i + 6 * n → LH p l e s m below meth c D cI cJ cO b h r v w hm rm 18 i (10 * i) := by
  have hbA : ¬ (fun q : Nat => s.heap.size ≤ q) b := Nat.not_le.mpr hbl
  intro n
  induction n with
  | zero =>
    intro i h1 h2
    exact absurd h2 (by omega)
  | succ n ih =>
    intro i hi hin
    intro G S F P Q1 N n0 n1 n2 K k V E B0 U Z t0 w0 c0 p0 p1 p2 p3 p4 p5 M L0 a5 a6 a12 a28 a29 a31 a32 a34 a35 a36 a37 H locs ls hI hP hD hS hl
    refine lv_iload_n hx hb dL_law_18 rfl (lv_at hl 3 rfl) ?_
    refine lv_aload_n hx hb dL_law_19 rfl (lv_at hl 0 rfl) ?_
    refine va_slen hx hb hX hbl hbA hS dL_law_20 ?_
    refine lv_bipush (v := 6) hx hb dL_law_21 (by decide +kernel) ?_
    refine lv_isub hx hb dL_law_23 ?_
    refine lv_icmp_gt (tgt := 687) hx hb dL_law_24 (by decide) (fun g => ?_) (fun g => ?_)
    · refine lv_iconst (v := 1) hx hb dL_law_687 (by decide +kernel) ?_
      refine va_forget (fun q hq => hS.2.2 q hq) ?_
      refine W.widen (k := 600000) (n := 7302250) (Nat.le_of_ble_eq_true rfl) (Nat.le_of_ble_eq_true rfl) ?_
      exact lw_ret hx hb hr hlocks dL_law_688
    · have h6 : i + 6 ≤ L := len6 hL hi g
      have e6 : 10 * i + 60 = 10 * (i + 6) := by omega
      have hk : LH p l e s m below meth c D cI cJ cO b h r v w hm rm 681 i (10 * i + 60) := by
        intro G S F P Q1 N n0 n1 n2 K k V E B0 U Z t0 w0 c0 p0 p1 p2 p3 p4 p5 M L0 a5 a6 a12 a28 a29 a31 a32 a34 a35 a36 a37 H locs ls hI hP hD hS hl
        refine lv_iinc (v := nI (i + 6)) (lv' := [(3, .int (nI (i + 6))), (0, .ref b), (1, .ref h), (2, .ref hm)]) hx hb dL_law_681 hl (k := 3) rfl (nI_add i 6) (by decide) rfl (fun ls hl => ?_)
        refine lv_goto (tgt := 18) hx hb dL_law_684 (by decide) ?_
        rw [e6] at hI
        exact ih (i + 6) h6 (by omega) G S F P Q1 N n0 n1 n2 K k V E B0 U Z t0 w0 c0 p0 p1 p2 p3 p4 p5 M L0 a5 a6 a12 a28 a29 a31 a32 a34 a35 a36 a37 H locs ls hI hP hD hS (lv_sub hl [1, 2, 3, 0] rfl)
      exact law_iter (C i h6) (by omega) hk G S F P Q1 N n0 n1 n2 K k V E B0 U Z t0 w0 c0 p0 p1 p2 p3 p4 p5 M L0 a5 a6 a12 a28 a29 a31 a32 a34 a35 a36 a37 H locs ls hI hP hD hS hl
