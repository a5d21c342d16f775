/-! LAW 9: cases of the law's switch. -/
set_option maxHeartbeats 4000000 in
set_option maxRecDepth 100000 in
theorem lc_trial {p : Program} {l : Launch} {e : Env} {s : State} {m : MethodId} {below : List Frame} {meth : Method} {c : Code} {D : va_G} {cI cJ cO : ClassId} {b h : Nat} {r v w : Nat → Nat} {hm : Nat} {rm : Nat → Nat} {L : Nat} {xs : Nat → Int32} {i T : Nat} (C : LC p s m c D cI cJ cO b L xs i) (hT : T + 60 < 2 ^ 28) (hk : LH p l e s m below meth c D cI cJ cO b h r v w hm rm 681 i (T + 60)) : LH p l e s m below meth c D cI cJ cO b h r v w hm rm 529 i T := by
  obtain ⟨hx, hb, hml, hown, hts, hX, hbl, hK, hN, hi, hL⟩ := C
  have hA : ∀ q : Nat, s.heap.size ≤ q → (fun q : Nat => s.heap.size ≤ q) q := fun _ h => h
  have hbA : ¬ (fun q : Nat => s.heap.size ≤ q) b := Nat.not_le.mpr hbl
  intro G S F P Q1 N n0 n1 n2 K k V E B0 U Z t0 w0 c0 p0 p1 p2 p3 p4 p5 M L0 a5 a6 a12 a28 a29 a31 a32 a34 a35 a36 a37 H locs ls hI hP hD hS hl
  refine lv_aload_n hx hb dL_law_529 rfl (lv_at hl 1 rfl) ?_
  refine lv_aload_n hx hb dL_law_530 rfl (lv_at hl 0 rfl) ?_
  refine lv_iload_n hx hb dL_law_531 rfl (lv_at hl 3 rfl) ?_
  refine lv_iconst (v := 1) hx hb dL_law_532 (by decide +kernel) ?_
  refine lv_iadd hx hb dL_law_533 ?_
  have j1 : vp_in (nI i + 1) L := by rw [show nI i + 1 = nI (i + 1) from nI_add i 1]; exact vp_in_nI (by omega) (by omega)
  refine va_sld hx hb hX hbl hbA hS j1 dL_law_534 ?_
  refine lv_topi (fun x1 ex1 => ?_)
  refine lv_aload_n hx hb dL_law_535 rfl (lv_at hl 0 rfl) ?_
  refine lv_iload_n hx hb dL_law_536 rfl (lv_at hl 3 rfl) ?_
  refine lv_iconst (v := 2) hx hb dL_law_537 (by decide +kernel) ?_
  refine lv_iadd hx hb dL_law_538 ?_
  have j2 : vp_in (nI i + 2) L := by rw [show nI i + 2 = nI (i + 2) from nI_add i 2]; exact vp_in_nI (by omega) (by omega)
  refine va_sld hx hb hX hbl hbA hS j2 dL_law_539 ?_
  refine lv_topi (fun x2 ex2 => ?_)
  refine lv_aload_n hx hb dL_law_540 rfl (lv_at hl 0 rfl) ?_
  refine lv_iload_n hx hb dL_law_541 rfl (lv_at hl 3 rfl) ?_
  refine lv_iconst (v := 3) hx hb dL_law_542 (by decide +kernel) ?_
  refine lv_iadd hx hb dL_law_543 ?_
  have j3 : vp_in (nI i + 3) L := by rw [show nI i + 3 = nI (i + 3) from nI_add i 3]; exact vp_in_nI (by omega) (by omega)
  refine va_sld hx hb hX hbl hbA hS j3 dL_law_544 ?_
  refine lv_topi (fun x3 ex3 => ?_)
  refine lv_aload_n hx hb dL_law_545 rfl (lv_at hl 0 rfl) ?_
  refine lv_iload_n hx hb dL_law_546 rfl (lv_at hl 3 rfl) ?_
  refine lv_iconst (v := 4) hx hb dL_law_547 (by decide +kernel) ?_
  refine lv_iadd hx hb dL_law_548 ?_
  have j4 : vp_in (nI i + 4) L := by rw [show nI i + 4 = nI (i + 4) from nI_add i 4]; exact vp_in_nI (by omega) (by omega)
  refine va_sld hx hb hX hbl hbA hS j4 dL_law_549 ?_
  refine lv_topi (fun x4 ex4 => ?_)
  obtain ⟨A, eA⟩ : ∃ q, q = sp_X8_trial G S K k V E B0 x1 x2 x3 x4 := ⟨_, rfl⟩
  have hMA := c_X8_trial l D cI cJ cO h r (v 3) (v 4) (v 5) G S K k V E B0 x1 x2 x3 x4 hI.cnt.1
  rw [← eA] at hMA
  refine k_Vi ⟨hx, hb, hml, hown, hts⟩ hMA (ci := 8) (q0 := 0) rfl rfl (cwV 4 hts gL_law_X8_trial rfl rfl rfl (by decide +kernel) ⟨Nat.le_of_ble_eq_true rfl, Nat.le_of_ble_eq_true rfl⟩) hK hN hP hD hS hA [0, 1, 9, 10, 11, 12, 13] rfl rfl rfl (ws' := (WD cI cJ cO h r v w hm rm G S F P Q1 N n0 n1 n2 K k A.2.1 A.2.2.1 A.2.2.2 U Z t0 w0 c0 p0 p1 p2 p3 p4 p5 M L0 a5 a6 a12 a28 a29 a31 a32 a34 a35 a36 a37)) rfl rfl hl.1 rfl (Nat.le_of_ble_eq_true rfl) dL_law_550 ⟨Nat.le_of_ble_eq_true rfl, Nat.le_of_ble_eq_true rfl⟩ (fun H locs hP hD hS => ?_)
  refine lv_topi (fun zA ezA => ?_)
  refine lv_aload_n hx hb dL_law_553 rfl (lv_at hl 2 rfl) ?_
  refine lv_aload_n hx hb dL_law_554 rfl (lv_at hl 0 rfl) ?_
  refine lv_iload_n hx hb dL_law_555 rfl (lv_at hl 3 rfl) ?_
  refine lv_iconst (v := 1) hx hb dL_law_556 (by decide +kernel) ?_
  refine lv_iadd hx hb dL_law_557 ?_
  refine va_sld hx hb hX hbl hbA hS j1 dL_law_558 ?_
  rw [← ex1]
  refine lv_aload_n hx hb dL_law_559 rfl (lv_at hl 0 rfl) ?_
  refine lv_iload_n hx hb dL_law_560 rfl (lv_at hl 3 rfl) ?_
  refine lv_iconst (v := 2) hx hb dL_law_561 (by decide +kernel) ?_
  refine lv_iadd hx hb dL_law_562 ?_
  refine va_sld hx hb hX hbl hbA hS j2 dL_law_563 ?_
  rw [← ex2]
  refine lv_aload_n hx hb dL_law_564 rfl (lv_at hl 0 rfl) ?_
  refine lv_iload_n hx hb dL_law_565 rfl (lv_at hl 3 rfl) ?_
  refine lv_iconst (v := 3) hx hb dL_law_566 (by decide +kernel) ?_
  refine lv_iadd hx hb dL_law_567 ?_
  refine va_sld hx hb hX hbl hbA hS j3 dL_law_568 ?_
  rw [← ex3]
  refine lv_aload_n hx hb dL_law_569 rfl (lv_at hl 0 rfl) ?_
  refine lv_iload_n hx hb dL_law_570 rfl (lv_at hl 3 rfl) ?_
  refine lv_iconst (v := 4) hx hb dL_law_571 (by decide +kernel) ?_
  refine lv_iadd hx hb dL_law_572 ?_
  refine va_sld hx hb hX hbl hbA hS j4 dL_law_573 ?_
  rw [← ex4]
  obtain ⟨R, eR⟩ : ∃ q, q = sp_X9_trial M L0 a5 a6 a12 a32 a34 a35 x1 x2 x3 x4 := ⟨_, rfl⟩
  have hMR := c_X9_trial l D cI cJ cO hm rm M L0 a5 a6 a12 a32 a34 a35 x1 x2 x3 x4 hI.cnt.2.1 hI.cnt.2.2.1
  rw [← eR] at hMR
  refine k_Vi ⟨hx, hb, hml, hown, hts⟩ hMR (ci := 9) (q0 := 26) rfl rfl (cwV 4 hts gL_law_X9_trial rfl rfl rfl (by decide +kernel) ⟨Nat.le_of_ble_eq_true rfl, Nat.le_of_ble_eq_true rfl⟩) hK hN hP hD hS hA [26, 27, 28, 29, 33, 34, 35] rfl rfl rfl (ws' := (WD cI cJ cO h r v w hm rm G S F P Q1 N n0 n1 n2 K k A.2.1 A.2.2.1 A.2.2.2 U Z t0 w0 c0 p0 p1 p2 p3 p4 p5 R.2.1 R.2.2.1 R.2.2.2.1 R.2.2.2.2.1 R.2.2.2.2.2.1 a28 a29 a31 a32 R.2.2.2.2.2.2.1 R.2.2.2.2.2.2.2 a36 a37)) rfl rfl hl.1 rfl (Nat.le_of_ble_eq_true rfl) dL_law_574 ⟨Nat.le_of_ble_eq_true rfl, Nat.le_of_ble_eq_true rfl⟩ (fun H locs hP hD hS => ?_)
  refine lv_topi (fun zR ezR => ?_)
  obtain ⟨q1, q2⟩ := trial_law hI eA eR
  refine lv_icmp_eq (tgt := 681) hx hb dL_law_577 (by decide) (fun _ => ?_) (fun g => absurd (ezA.trans (q1.trans ezR.symm)) g)
  exact hk G S F P Q1 N n0 n1 n2 K k A.2.1 A.2.2.1 A.2.2.2 U Z t0 w0 c0 p0 p1 p2 p3 p4 p5 R.2.1 R.2.2.1 R.2.2.2.1 R.2.2.2.2.1 R.2.2.2.2.2.1 a28 a29 a31 a32 R.2.2.2.2.2.2.1 R.2.2.2.2.2.2.2 a36 a37 H locs ls q2 hP hD hS hl
set_option maxHeartbeats 4000000 in
set_option maxRecDepth 100000 in
theorem lc_trials {p : Program} {l : Launch} {e : Env} {s : State} {m : MethodId} {below : List Frame} {meth : Method} {c : Code} {D : va_G} {cI cJ cO : ClassId} {b h : Nat} {r v w : Nat → Nat} {hm : Nat} {rm : Nat → Nat} {L : Nat} {xs : Nat → Int32} {i T : Nat} (C : LC p s m c D cI cJ cO b L xs i) (hT : T + 60 < 2 ^ 28) (hk : LH p l e s m below meth c D cI cJ cO b h r v w hm rm 681 i (T + 60)) : LH p l e s m below meth c D cI cJ cO b h r v w hm rm 582 i T := by
  obtain ⟨hx, hb, hml, hown, hts, hX, hbl, hK, hN, hi, hL⟩ := C
  have hA : ∀ q : Nat, s.heap.size ≤ q → (fun q : Nat => s.heap.size ≤ q) q := fun _ h => h
  have hbA : ¬ (fun q : Nat => s.heap.size ≤ q) b := Nat.not_le.mpr hbl
  intro G S F P Q1 N n0 n1 n2 K k V E B0 U Z t0 w0 c0 p0 p1 p2 p3 p4 p5 M L0 a5 a6 a12 a28 a29 a31 a32 a34 a35 a36 a37 H locs ls hI hP hD hS hl
  refine lv_aload_n hx hb dL_law_582 rfl (lv_at hl 1 rfl) ?_
  refine lv_aload_n hx hb dL_law_583 rfl (lv_at hl 0 rfl) ?_
  refine lv_iload_n hx hb dL_law_584 rfl (lv_at hl 3 rfl) ?_
  refine lv_iconst (v := 1) hx hb dL_law_585 (by decide +kernel) ?_
  refine lv_iadd hx hb dL_law_586 ?_
  have j1 : vp_in (nI i + 1) L := by rw [show nI i + 1 = nI (i + 1) from nI_add i 1]; exact vp_in_nI (by omega) (by omega)
  refine va_sld hx hb hX hbl hbA hS j1 dL_law_587 ?_
  refine lv_topi (fun x1 ex1 => ?_)
  obtain ⟨A, eA⟩ : ∃ q, q = sp_X8_trials G U S K k V E B0 x1 := ⟨_, rfl⟩
  have hMA := c_X8_trials l D cI cJ cO h r (v 3) (v 4) (v 5) G U S K k V E B0 x1 hI.cnt.1
  rw [← eA] at hMA
  refine k_Vi ⟨hx, hb, hml, hown, hts⟩ hMA (ci := 8) (q0 := 0) rfl rfl (cwV 1 hts gL_law_X8_trials rfl rfl rfl (by decide +kernel) ⟨Nat.le_of_ble_eq_true rfl, Nat.le_of_ble_eq_true rfl⟩) hK hN hP hD hS hA [0, 14, 1, 9, 10, 11, 12, 13] rfl rfl rfl (ws' := (WD cI cJ cO h r v w hm rm A.2.1 S F P Q1 N n0 n1 n2 K k A.2.2.2.1 A.2.2.2.2.1 A.2.2.2.2.2 A.2.2.1 Z t0 w0 c0 p0 p1 p2 p3 p4 p5 M L0 a5 a6 a12 a28 a29 a31 a32 a34 a35 a36 a37)) rfl rfl hl.1 rfl (Nat.le_of_ble_eq_true rfl) dL_law_588 ⟨Nat.le_of_ble_eq_true rfl, Nat.le_of_ble_eq_true rfl⟩ (fun H locs hP hD hS => ?_)
  refine lv_topi (fun zA ezA => ?_)
  refine lv_aload_n hx hb dL_law_591 rfl (lv_at hl 2 rfl) ?_
  refine lv_aload_n hx hb dL_law_592 rfl (lv_at hl 0 rfl) ?_
  refine lv_iload_n hx hb dL_law_593 rfl (lv_at hl 3 rfl) ?_
  refine lv_iconst (v := 1) hx hb dL_law_594 (by decide +kernel) ?_
  refine lv_iadd hx hb dL_law_595 ?_
  refine va_sld hx hb hX hbl hbA hS j1 dL_law_596 ?_
  rw [← ex1]
  obtain ⟨R, eR⟩ : ∃ q, q = sp_X9_trials M L0 a5 a6 a12 a32 a34 a35 x1 := ⟨_, rfl⟩
  have hMR := c_X9_trials l D cI cJ cO hm rm M L0 a5 a6 a12 a32 a34 a35 x1 hI.cnt.2.1 hI.cnt.2.2.1 hI.cnt.2.2.2.2
  rw [← eR] at hMR
  refine k_Vi ⟨hx, hb, hml, hown, hts⟩ hMR (ci := 9) (q0 := 26) rfl rfl (cwV 1 hts gL_law_X9_trials rfl rfl rfl (by decide +kernel) ⟨Nat.le_of_ble_eq_true rfl, Nat.le_of_ble_eq_true rfl⟩) hK hN hP hD hS hA [26, 27, 28, 29, 33, 34, 35] rfl rfl rfl (ws' := (WD cI cJ cO h r v w hm rm A.2.1 S F P Q1 N n0 n1 n2 K k A.2.2.2.1 A.2.2.2.2.1 A.2.2.2.2.2 A.2.2.1 Z t0 w0 c0 p0 p1 p2 p3 p4 p5 R.2.1 R.2.2.1 R.2.2.2.1 R.2.2.2.2.1 R.2.2.2.2.2.1 a28 a29 a31 a32 R.2.2.2.2.2.2.1 R.2.2.2.2.2.2.2 a36 a37)) rfl rfl hl.1 rfl (Nat.le_of_ble_eq_true rfl) dL_law_597 ⟨Nat.le_of_ble_eq_true rfl, Nat.le_of_ble_eq_true rfl⟩ (fun H locs hP hD hS => ?_)
  refine lv_topi (fun zR ezR => ?_)
  obtain ⟨q1, q2⟩ := trials_law hI eA eR
  refine lv_icmp_eq (tgt := 681) hx hb dL_law_600 (by decide) (fun _ => ?_) (fun g => absurd (ezA.trans (q1.trans ezR.symm)) g)
  exact hk A.2.1 S F P Q1 N n0 n1 n2 K k A.2.2.2.1 A.2.2.2.2.1 A.2.2.2.2.2 A.2.2.1 Z t0 w0 c0 p0 p1 p2 p3 p4 p5 R.2.1 R.2.2.1 R.2.2.2.1 R.2.2.2.2.1 R.2.2.2.2.2.1 a28 a29 a31 a32 R.2.2.2.2.2.2.1 R.2.2.2.2.2.2.2 a36 a37 H locs ls q2 hP hD hS hl
set_option maxHeartbeats 4000000 in
set_option maxRecDepth 100000 in
theorem lc_reach {p : Program} {l : Launch} {e : Env} {s : State} {m : MethodId} {below : List Frame} {meth : Method} {c : Code} {D : va_G} {cI cJ cO : ClassId} {b h : Nat} {r v w : Nat → Nat} {hm : Nat} {rm : Nat → Nat} {L : Nat} {xs : Nat → Int32} {i T : Nat} (C : LC p s m c D cI cJ cO b L xs i) (hT : T + 60 < 2 ^ 28) (hk : LH p l e s m below meth c D cI cJ cO b h r v w hm rm 681 i (T + 60)) : LH p l e s m below meth c D cI cJ cO b h r v w hm rm 605 i T := by
  obtain ⟨hx, hb, hml, hown, hts, hX, hbl, hK, hN, hi, hL⟩ := C
  have hA : ∀ q : Nat, s.heap.size ≤ q → (fun q : Nat => s.heap.size ≤ q) q := fun _ h => h
  have hbA : ¬ (fun q : Nat => s.heap.size ≤ q) b := Nat.not_le.mpr hbl
  intro G S F P Q1 N n0 n1 n2 K k V E B0 U Z t0 w0 c0 p0 p1 p2 p3 p4 p5 M L0 a5 a6 a12 a28 a29 a31 a32 a34 a35 a36 a37 H locs ls hI hP hD hS hl
  refine lv_aload_n hx hb dL_law_605 rfl (lv_at hl 1 rfl) ?_
  refine lv_aload_n hx hb dL_law_606 rfl (lv_at hl 0 rfl) ?_
  refine lv_iload_n hx hb dL_law_607 rfl (lv_at hl 3 rfl) ?_
  refine lv_iconst (v := 1) hx hb dL_law_608 (by decide +kernel) ?_
  refine lv_iadd hx hb dL_law_609 ?_
  have j1 : vp_in (nI i + 1) L := by rw [show nI i + 1 = nI (i + 1) from nI_add i 1]; exact vp_in_nI (by omega) (by omega)
  refine va_sld hx hb hX hbl hbA hS j1 dL_law_610 ?_
  refine lv_topi (fun x1 ex1 => ?_)
  refine lv_aload_n hx hb dL_law_611 rfl (lv_at hl 0 rfl) ?_
  refine lv_iload_n hx hb dL_law_612 rfl (lv_at hl 3 rfl) ?_
  refine lv_iconst (v := 2) hx hb dL_law_613 (by decide +kernel) ?_
  refine lv_iadd hx hb dL_law_614 ?_
  have j2 : vp_in (nI i + 2) L := by rw [show nI i + 2 = nI (i + 2) from nI_add i 2]; exact vp_in_nI (by omega) (by omega)
  refine va_sld hx hb hX hbl hbA hS j2 dL_law_615 ?_
  refine lv_topi (fun x2 ex2 => ?_)
  refine lv_aload_n hx hb dL_law_616 rfl (lv_at hl 0 rfl) ?_
  refine lv_iload_n hx hb dL_law_617 rfl (lv_at hl 3 rfl) ?_
  refine lv_iconst (v := 3) hx hb dL_law_618 (by decide +kernel) ?_
  refine lv_iadd hx hb dL_law_619 ?_
  have j3 : vp_in (nI i + 3) L := by rw [show nI i + 3 = nI (i + 3) from nI_add i 3]; exact vp_in_nI (by omega) (by omega)
  refine va_sld hx hb hX hbl hbA hS j3 dL_law_620 ?_
  refine lv_topi (fun x3 ex3 => ?_)
  refine lv_aload_n hx hb dL_law_621 rfl (lv_at hl 0 rfl) ?_
  refine lv_iload_n hx hb dL_law_622 rfl (lv_at hl 3 rfl) ?_
  refine lv_iconst (v := 4) hx hb dL_law_623 (by decide +kernel) ?_
  refine lv_iadd hx hb dL_law_624 ?_
  have j4 : vp_in (nI i + 4) L := by rw [show nI i + 4 = nI (i + 4) from nI_add i 4]; exact vp_in_nI (by omega) (by omega)
  refine va_sld hx hb hX hbl hbA hS j4 dL_law_625 ?_
  refine lv_topi (fun x4 ex4 => ?_)
  obtain ⟨A, eA⟩ : ∃ q, q = sp_X8_reach G S F P Z t0 w0 c0 p0 p1 p2 p3 p4 p5 x1 x2 x3 x4 := ⟨_, rfl⟩
  have hMA := c_X8_reach l D cI cJ cO h r (v 6) (v 7) (v 8) (v 9) w G S F P Z t0 w0 c0 p0 p1 p2 p3 p4 p5 x1 x2 x3 x4 (fun w => (choose_h w).1) (fun w => (choose_h w).2)
  rw [← eA] at hMA
  refine k_Vi ⟨hx, hb, hml, hown, hts⟩ hMA (ci := 8) (q0 := 0) rfl rfl (cwV 4 hts gL_law_X8_reach rfl rfl rfl (by decide +kernel) ⟨Nat.le_of_ble_eq_true rfl, Nat.le_of_ble_eq_true rfl⟩) hK hN hP hD hS hA [0, 1, 2, 3, 15, 16, 17, 18, 19, 20, 21, 22, 23, 24, 25] rfl rfl rfl (ws' := (WD cI cJ cO h r v w hm rm G S F P Q1 N n0 n1 n2 K k V E B0 U A.2.1 A.2.2.1 A.2.2.2.1 A.2.2.2.2.1 A.2.2.2.2.2.1 A.2.2.2.2.2.2.1 A.2.2.2.2.2.2.2.1 A.2.2.2.2.2.2.2.2.1 A.2.2.2.2.2.2.2.2.2.1 A.2.2.2.2.2.2.2.2.2.2 M L0 a5 a6 a12 a28 a29 a31 a32 a34 a35 a36 a37)) rfl rfl hl.1 rfl (Nat.le_of_ble_eq_true rfl) dL_law_626 ⟨Nat.le_of_ble_eq_true rfl, Nat.le_of_ble_eq_true rfl⟩ (fun H locs hP hD hS => ?_)
  refine lv_topi (fun zA ezA => ?_)
  refine lv_aload_n hx hb dL_law_629 rfl (lv_at hl 2 rfl) ?_
  refine lv_aload_n hx hb dL_law_630 rfl (lv_at hl 0 rfl) ?_
  refine lv_iload_n hx hb dL_law_631 rfl (lv_at hl 3 rfl) ?_
  refine lv_iconst (v := 1) hx hb dL_law_632 (by decide +kernel) ?_
  refine lv_iadd hx hb dL_law_633 ?_
  refine va_sld hx hb hX hbl hbA hS j1 dL_law_634 ?_
  rw [← ex1]
  refine lv_aload_n hx hb dL_law_635 rfl (lv_at hl 0 rfl) ?_
  refine lv_iload_n hx hb dL_law_636 rfl (lv_at hl 3 rfl) ?_
  refine lv_iconst (v := 2) hx hb dL_law_637 (by decide +kernel) ?_
  refine lv_iadd hx hb dL_law_638 ?_
  refine va_sld hx hb hX hbl hbA hS j2 dL_law_639 ?_
  rw [← ex2]
  refine lv_aload_n hx hb dL_law_640 rfl (lv_at hl 0 rfl) ?_
  refine lv_iload_n hx hb dL_law_641 rfl (lv_at hl 3 rfl) ?_
  refine lv_iconst (v := 3) hx hb dL_law_642 (by decide +kernel) ?_
  refine lv_iadd hx hb dL_law_643 ?_
  refine va_sld hx hb hX hbl hbA hS j3 dL_law_644 ?_
  rw [← ex3]
  refine lv_aload_n hx hb dL_law_645 rfl (lv_at hl 0 rfl) ?_
  refine lv_iload_n hx hb dL_law_646 rfl (lv_at hl 3 rfl) ?_
  refine lv_iconst (v := 4) hx hb dL_law_647 (by decide +kernel) ?_
  refine lv_iadd hx hb dL_law_648 ?_
  refine va_sld hx hb hX hbl hbA hS j4 dL_law_649 ?_
  rw [← ex4]
  obtain ⟨R, eR⟩ : ∃ q, q = sp_X9_reach M L0 a5 a6 a12 a36 a37 x1 x2 x3 x4 := ⟨_, rfl⟩
  have hMR := c_X9_reach l D cI cJ cO hm rm M L0 a5 a6 a12 a36 a37 x1 x2 x3 x4 (fun g => (reach_hyp (L := L0) (a36 := a36) (a37 := a37) hI.1 hI.2.1 hI.2.2.1 hI.2.2.2.1 hI.2.2.2.2.1 hI.2.2.2.2.2.1 g).1) (fun g => (reach_hyp (L := L0) (a36 := a36) (a37 := a37) hI.1 hI.2.1 hI.2.2.1 hI.2.2.2.1 hI.2.2.2.2.1 hI.2.2.2.2.2.1 g).2.1) (fun g => (reach_hyp (L := L0) (a36 := a36) (a37 := a37) hI.1 hI.2.1 hI.2.2.1 hI.2.2.2.1 hI.2.2.2.2.1 hI.2.2.2.2.2.1 g).2.2.1) (fun g => (reach_hyp (L := L0) (a36 := a36) (a37 := a37) hI.1 hI.2.1 hI.2.2.1 hI.2.2.2.1 hI.2.2.2.2.1 hI.2.2.2.2.2.1 g).2.2.2.1) (fun g => (reach_hyp (L := L0) (a36 := a36) (a37 := a37) hI.1 hI.2.1 hI.2.2.1 hI.2.2.2.1 hI.2.2.2.2.1 hI.2.2.2.2.2.1 g).2.2.2.2.1) (fun g => (reach_hyp (L := L0) (a36 := a36) (a37 := a37) hI.1 hI.2.1 hI.2.2.1 hI.2.2.2.1 hI.2.2.2.2.1 hI.2.2.2.2.2.1 g).2.2.2.2.2)
  rw [← eR] at hMR
  refine k_Vi ⟨hx, hb, hml, hown, hts⟩ hMR (ci := 9) (q0 := 26) rfl rfl (cwV 4 hts gL_law_X9_reach rfl rfl rfl (by decide +kernel) ⟨Nat.le_of_ble_eq_true rfl, Nat.le_of_ble_eq_true rfl⟩) hK hN hP hD hS hA [26, 27, 28, 29, 36, 37] rfl rfl rfl (ws' := (WD cI cJ cO h r v w hm rm G S F P Q1 N n0 n1 n2 K k V E B0 U A.2.1 A.2.2.1 A.2.2.2.1 A.2.2.2.2.1 A.2.2.2.2.2.1 A.2.2.2.2.2.2.1 A.2.2.2.2.2.2.2.1 A.2.2.2.2.2.2.2.2.1 A.2.2.2.2.2.2.2.2.2.1 A.2.2.2.2.2.2.2.2.2.2 R.2.1 R.2.2.1 a5 a6 R.2.2.2.1 a28 a29 a31 a32 a34 a35 R.2.2.2.2.1 R.2.2.2.2.2)) rfl rfl hl.1 rfl (Nat.le_of_ble_eq_true rfl) dL_law_650 ⟨Nat.le_of_ble_eq_true rfl, Nat.le_of_ble_eq_true rfl⟩ (fun H locs hP hD hS => ?_)
  refine lv_topi (fun zR ezR => ?_)
  obtain ⟨q1, q2⟩ := reach_law hI eA eR
  refine lv_icmp_eq (tgt := 681) hx hb dL_law_653 (by decide) (fun _ => ?_) (fun g => absurd (ezA.trans (q1.trans ezR.symm)) g)
  exact hk G S F P Q1 N n0 n1 n2 K k V E B0 U A.2.1 A.2.2.1 A.2.2.2.1 A.2.2.2.2.1 A.2.2.2.2.2.1 A.2.2.2.2.2.2.1 A.2.2.2.2.2.2.2.1 A.2.2.2.2.2.2.2.2.1 A.2.2.2.2.2.2.2.2.2.1 A.2.2.2.2.2.2.2.2.2.2 R.2.1 R.2.2.1 a5 a6 R.2.2.2.1 a28 a29 a31 a32 a34 a35 R.2.2.2.2.1 R.2.2.2.2.2 H locs ls q2 hP hD hS hl
set_option maxHeartbeats 4000000 in
set_option maxRecDepth 100000 in
theorem lc_many {p : Program} {l : Launch} {e : Env} {s : State} {m : MethodId} {below : List Frame} {meth : Method} {c : Code} {D : va_G} {cI cJ cO : ClassId} {b h : Nat} {r v w : Nat → Nat} {hm : Nat} {rm : Nat → Nat} {L : Nat} {xs : Nat → Int32} {i T : Nat} (C : LC p s m c D cI cJ cO b L xs i) (hT : T + 60 < 2 ^ 28) (hk : LH p l e s m below meth c D cI cJ cO b h r v w hm rm 681 i (T + 60)) : LH p l e s m below meth c D cI cJ cO b h r v w hm rm 658 i T := by
  obtain ⟨hx, hb, hml, hown, hts, hX, hbl, hK, hN, hi, hL⟩ := C
  have hA : ∀ q : Nat, s.heap.size ≤ q → (fun q : Nat => s.heap.size ≤ q) q := fun _ h => h
  have hbA : ¬ (fun q : Nat => s.heap.size ≤ q) b := Nat.not_le.mpr hbl
  intro G S F P Q1 N n0 n1 n2 K k V E B0 U Z t0 w0 c0 p0 p1 p2 p3 p4 p5 M L0 a5 a6 a12 a28 a29 a31 a32 a34 a35 a36 a37 H locs ls hI hP hD hS hl
  refine lv_aload_n hx hb dL_law_658 rfl (lv_at hl 1 rfl) ?_
  refine lv_aload_n hx hb dL_law_659 rfl (lv_at hl 0 rfl) ?_
  refine lv_iload_n hx hb dL_law_660 rfl (lv_at hl 3 rfl) ?_
  refine lv_iconst (v := 1) hx hb dL_law_661 (by decide +kernel) ?_
  refine lv_iadd hx hb dL_law_662 ?_
  have j1 : vp_in (nI i + 1) L := by rw [show nI i + 1 = nI (i + 1) from nI_add i 1]; exact vp_in_nI (by omega) (by omega)
  refine va_sld hx hb hX hbl hbA hS j1 dL_law_663 ?_
  refine lv_topi (fun x1 ex1 => ?_)
  obtain ⟨A, eA⟩ : ∃ q, q = sp_X8_many G F P K N x1 := ⟨_, rfl⟩
  have hMA := c_X8_many l D cI cJ cO h r (v 3) (v 0) (v 1) (v 2) G F P K N x1
  rw [← eA] at hMA
  refine k_Vi ⟨hx, hb, hml, hown, hts⟩ hMA (ci := 8) (q0 := 0) rfl rfl (cwV 1 hts gL_law_X8_many rfl rfl rfl (by decide +kernel) ⟨Nat.le_of_ble_eq_true rfl, Nat.le_of_ble_eq_true rfl⟩) hK hN hP hD hS hA [0, 2, 3, 9, 5] rfl rfl rfl (ws' := (WD cI cJ cO h r v w hm rm G S F P Q1 N n0 n1 n2 K k V E B0 U Z t0 w0 c0 p0 p1 p2 p3 p4 p5 M L0 a5 a6 a12 a28 a29 a31 a32 a34 a35 a36 a37)) rfl rfl hl.1 rfl (Nat.le_of_ble_eq_true rfl) dL_law_664 ⟨Nat.le_of_ble_eq_true rfl, Nat.le_of_ble_eq_true rfl⟩ (fun H locs hP hD hS => ?_)
  refine lv_topi (fun zA ezA => ?_)
  refine lv_aload_n hx hb dL_law_667 rfl (lv_at hl 2 rfl) ?_
  refine lv_aload_n hx hb dL_law_668 rfl (lv_at hl 0 rfl) ?_
  refine lv_iload_n hx hb dL_law_669 rfl (lv_at hl 3 rfl) ?_
  refine lv_iconst (v := 1) hx hb dL_law_670 (by decide +kernel) ?_
  refine lv_iadd hx hb dL_law_671 ?_
  refine va_sld hx hb hX hbl hbA hS j1 dL_law_672 ?_
  rw [← ex1]
  obtain ⟨R, eR⟩ : ∃ q, q = sp_X9_many M L0 a5 a6 x1 := ⟨_, rfl⟩
  have hMR := c_X9_many l D cI cJ cO hm rm M L0 a5 a6 x1
  rw [← eR] at hMR
  refine k_Vi ⟨hx, hb, hml, hown, hts⟩ hMR (ci := 9) (q0 := 26) rfl rfl (cwV 1 hts gL_law_X9_many rfl rfl rfl (by decide +kernel) ⟨Nat.le_of_ble_eq_true rfl, Nat.le_of_ble_eq_true rfl⟩) hK hN hP hD hS hA [26, 27, 28] rfl rfl rfl (ws' := (WD cI cJ cO h r v w hm rm G S F P Q1 N n0 n1 n2 K k V E B0 U Z t0 w0 c0 p0 p1 p2 p3 p4 p5 M L0 a5 a6 a12 a28 a29 a31 a32 a34 a35 a36 a37)) rfl rfl hl.1 rfl (Nat.le_of_ble_eq_true rfl) dL_law_673 ⟨Nat.le_of_ble_eq_true rfl, Nat.le_of_ble_eq_true rfl⟩ (fun H locs hP hD hS => ?_)
  refine lv_topi (fun zR ezR => ?_)
  obtain ⟨q1, q2⟩ := many_law hI eA eR
  refine lv_icmp_eq (tgt := 681) hx hb dL_law_676 (by decide) (fun _ => ?_) (fun g => absurd (ezA.trans (q1.trans ezR.symm)) g)
  exact hk G S F P Q1 N n0 n1 n2 K k V E B0 U Z t0 w0 c0 p0 p1 p2 p3 p4 p5 M L0 a5 a6 a12 a28 a29 a31 a32 a34 a35 a36 a37 H locs ls q2 hP hD hS hl
