/-! LAW 8: cases of the law's switch. -/
set_option maxHeartbeats 4000000 in
set_option maxRecDepth 100000 in
theorem lc_places {p : Program} {l : Launch} {e : Env} {s : State} {m : MethodId} {below : List Frame} {meth : Method} {c : Code} {D : va_G} {cI cJ cO : ClassId} {b h : Nat} {r v w : Nat → Nat} {hm : Nat} {rm : Nat → Nat} {L : Nat} {xs : Nat → Int32} {i T : Nat} (C : LC p s m c D cI cJ cO b L xs i) (hT : T + 60 < 2 ^ 28) (hk : LH p l e s m below meth c D cI cJ cO b h r v w hm rm 681 i (T + 60)) : LH p l e s m below meth c D cI cJ cO b h r v w hm rm 457 i T := by
  obtain ⟨hx, hb, hml, hown, hts, hX, hbl, hK, hN, hi, hL⟩ := C
  have hA : ∀ q : Nat, s.heap.size ≤ q → (fun q : Nat => s.heap.size ≤ q) q := fun _ h => h
  have hbA : ¬ (fun q : Nat => s.heap.size ≤ q) b := Nat.not_le.mpr hbl
  intro G S F P Q1 N n0 n1 n2 K k V E B0 U Z t0 w0 c0 p0 p1 p2 p3 p4 p5 M L0 a5 a6 a12 a28 a29 a31 a32 a34 a35 a36 a37 H locs ls hI hP hD hS hl
  refine lv_aload_n hx hb dL_law_457 rfl (lv_at hl 1 rfl) ?_
  obtain ⟨A, eA⟩ : ∃ q, q = sp_X8_places G N := ⟨_, rfl⟩
  have hMA := c_X8_places l D cI cJ cO h r (v 0) (v 1) (v 2) G N
  rw [← eA] at hMA
  refine k_Vi ⟨hx, hb, hml, hown, hts⟩ hMA (ci := 8) (q0 := 0) rfl rfl (cwV 0 hts gL_law_X8_places rfl rfl rfl (by decide +kernel) ⟨Nat.le_of_ble_eq_true rfl, Nat.le_of_ble_eq_true rfl⟩) hK hN hP hD hS hA [0, 5] rfl rfl rfl (ws' := (WD cI cJ cO h r v w hm rm G S F P Q1 N n0 n1 n2 K k V E B0 U Z t0 w0 c0 p0 p1 p2 p3 p4 p5 M L0 a5 a6 a12 a28 a29 a31 a32 a34 a35 a36 a37)) rfl rfl hl.1 rfl (Nat.le_of_ble_eq_true rfl) dL_law_458 ⟨Nat.le_of_ble_eq_true rfl, Nat.le_of_ble_eq_true rfl⟩ (fun H locs hP hD hS => ?_)
  refine lv_topi (fun zA ezA => ?_)
  refine lv_aload_n hx hb dL_law_461 rfl (lv_at hl 2 rfl) ?_
  obtain ⟨R, eR⟩ : ∃ q, q = sp_X9_places M L0 a28 := ⟨_, rfl⟩
  have hMR := c_X9_places l D cI cJ cO hm rm M L0 a28
  rw [← eR] at hMR
  refine k_Vi ⟨hx, hb, hml, hown, hts⟩ hMR (ci := 9) (q0 := 26) rfl rfl (cwV 0 hts gL_law_X9_places rfl rfl rfl (by decide +kernel) ⟨Nat.le_of_ble_eq_true rfl, Nat.le_of_ble_eq_true rfl⟩) hK hN hP hD hS hA [26, 30] rfl rfl rfl (ws' := (WD cI cJ cO h r v w hm rm G S F P Q1 N n0 n1 n2 K k V E B0 U Z t0 w0 c0 p0 p1 p2 p3 p4 p5 M L0 a5 a6 a12 a28 a29 a31 a32 a34 a35 a36 a37)) rfl rfl hl.1 rfl (Nat.le_of_ble_eq_true rfl) dL_law_462 ⟨Nat.le_of_ble_eq_true rfl, Nat.le_of_ble_eq_true rfl⟩ (fun H locs hP hD hS => ?_)
  refine lv_topi (fun zR ezR => ?_)
  obtain ⟨q1, q2⟩ := places_law (by omega) hI eA eR
  refine lv_icmp_eq (tgt := 681) hx hb dL_law_465 (by decide) (fun _ => ?_) (fun g => absurd (ezA.trans (q1.trans ezR.symm)) g)
  exact hk G S F P Q1 N n0 n1 n2 K k V E B0 U Z t0 w0 c0 p0 p1 p2 p3 p4 p5 M L0 a5 a6 a12 a28 a29 a31 a32 a34 a35 a36 a37 H locs ls q2 hP hD hS hl
set_option maxHeartbeats 4000000 in
set_option maxRecDepth 100000 in
theorem lc_step {p : Program} {l : Launch} {e : Env} {s : State} {m : MethodId} {below : List Frame} {meth : Method} {c : Code} {D : va_G} {cI cJ cO : ClassId} {b h : Nat} {r v w : Nat → Nat} {hm : Nat} {rm : Nat → Nat} {L : Nat} {xs : Nat → Int32} {i T : Nat} (C : LC p s m c D cI cJ cO b L xs i) (hT : T + 60 < 2 ^ 28) (hk : LH p l e s m below meth c D cI cJ cO b h r v w hm rm 681 i (T + 60)) : LH p l e s m below meth c D cI cJ cO b h r v w hm rm 470 i T := by
  obtain ⟨hx, hb, hml, hown, hts, hX, hbl, hK, hN, hi, hL⟩ := C
  have hA : ∀ q : Nat, s.heap.size ≤ q → (fun q : Nat => s.heap.size ≤ q) q := fun _ h => h
  have hbA : ¬ (fun q : Nat => s.heap.size ≤ q) b := Nat.not_le.mpr hbl
  intro G S F P Q1 N n0 n1 n2 K k V E B0 U Z t0 w0 c0 p0 p1 p2 p3 p4 p5 M L0 a5 a6 a12 a28 a29 a31 a32 a34 a35 a36 a37 H locs ls hI hP hD hS hl
  refine lv_aload_n hx hb dL_law_470 rfl (lv_at hl 1 rfl) ?_
  refine lv_aload_n hx hb dL_law_471 rfl (lv_at hl 0 rfl) ?_
  refine lv_iload_n hx hb dL_law_472 rfl (lv_at hl 3 rfl) ?_
  refine lv_iconst (v := 1) hx hb dL_law_473 (by decide +kernel) ?_
  refine lv_iadd hx hb dL_law_474 ?_
  have j1 : vp_in (nI i + 1) L := by rw [show nI i + 1 = nI (i + 1) from nI_add i 1]; exact vp_in_nI (by omega) (by omega)
  refine va_sld hx hb hX hbl hbA hS j1 dL_law_475 ?_
  refine lv_topi (fun x1 ex1 => ?_)
  obtain ⟨A, eA⟩ : ∃ q, q = sp_X8_step G K k x1 := ⟨_, rfl⟩
  have hMA := c_X8_step l D cI cJ cO h r (v 3) G K k x1
  rw [← eA] at hMA
  refine k_Vi ⟨hx, hb, hml, hown, hts⟩ hMA (ci := 8) (q0 := 0) rfl rfl (cwV 1 hts gL_law_X8_step rfl rfl rfl (by decide +kernel) ⟨Nat.le_of_ble_eq_true rfl, Nat.le_of_ble_eq_true rfl⟩) hK hN hP hD hS hA [0, 9, 10] rfl rfl rfl (ws' := (WD cI cJ cO h r v w hm rm A.2.1 S F P Q1 N n0 n1 n2 A.2.2.1 A.2.2.2 V E B0 U Z t0 w0 c0 p0 p1 p2 p3 p4 p5 M L0 a5 a6 a12 a28 a29 a31 a32 a34 a35 a36 a37)) rfl rfl hl.1 rfl (Nat.le_of_ble_eq_true rfl) dL_law_476 ⟨Nat.le_of_ble_eq_true rfl, Nat.le_of_ble_eq_true rfl⟩ (fun H locs hP hD hS => ?_)
  refine lv_topi (fun zA ezA => ?_)
  refine lv_aload_n hx hb dL_law_479 rfl (lv_at hl 2 rfl) ?_
  refine lv_aload_n hx hb dL_law_480 rfl (lv_at hl 0 rfl) ?_
  refine lv_iload_n hx hb dL_law_481 rfl (lv_at hl 3 rfl) ?_
  refine lv_iconst (v := 1) hx hb dL_law_482 (by decide +kernel) ?_
  refine lv_iadd hx hb dL_law_483 ?_
  refine va_sld hx hb hX hbl hbA hS j1 dL_law_484 ?_
  rw [← ex1]
  obtain ⟨R, eR⟩ : ∃ q, q = sp_X9_step M L0 a32 x1 := ⟨_, rfl⟩
  have hMR := c_X9_step l D cI cJ cO hm rm M L0 a32 x1 hI.cnt.2.1 hI.cnt.2.2.2.1
  rw [← eR] at hMR
  refine k_Vi ⟨hx, hb, hml, hown, hts⟩ hMR (ci := 9) (q0 := 26) rfl rfl (cwV 1 hts gL_law_X9_step rfl rfl rfl (by decide +kernel) ⟨Nat.le_of_ble_eq_true rfl, Nat.le_of_ble_eq_true rfl⟩) hK hN hP hD hS hA [26, 33] rfl rfl rfl (ws' := (WD cI cJ cO h r v w hm rm A.2.1 S F P Q1 N n0 n1 n2 A.2.2.1 A.2.2.2 V E B0 U Z t0 w0 c0 p0 p1 p2 p3 p4 p5 R.2.1 L0 a5 a6 a12 a28 a29 a31 R.2.2 a34 a35 a36 a37)) rfl rfl hl.1 rfl (Nat.le_of_ble_eq_true rfl) dL_law_485 ⟨Nat.le_of_ble_eq_true rfl, Nat.le_of_ble_eq_true rfl⟩ (fun H locs hP hD hS => ?_)
  refine lv_topi (fun zR ezR => ?_)
  obtain ⟨q1, q2⟩ := step_sim hI eA eR
  refine lv_icmp_eq (tgt := 681) hx hb dL_law_488 (by decide) (fun _ => ?_) (fun g => absurd (ezA.trans (q1.trans ezR.symm)) g)
  exact hk A.2.1 S F P Q1 N n0 n1 n2 A.2.2.1 A.2.2.2 V E B0 U Z t0 w0 c0 p0 p1 p2 p3 p4 p5 R.2.1 L0 a5 a6 a12 a28 a29 a31 R.2.2 a34 a35 a36 a37 H locs ls q2 hP hD hS hl
set_option maxHeartbeats 4000000 in
set_option maxRecDepth 100000 in
theorem lc_wipe {p : Program} {l : Launch} {e : Env} {s : State} {m : MethodId} {below : List Frame} {meth : Method} {c : Code} {D : va_G} {cI cJ cO : ClassId} {b h : Nat} {r v w : Nat → Nat} {hm : Nat} {rm : Nat → Nat} {L : Nat} {xs : Nat → Int32} {i T : Nat} (C : LC p s m c D cI cJ cO b L xs i) (hT : T + 60 < 2 ^ 28) (hk : LH p l e s m below meth c D cI cJ cO b h r v w hm rm 681 i (T + 60)) : LH p l e s m below meth c D cI cJ cO b h r v w hm rm 493 i T := by
  obtain ⟨hx, hb, hml, hown, hts, hX, hbl, hK, hN, hi, hL⟩ := C
  have hA : ∀ q : Nat, s.heap.size ≤ q → (fun q : Nat => s.heap.size ≤ q) q := fun _ h => h
  have hbA : ¬ (fun q : Nat => s.heap.size ≤ q) b := Nat.not_le.mpr hbl
  intro G S F P Q1 N n0 n1 n2 K k V E B0 U Z t0 w0 c0 p0 p1 p2 p3 p4 p5 M L0 a5 a6 a12 a28 a29 a31 a32 a34 a35 a36 a37 H locs ls hI hP hD hS hl
  refine lv_aload_n hx hb dL_law_493 rfl (lv_at hl 1 rfl) ?_
  obtain ⟨A, eA⟩ : ∃ q, q = sp_X8_wipe G K := ⟨_, rfl⟩
  have hMA := c_X8_wipe l D cI cJ cO h r (v 3) G K
  rw [← eA] at hMA
  refine k_Vi ⟨hx, hb, hml, hown, hts⟩ hMA (ci := 8) (q0 := 0) rfl rfl (cwV 0 hts gL_law_X8_wipe rfl rfl rfl (by decide +kernel) ⟨Nat.le_of_ble_eq_true rfl, Nat.le_of_ble_eq_true rfl⟩) hK hN hP hD hS hA [0, 9] rfl rfl rfl (ws' := (WD cI cJ cO h r v w hm rm A.2.1 S F P Q1 N n0 n1 n2 A.2.2 k V E B0 U Z t0 w0 c0 p0 p1 p2 p3 p4 p5 M L0 a5 a6 a12 a28 a29 a31 a32 a34 a35 a36 a37)) rfl rfl hl.1 rfl (Nat.le_of_ble_eq_true rfl) dL_law_494 ⟨Nat.le_of_ble_eq_true rfl, Nat.le_of_ble_eq_true rfl⟩ (fun H locs hP hD hS => ?_)
  refine lv_topi (fun zA ezA => ?_)
  refine lv_aload_n hx hb dL_law_497 rfl (lv_at hl 2 rfl) ?_
  obtain ⟨R, eR⟩ : ∃ q, q = sp_X9_wipe M L0 := ⟨_, rfl⟩
  have hMR := c_X9_wipe l D cI cJ cO hm rm M L0
  rw [← eR] at hMR
  refine k_Vi ⟨hx, hb, hml, hown, hts⟩ hMR (ci := 9) (q0 := 26) rfl rfl (cwV 0 hts gL_law_X9_wipe rfl rfl rfl (by decide +kernel) ⟨Nat.le_of_ble_eq_true rfl, Nat.le_of_ble_eq_true rfl⟩) hK hN hP hD hS hA [26] rfl rfl rfl (ws' := (WD cI cJ cO h r v w hm rm A.2.1 S F P Q1 N n0 n1 n2 A.2.2 k V E B0 U Z t0 w0 c0 p0 p1 p2 p3 p4 p5 R.2 L0 a5 a6 a12 a28 a29 a31 a32 a34 a35 a36 a37)) rfl rfl hl.1 rfl (Nat.le_of_ble_eq_true rfl) dL_law_498 ⟨Nat.le_of_ble_eq_true rfl, Nat.le_of_ble_eq_true rfl⟩ (fun H locs hP hD hS => ?_)
  refine lv_topi (fun zR ezR => ?_)
  obtain ⟨q1, q2⟩ := wipe_law hI eA eR
  refine lv_icmp_eq (tgt := 681) hx hb dL_law_501 (by decide) (fun _ => ?_) (fun g => absurd (ezA.trans (q1.trans ezR.symm)) g)
  exact hk A.2.1 S F P Q1 N n0 n1 n2 A.2.2 k V E B0 U Z t0 w0 c0 p0 p1 p2 p3 p4 p5 R.2 L0 a5 a6 a12 a28 a29 a31 a32 a34 a35 a36 a37 H locs ls q2 hP hD hS hl
set_option maxHeartbeats 4000000 in
set_option maxRecDepth 100000 in
theorem lc_stepAt {p : Program} {l : Launch} {e : Env} {s : State} {m : MethodId} {below : List Frame} {meth : Method} {c : Code} {D : va_G} {cI cJ cO : ClassId} {b h : Nat} {r v w : Nat → Nat} {hm : Nat} {rm : Nat → Nat} {L : Nat} {xs : Nat → Int32} {i T : Nat} (C : LC p s m c D cI cJ cO b L xs i) (hT : T + 60 < 2 ^ 28) (hk : LH p l e s m below meth c D cI cJ cO b h r v w hm rm 681 i (T + 60)) : LH p l e s m below meth c D cI cJ cO b h r v w hm rm 506 i T := by
  obtain ⟨hx, hb, hml, hown, hts, hX, hbl, hK, hN, hi, hL⟩ := C
  have hA : ∀ q : Nat, s.heap.size ≤ q → (fun q : Nat => s.heap.size ≤ q) q := fun _ h => h
  have hbA : ¬ (fun q : Nat => s.heap.size ≤ q) b := Nat.not_le.mpr hbl
  intro G S F P Q1 N n0 n1 n2 K k V E B0 U Z t0 w0 c0 p0 p1 p2 p3 p4 p5 M L0 a5 a6 a12 a28 a29 a31 a32 a34 a35 a36 a37 H locs ls hI hP hD hS hl
  refine lv_aload_n hx hb dL_law_506 rfl (lv_at hl 1 rfl) ?_
  refine lv_aload_n hx hb dL_law_507 rfl (lv_at hl 0 rfl) ?_
  refine lv_iload_n hx hb dL_law_508 rfl (lv_at hl 3 rfl) ?_
  refine lv_iconst (v := 1) hx hb dL_law_509 (by decide +kernel) ?_
  refine lv_iadd hx hb dL_law_510 ?_
  have j1 : vp_in (nI i + 1) L := by rw [show nI i + 1 = nI (i + 1) from nI_add i 1]; exact vp_in_nI (by omega) (by omega)
  refine va_sld hx hb hX hbl hbA hS j1 dL_law_511 ?_
  refine lv_topi (fun x1 ex1 => ?_)
  obtain ⟨A, eA⟩ : ∃ q, q = sp_X8_stepAt G K k x1 := ⟨_, rfl⟩
  have hMA := c_X8_stepAt l D cI cJ cO h r (v 3) G K k x1
  rw [← eA] at hMA
  refine k_Vi ⟨hx, hb, hml, hown, hts⟩ hMA (ci := 8) (q0 := 0) rfl rfl (cwV 1 hts gL_law_X8_stepAt rfl rfl rfl (by decide +kernel) ⟨Nat.le_of_ble_eq_true rfl, Nat.le_of_ble_eq_true rfl⟩) hK hN hP hD hS hA [0, 9, 10] rfl rfl rfl (ws' := (WD cI cJ cO h r v w hm rm G S F P Q1 N n0 n1 n2 K k V E B0 U Z t0 w0 c0 p0 p1 p2 p3 p4 p5 M L0 a5 a6 a12 a28 a29 a31 a32 a34 a35 a36 a37)) rfl rfl hl.1 rfl (Nat.le_of_ble_eq_true rfl) dL_law_512 ⟨Nat.le_of_ble_eq_true rfl, Nat.le_of_ble_eq_true rfl⟩ (fun H locs hP hD hS => ?_)
  refine lv_topi (fun zA ezA => ?_)
  refine lv_aload_n hx hb dL_law_515 rfl (lv_at hl 2 rfl) ?_
  refine lv_aload_n hx hb dL_law_516 rfl (lv_at hl 0 rfl) ?_
  refine lv_iload_n hx hb dL_law_517 rfl (lv_at hl 3 rfl) ?_
  refine lv_iconst (v := 1) hx hb dL_law_518 (by decide +kernel) ?_
  refine lv_iadd hx hb dL_law_519 ?_
  refine va_sld hx hb hX hbl hbA hS j1 dL_law_520 ?_
  rw [← ex1]
  obtain ⟨R, eR⟩ : ∃ q, q = sp_X9_stepAt M L0 a32 x1 := ⟨_, rfl⟩
  have hMR := c_X9_stepAt l D cI cJ cO hm rm M L0 a32 x1 hI.cnt.2.1 hI.cnt.2.2.2.1
  rw [← eR] at hMR
  refine k_Vi ⟨hx, hb, hml, hown, hts⟩ hMR (ci := 9) (q0 := 26) rfl rfl (cwV 1 hts gL_law_X9_stepAt rfl rfl rfl (by decide +kernel) ⟨Nat.le_of_ble_eq_true rfl, Nat.le_of_ble_eq_true rfl⟩) hK hN hP hD hS hA [26, 33] rfl rfl rfl (ws' := (WD cI cJ cO h r v w hm rm G S F P Q1 N n0 n1 n2 K k V E B0 U Z t0 w0 c0 p0 p1 p2 p3 p4 p5 M L0 a5 a6 a12 a28 a29 a31 a32 a34 a35 a36 a37)) rfl rfl hl.1 rfl (Nat.le_of_ble_eq_true rfl) dL_law_521 ⟨Nat.le_of_ble_eq_true rfl, Nat.le_of_ble_eq_true rfl⟩ (fun H locs hP hD hS => ?_)
  refine lv_topi (fun zR ezR => ?_)
  obtain ⟨q1, q2⟩ := stepAt_law hI eA eR
  refine lv_icmp_eq (tgt := 681) hx hb dL_law_524 (by decide) (fun _ => ?_) (fun g => absurd (ezA.trans (q1.trans ezR.symm)) g)
  exact hk G S F P Q1 N n0 n1 n2 K k V E B0 U Z t0 w0 c0 p0 p1 p2 p3 p4 p5 M L0 a5 a6 a12 a28 a29 a31 a32 a34 a35 a36 a37 H locs ls q2 hP hD hS hl
