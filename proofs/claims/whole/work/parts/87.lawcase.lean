/-! LAW 7: cases of the law's switch. -/
set_option maxHeartbeats 4000000 in
set_option maxRecDepth 100000 in
theorem lc_now {p : Program} {l : Launch} {e : Env} {s : State} {m : MethodId} {below : List Frame} {meth : Method} {c : Code} {D : va_G} {cI cJ cO : ClassId} {b h : Nat} {r v w : Nat → Nat} {hm : Nat} {rm : Nat → Nat} {L : Nat} {xs : Nat → Int32} {i T : Nat} (C : LC p s m c D cI cJ cO b L xs i) (hT : T + 60 < 2 ^ 28) (hk : LH p l e s m below meth c D cI cJ cO b h r v w hm rm 681 i (T + 60)) : LH p l e s m below meth c D cI cJ cO b h r v w hm rm 309 i T := by
  obtain ⟨hx, hb, hml, hown, hts, hX, hbl, hK, hN, hi, hL⟩ := C
  have hA : ∀ q : Nat, s.heap.size ≤ q → (fun q : Nat => s.heap.size ≤ q) q := fun _ h => h
  have hbA : ¬ (fun q : Nat => s.heap.size ≤ q) b := Nat.not_le.mpr hbl
  intro G S F P Q1 N n0 n1 n2 K k V E B0 U Z t0 w0 c0 p0 p1 p2 p3 p4 p5 M L0 a5 a6 a12 a28 a29 a31 a32 a34 a35 a36 a37 H locs ls hI hP hD hS hl
  refine lv_aload_n hx hb dL_law_309 rfl (lv_at hl 1 rfl) ?_
  refine lv_aload_n hx hb dL_law_310 rfl (lv_at hl 0 rfl) ?_
  refine lv_iload_n hx hb dL_law_311 rfl (lv_at hl 3 rfl) ?_
  refine lv_iconst (v := 1) hx hb dL_law_312 (by decide +kernel) ?_
  refine lv_iadd hx hb dL_law_313 ?_
  have j1 : vp_in (nI i + 1) L := by rw [show nI i + 1 = nI (i + 1) from nI_add i 1]; exact vp_in_nI (by omega) (by omega)
  refine va_sld hx hb hX hbl hbA hS j1 dL_law_314 ?_
  refine lv_topi (fun x1 ex1 => ?_)
  obtain ⟨A, eA⟩ : ∃ q, q = sp_X8_now G P x1 := ⟨_, rfl⟩
  have hMA := c_X8_now l D cI cJ cO h r G P x1
  rw [← eA] at hMA
  refine k_Vi ⟨hx, hb, hml, hown, hts⟩ hMA (ci := 8) (q0 := 0) rfl rfl (cwV 1 hts gL_law_X8_now rfl rfl rfl (by decide +kernel) ⟨Nat.le_of_ble_eq_true rfl, Nat.le_of_ble_eq_true rfl⟩) hK hN hP hD hS hA [0, 3] rfl rfl rfl (ws' := (WD cI cJ cO h r v w hm rm G S F P Q1 N n0 n1 n2 K k V E B0 U Z t0 w0 c0 p0 p1 p2 p3 p4 p5 M L0 a5 a6 a12 a28 a29 a31 a32 a34 a35 a36 a37)) rfl rfl hl.1 rfl (Nat.le_of_ble_eq_true rfl) dL_law_315 ⟨Nat.le_of_ble_eq_true rfl, Nat.le_of_ble_eq_true rfl⟩ (fun H locs hP hD hS => ?_)
  refine lv_topi (fun zA ezA => ?_)
  refine lv_aload_n hx hb dL_law_318 rfl (lv_at hl 2 rfl) ?_
  refine lv_aload_n hx hb dL_law_319 rfl (lv_at hl 0 rfl) ?_
  refine lv_iload_n hx hb dL_law_320 rfl (lv_at hl 3 rfl) ?_
  refine lv_iconst (v := 1) hx hb dL_law_321 (by decide +kernel) ?_
  refine lv_iadd hx hb dL_law_322 ?_
  refine va_sld hx hb hX hbl hbA hS j1 dL_law_323 ?_
  rw [← ex1]
  obtain ⟨R, eR⟩ : ∃ q, q = sp_X9_now M L0 a12 x1 := ⟨_, rfl⟩
  have hMR := c_X9_now l D cI cJ cO hm rm M L0 a12 x1
  rw [← eR] at hMR
  refine k_Vi ⟨hx, hb, hml, hown, hts⟩ hMR (ci := 9) (q0 := 26) rfl rfl (cwV 1 hts gL_law_X9_now rfl rfl rfl (by decide +kernel) ⟨Nat.le_of_ble_eq_true rfl, Nat.le_of_ble_eq_true rfl⟩) hK hN hP hD hS hA [26, 29] rfl rfl rfl (ws' := (WD cI cJ cO h r v w hm rm G S F P Q1 N n0 n1 n2 K k V E B0 U Z t0 w0 c0 p0 p1 p2 p3 p4 p5 M L0 a5 a6 a12 a28 a29 a31 a32 a34 a35 a36 a37)) rfl rfl hl.1 rfl (Nat.le_of_ble_eq_true rfl) dL_law_324 ⟨Nat.le_of_ble_eq_true rfl, Nat.le_of_ble_eq_true rfl⟩ (fun H locs hP hD hS => ?_)
  refine lv_topi (fun zR ezR => ?_)
  obtain ⟨q1, q2⟩ := now_law hI eA eR
  refine lv_icmp_eq (tgt := 681) hx hb dL_law_327 (by decide) (fun _ => ?_) (fun g => absurd (ezA.trans (q1.trans ezR.symm)) g)
  exact hk G S F P Q1 N n0 n1 n2 K k V E B0 U Z t0 w0 c0 p0 p1 p2 p3 p4 p5 M L0 a5 a6 a12 a28 a29 a31 a32 a34 a35 a36 a37 H locs ls q2 hP hD hS hl
set_option maxHeartbeats 4000000 in
set_option maxRecDepth 100000 in
theorem lc_setting {p : Program} {l : Launch} {e : Env} {s : State} {m : MethodId} {below : List Frame} {meth : Method} {c : Code} {D : va_G} {cI cJ cO : ClassId} {b h : Nat} {r v w : Nat → Nat} {hm : Nat} {rm : Nat → Nat} {L : Nat} {xs : Nat → Int32} {i T : Nat} (C : LC p s m c D cI cJ cO b L xs i) (hT : T + 60 < 2 ^ 28) (hk : LH p l e s m below meth c D cI cJ cO b h r v w hm rm 681 i (T + 60)) : LH p l e s m below meth c D cI cJ cO b h r v w hm rm 332 i T := by
  obtain ⟨hx, hb, hml, hown, hts, hX, hbl, hK, hN, hi, hL⟩ := C
  have hA : ∀ q : Nat, s.heap.size ≤ q → (fun q : Nat => s.heap.size ≤ q) q := fun _ h => h
  have hbA : ¬ (fun q : Nat => s.heap.size ≤ q) b := Nat.not_le.mpr hbl
  intro G S F P Q1 N n0 n1 n2 K k V E B0 U Z t0 w0 c0 p0 p1 p2 p3 p4 p5 M L0 a5 a6 a12 a28 a29 a31 a32 a34 a35 a36 a37 H locs ls hI hP hD hS hl
  refine lv_aload_n hx hb dL_law_332 rfl (lv_at hl 1 rfl) ?_
  refine lv_aload_n hx hb dL_law_333 rfl (lv_at hl 0 rfl) ?_
  refine lv_iload_n hx hb dL_law_334 rfl (lv_at hl 3 rfl) ?_
  refine lv_iconst (v := 1) hx hb dL_law_335 (by decide +kernel) ?_
  refine lv_iadd hx hb dL_law_336 ?_
  have j1 : vp_in (nI i + 1) L := by rw [show nI i + 1 = nI (i + 1) from nI_add i 1]; exact vp_in_nI (by omega) (by omega)
  refine va_sld hx hb hX hbl hbA hS j1 dL_law_337 ?_
  refine lv_topi (fun x1 ex1 => ?_)
  obtain ⟨A, eA⟩ : ∃ q, q = sp_X8_setting G S x1 := ⟨_, rfl⟩
  have hMA := c_X8_setting l D cI cJ cO h r G S x1
  rw [← eA] at hMA
  refine k_Vi ⟨hx, hb, hml, hown, hts⟩ hMA (ci := 8) (q0 := 0) rfl rfl (cwV 1 hts gL_law_X8_setting rfl rfl rfl (by decide +kernel) ⟨Nat.le_of_ble_eq_true rfl, Nat.le_of_ble_eq_true rfl⟩) hK hN hP hD hS hA [0, 1] rfl rfl rfl (ws' := (WD cI cJ cO h r v w hm rm G S F P Q1 N n0 n1 n2 K k V E B0 U Z t0 w0 c0 p0 p1 p2 p3 p4 p5 M L0 a5 a6 a12 a28 a29 a31 a32 a34 a35 a36 a37)) rfl rfl hl.1 rfl (Nat.le_of_ble_eq_true rfl) dL_law_338 ⟨Nat.le_of_ble_eq_true rfl, Nat.le_of_ble_eq_true rfl⟩ (fun H locs hP hD hS => ?_)
  refine lv_topi (fun zA ezA => ?_)
  refine lv_aload_n hx hb dL_law_341 rfl (lv_at hl 2 rfl) ?_
  refine lv_aload_n hx hb dL_law_342 rfl (lv_at hl 0 rfl) ?_
  refine lv_iload_n hx hb dL_law_343 rfl (lv_at hl 3 rfl) ?_
  refine lv_iconst (v := 1) hx hb dL_law_344 (by decide +kernel) ?_
  refine lv_iadd hx hb dL_law_345 ?_
  refine va_sld hx hb hX hbl hbA hS j1 dL_law_346 ?_
  rw [← ex1]
  obtain ⟨R, eR⟩ : ∃ q, q = sp_X9_setting M L0 x1 := ⟨_, rfl⟩
  have hMR := c_X9_setting l D cI cJ cO hm rm M L0 x1
  rw [← eR] at hMR
  refine k_Vi ⟨hx, hb, hml, hown, hts⟩ hMR (ci := 9) (q0 := 26) rfl rfl (cwV 1 hts gL_law_X9_setting rfl rfl rfl (by decide +kernel) ⟨Nat.le_of_ble_eq_true rfl, Nat.le_of_ble_eq_true rfl⟩) hK hN hP hD hS hA [26] rfl rfl rfl (ws' := (WD cI cJ cO h r v w hm rm G S F P Q1 N n0 n1 n2 K k V E B0 U Z t0 w0 c0 p0 p1 p2 p3 p4 p5 M L0 a5 a6 a12 a28 a29 a31 a32 a34 a35 a36 a37)) rfl rfl hl.1 rfl (Nat.le_of_ble_eq_true rfl) dL_law_347 ⟨Nat.le_of_ble_eq_true rfl, Nat.le_of_ble_eq_true rfl⟩ (fun H locs hP hD hS => ?_)
  refine lv_topi (fun zR ezR => ?_)
  obtain ⟨q1, q2⟩ := setting_law hI eA eR
  refine lv_icmp_eq (tgt := 681) hx hb dL_law_350 (by decide) (fun _ => ?_) (fun g => absurd (ezA.trans (q1.trans ezR.symm)) g)
  exact hk G S F P Q1 N n0 n1 n2 K k V E B0 U Z t0 w0 c0 p0 p1 p2 p3 p4 p5 M L0 a5 a6 a12 a28 a29 a31 a32 a34 a35 a36 a37 H locs ls q2 hP hD hS hl
set_option maxHeartbeats 4000000 in
set_option maxRecDepth 100000 in
theorem lc_leadsTo {p : Program} {l : Launch} {e : Env} {s : State} {m : MethodId} {below : List Frame} {meth : Method} {c : Code} {D : va_G} {cI cJ cO : ClassId} {b h : Nat} {r v w : Nat → Nat} {hm : Nat} {rm : Nat → Nat} {L : Nat} {xs : Nat → Int32} {i T : Nat} (C : LC p s m c D cI cJ cO b L xs i) (hT : T + 60 < 2 ^ 28) (hk : LH p l e s m below meth c D cI cJ cO b h r v w hm rm 681 i (T + 60)) : LH p l e s m below meth c D cI cJ cO b h r v w hm rm 355 i T := by
  obtain ⟨hx, hb, hml, hown, hts, hX, hbl, hK, hN, hi, hL⟩ := C
  have hA : ∀ q : Nat, s.heap.size ≤ q → (fun q : Nat => s.heap.size ≤ q) q := fun _ h => h
  have hbA : ¬ (fun q : Nat => s.heap.size ≤ q) b := Nat.not_le.mpr hbl
  intro G S F P Q1 N n0 n1 n2 K k V E B0 U Z t0 w0 c0 p0 p1 p2 p3 p4 p5 M L0 a5 a6 a12 a28 a29 a31 a32 a34 a35 a36 a37 H locs ls hI hP hD hS hl
  refine lv_aload_n hx hb dL_law_355 rfl (lv_at hl 1 rfl) ?_
  refine lv_aload_n hx hb dL_law_356 rfl (lv_at hl 0 rfl) ?_
  refine lv_iload_n hx hb dL_law_357 rfl (lv_at hl 3 rfl) ?_
  refine lv_iconst (v := 1) hx hb dL_law_358 (by decide +kernel) ?_
  refine lv_iadd hx hb dL_law_359 ?_
  have j1 : vp_in (nI i + 1) L := by rw [show nI i + 1 = nI (i + 1) from nI_add i 1]; exact vp_in_nI (by omega) (by omega)
  refine va_sld hx hb hX hbl hbA hS j1 dL_law_360 ?_
  refine lv_topi (fun x1 ex1 => ?_)
  obtain ⟨A, eA⟩ : ∃ q, q = sp_X8_leadsTo G S F P Q1 x1 := ⟨_, rfl⟩
  have hMA := c_X8_leadsTo l D cI cJ cO h r G S F P Q1 x1
  rw [← eA] at hMA
  refine k_Vi ⟨hx, hb, hml, hown, hts⟩ hMA (ci := 8) (q0 := 0) rfl rfl (cwV 1 hts gL_law_X8_leadsTo rfl rfl rfl (by decide +kernel) ⟨Nat.le_of_ble_eq_true rfl, Nat.le_of_ble_eq_true rfl⟩) hK hN hP hD hS hA [0, 1, 2, 3, 4] rfl rfl rfl (ws' := (WD cI cJ cO h r v w hm rm G S F P A.2 N n0 n1 n2 K k V E B0 U Z t0 w0 c0 p0 p1 p2 p3 p4 p5 M L0 a5 a6 a12 a28 a29 a31 a32 a34 a35 a36 a37)) rfl rfl hl.1 rfl (Nat.le_of_ble_eq_true rfl) dL_law_361 ⟨Nat.le_of_ble_eq_true rfl, Nat.le_of_ble_eq_true rfl⟩ (fun H locs hP hD hS => ?_)
  refine lv_topi (fun zA ezA => ?_)
  refine lv_aload_n hx hb dL_law_364 rfl (lv_at hl 2 rfl) ?_
  refine lv_aload_n hx hb dL_law_365 rfl (lv_at hl 0 rfl) ?_
  refine lv_iload_n hx hb dL_law_366 rfl (lv_at hl 3 rfl) ?_
  refine lv_iconst (v := 1) hx hb dL_law_367 (by decide +kernel) ?_
  refine lv_iadd hx hb dL_law_368 ?_
  refine va_sld hx hb hX hbl hbA hS j1 dL_law_369 ?_
  rw [← ex1]
  obtain ⟨R, eR⟩ : ∃ q, q = sp_X9_leadsTo M L0 a5 a6 a12 x1 := ⟨_, rfl⟩
  have hMR := c_X9_leadsTo l D cI cJ cO hm rm M L0 a5 a6 a12 x1
  rw [← eR] at hMR
  refine k_Vi ⟨hx, hb, hml, hown, hts⟩ hMR (ci := 9) (q0 := 26) rfl rfl (cwV 1 hts gL_law_X9_leadsTo rfl rfl rfl (by decide +kernel) ⟨Nat.le_of_ble_eq_true rfl, Nat.le_of_ble_eq_true rfl⟩) hK hN hP hD hS hA [26, 27, 28, 29] rfl rfl rfl (ws' := (WD cI cJ cO h r v w hm rm G S F P A.2 N n0 n1 n2 K k V E B0 U Z t0 w0 c0 p0 p1 p2 p3 p4 p5 R.2.1 R.2.2.1 a5 a6 R.2.2.2 a28 a29 a31 a32 a34 a35 a36 a37)) rfl rfl hl.1 rfl (Nat.le_of_ble_eq_true rfl) dL_law_370 ⟨Nat.le_of_ble_eq_true rfl, Nat.le_of_ble_eq_true rfl⟩ (fun H locs hP hD hS => ?_)
  refine lv_topi (fun zR ezR => ?_)
  obtain ⟨q1, q2⟩ := leads_law hI eA eR
  refine lv_icmp_eq (tgt := 681) hx hb dL_law_373 (by decide) (fun _ => ?_) (fun g => absurd (ezA.trans (q1.trans ezR.symm)) g)
  exact hk G S F P A.2 N n0 n1 n2 K k V E B0 U Z t0 w0 c0 p0 p1 p2 p3 p4 p5 R.2.1 R.2.2.1 a5 a6 R.2.2.2 a28 a29 a31 a32 a34 a35 a36 a37 H locs ls q2 hP hD hS hl
set_option maxHeartbeats 4000000 in
set_option maxRecDepth 100000 in
theorem lc_locked {p : Program} {l : Launch} {e : Env} {s : State} {m : MethodId} {below : List Frame} {meth : Method} {c : Code} {D : va_G} {cI cJ cO : ClassId} {b h : Nat} {r v w : Nat → Nat} {hm : Nat} {rm : Nat → Nat} {L : Nat} {xs : Nat → Int32} {i T : Nat} (C : LC p s m c D cI cJ cO b L xs i) (hT : T + 60 < 2 ^ 28) (hk : LH p l e s m below meth c D cI cJ cO b h r v w hm rm 681 i (T + 60)) : LH p l e s m below meth c D cI cJ cO b h r v w hm rm 378 i T := by
  obtain ⟨hx, hb, hml, hown, hts, hX, hbl, hK, hN, hi, hL⟩ := C
  have hA : ∀ q : Nat, s.heap.size ≤ q → (fun q : Nat => s.heap.size ≤ q) q := fun _ h => h
  have hbA : ¬ (fun q : Nat => s.heap.size ≤ q) b := Nat.not_le.mpr hbl
  intro G S F P Q1 N n0 n1 n2 K k V E B0 U Z t0 w0 c0 p0 p1 p2 p3 p4 p5 M L0 a5 a6 a12 a28 a29 a31 a32 a34 a35 a36 a37 H locs ls hI hP hD hS hl
  refine lv_aload_n hx hb dL_law_378 rfl (lv_at hl 1 rfl) ?_
  refine lv_aload_n hx hb dL_law_379 rfl (lv_at hl 0 rfl) ?_
  refine lv_iload_n hx hb dL_law_380 rfl (lv_at hl 3 rfl) ?_
  refine lv_iconst (v := 1) hx hb dL_law_381 (by decide +kernel) ?_
  refine lv_iadd hx hb dL_law_382 ?_
  have j1 : vp_in (nI i + 1) L := by rw [show nI i + 1 = nI (i + 1) from nI_add i 1]; exact vp_in_nI (by omega) (by omega)
  refine va_sld hx hb hX hbl hbA hS j1 dL_law_383 ?_
  refine lv_topi (fun x1 ex1 => ?_)
  refine lv_aload_n hx hb dL_law_384 rfl (lv_at hl 0 rfl) ?_
  refine lv_iload_n hx hb dL_law_385 rfl (lv_at hl 3 rfl) ?_
  refine lv_iconst (v := 2) hx hb dL_law_386 (by decide +kernel) ?_
  refine lv_iadd hx hb dL_law_387 ?_
  have j2 : vp_in (nI i + 2) L := by rw [show nI i + 2 = nI (i + 2) from nI_add i 2]; exact vp_in_nI (by omega) (by omega)
  refine va_sld hx hb hX hbl hbA hS j2 dL_law_388 ?_
  refine lv_topi (fun x2 ex2 => ?_)
  obtain ⟨A, eA⟩ : ∃ q, q = sp_X8_locked G N n0 n1 n2 x1 x2 := ⟨_, rfl⟩
  have hMA := c_X8_locked l D cI cJ cO h r (v 0) (v 1) (v 2) G N n0 n1 n2 x1 x2
  rw [← eA] at hMA
  refine k_Vi ⟨hx, hb, hml, hown, hts⟩ hMA (ci := 8) (q0 := 0) rfl rfl (cwV 2 hts gL_law_X8_locked rfl rfl rfl (by decide +kernel) ⟨Nat.le_of_ble_eq_true rfl, Nat.le_of_ble_eq_true rfl⟩) hK hN hP hD hS hA [0, 5, 6, 7, 8] rfl rfl rfl (ws' := (WD cI cJ cO h r v w hm rm G S F P Q1 N n0 n1 n2 K k V E B0 U Z t0 w0 c0 p0 p1 p2 p3 p4 p5 M L0 a5 a6 a12 a28 a29 a31 a32 a34 a35 a36 a37)) rfl rfl hl.1 rfl (Nat.le_of_ble_eq_true rfl) dL_law_389 ⟨Nat.le_of_ble_eq_true rfl, Nat.le_of_ble_eq_true rfl⟩ (fun H locs hP hD hS => ?_)
  refine lv_topi (fun zA ezA => ?_)
  refine lv_aload_n hx hb dL_law_392 rfl (lv_at hl 2 rfl) ?_
  refine lv_aload_n hx hb dL_law_393 rfl (lv_at hl 0 rfl) ?_
  refine lv_iload_n hx hb dL_law_394 rfl (lv_at hl 3 rfl) ?_
  refine lv_iconst (v := 1) hx hb dL_law_395 (by decide +kernel) ?_
  refine lv_iadd hx hb dL_law_396 ?_
  refine va_sld hx hb hX hbl hbA hS j1 dL_law_397 ?_
  rw [← ex1]
  refine lv_aload_n hx hb dL_law_398 rfl (lv_at hl 0 rfl) ?_
  refine lv_iload_n hx hb dL_law_399 rfl (lv_at hl 3 rfl) ?_
  refine lv_iconst (v := 2) hx hb dL_law_400 (by decide +kernel) ?_
  refine lv_iadd hx hb dL_law_401 ?_
  refine va_sld hx hb hX hbl hbA hS j2 dL_law_402 ?_
  rw [← ex2]
  obtain ⟨R, eR⟩ : ∃ q, q = sp_X9_locked M L0 a28 x1 x2 := ⟨_, rfl⟩
  have hMR := c_X9_locked l D cI cJ cO hm rm M L0 a28 x1 x2
  rw [← eR] at hMR
  refine k_Vi ⟨hx, hb, hml, hown, hts⟩ hMR (ci := 9) (q0 := 26) rfl rfl (cwV 2 hts gL_law_X9_locked rfl rfl rfl (by decide +kernel) ⟨Nat.le_of_ble_eq_true rfl, Nat.le_of_ble_eq_true rfl⟩) hK hN hP hD hS hA [26, 30] rfl rfl rfl (ws' := (WD cI cJ cO h r v w hm rm G S F P Q1 N n0 n1 n2 K k V E B0 U Z t0 w0 c0 p0 p1 p2 p3 p4 p5 M L0 a5 a6 a12 a28 a29 a31 a32 a34 a35 a36 a37)) rfl rfl hl.1 rfl (Nat.le_of_ble_eq_true rfl) dL_law_403 ⟨Nat.le_of_ble_eq_true rfl, Nat.le_of_ble_eq_true rfl⟩ (fun H locs hP hD hS => ?_)
  refine lv_topi (fun zR ezR => ?_)
  obtain ⟨q1, q2⟩ := locked_law hI eA eR
  refine lv_icmp_eq (tgt := 681) hx hb dL_law_406 (by decide) (fun _ => ?_) (fun g => absurd (ezA.trans (q1.trans ezR.symm)) g)
  exact hk G S F P Q1 N n0 n1 n2 K k V E B0 U Z t0 w0 c0 p0 p1 p2 p3 p4 p5 M L0 a5 a6 a12 a28 a29 a31 a32 a34 a35 a36 a37 H locs ls q2 hP hD hS hl
set_option maxHeartbeats 4000000 in
set_option maxRecDepth 100000 in
theorem lc_cause {p : Program} {l : Launch} {e : Env} {s : State} {m : MethodId} {below : List Frame} {meth : Method} {c : Code} {D : va_G} {cI cJ cO : ClassId} {b h : Nat} {r v w : Nat → Nat} {hm : Nat} {rm : Nat → Nat} {L : Nat} {xs : Nat → Int32} {i T : Nat} (C : LC p s m c D cI cJ cO b L xs i) (hT : T + 60 < 2 ^ 28) (hk : LH p l e s m below meth c D cI cJ cO b h r v w hm rm 681 i (T + 60)) : LH p l e s m below meth c D cI cJ cO b h r v w hm rm 411 i T := by
  obtain ⟨hx, hb, hml, hown, hts, hX, hbl, hK, hN, hi, hL⟩ := C
  have hA : ∀ q : Nat, s.heap.size ≤ q → (fun q : Nat => s.heap.size ≤ q) q := fun _ h => h
  have hbA : ¬ (fun q : Nat => s.heap.size ≤ q) b := Nat.not_le.mpr hbl
  intro G S F P Q1 N n0 n1 n2 K k V E B0 U Z t0 w0 c0 p0 p1 p2 p3 p4 p5 M L0 a5 a6 a12 a28 a29 a31 a32 a34 a35 a36 a37 H locs ls hI hP hD hS hl
  refine lv_aload_n hx hb dL_law_411 rfl (lv_at hl 1 rfl) ?_
  refine lv_aload_n hx hb dL_law_412 rfl (lv_at hl 0 rfl) ?_
  refine lv_iload_n hx hb dL_law_413 rfl (lv_at hl 3 rfl) ?_
  refine lv_iconst (v := 1) hx hb dL_law_414 (by decide +kernel) ?_
  refine lv_iadd hx hb dL_law_415 ?_
  have j1 : vp_in (nI i + 1) L := by rw [show nI i + 1 = nI (i + 1) from nI_add i 1]; exact vp_in_nI (by omega) (by omega)
  refine va_sld hx hb hX hbl hbA hS j1 dL_law_416 ?_
  refine lv_topi (fun x1 ex1 => ?_)
  obtain ⟨A, eA⟩ : ∃ q, q = sp_X8_cause G N n0 n1 n2 x1 := ⟨_, rfl⟩
  have hMA := c_X8_cause l D cI cJ cO h r (v 0) (v 1) (v 2) G N n0 n1 n2 x1
  rw [← eA] at hMA
  refine k_Vi ⟨hx, hb, hml, hown, hts⟩ hMA (ci := 8) (q0 := 0) rfl rfl (cwV 1 hts gL_law_X8_cause rfl rfl rfl (by decide +kernel) ⟨Nat.le_of_ble_eq_true rfl, Nat.le_of_ble_eq_true rfl⟩) hK hN hP hD hS hA [0, 5, 6, 7, 8] rfl rfl rfl (ws' := (WD cI cJ cO h r v w hm rm G S F P Q1 N n0 n1 n2 K k V E B0 U Z t0 w0 c0 p0 p1 p2 p3 p4 p5 M L0 a5 a6 a12 a28 a29 a31 a32 a34 a35 a36 a37)) rfl rfl hl.1 rfl (Nat.le_of_ble_eq_true rfl) dL_law_417 ⟨Nat.le_of_ble_eq_true rfl, Nat.le_of_ble_eq_true rfl⟩ (fun H locs hP hD hS => ?_)
  refine lv_topi (fun zA ezA => ?_)
  refine lv_aload_n hx hb dL_law_420 rfl (lv_at hl 2 rfl) ?_
  refine lv_aload_n hx hb dL_law_421 rfl (lv_at hl 0 rfl) ?_
  refine lv_iload_n hx hb dL_law_422 rfl (lv_at hl 3 rfl) ?_
  refine lv_iconst (v := 1) hx hb dL_law_423 (by decide +kernel) ?_
  refine lv_iadd hx hb dL_law_424 ?_
  refine va_sld hx hb hX hbl hbA hS j1 dL_law_425 ?_
  rw [← ex1]
  obtain ⟨R, eR⟩ : ∃ q, q = sp_X9_cause M L0 a29 x1 := ⟨_, rfl⟩
  have hMR := c_X9_cause l D cI cJ cO hm rm M L0 a29 x1
  rw [← eR] at hMR
  refine k_Vi ⟨hx, hb, hml, hown, hts⟩ hMR (ci := 9) (q0 := 26) rfl rfl (cwV 1 hts gL_law_X9_cause rfl rfl rfl (by decide +kernel) ⟨Nat.le_of_ble_eq_true rfl, Nat.le_of_ble_eq_true rfl⟩) hK hN hP hD hS hA [26, 31] rfl rfl rfl (ws' := (WD cI cJ cO h r v w hm rm G S F P Q1 N n0 n1 n2 K k V E B0 U Z t0 w0 c0 p0 p1 p2 p3 p4 p5 M L0 a5 a6 a12 a28 a29 a31 a32 a34 a35 a36 a37)) rfl rfl hl.1 rfl (Nat.le_of_ble_eq_true rfl) dL_law_426 ⟨Nat.le_of_ble_eq_true rfl, Nat.le_of_ble_eq_true rfl⟩ (fun H locs hP hD hS => ?_)
  refine lv_topi (fun zR ezR => ?_)
  obtain ⟨q1, q2⟩ := cause_law hI eA eR
  refine lv_icmp_eq (tgt := 681) hx hb dL_law_429 (by decide) (fun _ => ?_) (fun g => absurd (ezA.trans (q1.trans ezR.symm)) g)
  exact hk G S F P Q1 N n0 n1 n2 K k V E B0 U Z t0 w0 c0 p0 p1 p2 p3 p4 p5 M L0 a5 a6 a12 a28 a29 a31 a32 a34 a35 a36 a37 H locs ls q2 hP hD hS hl
set_option maxHeartbeats 4000000 in
set_option maxRecDepth 100000 in
theorem lc_followed {p : Program} {l : Launch} {e : Env} {s : State} {m : MethodId} {below : List Frame} {meth : Method} {c : Code} {D : va_G} {cI cJ cO : ClassId} {b h : Nat} {r v w : Nat → Nat} {hm : Nat} {rm : Nat → Nat} {L : Nat} {xs : Nat → Int32} {i T : Nat} (C : LC p s m c D cI cJ cO b L xs i) (hT : T + 60 < 2 ^ 28) (hk : LH p l e s m below meth c D cI cJ cO b h r v w hm rm 681 i (T + 60)) : LH p l e s m below meth c D cI cJ cO b h r v w hm rm 434 i T := by
  obtain ⟨hx, hb, hml, hown, hts, hX, hbl, hK, hN, hi, hL⟩ := C
  have hA : ∀ q : Nat, s.heap.size ≤ q → (fun q : Nat => s.heap.size ≤ q) q := fun _ h => h
  have hbA : ¬ (fun q : Nat => s.heap.size ≤ q) b := Nat.not_le.mpr hbl
  intro G S F P Q1 N n0 n1 n2 K k V E B0 U Z t0 w0 c0 p0 p1 p2 p3 p4 p5 M L0 a5 a6 a12 a28 a29 a31 a32 a34 a35 a36 a37 H locs ls hI hP hD hS hl
  refine lv_aload_n hx hb dL_law_434 rfl (lv_at hl 1 rfl) ?_
  refine lv_aload_n hx hb dL_law_435 rfl (lv_at hl 0 rfl) ?_
  refine lv_iload_n hx hb dL_law_436 rfl (lv_at hl 3 rfl) ?_
  refine lv_iconst (v := 1) hx hb dL_law_437 (by decide +kernel) ?_
  refine lv_iadd hx hb dL_law_438 ?_
  have j1 : vp_in (nI i + 1) L := by rw [show nI i + 1 = nI (i + 1) from nI_add i 1]; exact vp_in_nI (by omega) (by omega)
  refine va_sld hx hb hX hbl hbA hS j1 dL_law_439 ?_
  refine lv_topi (fun x1 ex1 => ?_)
  obtain ⟨A, eA⟩ : ∃ q, q = sp_X8_followed G N n0 n1 n2 x1 := ⟨_, rfl⟩
  have hMA := c_X8_followed l D cI cJ cO h r (v 0) (v 1) (v 2) G N n0 n1 n2 x1
  rw [← eA] at hMA
  refine k_Vi ⟨hx, hb, hml, hown, hts⟩ hMA (ci := 8) (q0 := 0) rfl rfl (cwV 1 hts gL_law_X8_followed rfl rfl rfl (by decide +kernel) ⟨Nat.le_of_ble_eq_true rfl, Nat.le_of_ble_eq_true rfl⟩) hK hN hP hD hS hA [0, 5, 6, 7, 8] rfl rfl rfl (ws' := (WD cI cJ cO h r v w hm rm G S F P Q1 N n0 n1 n2 K k V E B0 U Z t0 w0 c0 p0 p1 p2 p3 p4 p5 M L0 a5 a6 a12 a28 a29 a31 a32 a34 a35 a36 a37)) rfl rfl hl.1 rfl (Nat.le_of_ble_eq_true rfl) dL_law_440 ⟨Nat.le_of_ble_eq_true rfl, Nat.le_of_ble_eq_true rfl⟩ (fun H locs hP hD hS => ?_)
  refine lv_topi (fun zA ezA => ?_)
  refine lv_aload_n hx hb dL_law_443 rfl (lv_at hl 2 rfl) ?_
  refine lv_aload_n hx hb dL_law_444 rfl (lv_at hl 0 rfl) ?_
  refine lv_iload_n hx hb dL_law_445 rfl (lv_at hl 3 rfl) ?_
  refine lv_iconst (v := 1) hx hb dL_law_446 (by decide +kernel) ?_
  refine lv_iadd hx hb dL_law_447 ?_
  refine va_sld hx hb hX hbl hbA hS j1 dL_law_448 ?_
  rw [← ex1]
  obtain ⟨R, eR⟩ : ∃ q, q = sp_X9_followed M L0 a31 x1 := ⟨_, rfl⟩
  have hMR := c_X9_followed l D cI cJ cO hm rm M L0 a31 x1
  rw [← eR] at hMR
  refine k_Vi ⟨hx, hb, hml, hown, hts⟩ hMR (ci := 9) (q0 := 26) rfl rfl (cwV 1 hts gL_law_X9_followed rfl rfl rfl (by decide +kernel) ⟨Nat.le_of_ble_eq_true rfl, Nat.le_of_ble_eq_true rfl⟩) hK hN hP hD hS hA [26, 32] rfl rfl rfl (ws' := (WD cI cJ cO h r v w hm rm G S F P Q1 N n0 n1 n2 K k V E B0 U Z t0 w0 c0 p0 p1 p2 p3 p4 p5 M L0 a5 a6 a12 a28 a29 a31 a32 a34 a35 a36 a37)) rfl rfl hl.1 rfl (Nat.le_of_ble_eq_true rfl) dL_law_449 ⟨Nat.le_of_ble_eq_true rfl, Nat.le_of_ble_eq_true rfl⟩ (fun H locs hP hD hS => ?_)
  refine lv_topi (fun zR ezR => ?_)
  obtain ⟨q1, q2⟩ := followed_law hI eA eR
  refine lv_icmp_eq (tgt := 681) hx hb dL_law_452 (by decide) (fun _ => ?_) (fun g => absurd (ezA.trans (q1.trans ezR.symm)) g)
  exact hk G S F P Q1 N n0 n1 n2 K k V E B0 U Z t0 w0 c0 p0 p1 p2 p3 p4 p5 M L0 a5 a6 a12 a28 a29 a31 a32 a34 a35 a36 a37 H locs ls q2 hP hD hS hl
