/-! LAW 6: cases of the law's switch. -/
set_option maxHeartbeats 4000000 in
set_option maxRecDepth 100000 in
theorem lc_anew {p : Program} {l : Launch} {e : Env} {s : State} {m : MethodId} {below : List Frame} {meth : Method} {c : Code} {D : va_G} {cI cJ cO : ClassId} {b h : Nat} {r v w : Nat → Nat} {hm : Nat} {rm : Nat → Nat} {L : Nat} {xs : Nat → Int32} {i T : Nat} (C : LC p s m c D cI cJ cO b L xs i) (hT : T + 60 < 2 ^ 28) (hk : LH p l e s m below meth c D cI cJ cO b h r v w hm rm 681 i (T + 60)) : LH p l e s m below meth c D cI cJ cO b h r v w hm rm 124 i T := by
  obtain ⟨hx, hb, hml, hown, hts, hX, hbl, hK, hN, hi, hL⟩ := C
  have hA : ∀ q : Nat, s.heap.size ≤ q → (fun q : Nat => s.heap.size ≤ q) q := fun _ h => h
  have hbA : ¬ (fun q : Nat => s.heap.size ≤ q) b := Nat.not_le.mpr hbl
  intro G S F P Q1 N n0 n1 n2 K k V E B0 U Z t0 w0 c0 p0 p1 p2 p3 p4 p5 M L0 a5 a6 a12 a28 a29 a31 a32 a34 a35 a36 a37 H locs ls hI hP hD hS hl
  refine lv_aload_n hx hb dL_law_124 rfl (lv_at hl 1 rfl) ?_
  refine lv_aload_n hx hb dL_law_125 rfl (lv_at hl 0 rfl) ?_
  refine lv_iload_n hx hb dL_law_126 rfl (lv_at hl 3 rfl) ?_
  refine lv_iconst (v := 1) hx hb dL_law_127 (by decide +kernel) ?_
  refine lv_iadd hx hb dL_law_128 ?_
  have j1 : vp_in (nI i + 1) L := by rw [show nI i + 1 = nI (i + 1) from nI_add i 1]; exact vp_in_nI (by omega) (by omega)
  refine va_sld hx hb hX hbl hbA hS j1 dL_law_129 ?_
  refine lv_topi (fun x1 ex1 => ?_)
  refine lv_aload_n hx hb dL_law_130 rfl (lv_at hl 0 rfl) ?_
  refine lv_iload_n hx hb dL_law_131 rfl (lv_at hl 3 rfl) ?_
  refine lv_iconst (v := 2) hx hb dL_law_132 (by decide +kernel) ?_
  refine lv_iadd hx hb dL_law_133 ?_
  have j2 : vp_in (nI i + 2) L := by rw [show nI i + 2 = nI (i + 2) from nI_add i 2]; exact vp_in_nI (by omega) (by omega)
  refine va_sld hx hb hX hbl hbA hS j2 dL_law_134 ?_
  refine lv_topi (fun x2 ex2 => ?_)
  refine lv_aload_n hx hb dL_law_135 rfl (lv_at hl 0 rfl) ?_
  refine lv_iload_n hx hb dL_law_136 rfl (lv_at hl 3 rfl) ?_
  refine lv_iconst (v := 3) hx hb dL_law_137 (by decide +kernel) ?_
  refine lv_iadd hx hb dL_law_138 ?_
  have j3 : vp_in (nI i + 3) L := by rw [show nI i + 3 = nI (i + 3) from nI_add i 3]; exact vp_in_nI (by omega) (by omega)
  refine va_sld hx hb hX hbl hbA hS j3 dL_law_139 ?_
  refine lv_topi (fun x3 ex3 => ?_)
  refine lv_aload_n hx hb dL_law_140 rfl (lv_at hl 0 rfl) ?_
  refine lv_iload_n hx hb dL_law_141 rfl (lv_at hl 3 rfl) ?_
  refine lv_iconst (v := 4) hx hb dL_law_142 (by decide +kernel) ?_
  refine lv_iadd hx hb dL_law_143 ?_
  have j4 : vp_in (nI i + 4) L := by rw [show nI i + 4 = nI (i + 4) from nI_add i 4]; exact vp_in_nI (by omega) (by omega)
  refine va_sld hx hb hX hbl hbA hS j4 dL_law_144 ?_
  refine lv_topi (fun x4 ex4 => ?_)
  refine lv_aload_n hx hb dL_law_145 rfl (lv_at hl 0 rfl) ?_
  refine lv_iload_n hx hb dL_law_146 rfl (lv_at hl 3 rfl) ?_
  refine lv_iconst (v := 5) hx hb dL_law_147 (by decide +kernel) ?_
  refine lv_iadd hx hb dL_law_148 ?_
  have j5 : vp_in (nI i + 5) L := by rw [show nI i + 5 = nI (i + 5) from nI_add i 5]; exact vp_in_nI (by omega) (by omega)
  refine va_sld hx hb hX hbl hbA hS j5 dL_law_149 ?_
  refine lv_topi (fun x5 ex5 => ?_)
  obtain ⟨A, eA⟩ : ∃ q, q = sp_X8_anew G S F P N n0 n1 n2 x1 x2 x3 x4 x5 := ⟨_, rfl⟩
  have hMA := c_X8_anew l D cI cJ cO h r (v 0) (v 1) (v 2) G S F P N n0 n1 n2 x1 x2 x3 x4 x5
  rw [← eA] at hMA
  refine k_Vi ⟨hx, hb, hml, hown, hts⟩ hMA (ci := 8) (q0 := 0) rfl rfl (cwV 5 hts gL_law_X8_anew rfl rfl rfl (by decide +kernel) ⟨Nat.le_of_ble_eq_true rfl, Nat.le_of_ble_eq_true rfl⟩) hK hN hP hD hS hA [0, 1, 2, 3, 5, 6, 7, 8] rfl rfl rfl (ws' := (WD cI cJ cO h r v w hm rm A.2.1 A.2.2.1 A.2.2.2.1 A.2.2.2.2.1 Q1 A.2.2.2.2.2.1 A.2.2.2.2.2.2.1 A.2.2.2.2.2.2.2.1 A.2.2.2.2.2.2.2.2 K k V E B0 U Z t0 w0 c0 p0 p1 p2 p3 p4 p5 M L0 a5 a6 a12 a28 a29 a31 a32 a34 a35 a36 a37)) rfl rfl hl.1 rfl (Nat.le_of_ble_eq_true rfl) dL_law_150 ⟨Nat.le_of_ble_eq_true rfl, Nat.le_of_ble_eq_true rfl⟩ (fun H locs hP hD hS => ?_)
  refine lv_topi (fun zA ezA => ?_)
  refine lv_aload_n hx hb dL_law_153 rfl (lv_at hl 2 rfl) ?_
  refine lv_aload_n hx hb dL_law_154 rfl (lv_at hl 0 rfl) ?_
  refine lv_iload_n hx hb dL_law_155 rfl (lv_at hl 3 rfl) ?_
  refine lv_iconst (v := 1) hx hb dL_law_156 (by decide +kernel) ?_
  refine lv_iadd hx hb dL_law_157 ?_
  refine va_sld hx hb hX hbl hbA hS j1 dL_law_158 ?_
  rw [← ex1]
  refine lv_aload_n hx hb dL_law_159 rfl (lv_at hl 0 rfl) ?_
  refine lv_iload_n hx hb dL_law_160 rfl (lv_at hl 3 rfl) ?_
  refine lv_iconst (v := 2) hx hb dL_law_161 (by decide +kernel) ?_
  refine lv_iadd hx hb dL_law_162 ?_
  refine va_sld hx hb hX hbl hbA hS j2 dL_law_163 ?_
  rw [← ex2]
  refine lv_aload_n hx hb dL_law_164 rfl (lv_at hl 0 rfl) ?_
  refine lv_iload_n hx hb dL_law_165 rfl (lv_at hl 3 rfl) ?_
  refine lv_iconst (v := 3) hx hb dL_law_166 (by decide +kernel) ?_
  refine lv_iadd hx hb dL_law_167 ?_
  refine va_sld hx hb hX hbl hbA hS j3 dL_law_168 ?_
  rw [← ex3]
  refine lv_aload_n hx hb dL_law_169 rfl (lv_at hl 0 rfl) ?_
  refine lv_iload_n hx hb dL_law_170 rfl (lv_at hl 3 rfl) ?_
  refine lv_iconst (v := 4) hx hb dL_law_171 (by decide +kernel) ?_
  refine lv_iadd hx hb dL_law_172 ?_
  refine va_sld hx hb hX hbl hbA hS j4 dL_law_173 ?_
  rw [← ex4]
  refine lv_aload_n hx hb dL_law_174 rfl (lv_at hl 0 rfl) ?_
  refine lv_iload_n hx hb dL_law_175 rfl (lv_at hl 3 rfl) ?_
  refine lv_iconst (v := 5) hx hb dL_law_176 (by decide +kernel) ?_
  refine lv_iadd hx hb dL_law_177 ?_
  refine va_sld hx hb hX hbl hbA hS j5 dL_law_178 ?_
  rw [← ex5]
  obtain ⟨R, eR⟩ : ∃ q, q = sp_X9_anew M L0 a5 a6 a12 a28 a31 x1 x2 x3 x4 x5 := ⟨_, rfl⟩
  have hMR := c_X9_anew l D cI cJ cO hm rm M L0 a5 a6 a12 a28 a31 x1 x2 x3 x4 x5
  rw [← eR] at hMR
  refine k_Vi ⟨hx, hb, hml, hown, hts⟩ hMR (ci := 9) (q0 := 26) rfl rfl (cwV 5 hts gL_law_X9_anew rfl rfl rfl (by decide +kernel) ⟨Nat.le_of_ble_eq_true rfl, Nat.le_of_ble_eq_true rfl⟩) hK hN hP hD hS hA [26, 27, 28, 29, 30, 32] rfl rfl rfl (ws' := (WD cI cJ cO h r v w hm rm A.2.1 A.2.2.1 A.2.2.2.1 A.2.2.2.2.1 Q1 A.2.2.2.2.2.1 A.2.2.2.2.2.2.1 A.2.2.2.2.2.2.2.1 A.2.2.2.2.2.2.2.2 K k V E B0 U Z t0 w0 c0 p0 p1 p2 p3 p4 p5 R.2.1 R.2.2.1 R.2.2.2.1 R.2.2.2.2.1 R.2.2.2.2.2.1 R.2.2.2.2.2.2.1 a29 R.2.2.2.2.2.2.2 a32 a34 a35 a36 a37)) rfl rfl hl.1 rfl (Nat.le_of_ble_eq_true rfl) dL_law_179 ⟨Nat.le_of_ble_eq_true rfl, Nat.le_of_ble_eq_true rfl⟩ (fun H locs hP hD hS => ?_)
  refine lv_topi (fun zR ezR => ?_)
  obtain ⟨q1, q2⟩ := anew_sim hI eA eR
  refine lv_icmp_eq (tgt := 681) hx hb dL_law_182 (by decide) (fun _ => ?_) (fun g => absurd (ezA.trans (q1.trans ezR.symm)) g)
  exact hk A.2.1 A.2.2.1 A.2.2.2.1 A.2.2.2.2.1 Q1 A.2.2.2.2.2.1 A.2.2.2.2.2.2.1 A.2.2.2.2.2.2.2.1 A.2.2.2.2.2.2.2.2 K k V E B0 U Z t0 w0 c0 p0 p1 p2 p3 p4 p5 R.2.1 R.2.2.1 R.2.2.2.1 R.2.2.2.2.1 R.2.2.2.2.2.1 R.2.2.2.2.2.2.1 a29 R.2.2.2.2.2.2.2 a32 a34 a35 a36 a37 H locs ls q2 hP hD hS hl
set_option maxHeartbeats 4000000 in
set_option maxRecDepth 100000 in
theorem lc_stick {p : Program} {l : Launch} {e : Env} {s : State} {m : MethodId} {below : List Frame} {meth : Method} {c : Code} {D : va_G} {cI cJ cO : ClassId} {b h : Nat} {r v w : Nat → Nat} {hm : Nat} {rm : Nat → Nat} {L : Nat} {xs : Nat → Int32} {i T : Nat} (C : LC p s m c D cI cJ cO b L xs i) (hT : T + 60 < 2 ^ 28) (hk : LH p l e s m below meth c D cI cJ cO b h r v w hm rm 681 i (T + 60)) : LH p l e s m below meth c D cI cJ cO b h r v w hm rm 187 i T := by
  obtain ⟨hx, hb, hml, hown, hts, hX, hbl, hK, hN, hi, hL⟩ := C
  have hA : ∀ q : Nat, s.heap.size ≤ q → (fun q : Nat => s.heap.size ≤ q) q := fun _ h => h
  have hbA : ¬ (fun q : Nat => s.heap.size ≤ q) b := Nat.not_le.mpr hbl
  intro G S F P Q1 N n0 n1 n2 K k V E B0 U Z t0 w0 c0 p0 p1 p2 p3 p4 p5 M L0 a5 a6 a12 a28 a29 a31 a32 a34 a35 a36 a37 H locs ls hI hP hD hS hl
  refine lv_aload_n hx hb dL_law_187 rfl (lv_at hl 1 rfl) ?_
  refine lv_aload_n hx hb dL_law_188 rfl (lv_at hl 0 rfl) ?_
  refine lv_iload_n hx hb dL_law_189 rfl (lv_at hl 3 rfl) ?_
  refine lv_iconst (v := 1) hx hb dL_law_190 (by decide +kernel) ?_
  refine lv_iadd hx hb dL_law_191 ?_
  have j1 : vp_in (nI i + 1) L := by rw [show nI i + 1 = nI (i + 1) from nI_add i 1]; exact vp_in_nI (by omega) (by omega)
  refine va_sld hx hb hX hbl hbA hS j1 dL_law_192 ?_
  refine lv_topi (fun x1 ex1 => ?_)
  refine lv_aload_n hx hb dL_law_193 rfl (lv_at hl 0 rfl) ?_
  refine lv_iload_n hx hb dL_law_194 rfl (lv_at hl 3 rfl) ?_
  refine lv_iconst (v := 2) hx hb dL_law_195 (by decide +kernel) ?_
  refine lv_iadd hx hb dL_law_196 ?_
  have j2 : vp_in (nI i + 2) L := by rw [show nI i + 2 = nI (i + 2) from nI_add i 2]; exact vp_in_nI (by omega) (by omega)
  refine va_sld hx hb hX hbl hbA hS j2 dL_law_197 ?_
  refine lv_topi (fun x2 ex2 => ?_)
  obtain ⟨A, eA⟩ : ∃ q, q = sp_X8_stick G F x1 x2 := ⟨_, rfl⟩
  have hMA := c_X8_stick l D cI cJ cO h r G F x1 x2
  rw [← eA] at hMA
  refine k_Vi ⟨hx, hb, hml, hown, hts⟩ hMA (ci := 8) (q0 := 0) rfl rfl (cwV 2 hts gL_law_X8_stick rfl rfl rfl (by decide +kernel) ⟨Nat.le_of_ble_eq_true rfl, Nat.le_of_ble_eq_true rfl⟩) hK hN hP hD hS hA [0, 2] rfl rfl rfl (ws' := (WD cI cJ cO h r v w hm rm G S A.2 P Q1 N n0 n1 n2 K k V E B0 U Z t0 w0 c0 p0 p1 p2 p3 p4 p5 M L0 a5 a6 a12 a28 a29 a31 a32 a34 a35 a36 a37)) rfl rfl hl.1 rfl (Nat.le_of_ble_eq_true rfl) dL_law_198 ⟨Nat.le_of_ble_eq_true rfl, Nat.le_of_ble_eq_true rfl⟩ (fun H locs hP hD hS => ?_)
  refine lv_topi (fun zA ezA => ?_)
  refine lv_aload_n hx hb dL_law_201 rfl (lv_at hl 2 rfl) ?_
  refine lv_aload_n hx hb dL_law_202 rfl (lv_at hl 0 rfl) ?_
  refine lv_iload_n hx hb dL_law_203 rfl (lv_at hl 3 rfl) ?_
  refine lv_iconst (v := 1) hx hb dL_law_204 (by decide +kernel) ?_
  refine lv_iadd hx hb dL_law_205 ?_
  refine va_sld hx hb hX hbl hbA hS j1 dL_law_206 ?_
  rw [← ex1]
  refine lv_aload_n hx hb dL_law_207 rfl (lv_at hl 0 rfl) ?_
  refine lv_iload_n hx hb dL_law_208 rfl (lv_at hl 3 rfl) ?_
  refine lv_iconst (v := 2) hx hb dL_law_209 (by decide +kernel) ?_
  refine lv_iadd hx hb dL_law_210 ?_
  refine va_sld hx hb hX hbl hbA hS j2 dL_law_211 ?_
  rw [← ex2]
  obtain ⟨R, eR⟩ : ∃ q, q = sp_X9_stick M L0 a5 x1 x2 := ⟨_, rfl⟩
  have hMR := c_X9_stick l D cI cJ cO hm rm M L0 a5 x1 x2
  rw [← eR] at hMR
  refine k_Vi ⟨hx, hb, hml, hown, hts⟩ hMR (ci := 9) (q0 := 26) rfl rfl (cwV 2 hts gL_law_X9_stick rfl rfl rfl (by decide +kernel) ⟨Nat.le_of_ble_eq_true rfl, Nat.le_of_ble_eq_true rfl⟩) hK hN hP hD hS hA [26, 27] rfl rfl rfl (ws' := (WD cI cJ cO h r v w hm rm G S A.2 P Q1 N n0 n1 n2 K k V E B0 U Z t0 w0 c0 p0 p1 p2 p3 p4 p5 M L0 R.2 a6 a12 a28 a29 a31 a32 a34 a35 a36 a37)) rfl rfl hl.1 rfl (Nat.le_of_ble_eq_true rfl) dL_law_212 ⟨Nat.le_of_ble_eq_true rfl, Nat.le_of_ble_eq_true rfl⟩ (fun H locs hP hD hS => ?_)
  refine lv_topi (fun zR ezR => ?_)
  obtain ⟨q1, q2⟩ := stick_law hI eA eR
  refine lv_icmp_eq (tgt := 681) hx hb dL_law_215 (by decide) (fun _ => ?_) (fun g => absurd (ezA.trans (q1.trans ezR.symm)) g)
  exact hk G S A.2 P Q1 N n0 n1 n2 K k V E B0 U Z t0 w0 c0 p0 p1 p2 p3 p4 p5 M L0 R.2 a6 a12 a28 a29 a31 a32 a34 a35 a36 a37 H locs ls q2 hP hD hS hl
set_option maxHeartbeats 4000000 in
set_option maxRecDepth 100000 in
theorem lc_valve {p : Program} {l : Launch} {e : Env} {s : State} {m : MethodId} {below : List Frame} {meth : Method} {c : Code} {D : va_G} {cI cJ cO : ClassId} {b h : Nat} {r v w : Nat → Nat} {hm : Nat} {rm : Nat → Nat} {L : Nat} {xs : Nat → Int32} {i T : Nat} (C : LC p s m c D cI cJ cO b L xs i) (hT : T + 60 < 2 ^ 28) (hk : LH p l e s m below meth c D cI cJ cO b h r v w hm rm 681 i (T + 60)) : LH p l e s m below meth c D cI cJ cO b h r v w hm rm 220 i T := by
  obtain ⟨hx, hb, hml, hown, hts, hX, hbl, hK, hN, hi, hL⟩ := C
  have hA : ∀ q : Nat, s.heap.size ≤ q → (fun q : Nat => s.heap.size ≤ q) q := fun _ h => h
  have hbA : ¬ (fun q : Nat => s.heap.size ≤ q) b := Nat.not_le.mpr hbl
  intro G S F P Q1 N n0 n1 n2 K k V E B0 U Z t0 w0 c0 p0 p1 p2 p3 p4 p5 M L0 a5 a6 a12 a28 a29 a31 a32 a34 a35 a36 a37 H locs ls hI hP hD hS hl
  refine lv_aload_n hx hb dL_law_220 rfl (lv_at hl 1 rfl) ?_
  refine lv_aload_n hx hb dL_law_221 rfl (lv_at hl 0 rfl) ?_
  refine lv_iload_n hx hb dL_law_222 rfl (lv_at hl 3 rfl) ?_
  refine lv_iconst (v := 1) hx hb dL_law_223 (by decide +kernel) ?_
  refine lv_iadd hx hb dL_law_224 ?_
  have j1 : vp_in (nI i + 1) L := by rw [show nI i + 1 = nI (i + 1) from nI_add i 1]; exact vp_in_nI (by omega) (by omega)
  refine va_sld hx hb hX hbl hbA hS j1 dL_law_225 ?_
  refine lv_topi (fun x1 ex1 => ?_)
  refine lv_aload_n hx hb dL_law_226 rfl (lv_at hl 0 rfl) ?_
  refine lv_iload_n hx hb dL_law_227 rfl (lv_at hl 3 rfl) ?_
  refine lv_iconst (v := 2) hx hb dL_law_228 (by decide +kernel) ?_
  refine lv_iadd hx hb dL_law_229 ?_
  have j2 : vp_in (nI i + 2) L := by rw [show nI i + 2 = nI (i + 2) from nI_add i 2]; exact vp_in_nI (by omega) (by omega)
  refine va_sld hx hb hX hbl hbA hS j2 dL_law_230 ?_
  refine lv_topi (fun x2 ex2 => ?_)
  obtain ⟨A, eA⟩ : ∃ q, q = sp_X8_valve G F x1 x2 := ⟨_, rfl⟩
  have hMA := c_X8_valve l D cI cJ cO h r G F x1 x2
  rw [← eA] at hMA
  refine k_Vi ⟨hx, hb, hml, hown, hts⟩ hMA (ci := 8) (q0 := 0) rfl rfl (cwV 2 hts gL_law_X8_valve rfl rfl rfl (by decide +kernel) ⟨Nat.le_of_ble_eq_true rfl, Nat.le_of_ble_eq_true rfl⟩) hK hN hP hD hS hA [0, 2] rfl rfl rfl (ws' := (WD cI cJ cO h r v w hm rm G S A.2 P Q1 N n0 n1 n2 K k V E B0 U Z t0 w0 c0 p0 p1 p2 p3 p4 p5 M L0 a5 a6 a12 a28 a29 a31 a32 a34 a35 a36 a37)) rfl rfl hl.1 rfl (Nat.le_of_ble_eq_true rfl) dL_law_231 ⟨Nat.le_of_ble_eq_true rfl, Nat.le_of_ble_eq_true rfl⟩ (fun H locs hP hD hS => ?_)
  refine lv_topi (fun zA ezA => ?_)
  refine lv_aload_n hx hb dL_law_234 rfl (lv_at hl 2 rfl) ?_
  refine lv_aload_n hx hb dL_law_235 rfl (lv_at hl 0 rfl) ?_
  refine lv_iload_n hx hb dL_law_236 rfl (lv_at hl 3 rfl) ?_
  refine lv_iconst (v := 1) hx hb dL_law_237 (by decide +kernel) ?_
  refine lv_iadd hx hb dL_law_238 ?_
  refine va_sld hx hb hX hbl hbA hS j1 dL_law_239 ?_
  rw [← ex1]
  refine lv_aload_n hx hb dL_law_240 rfl (lv_at hl 0 rfl) ?_
  refine lv_iload_n hx hb dL_law_241 rfl (lv_at hl 3 rfl) ?_
  refine lv_iconst (v := 2) hx hb dL_law_242 (by decide +kernel) ?_
  refine lv_iadd hx hb dL_law_243 ?_
  refine va_sld hx hb hX hbl hbA hS j2 dL_law_244 ?_
  rw [← ex2]
  obtain ⟨R, eR⟩ : ∃ q, q = sp_X9_valve M L0 a6 x1 x2 := ⟨_, rfl⟩
  have hMR := c_X9_valve l D cI cJ cO hm rm M L0 a6 x1 x2
  rw [← eR] at hMR
  refine k_Vi ⟨hx, hb, hml, hown, hts⟩ hMR (ci := 9) (q0 := 26) rfl rfl (cwV 2 hts gL_law_X9_valve rfl rfl rfl (by decide +kernel) ⟨Nat.le_of_ble_eq_true rfl, Nat.le_of_ble_eq_true rfl⟩) hK hN hP hD hS hA [26, 28] rfl rfl rfl (ws' := (WD cI cJ cO h r v w hm rm G S A.2 P Q1 N n0 n1 n2 K k V E B0 U Z t0 w0 c0 p0 p1 p2 p3 p4 p5 M L0 a5 R.2 a12 a28 a29 a31 a32 a34 a35 a36 a37)) rfl rfl hl.1 rfl (Nat.le_of_ble_eq_true rfl) dL_law_245 ⟨Nat.le_of_ble_eq_true rfl, Nat.le_of_ble_eq_true rfl⟩ (fun H locs hP hD hS => ?_)
  refine lv_topi (fun zR ezR => ?_)
  obtain ⟨q1, q2⟩ := valve_law hI eA eR
  refine lv_icmp_eq (tgt := 681) hx hb dL_law_248 (by decide) (fun _ => ?_) (fun g => absurd (ezA.trans (q1.trans ezR.symm)) g)
  exact hk G S A.2 P Q1 N n0 n1 n2 K k V E B0 U Z t0 w0 c0 p0 p1 p2 p3 p4 p5 M L0 a5 R.2 a12 a28 a29 a31 a32 a34 a35 a36 a37 H locs ls q2 hP hD hS hl
set_option maxHeartbeats 4000000 in
set_option maxRecDepth 100000 in
theorem lc_tick {p : Program} {l : Launch} {e : Env} {s : State} {m : MethodId} {below : List Frame} {meth : Method} {c : Code} {D : va_G} {cI cJ cO : ClassId} {b h : Nat} {r v w : Nat → Nat} {hm : Nat} {rm : Nat → Nat} {L : Nat} {xs : Nat → Int32} {i T : Nat} (C : LC p s m c D cI cJ cO b L xs i) (hT : T + 60 < 2 ^ 28) (hk : LH p l e s m below meth c D cI cJ cO b h r v w hm rm 681 i (T + 60)) : LH p l e s m below meth c D cI cJ cO b h r v w hm rm 253 i T := by
  obtain ⟨hx, hb, hml, hown, hts, hX, hbl, hK, hN, hi, hL⟩ := C
  have hA : ∀ q : Nat, s.heap.size ≤ q → (fun q : Nat => s.heap.size ≤ q) q := fun _ h => h
  have hbA : ¬ (fun q : Nat => s.heap.size ≤ q) b := Nat.not_le.mpr hbl
  intro G S F P Q1 N n0 n1 n2 K k V E B0 U Z t0 w0 c0 p0 p1 p2 p3 p4 p5 M L0 a5 a6 a12 a28 a29 a31 a32 a34 a35 a36 a37 H locs ls hI hP hD hS hl
  refine lv_aload_n hx hb dL_law_253 rfl (lv_at hl 1 rfl) ?_
  refine lv_aload_n hx hb dL_law_254 rfl (lv_at hl 0 rfl) ?_
  refine lv_iload_n hx hb dL_law_255 rfl (lv_at hl 3 rfl) ?_
  refine lv_iconst (v := 1) hx hb dL_law_256 (by decide +kernel) ?_
  refine lv_iadd hx hb dL_law_257 ?_
  have j1 : vp_in (nI i + 1) L := by rw [show nI i + 1 = nI (i + 1) from nI_add i 1]; exact vp_in_nI (by omega) (by omega)
  refine va_sld hx hb hX hbl hbA hS j1 dL_law_258 ?_
  refine lv_topi (fun x1 ex1 => ?_)
  obtain ⟨A, eA⟩ : ∃ q, q = sp_X8_tick G S F P N n0 n1 n2 x1 := ⟨_, rfl⟩
  have hMA := c_X8_tick l D cI cJ cO h r (v 0) (v 1) (v 2) G S F P N n0 n1 n2 x1 hI.kn
  rw [← eA] at hMA
  refine k_Vi ⟨hx, hb, hml, hown, hts⟩ hMA (ci := 8) (q0 := 0) rfl rfl (cwV 1 hts gL_law_X8_tick rfl rfl rfl (by decide +kernel) ⟨Nat.le_of_ble_eq_true rfl, Nat.le_of_ble_eq_true rfl⟩) hK hN hP hD hS hA [0, 1, 2, 3, 5, 6, 7, 8] rfl rfl rfl (ws' := (WD cI cJ cO h r v w hm rm G S F A.2.1 Q1 A.2.2.1 A.2.2.2.1 A.2.2.2.2.1 A.2.2.2.2.2 K k V E B0 U Z t0 w0 c0 p0 p1 p2 p3 p4 p5 M L0 a5 a6 a12 a28 a29 a31 a32 a34 a35 a36 a37)) rfl rfl hl.1 rfl (Nat.le_of_ble_eq_true rfl) dL_law_259 ⟨Nat.le_of_ble_eq_true rfl, Nat.le_of_ble_eq_true rfl⟩ (fun H locs hP hD hS => ?_)
  refine lv_topi (fun zA ezA => ?_)
  refine lv_aload_n hx hb dL_law_262 rfl (lv_at hl 2 rfl) ?_
  refine lv_aload_n hx hb dL_law_263 rfl (lv_at hl 0 rfl) ?_
  refine lv_iload_n hx hb dL_law_264 rfl (lv_at hl 3 rfl) ?_
  refine lv_iconst (v := 1) hx hb dL_law_265 (by decide +kernel) ?_
  refine lv_iadd hx hb dL_law_266 ?_
  refine va_sld hx hb hX hbl hbA hS j1 dL_law_267 ?_
  rw [← ex1]
  obtain ⟨R, eR⟩ : ∃ q, q = sp_X9_tick M L0 a5 a6 a12 a28 a29 a31 x1 := ⟨_, rfl⟩
  have hMR := c_X9_tick l D cI cJ cO hm rm M L0 a5 a6 a12 a28 a29 a31 x1 (ticks_h9 (by omega) hI)
  rw [← eR] at hMR
  refine k_Vi ⟨hx, hb, hml, hown, hts⟩ hMR (ci := 9) (q0 := 26) rfl rfl (cwV 1 hts gL_law_X9_tick rfl rfl rfl (by decide +kernel) ⟨Nat.le_of_ble_eq_true rfl, Nat.le_of_ble_eq_true rfl⟩) hK hN hP hD hS hA [26, 27, 28, 29, 30, 31, 32] rfl rfl rfl (ws' := (WD cI cJ cO h r v w hm rm G S F A.2.1 Q1 A.2.2.1 A.2.2.2.1 A.2.2.2.2.1 A.2.2.2.2.2 K k V E B0 U Z t0 w0 c0 p0 p1 p2 p3 p4 p5 R.2.1 L0 a5 a6 R.2.2.1 R.2.2.2.1 R.2.2.2.2.1 R.2.2.2.2.2 a32 a34 a35 a36 a37)) rfl rfl hl.1 rfl (Nat.le_of_ble_eq_true rfl) dL_law_268 ⟨Nat.le_of_ble_eq_true rfl, Nat.le_of_ble_eq_true rfl⟩ (fun H locs hP hD hS => ?_)
  refine lv_topi (fun zR ezR => ?_)
  obtain ⟨q1, q2⟩ := tick_law (by omega) hI eA eR
  refine lv_icmp_eq (tgt := 681) hx hb dL_law_271 (by decide) (fun _ => ?_) (fun g => absurd (ezA.trans (q1.trans ezR.symm)) g)
  exact hk G S F A.2.1 Q1 A.2.2.1 A.2.2.2.1 A.2.2.2.2.1 A.2.2.2.2.2 K k V E B0 U Z t0 w0 c0 p0 p1 p2 p3 p4 p5 R.2.1 L0 a5 a6 R.2.2.1 R.2.2.2.1 R.2.2.2.2.1 R.2.2.2.2.2 a32 a34 a35 a36 a37 H locs ls q2 hP hD hS hl
set_option maxHeartbeats 4000000 in
set_option maxRecDepth 100000 in
theorem lc_ticks {p : Program} {l : Launch} {e : Env} {s : State} {m : MethodId} {below : List Frame} {meth : Method} {c : Code} {D : va_G} {cI cJ cO : ClassId} {b h : Nat} {r v w : Nat → Nat} {hm : Nat} {rm : Nat → Nat} {L : Nat} {xs : Nat → Int32} {i T : Nat} (C : LC p s m c D cI cJ cO b L xs i) (hT : T + 60 < 2 ^ 28) (hk : LH p l e s m below meth c D cI cJ cO b h r v w hm rm 681 i (T + 60)) : LH p l e s m below meth c D cI cJ cO b h r v w hm rm 276 i T := by
  obtain ⟨hx, hb, hml, hown, hts, hX, hbl, hK, hN, hi, hL⟩ := C
  have hA : ∀ q : Nat, s.heap.size ≤ q → (fun q : Nat => s.heap.size ≤ q) q := fun _ h => h
  have hbA : ¬ (fun q : Nat => s.heap.size ≤ q) b := Nat.not_le.mpr hbl
  intro G S F P Q1 N n0 n1 n2 K k V E B0 U Z t0 w0 c0 p0 p1 p2 p3 p4 p5 M L0 a5 a6 a12 a28 a29 a31 a32 a34 a35 a36 a37 H locs ls hI hP hD hS hl
  refine lv_aload_n hx hb dL_law_276 rfl (lv_at hl 1 rfl) ?_
  refine lv_aload_n hx hb dL_law_277 rfl (lv_at hl 0 rfl) ?_
  refine lv_iload_n hx hb dL_law_278 rfl (lv_at hl 3 rfl) ?_
  refine lv_iconst (v := 1) hx hb dL_law_279 (by decide +kernel) ?_
  refine lv_iadd hx hb dL_law_280 ?_
  have j1 : vp_in (nI i + 1) L := by rw [show nI i + 1 = nI (i + 1) from nI_add i 1]; exact vp_in_nI (by omega) (by omega)
  refine va_sld hx hb hX hbl hbA hS j1 dL_law_281 ?_
  refine lv_topi (fun x1 ex1 => ?_)
  refine lv_aload_n hx hb dL_law_282 rfl (lv_at hl 0 rfl) ?_
  refine lv_iload_n hx hb dL_law_283 rfl (lv_at hl 3 rfl) ?_
  refine lv_iconst (v := 2) hx hb dL_law_284 (by decide +kernel) ?_
  refine lv_iadd hx hb dL_law_285 ?_
  have j2 : vp_in (nI i + 2) L := by rw [show nI i + 2 = nI (i + 2) from nI_add i 2]; exact vp_in_nI (by omega) (by omega)
  refine va_sld hx hb hX hbl hbA hS j2 dL_law_286 ?_
  refine lv_topi (fun x2 ex2 => ?_)
  obtain ⟨A, eA⟩ : ∃ q, q = sp_X8_ticks G S F P N n0 n1 n2 x1 x2 := ⟨_, rfl⟩
  have hMA := c_X8_ticks l D cI cJ cO h r (v 0) (v 1) (v 2) G S F P N n0 n1 n2 x1 x2 (ticks_h8 (by omega) hI)
  rw [← eA] at hMA
  refine k_Vi ⟨hx, hb, hml, hown, hts⟩ hMA (ci := 8) (q0 := 0) rfl rfl (cwV 2 hts gL_law_X8_ticks rfl rfl rfl (by decide +kernel) ⟨Nat.le_of_ble_eq_true rfl, Nat.le_of_ble_eq_true rfl⟩) hK hN hP hD hS hA [0, 1, 2, 3, 5, 6, 7, 8] rfl rfl rfl (ws' := (WD cI cJ cO h r v w hm rm G S F A.2.1 Q1 A.2.2.1 A.2.2.2.1 A.2.2.2.2.1 A.2.2.2.2.2 K k V E B0 U Z t0 w0 c0 p0 p1 p2 p3 p4 p5 M L0 a5 a6 a12 a28 a29 a31 a32 a34 a35 a36 a37)) rfl rfl hl.1 rfl (Nat.le_of_ble_eq_true rfl) dL_law_287 ⟨Nat.le_of_ble_eq_true rfl, Nat.le_of_ble_eq_true rfl⟩ (fun H locs hP hD hS => ?_)
  refine lv_topi (fun zA ezA => ?_)
  refine lv_aload_n hx hb dL_law_290 rfl (lv_at hl 2 rfl) ?_
  refine lv_aload_n hx hb dL_law_291 rfl (lv_at hl 0 rfl) ?_
  refine lv_iload_n hx hb dL_law_292 rfl (lv_at hl 3 rfl) ?_
  refine lv_iconst (v := 1) hx hb dL_law_293 (by decide +kernel) ?_
  refine lv_iadd hx hb dL_law_294 ?_
  refine va_sld hx hb hX hbl hbA hS j1 dL_law_295 ?_
  rw [← ex1]
  refine lv_aload_n hx hb dL_law_296 rfl (lv_at hl 0 rfl) ?_
  refine lv_iload_n hx hb dL_law_297 rfl (lv_at hl 3 rfl) ?_
  refine lv_iconst (v := 2) hx hb dL_law_298 (by decide +kernel) ?_
  refine lv_iadd hx hb dL_law_299 ?_
  refine va_sld hx hb hX hbl hbA hS j2 dL_law_300 ?_
  rw [← ex2]
  obtain ⟨R, eR⟩ : ∃ q, q = sp_X9_ticks M L0 a5 a6 a12 a28 a29 a31 x1 x2 := ⟨_, rfl⟩
  have hMR := c_X9_ticks l D cI cJ cO hm rm M L0 a5 a6 a12 a28 a29 a31 x1 x2 (ticks_h9 (by omega) hI)
  rw [← eR] at hMR
  refine k_Vi ⟨hx, hb, hml, hown, hts⟩ hMR (ci := 9) (q0 := 26) rfl rfl (cwV 2 hts gL_law_X9_ticks rfl rfl rfl (by decide +kernel) ⟨Nat.le_of_ble_eq_true rfl, Nat.le_of_ble_eq_true rfl⟩) hK hN hP hD hS hA [26, 27, 28, 29, 30, 31, 32] rfl rfl rfl (ws' := (WD cI cJ cO h r v w hm rm G S F A.2.1 Q1 A.2.2.1 A.2.2.2.1 A.2.2.2.2.1 A.2.2.2.2.2 K k V E B0 U Z t0 w0 c0 p0 p1 p2 p3 p4 p5 R.2.1 L0 a5 a6 R.2.2.1 R.2.2.2.1 R.2.2.2.2.1 R.2.2.2.2.2 a32 a34 a35 a36 a37)) rfl rfl hl.1 rfl (Nat.le_of_ble_eq_true rfl) dL_law_301 ⟨Nat.le_of_ble_eq_true rfl, Nat.le_of_ble_eq_true rfl⟩ (fun H locs hP hD hS => ?_)
  refine lv_topi (fun zR ezR => ?_)
  obtain ⟨q1, q2⟩ := ticks_law (by omega) hI eA eR
  refine lv_icmp_eq (tgt := 681) hx hb dL_law_304 (by decide) (fun _ => ?_) (fun g => absurd (ezA.trans (q1.trans ezR.symm)) g)
  exact hk G S F A.2.1 Q1 A.2.2.1 A.2.2.2.1 A.2.2.2.2.1 A.2.2.2.2.2 K k V E B0 U Z t0 w0 c0 p0 p1 p2 p3 p4 p5 R.2.1 L0 a5 a6 R.2.2.1 R.2.2.2.1 R.2.2.2.2.1 R.2.2.2.2.2 a32 a34 a35 a36 a37 H locs ls q2 hP hD hS hl
