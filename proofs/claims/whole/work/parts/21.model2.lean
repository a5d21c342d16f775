def bd_X9_stateOf_56 (a12 : Nat → Int32) (i_3 : Nat) (x_4 : (Int64)) : (Int64) :=
  ((16 * x_4) + (((a12 i_3) : Int32).toInt64))
def sp_X9_stateOf (M : Nat → Int32) (L : Int64) (a12 : Nat → Int32) : Int64 :=
  let z_1 : Int64 := ((4 * (((M 7) : Int32).toInt64)) + (((M 8) : Int32).toInt64))
  let z_2 : Int64 := ((8 * ((16 * z_1) + (((M 9) : Int32).toInt64))) + (((M 10) : Int32).toInt64))
  let x_4 : (Int64) := lp (bd_X9_stateOf_56 a12) 3 ((32 * z_2) + (((M 11) : Int32).toInt64))
  let z_6 : Int64 := ((2 * ((16 * x_4) + (((M 13) : Int32).toInt64))) + (((M 14) : Int32).toInt64))
  let z_7 : Int64 := ((4 * ((32 * z_6) + (((M 15) : Int32).toInt64))) + (((M 16) : Int32).toInt64))
  ((2 * z_7) + (((M 17) : Int32).toInt64))
set_option maxRecDepth 100000 in
theorem sq_X9_stateOf_1 (M : Nat → Int32) (L : Int64) (a12 : Nat → Int32) (z_1 : Int64) (z_2 : Int64) (x_4 : (Int64)) (z_6 : Int64) (z_7 : Int64) (ez_1 : z_1 = ((4 * (((M 7) : Int32).toInt64)) + (((M 8) : Int32).toInt64))) (ez_2 : z_2 = ((8 * ((16 * z_1) + (((M 9) : Int32).toInt64))) + (((M 10) : Int32).toInt64))) (ex_4 : x_4 = lp (bd_X9_stateOf_56 a12) 3 ((32 * z_2) + (((M 11) : Int32).toInt64))) (ez_6 : z_6 = ((2 * ((16 * x_4) + (((M 13) : Int32).toInt64))) + (((M 14) : Int32).toInt64))) (ez_7 : z_7 = ((4 * ((32 * z_6) + (((M 15) : Int32).toInt64))) + (((M 16) : Int32).toInt64))) : sp_X9_stateOf M L a12 = ((2 * z_7) + (((M 17) : Int32).toInt64)) := by subst ez_7; subst ez_6; subst ex_4; subst ez_2; subst ez_1; rfl
set_option maxHeartbeats 4000000 in
set_option maxRecDepth 100000 in
theorem c_X9_stateOf (l : Launch) (D : va_G) (cI cJ cO : ClassId) (h : Nat) (r : Nat → Nat) (M : Nat → Int32) (L : Int64) (a12 : Nat → Int32)  : ML l D (TY cI cJ cO) yX9_stateOf wsX9_stateOf (RM 0) [.ref h] [(h, oX9 r M L), ((r 12), .inl (cI, 3, .inl a12))] (sp_X9_stateOf M L a12) [(h, oX9 r M L), ((r 12), .inl (cI, 3, .inl a12))] := by
  refine k_entL (cc := cX9_stateOf) (maxL := 4) (lv := [(0, .ref h)]) (by decide +kernel) rfl (Nat.le_of_ble_eq_true rfl) rfl ?_
  intro p e s m below meth c A Q ls hx hb hml hts hown hA hS hP hD hK hN hl hret
  have hown : s.vm.findClass RX9 = some m.cls := hown
  have hi9 : ∀ w ∈ wsX90, w ∈ wsX9_stateOf := fun w h => List.mem_cons_of_mem _ (List.mem_append_right _ h)
  have hf32 := hts (.fieldLink RX9 32 "PressGuardModel" "mode" "I") (by decide +kernel)
  have hf35 := hts (.fieldLink RX9 35 "PressGuardModel" "apart" "[I") (by decide +kernel)
  have hf74 := hts (.fieldLink RX9 74 "PressGuardModel" "hands" "I") (by decide +kernel)
  have hf77 := hts (.fieldLink RX9 77 "PressGuardModel" "since" "I") (by decide +kernel)
  have hf80 := hts (.fieldLink RX9 80 "PressGuardModel" "command" "I") (by decide +kernel)
  have hf83 := hts (.fieldLink RX9 83 "PressGuardModel" "unlike" "I") (by decide +kernel)
  have hf86 := hts (.fieldLink RX9 86 "PressGuardModel" "muting" "I") (by decide +kernel)
  have hf100 := hts (.fieldLink RX9 100 "PressGuardModel" "mutedFor" "I") (by decide +kernel)
  have hf113 := hts (.fieldLink RX9 113 "PressGuardModel" "wasReset" "I") (by decide +kernel)
  have hf130 := hts (.fieldLink RX9 130 "PressGuardModel" "position" "I") (by decide +kernel)
  have hf142 := hts (.fieldLink RX9 142 "PressGuardModel" "brake" "I") (by decide +kernel)
  refine lv_aload_n hx hb dX9_stateOf_0 rfl (lv_at hl 0 rfl) ?_
  refine k_get hx hb hts hi9 hown hK hP 0 rfl rfl 7 (by decide) hf32 (.int (M 7)) rfl dX9_stateOf_1 ?_
  refine lv_i2l (v := ((M 7) : Int32).toInt64) hx hb dX9_stateOf_4 rfl ?_
  refine lv_lstore_n (lv' := [(1, .long (((M 7) : Int32).toInt64)), (0, .ref h)]) hx hb dX9_stateOf_5 rfl hl (by decide) rfl (fun ls hl => ?_)
  refine lv_ldc2 hx hb hown (hts (.constantLong RX9 145 (4)) (by decide +kernel)) dX9_stateOf_6 ?_
  refine lv_lload_n hx hb dX9_stateOf_9 rfl (lv_at hl 0 rfl) ?_
  refine lv_lmul hx hb dX9_stateOf_10 ?_
  refine lv_aload_n hx hb dX9_stateOf_11 rfl (lv_at hl 1 rfl) ?_
  refine k_get hx hb hts hi9 hown hK hP 0 rfl rfl 8 (by decide) hf74 (.int (M 8)) rfl dX9_stateOf_12 ?_
  refine lv_i2l (v := ((M 8) : Int32).toInt64) hx hb dX9_stateOf_15 rfl ?_
  refine lv_ladd hx hb dX9_stateOf_16 ?_
  refine lv_topl (fun z_1 ez_1 => ?_)
  refine lv_lstore_n (lv' := [(1, .long z_1), (0, .ref h)]) hx hb dX9_stateOf_17 rfl hl (by decide) rfl (fun ls hl => ?_)
  refine lv_ldc2 hx hb hown (hts (.constantLong RX9 147 (16)) (by decide +kernel)) dX9_stateOf_18 ?_
  refine lv_lload_n hx hb dX9_stateOf_21 rfl (lv_at hl 0 rfl) ?_
  refine lv_lmul hx hb dX9_stateOf_22 ?_
  refine lv_aload_n hx hb dX9_stateOf_23 rfl (lv_at hl 1 rfl) ?_
  refine k_get hx hb hts hi9 hown hK hP 0 rfl rfl 9 (by decide) hf77 (.int (M 9)) rfl dX9_stateOf_24 ?_
  refine lv_i2l (v := ((M 9) : Int32).toInt64) hx hb dX9_stateOf_27 rfl ?_
  refine lv_ladd hx hb dX9_stateOf_28 ?_
  refine lv_lstore_n (lv' := [(1, .long ((16 * z_1) + (((M 9) : Int32).toInt64))), (0, .ref h)]) hx hb dX9_stateOf_29 rfl hl (by decide) rfl (fun ls hl => ?_)
  refine lv_ldc2 hx hb hown (hts (.constantLong RX9 149 (8)) (by decide +kernel)) dX9_stateOf_30 ?_
  refine lv_lload_n hx hb dX9_stateOf_33 rfl (lv_at hl 0 rfl) ?_
  refine lv_lmul hx hb dX9_stateOf_34 ?_
  refine lv_aload_n hx hb dX9_stateOf_35 rfl (lv_at hl 1 rfl) ?_
  refine k_get hx hb hts hi9 hown hK hP 0 rfl rfl 10 (by decide) hf86 (.int (M 10)) rfl dX9_stateOf_36 ?_
  refine lv_i2l (v := ((M 10) : Int32).toInt64) hx hb dX9_stateOf_39 rfl ?_
  refine lv_ladd hx hb dX9_stateOf_40 ?_
  refine lv_topl (fun z_2 ez_2 => ?_)
  refine lv_lstore_n (lv' := [(1, .long z_2), (0, .ref h)]) hx hb dX9_stateOf_41 rfl hl (by decide) rfl (fun ls hl => ?_)
  refine lv_ldc2 hx hb hown (hts (.constantLong RX9 151 (32)) (by decide +kernel)) dX9_stateOf_42 ?_
  refine lv_lload_n hx hb dX9_stateOf_45 rfl (lv_at hl 0 rfl) ?_
  refine lv_lmul hx hb dX9_stateOf_46 ?_
  refine lv_aload_n hx hb dX9_stateOf_47 rfl (lv_at hl 1 rfl) ?_
  refine k_get hx hb hts hi9 hown hK hP 0 rfl rfl 11 (by decide) hf100 (.int (M 11)) rfl dX9_stateOf_48 ?_
  refine lv_i2l (v := ((M 11) : Int32).toInt64) hx hb dX9_stateOf_51 rfl ?_
  refine lv_ladd hx hb dX9_stateOf_52 ?_
  refine lv_lstore_n (lv' := [(1, .long ((32 * z_2) + (((M 11) : Int32).toInt64))), (0, .ref h)]) hx hb dX9_stateOf_53 rfl hl (by decide) rfl (fun ls hl => ?_)
  refine lv_iconst (v := 0) hx hb dX9_stateOf_54 (by decide +kernel) ?_
  refine lv_istore_n (lv' := [(3, .int 0), (1, .long ((32 * z_2) + (((M 11) : Int32).toInt64))), (0, .ref h)]) hx hb dX9_stateOf_55 rfl hl (by decide) rfl (fun ls hl => ?_)
  obtain ⟨fx_4, hfx_4⟩ : ∃ f : Nat → (Int64) → (Int64), f = (bd_X9_stateOf_56 a12) := ⟨_, rfl⟩
  have hB_x_4 : (3 : Int32) = nI 3 := by decide +kernel
  have hN_x_4 : 3 < 2 ^ 31 := by decide
  have Lx_4 : ∀ (nn i_3 : Nat) (x_4 : (Int64)), 3 + 1 ≤ i_3 + nn → i_3 ≤ 3 → x_4 = lp fx_4 i_3 ((32 * z_2) + (((M 11) : Int32).toInt64)) → ∀ (H : Heap) (locs : List Loc), va_P D vwCl [(h, oX9 r M L), ((r 12), .inl (cI, 3, .inl a12))] H → va_D A [(h, oX9 r M L), ((r 12), .inl (cI, 3, .inl a12))] → va_S A s.heap H locs → ∀ ls : Array Slot, lv_has ls 4 [(0, .ref h), (1, .long x_4), (3, .int (nI i_3))] → W p l e (RM 0) s m ([.ref h] : List Value).toArray below meth c H locs 0 0 Q (F0 m 56 ls []) := by
    intro nn_x_4
    induction nn_x_4 with
    | zero => intro i_3 x_4 h1 h2; exact absurd h1 (by omega)
    | succ nn_x_4 ih_x_4 =>
      intro i_3 x_4 hn_x_4 hi_i_3 ex_x_4 H locs hP hD hS ls hl
      refine lv_iload_n hx hb dX9_stateOf_56 rfl (lv_at hl 2 rfl) ?_
      refine lv_iconst (v := 3) hx hb dX9_stateOf_57 (by decide +kernel) ?_
      refine lv_icmp_ge (tgt := 81) hx hb dX9_stateOf_58 (by decide) (fun c_5 => ?_) (fun c_5 => ?_)
      · skip
        have hq_x_4 : i_3 = 3 := k_eq hB_x_4 c_5 hi_i_3 hN_x_4
        have ex_4 : x_4 = lp (bd_X9_stateOf_56 a12) 3 ((32 * z_2) + (((M 11) : Int32).toInt64)) := by rw [ex_x_4, hfx_4, hq_x_4]
        refine lv_ldc2 hx hb hown (hts (.constantLong RX9 147 (16)) (by decide +kernel)) dX9_stateOf_81 ?_
        refine lv_lload_n hx hb dX9_stateOf_84 rfl (lv_at hl 1 rfl) ?_
        refine lv_lmul hx hb dX9_stateOf_85 ?_
        refine lv_aload_n hx hb dX9_stateOf_86 rfl (lv_at hl 0 rfl) ?_
        refine k_get hx hb hts hi9 hown hK hP 0 rfl rfl 13 (by decide) hf83 (.int (M 13)) rfl dX9_stateOf_87 ?_
        refine lv_i2l (v := ((M 13) : Int32).toInt64) hx hb dX9_stateOf_90 rfl ?_
        refine lv_ladd hx hb dX9_stateOf_91 ?_
        refine lv_lstore_n (lv' := [(1, .long ((16 * x_4) + (((M 13) : Int32).toInt64))), (0, .ref h), (3, .int (nI i_3))]) hx hb dX9_stateOf_92 rfl hl (by decide) rfl (fun ls hl => ?_)
        refine lv_ldc2 hx hb hown (hts (.constantLong RX9 153 (2)) (by decide +kernel)) dX9_stateOf_93 ?_
        refine lv_lload_n hx hb dX9_stateOf_96 rfl (lv_at hl 0 rfl) ?_
        refine lv_lmul hx hb dX9_stateOf_97 ?_
        refine lv_aload_n hx hb dX9_stateOf_98 rfl (lv_at hl 1 rfl) ?_
        refine k_get hx hb hts hi9 hown hK hP 0 rfl rfl 14 (by decide) hf80 (.int (M 14)) rfl dX9_stateOf_99 ?_
        refine lv_i2l (v := ((M 14) : Int32).toInt64) hx hb dX9_stateOf_102 rfl ?_
        refine lv_ladd hx hb dX9_stateOf_103 ?_
        refine lv_topl (fun z_6 ez_6 => ?_)
        refine lv_lstore_n (lv' := [(1, .long z_6), (0, .ref h), (3, .int (nI i_3))]) hx hb dX9_stateOf_104 rfl hl (by decide) rfl (fun ls hl => ?_)
        refine lv_ldc2 hx hb hown (hts (.constantLong RX9 151 (32)) (by decide +kernel)) dX9_stateOf_105 ?_
        refine lv_lload_n hx hb dX9_stateOf_108 rfl (lv_at hl 0 rfl) ?_
        refine lv_lmul hx hb dX9_stateOf_109 ?_
        refine lv_aload_n hx hb dX9_stateOf_110 rfl (lv_at hl 1 rfl) ?_
        refine k_get hx hb hts hi9 hown hK hP 0 rfl rfl 15 (by decide) hf130 (.int (M 15)) rfl dX9_stateOf_111 ?_
        refine lv_i2l (v := ((M 15) : Int32).toInt64) hx hb dX9_stateOf_114 rfl ?_
        refine lv_ladd hx hb dX9_stateOf_115 ?_
        refine lv_lstore_n (lv' := [(1, .long ((32 * z_6) + (((M 15) : Int32).toInt64))), (0, .ref h), (3, .int (nI i_3))]) hx hb dX9_stateOf_116 rfl hl (by decide) rfl (fun ls hl => ?_)
        refine lv_ldc2 hx hb hown (hts (.constantLong RX9 145 (4)) (by decide +kernel)) dX9_stateOf_117 ?_
        refine lv_lload_n hx hb dX9_stateOf_120 rfl (lv_at hl 0 rfl) ?_
        refine lv_lmul hx hb dX9_stateOf_121 ?_
        refine lv_aload_n hx hb dX9_stateOf_122 rfl (lv_at hl 1 rfl) ?_
        refine k_get hx hb hts hi9 hown hK hP 0 rfl rfl 16 (by decide) hf142 (.int (M 16)) rfl dX9_stateOf_123 ?_
        refine lv_i2l (v := ((M 16) : Int32).toInt64) hx hb dX9_stateOf_126 rfl ?_
        refine lv_ladd hx hb dX9_stateOf_127 ?_
        refine lv_topl (fun z_7 ez_7 => ?_)
        refine lv_lstore_n (lv' := [(1, .long z_7), (0, .ref h), (3, .int (nI i_3))]) hx hb dX9_stateOf_128 rfl hl (by decide) rfl (fun ls hl => ?_)
        refine lv_ldc2 hx hb hown (hts (.constantLong RX9 153 (2)) (by decide +kernel)) dX9_stateOf_129 ?_
        refine lv_lload_n hx hb dX9_stateOf_132 rfl (lv_at hl 0 rfl) ?_
        refine lv_lmul hx hb dX9_stateOf_133 ?_
        refine lv_aload_n hx hb dX9_stateOf_134 rfl (lv_at hl 1 rfl) ?_
        refine k_get hx hb hts hi9 hown hK hP 0 rfl rfl 17 (by decide) hf113 (.int (M 17)) rfl dX9_stateOf_135 ?_
        refine lv_i2l (v := ((M 17) : Int32).toInt64) hx hb dX9_stateOf_138 rfl ?_
        refine lv_ladd hx hb dX9_stateOf_139 ?_
        have hsp : sp_X9_stateOf M L a12 = ((2 * z_7) + (((M 17) : Int32).toInt64)) := sq_X9_stateOf_1 M L a12 z_1 z_2 x_4 z_6 z_7 ez_1 ez_2 ex_4 ez_6 ez_7
        exact hret _ _ _ _ _ (by rw [hsp]) hP hS dX9_stateOf_140
      · skip
        have hlt_i_3 : i_3 < 3 := k_lt hB_x_4 c_5 hi_i_3 hN_x_4
        refine lv_ldc2 hx hb hown (hts (.constantLong RX9 147 (16)) (by decide +kernel)) dX9_stateOf_61 ?_
        refine lv_lload_n hx hb dX9_stateOf_64 rfl (lv_at hl 1 rfl) ?_
        refine lv_lmul hx hb dX9_stateOf_65 ?_
        refine lv_aload_n hx hb dX9_stateOf_66 rfl (lv_at hl 0 rfl) ?_
        refine k_get hx hb hts hi9 hown hK hP 0 rfl rfl 12 (by decide) hf35 (.ref (r 12)) rfl dX9_stateOf_67 ?_
        refine lv_iload_n hx hb dX9_stateOf_70 rfl (lv_at hl 2 rfl) ?_
        refine k_iald hx hb hK hP 1 0 rfl rfl i_3 (nI_clamp (by omega)) (vp_in_nI (by omega) (by omega)) dX9_stateOf_71 ?_
        refine lv_i2l (v := ((a12 i_3) : Int32).toInt64) hx hb dX9_stateOf_72 rfl ?_
        refine lv_ladd hx hb dX9_stateOf_73 ?_
        refine lv_lstore_n (lv' := [(1, .long ((16 * x_4) + (((a12 i_3) : Int32).toInt64))), (0, .ref h), (3, .int (nI i_3))]) hx hb dX9_stateOf_74 rfl hl (by decide) rfl (fun ls hl => ?_)
        refine lv_iinc (v := (nI (i_3 + 1))) (lv' := [(3, .int (nI (i_3 + 1))), (1, .long ((16 * x_4) + (((a12 i_3) : Int32).toInt64))), (0, .ref h)]) hx hb dX9_stateOf_75 hl (k := 2) rfl (nI_1 i_3) (by decide) rfl (fun ls hl => ?_)
        refine lv_goto (tgt := 56) hx hb dX9_stateOf_78 (by decide) ?_
        exact ih_x_4 (i_3 + 1) ((16 * x_4) + (((a12 i_3) : Int32).toInt64)) (by omega) (by omega) (by rw [show lp fx_4 (i_3 + 1) ((32 * z_2) + (((M 11) : Int32).toInt64)) = fx_4 i_3 (lp fx_4 i_3 ((32 * z_2) + (((M 11) : Int32).toInt64))) from rfl, ← ex_x_4, hfx_4]; try (first | (rfl; done) | rfl)) _ _ hP hD hS _ (lv_sub hl [2, 1, 0] rfl)
  exact Lx_4 (3 + 1) 0 ((32 * z_2) + (((M 11) : Int32).toInt64)) (by omega) (Nat.zero_le _) rfl _ _ hP hD hS _ (lv_sub hl [2, 1, 0] rfl)

def sp_X9_takes (M : Nat → Int32) (L : Int64) (by0 : Int64) : Int32 × (Int64) :=
  let z_1 : Int64 := (L / by0)
  ((((L - L / by0 * by0) : Int64).toInt32), z_1)
set_option maxRecDepth 100000 in
theorem sq_X9_takes_1 (M : Nat → Int32) (L : Int64) (by0 : Int64) (z_1 : Int64) (ez_1 : z_1 = (L / by0)) : sp_X9_takes M L by0 = ((((L - L / by0 * by0) : Int64).toInt32), z_1) := by subst ez_1; rfl
set_option maxHeartbeats 4000000 in
set_option maxRecDepth 100000 in
theorem c_X9_takes (l : Launch) (D : va_G) (cI cJ cO : ClassId) (h : Nat) (r : Nat → Nat) (M : Nat → Int32) (L : Int64) (by0 : Int64) (hby : ¬ by0 = 0) : MI l D (TY cI cJ cO) yX9_takes wsX9_takes (RM 0) [.ref h, .long by0] [(h, oX9 r M L)] ((sp_X9_takes M L by0).1) [(h, oX9 r M ((sp_X9_takes M L by0).2))] := by
  refine k_entI (cc := cX9_takes) (maxL := 4) (lv := [(0, .ref h), (1, .long by0)]) (by decide +kernel) rfl (Nat.le_of_ble_eq_true rfl) rfl ?_
  intro p e s m below meth c A Q ls hx hb hml hts hown hA hS hP hD hK hN hl hret
  have hown : s.vm.findClass RX9 = some m.cls := hown
  have hi9 : ∀ w ∈ wsX90, w ∈ wsX9_takes := fun w h => List.mem_cons_of_mem _ (List.mem_append_right _ h)
  have hf155 := hts (.fieldLink RX9 155 "PressGuardModel" "left" "J") (by decide +kernel)
  refine lv_aload_n hx hb dX9_takes_0 rfl (lv_at hl 0 rfl) ?_
  refine k_get hx hb hts hi9 hown hK hP 0 rfl rfl 23 (by decide) hf155 (.long L) rfl dX9_takes_1 ?_
  refine lv_lload_n hx hb dX9_takes_4 rfl (lv_at hl 1 rfl) ?_
  refine lv_lrem hx hb dX9_takes_5 (hby) ?_
  refine lv_l2i (v := ((L - L / by0 * by0) : Int64).toInt32) hx hb dX9_takes_6 rfl ?_
  refine lv_istore_n (lv' := [(3, .int (((L - L / by0 * by0) : Int64).toInt32)), (0, .ref h), (1, .long by0)]) hx hb dX9_takes_7 rfl hl (by decide) rfl (fun ls hl => ?_)
  refine lv_aload_n hx hb dX9_takes_8 rfl (lv_at hl 1 rfl) ?_
  refine lv_dup hx hb dX9_takes_9 rfl ?_
  refine k_get hx hb hts hi9 hown hK hP 0 rfl rfl 23 (by decide) hf155 (.long L) rfl dX9_takes_10 ?_
  refine lv_lload_n hx hb dX9_takes_13 rfl (lv_at hl 2 rfl) ?_
  refine lv_ldiv hx hb dX9_takes_14 (hby) ?_
  refine lv_topl (fun z_1 ez_1 => ?_)
  refine k_put hx hb hts hi9 tyX9_ok nmX9 hown hK hP hD hS 0 rfl rfl 23 (by decide) hf155 rfl (.long z_1) rfl rfl (Nat.le_of_ble_eq_true rfl) (ws' := [(h, oX9 r M z_1)]) rfl dX9_takes_15 (fun H locs hP hD hS => ?_)
  refine lv_iload_n hx hb dX9_takes_18 rfl (lv_at hl 0 rfl) ?_
  have hsp : sp_X9_takes M L by0 = ((((L - L / by0 * by0) : Int64).toInt32), z_1) := sq_X9_takes_1 M L by0 z_1 ez_1
  exact hret _ _ _ _ _ (by rw [hsp]) rfl (by rw [hsp]; exact hP) hS dX9_takes_19

def sp_X9_becomes (M : Nat → Int32) (L : Int64) (a12 : Nat → Int32) (state : Int64) (cause : Int32) : (Nat → Int32) × (Int64) × (Nat → Int32) :=
  let L_1 : Int64 := ((sp_X9_takes M state 2).2)
  let z_2 : Int32 := ((sp_X9_takes M state 2).1)
  let L_3 : Int64 := ((sp_X9_takes (upd M 17 z_2) L_1 4).2)
  let z_4 : Int32 := ((sp_X9_takes (upd M 17 z_2) L_1 4).1)
  let L_5 : Int64 := ((sp_X9_takes (upd (upd M 16 z_4) 17 z_2) L_3 32).2)
  let z_6 : Int32 := ((sp_X9_takes (upd (upd M 16 z_4) 17 z_2) L_3 32).1)
  let L_7 : Int64 := ((sp_X9_takes (upd (upd (upd M 15 z_6) 16 z_4) 17 z_2) L_5 2).2)
  let z_8 : Int32 := ((sp_X9_takes (upd (upd (upd M 15 z_6) 16 z_4) 17 z_2) L_5 2).1)
  let M_9 : Nat → Int32 := (upd (upd (upd (upd M 14 z_8) 15 z_6) 16 z_4) 17 z_2)
  let L_10 : Int64 := ((sp_X9_takes M_9 L_7 16).2)
  let z_11 : Int32 := ((sp_X9_takes M_9 L_7 16).1)
  let L_12 : Int64 := ((sp_X9_takes (upd M_9 13 z_11) L_10 16).2)
  let z_13 : Int32 := ((sp_X9_takes (upd M_9 13 z_11) L_10 16).1)
  let L_14 : Int64 := ((sp_X9_takes (upd M_9 13 z_11) L_12 16).2)
  let z_15 : Int32 := ((sp_X9_takes (upd M_9 13 z_11) L_12 16).1)
  let L_16 : Int64 := ((sp_X9_takes (upd M_9 13 z_11) L_14 16).2)
  let z_17 : Int32 := ((sp_X9_takes (upd M_9 13 z_11) L_14 16).1)
  let L_18 : Int64 := ((sp_X9_takes (upd M_9 13 z_11) L_16 32).2)
  let z_19 : Int32 := ((sp_X9_takes (upd M_9 13 z_11) L_16 32).1)
  let L_20 : Int64 := ((sp_X9_takes (upd (upd M_9 11 z_19) 13 z_11) L_18 8).2)
  let z_21 : Int32 := ((sp_X9_takes (upd (upd M_9 11 z_19) 13 z_11) L_18 8).1)
  let M_22 : Nat → Int32 := (upd (upd (upd M_9 10 z_21) 11 z_19) 13 z_11)
  let L_23 : Int64 := ((sp_X9_takes M_22 L_20 16).2)
  let z_24 : Int32 := ((sp_X9_takes M_22 L_20 16).1)
  let L_25 : Int64 := ((sp_X9_takes (upd M_22 9 z_24) L_23 4).2)
  let z_26 : Int32 := ((sp_X9_takes (upd M_22 9 z_24) L_23 4).1)
  let z_27 : Int32 := ((L_25 : Int64).toInt32)
  ((upd (upd (upd (upd M_22 7 z_27) 8 z_26) 9 z_24) 18 cause), L_25, (upd (upd (upd a12 2 z_13) 1 z_15) 0 z_17))
set_option maxRecDepth 100000 in
theorem sq_X9_becomes_1 (M : Nat → Int32) (L : Int64) (a12 : Nat → Int32) (state : Int64) (cause : Int32) (L_1 : Int64) (z_2 : Int32) (L_3 : Int64) (z_4 : Int32) (L_5 : Int64) (z_6 : Int32) (L_7 : Int64) (z_8 : Int32) (M_9 : Nat → Int32) (L_10 : Int64) (z_11 : Int32) (L_12 : Int64) (z_13 : Int32) (L_14 : Int64) (z_15 : Int32) (L_16 : Int64) (z_17 : Int32) (L_18 : Int64) (z_19 : Int32) (L_20 : Int64) (z_21 : Int32) (M_22 : Nat → Int32) (L_23 : Int64) (z_24 : Int32) (L_25 : Int64) (z_26 : Int32) (z_27 : Int32) (eL_1 : L_1 = ((sp_X9_takes M state 2).2)) (ez_2 : z_2 = ((sp_X9_takes M state 2).1)) (eL_3 : L_3 = ((sp_X9_takes (upd M 17 z_2) L_1 4).2)) (ez_4 : z_4 = ((sp_X9_takes (upd M 17 z_2) L_1 4).1)) (eL_5 : L_5 = ((sp_X9_takes (upd (upd M 16 z_4) 17 z_2) L_3 32).2)) (ez_6 : z_6 = ((sp_X9_takes (upd (upd M 16 z_4) 17 z_2) L_3 32).1)) (eL_7 : L_7 = ((sp_X9_takes (upd (upd (upd M 15 z_6) 16 z_4) 17 z_2) L_5 2).2)) (ez_8 : z_8 = ((sp_X9_takes (upd (upd (upd M 15 z_6) 16 z_4) 17 z_2) L_5 2).1)) (eM_9 : M_9 = (upd (upd (upd (upd M 14 z_8) 15 z_6) 16 z_4) 17 z_2)) (eL_10 : L_10 = ((sp_X9_takes M_9 L_7 16).2)) (ez_11 : z_11 = ((sp_X9_takes M_9 L_7 16).1)) (eL_12 : L_12 = ((sp_X9_takes (upd M_9 13 z_11) L_10 16).2)) (ez_13 : z_13 = ((sp_X9_takes (upd M_9 13 z_11) L_10 16).1)) (eL_14 : L_14 = ((sp_X9_takes (upd M_9 13 z_11) L_12 16).2)) (ez_15 : z_15 = ((sp_X9_takes (upd M_9 13 z_11) L_12 16).1)) (eL_16 : L_16 = ((sp_X9_takes (upd M_9 13 z_11) L_14 16).2)) (ez_17 : z_17 = ((sp_X9_takes (upd M_9 13 z_11) L_14 16).1)) (eL_18 : L_18 = ((sp_X9_takes (upd M_9 13 z_11) L_16 32).2)) (ez_19 : z_19 = ((sp_X9_takes (upd M_9 13 z_11) L_16 32).1)) (eL_20 : L_20 = ((sp_X9_takes (upd (upd M_9 11 z_19) 13 z_11) L_18 8).2)) (ez_21 : z_21 = ((sp_X9_takes (upd (upd M_9 11 z_19) 13 z_11) L_18 8).1)) (eM_22 : M_22 = (upd (upd (upd M_9 10 z_21) 11 z_19) 13 z_11)) (eL_23 : L_23 = ((sp_X9_takes M_22 L_20 16).2)) (ez_24 : z_24 = ((sp_X9_takes M_22 L_20 16).1)) (eL_25 : L_25 = ((sp_X9_takes (upd M_22 9 z_24) L_23 4).2)) (ez_26 : z_26 = ((sp_X9_takes (upd M_22 9 z_24) L_23 4).1)) (ez_27 : z_27 = ((L_25 : Int64).toInt32)) : sp_X9_becomes M L a12 state cause = ((upd (upd (upd (upd M_22 7 z_27) 8 z_26) 9 z_24) 18 cause), L_25, (upd (upd (upd a12 2 z_13) 1 z_15) 0 z_17)) := by subst ez_27; subst ez_26; subst eL_25; subst ez_24; subst eL_23; subst eM_22; subst ez_21; subst eL_20; subst ez_19; subst eL_18; subst ez_17; subst eL_16; subst ez_15; subst eL_14; subst ez_13; subst eL_12; subst ez_11; subst eL_10; subst eM_9; subst ez_8; subst eL_7; subst ez_6; subst eL_5; subst ez_4; subst eL_3; subst ez_2; subst eL_1; rfl
set_option maxHeartbeats 4000000 in
set_option maxRecDepth 100000 in
theorem c_X9_becomes (l : Launch) (D : va_G) (cI cJ cO : ClassId) (h : Nat) (r : Nat → Nat) (M : Nat → Int32) (L : Int64) (a12 : Nat → Int32) (state : Int64) (cause : Int32)  : MV l D (TY cI cJ cO) yX9_becomes wsX9_becomes (RM 1) [.ref h, .long state, .int cause] [(h, oX9 r M L), ((r 12), .inl (cI, 3, .inl a12))] [(h, oX9 r ((sp_X9_becomes M L a12 state cause).1) ((sp_X9_becomes M L a12 state cause).2.1)), ((r 12), .inl (cI, 3, .inl ((sp_X9_becomes M L a12 state cause).2.2)))] := by
  refine k_entV (cc := cX9_becomes) (maxL := 5) (lv := [(0, .ref h), (1, .long state), (3, .int cause)]) (by decide +kernel) rfl (Nat.le_of_ble_eq_true rfl) rfl ?_
  intro p e s m below meth c A Q ls hx hb hml hts hown hA hS hP hD hK hN hl hret
  have hown : s.vm.findClass RX9 = some m.cls := hown
  have hi9 : ∀ w ∈ wsX90, w ∈ wsX9_becomes := fun w h => List.mem_cons_of_mem _ (List.mem_append_right _ h)
  have hf32 := hts (.fieldLink RX9 32 "PressGuardModel" "mode" "I") (by decide +kernel)
  have hf35 := hts (.fieldLink RX9 35 "PressGuardModel" "apart" "[I") (by decide +kernel)
  have hf38 := hts (.fieldLink RX9 38 "PressGuardModel" "lockedBy" "I") (by decide +kernel)
  have hf74 := hts (.fieldLink RX9 74 "PressGuardModel" "hands" "I") (by decide +kernel)
  have hf77 := hts (.fieldLink RX9 77 "PressGuardModel" "since" "I") (by decide +kernel)
  have hf80 := hts (.fieldLink RX9 80 "PressGuardModel" "command" "I") (by decide +kernel)
  have hf83 := hts (.fieldLink RX9 83 "PressGuardModel" "unlike" "I") (by decide +kernel)
  have hf86 := hts (.fieldLink RX9 86 "PressGuardModel" "muting" "I") (by decide +kernel)
  have hf100 := hts (.fieldLink RX9 100 "PressGuardModel" "mutedFor" "I") (by decide +kernel)
  have hf113 := hts (.fieldLink RX9 113 "PressGuardModel" "wasReset" "I") (by decide +kernel)
  have hf130 := hts (.fieldLink RX9 130 "PressGuardModel" "position" "I") (by decide +kernel)
  have hf142 := hts (.fieldLink RX9 142 "PressGuardModel" "brake" "I") (by decide +kernel)
  have hf155 := hts (.fieldLink RX9 155 "PressGuardModel" "left" "J") (by decide +kernel)
  refine lv_aload_n hx hb dX9_becomes_0 rfl (lv_at hl 0 rfl) ?_
  refine lv_lload_n hx hb dX9_becomes_1 rfl (lv_at hl 1 rfl) ?_
  refine k_put hx hb hts hi9 tyX9_ok nmX9 hown hK hP hD hS 0 rfl rfl 23 (by decide) hf155 rfl (.long state) rfl rfl (Nat.le_of_ble_eq_true rfl) (ws' := [(h, oX9 r M state), ((r 12), .inl (cI, 3, .inl a12))]) rfl dX9_becomes_2 (fun H locs hP hD hS => ?_)
  refine lv_aload_n hx hb dX9_becomes_5 rfl (lv_at hl 0 rfl) ?_
  refine lv_aload_n hx hb dX9_becomes_6 rfl (lv_at hl 0 rfl) ?_
  refine lv_ldc2 hx hb hown (hts (.constantLong RX9 153 (2)) (by decide +kernel)) dX9_becomes_7 ?_
  obtain ⟨L_1, eL_1⟩ : ∃ q : Int64, q = ((sp_X9_takes M state 2).2) := ⟨_, rfl⟩
  refine k_Vi ⟨hx, hb, hml, hown, hts⟩ (c_X9_takes l D cI cJ cO h r M state 2 (by decide +kernel)) (ci := 9) (q0 := 0) rfl rfl (cwV 1 hts gX9_becomes_X9_takes rfl rfl rfl (by decide +kernel) ⟨Nat.le_of_ble_eq_true rfl, Nat.le_of_ble_eq_true rfl⟩) hK hN hP hD hS hA [0] rfl rfl rfl (ws' := [(h, oX9 r M L_1), ((r 12), .inl (cI, 3, .inl a12))]) (by rw [eL_1]; rfl) rfl hl.1 rfl (Nat.le_of_ble_eq_true rfl) dX9_becomes_10 ⟨Nat.le_refl _, Nat.le_refl _⟩ (fun H locs hP hD hS => ?_)
  refine lv_topi (fun z_2 ez_2 => ?_)
  refine k_put hx hb hts hi9 tyX9_ok nmX9 hown hK hP hD hS 0 rfl rfl 17 (by decide) hf113 rfl (.int z_2) rfl rfl (Nat.le_of_ble_eq_true rfl) (ws' := [(h, oX9 r (upd M 17 z_2) L_1), ((r 12), .inl (cI, 3, .inl a12))]) rfl dX9_becomes_13 (fun H locs hP hD hS => ?_)
  refine lv_aload_n hx hb dX9_becomes_16 rfl (lv_at hl 0 rfl) ?_
  refine lv_aload_n hx hb dX9_becomes_17 rfl (lv_at hl 0 rfl) ?_
  refine lv_ldc2 hx hb hown (hts (.constantLong RX9 145 (4)) (by decide +kernel)) dX9_becomes_18 ?_
  obtain ⟨L_3, eL_3⟩ : ∃ q : Int64, q = ((sp_X9_takes (upd M 17 z_2) L_1 4).2) := ⟨_, rfl⟩
  refine k_Vi ⟨hx, hb, hml, hown, hts⟩ (c_X9_takes l D cI cJ cO h r (upd M 17 z_2) L_1 4 (by decide +kernel)) (ci := 9) (q0 := 0) rfl rfl (cwV 1 hts gX9_becomes_X9_takes rfl rfl rfl (by decide +kernel) ⟨Nat.le_of_ble_eq_true rfl, Nat.le_of_ble_eq_true rfl⟩) hK hN hP hD hS hA [0] rfl rfl rfl (ws' := [(h, oX9 r (upd M 17 z_2) L_3), ((r 12), .inl (cI, 3, .inl a12))]) (by rw [eL_3]; rfl) rfl hl.1 rfl (Nat.le_of_ble_eq_true rfl) dX9_becomes_21 ⟨Nat.le_refl _, Nat.le_refl _⟩ (fun H locs hP hD hS => ?_)
  refine lv_topi (fun z_4 ez_4 => ?_)
  refine k_put hx hb hts hi9 tyX9_ok nmX9 hown hK hP hD hS 0 rfl rfl 16 (by decide) hf142 rfl (.int z_4) rfl rfl (Nat.le_of_ble_eq_true rfl) (ws' := [(h, oX9 r (upd (upd M 16 z_4) 17 z_2) L_3), ((r 12), .inl (cI, 3, .inl a12))]) rfl dX9_becomes_24 (fun H locs hP hD hS => ?_)
  refine lv_aload_n hx hb dX9_becomes_27 rfl (lv_at hl 0 rfl) ?_
  refine lv_aload_n hx hb dX9_becomes_28 rfl (lv_at hl 0 rfl) ?_
  refine lv_ldc2 hx hb hown (hts (.constantLong RX9 151 (32)) (by decide +kernel)) dX9_becomes_29 ?_
  obtain ⟨L_5, eL_5⟩ : ∃ q : Int64, q = ((sp_X9_takes (upd (upd M 16 z_4) 17 z_2) L_3 32).2) := ⟨_, rfl⟩
  refine k_Vi ⟨hx, hb, hml, hown, hts⟩ (c_X9_takes l D cI cJ cO h r (upd (upd M 16 z_4) 17 z_2) L_3 32 (by decide +kernel)) (ci := 9) (q0 := 0) rfl rfl (cwV 1 hts gX9_becomes_X9_takes rfl rfl rfl (by decide +kernel) ⟨Nat.le_of_ble_eq_true rfl, Nat.le_of_ble_eq_true rfl⟩) hK hN hP hD hS hA [0] rfl rfl rfl (ws' := [(h, oX9 r (upd (upd M 16 z_4) 17 z_2) L_5), ((r 12), .inl (cI, 3, .inl a12))]) (by rw [eL_5]; rfl) rfl hl.1 rfl (Nat.le_of_ble_eq_true rfl) dX9_becomes_32 ⟨Nat.le_refl _, Nat.le_refl _⟩ (fun H locs hP hD hS => ?_)
  refine lv_topi (fun z_6 ez_6 => ?_)
  refine k_put hx hb hts hi9 tyX9_ok nmX9 hown hK hP hD hS 0 rfl rfl 15 (by decide) hf130 rfl (.int z_6) rfl rfl (Nat.le_of_ble_eq_true rfl) (ws' := [(h, oX9 r (upd (upd (upd M 15 z_6) 16 z_4) 17 z_2) L_5), ((r 12), .inl (cI, 3, .inl a12))]) rfl dX9_becomes_35 (fun H locs hP hD hS => ?_)
  refine lv_aload_n hx hb dX9_becomes_38 rfl (lv_at hl 0 rfl) ?_
  refine lv_aload_n hx hb dX9_becomes_39 rfl (lv_at hl 0 rfl) ?_
  refine lv_ldc2 hx hb hown (hts (.constantLong RX9 153 (2)) (by decide +kernel)) dX9_becomes_40 ?_
  obtain ⟨L_7, eL_7⟩ : ∃ q : Int64, q = ((sp_X9_takes (upd (upd (upd M 15 z_6) 16 z_4) 17 z_2) L_5 2).2) := ⟨_, rfl⟩
  refine k_Vi ⟨hx, hb, hml, hown, hts⟩ (c_X9_takes l D cI cJ cO h r (upd (upd (upd M 15 z_6) 16 z_4) 17 z_2) L_5 2 (by decide +kernel)) (ci := 9) (q0 := 0) rfl rfl (cwV 1 hts gX9_becomes_X9_takes rfl rfl rfl (by decide +kernel) ⟨Nat.le_of_ble_eq_true rfl, Nat.le_of_ble_eq_true rfl⟩) hK hN hP hD hS hA [0] rfl rfl rfl (ws' := [(h, oX9 r (upd (upd (upd M 15 z_6) 16 z_4) 17 z_2) L_7), ((r 12), .inl (cI, 3, .inl a12))]) (by rw [eL_7]; rfl) rfl hl.1 rfl (Nat.le_of_ble_eq_true rfl) dX9_becomes_43 ⟨Nat.le_refl _, Nat.le_refl _⟩ (fun H locs hP hD hS => ?_)
  refine lv_topi (fun z_8 ez_8 => ?_)
  refine k_put hx hb hts hi9 tyX9_ok nmX9 hown hK hP hD hS 0 rfl rfl 14 (by decide) hf80 rfl (.int z_8) rfl rfl (Nat.le_of_ble_eq_true rfl) (ws' := [(h, oX9 r (upd (upd (upd (upd M 14 z_8) 15 z_6) 16 z_4) 17 z_2) L_7), ((r 12), .inl (cI, 3, .inl a12))]) rfl dX9_becomes_46 (fun H locs hP hD hS => ?_)
  refine lv_aload_n hx hb dX9_becomes_49 rfl (lv_at hl 0 rfl) ?_
  refine lv_aload_n hx hb dX9_becomes_50 rfl (lv_at hl 0 rfl) ?_
  refine lv_ldc2 hx hb hown (hts (.constantLong RX9 147 (16)) (by decide +kernel)) dX9_becomes_51 ?_
  obtain ⟨M_9, eM_9⟩ : ∃ q : Nat → Int32, q = (upd (upd (upd (upd M 14 z_8) 15 z_6) 16 z_4) 17 z_2) := ⟨_, rfl⟩
  rw [← eM_9] at hP hD
  obtain ⟨L_10, eL_10⟩ : ∃ q : Int64, q = ((sp_X9_takes M_9 L_7 16).2) := ⟨_, rfl⟩
  refine k_Vi ⟨hx, hb, hml, hown, hts⟩ (c_X9_takes l D cI cJ cO h r M_9 L_7 16 (by decide +kernel)) (ci := 9) (q0 := 0) rfl rfl (cwV 1 hts gX9_becomes_X9_takes rfl rfl rfl (by decide +kernel) ⟨Nat.le_of_ble_eq_true rfl, Nat.le_of_ble_eq_true rfl⟩) hK hN hP hD hS hA [0] rfl rfl rfl (ws' := [(h, oX9 r M_9 L_10), ((r 12), .inl (cI, 3, .inl a12))]) (by rw [eL_10]; rfl) rfl hl.1 rfl (Nat.le_of_ble_eq_true rfl) dX9_becomes_54 ⟨Nat.le_refl _, Nat.le_refl _⟩ (fun H locs hP hD hS => ?_)
  refine lv_topi (fun z_11 ez_11 => ?_)
  refine k_put hx hb hts hi9 tyX9_ok nmX9 hown hK hP hD hS 0 rfl rfl 13 (by decide) hf83 rfl (.int z_11) rfl rfl (Nat.le_of_ble_eq_true rfl) (ws' := [(h, oX9 r (upd M_9 13 z_11) L_10), ((r 12), .inl (cI, 3, .inl a12))]) rfl dX9_becomes_57 (fun H locs hP hD hS => ?_)
  refine lv_iconst (v := 2) hx hb dX9_becomes_60 (by decide +kernel) ?_
  refine lv_istore (lv' := [(4, .int 2), (0, .ref h), (1, .long state), (3, .int cause)]) hx hb dX9_becomes_61 hl (by decide) rfl (fun ls hl => ?_)
  refine lv_iload hx hb dX9_becomes_63 (lv_at hl 0 rfl) ?_
  refine lv_if_lt (tgt := 88) hx hb dX9_becomes_65 (by decide) (fun q => absurd q (by decide +kernel)) (fun _ => ?_)
  refine lv_aload_n hx hb dX9_becomes_68 rfl (lv_at hl 1 rfl) ?_
  refine k_get hx hb hts hi9 hown hK hP 0 rfl rfl 12 (by decide) hf35 (.ref (r 12)) rfl dX9_becomes_69 ?_
  refine lv_iload hx hb dX9_becomes_72 (lv_at hl 0 rfl) ?_
  refine lv_aload_n hx hb dX9_becomes_74 rfl (lv_at hl 1 rfl) ?_
  refine lv_ldc2 hx hb hown (hts (.constantLong RX9 147 (16)) (by decide +kernel)) dX9_becomes_75 ?_
  obtain ⟨L_12, eL_12⟩ : ∃ q : Int64, q = ((sp_X9_takes (upd M_9 13 z_11) L_10 16).2) := ⟨_, rfl⟩
  refine k_Vi ⟨hx, hb, hml, hown, hts⟩ (c_X9_takes l D cI cJ cO h r (upd M_9 13 z_11) L_10 16 (by decide +kernel)) (ci := 9) (q0 := 0) rfl rfl (cwV 1 hts gX9_becomes_X9_takes rfl rfl rfl (by decide +kernel) ⟨Nat.le_of_ble_eq_true rfl, Nat.le_of_ble_eq_true rfl⟩) hK hN hP hD hS hA [0] rfl rfl rfl (ws' := [(h, oX9 r (upd M_9 13 z_11) L_12), ((r 12), .inl (cI, 3, .inl a12))]) (by rw [eL_12]; rfl) rfl hl.1 rfl (Nat.le_of_ble_eq_true rfl) dX9_becomes_78 ⟨Nat.le_refl _, Nat.le_refl _⟩ (fun H locs hP hD hS => ?_)
  refine lv_topi (fun z_13 ez_13 => ?_)
  refine k_iast hx hb hK hP hD hS 1 0 rfl rfl 2 (by decide +kernel) (vp_in_iff.mpr (by decide +kernel)) (ws' := [(h, oX9 r (upd M_9 13 z_11) L_12), ((r 12), .inl (cI, 3, .inl (upd a12 2 z_13)))]) rfl dX9_becomes_81 (fun H locs hP hD hS => ?_)
  refine lv_iinc (v := 1) (lv' := [(4, .int 1), (0, .ref h), (1, .long state), (3, .int cause)]) hx hb dX9_becomes_82 hl (k := 0) rfl (by decide +kernel) (by decide) rfl (fun ls hl => ?_)
  refine lv_goto (tgt := 63) hx hb dX9_becomes_85 (by decide) ?_
  refine lv_iload hx hb dX9_becomes_63 (lv_at hl 0 rfl) ?_
  refine lv_if_lt (tgt := 88) hx hb dX9_becomes_65 (by decide) (fun q => absurd q (by decide +kernel)) (fun _ => ?_)
  refine lv_aload_n hx hb dX9_becomes_68 rfl (lv_at hl 1 rfl) ?_
  refine k_get hx hb hts hi9 hown hK hP 0 rfl rfl 12 (by decide) hf35 (.ref (r 12)) rfl dX9_becomes_69 ?_
  refine lv_iload hx hb dX9_becomes_72 (lv_at hl 0 rfl) ?_
  refine lv_aload_n hx hb dX9_becomes_74 rfl (lv_at hl 1 rfl) ?_
  refine lv_ldc2 hx hb hown (hts (.constantLong RX9 147 (16)) (by decide +kernel)) dX9_becomes_75 ?_
  obtain ⟨L_14, eL_14⟩ : ∃ q : Int64, q = ((sp_X9_takes (upd M_9 13 z_11) L_12 16).2) := ⟨_, rfl⟩
  refine k_Vi ⟨hx, hb, hml, hown, hts⟩ (c_X9_takes l D cI cJ cO h r (upd M_9 13 z_11) L_12 16 (by decide +kernel)) (ci := 9) (q0 := 0) rfl rfl (cwV 1 hts gX9_becomes_X9_takes rfl rfl rfl (by decide +kernel) ⟨Nat.le_of_ble_eq_true rfl, Nat.le_of_ble_eq_true rfl⟩) hK hN hP hD hS hA [0] rfl rfl rfl (ws' := [(h, oX9 r (upd M_9 13 z_11) L_14), ((r 12), .inl (cI, 3, .inl (upd a12 2 z_13)))]) (by rw [eL_14]; rfl) rfl hl.1 rfl (Nat.le_of_ble_eq_true rfl) dX9_becomes_78 ⟨Nat.le_refl _, Nat.le_refl _⟩ (fun H locs hP hD hS => ?_)
  refine lv_topi (fun z_15 ez_15 => ?_)
  refine k_iast hx hb hK hP hD hS 1 0 rfl rfl 1 (by decide +kernel) (vp_in_iff.mpr (by decide +kernel)) (ws' := [(h, oX9 r (upd M_9 13 z_11) L_14), ((r 12), .inl (cI, 3, .inl (upd (upd a12 2 z_13) 1 z_15)))]) rfl dX9_becomes_81 (fun H locs hP hD hS => ?_)
  refine lv_iinc (v := 0) (lv' := [(4, .int 0), (0, .ref h), (1, .long state), (3, .int cause)]) hx hb dX9_becomes_82 hl (k := 0) rfl (by decide +kernel) (by decide) rfl (fun ls hl => ?_)
  refine lv_goto (tgt := 63) hx hb dX9_becomes_85 (by decide) ?_
  refine lv_iload hx hb dX9_becomes_63 (lv_at hl 0 rfl) ?_
  refine lv_if_lt (tgt := 88) hx hb dX9_becomes_65 (by decide) (fun q => absurd q (by decide +kernel)) (fun _ => ?_)
  refine lv_aload_n hx hb dX9_becomes_68 rfl (lv_at hl 1 rfl) ?_
  refine k_get hx hb hts hi9 hown hK hP 0 rfl rfl 12 (by decide) hf35 (.ref (r 12)) rfl dX9_becomes_69 ?_
  refine lv_iload hx hb dX9_becomes_72 (lv_at hl 0 rfl) ?_
  refine lv_aload_n hx hb dX9_becomes_74 rfl (lv_at hl 1 rfl) ?_
  refine lv_ldc2 hx hb hown (hts (.constantLong RX9 147 (16)) (by decide +kernel)) dX9_becomes_75 ?_
  obtain ⟨L_16, eL_16⟩ : ∃ q : Int64, q = ((sp_X9_takes (upd M_9 13 z_11) L_14 16).2) := ⟨_, rfl⟩
  refine k_Vi ⟨hx, hb, hml, hown, hts⟩ (c_X9_takes l D cI cJ cO h r (upd M_9 13 z_11) L_14 16 (by decide +kernel)) (ci := 9) (q0 := 0) rfl rfl (cwV 1 hts gX9_becomes_X9_takes rfl rfl rfl (by decide +kernel) ⟨Nat.le_of_ble_eq_true rfl, Nat.le_of_ble_eq_true rfl⟩) hK hN hP hD hS hA [0] rfl rfl rfl (ws' := [(h, oX9 r (upd M_9 13 z_11) L_16), ((r 12), .inl (cI, 3, .inl (upd (upd a12 2 z_13) 1 z_15)))]) (by rw [eL_16]; rfl) rfl hl.1 rfl (Nat.le_of_ble_eq_true rfl) dX9_becomes_78 ⟨Nat.le_refl _, Nat.le_refl _⟩ (fun H locs hP hD hS => ?_)
  refine lv_topi (fun z_17 ez_17 => ?_)
  refine k_iast hx hb hK hP hD hS 1 0 rfl rfl 0 (by decide +kernel) (vp_in_iff.mpr (by decide +kernel)) (ws' := [(h, oX9 r (upd M_9 13 z_11) L_16), ((r 12), .inl (cI, 3, .inl (upd (upd (upd a12 2 z_13) 1 z_15) 0 z_17)))]) rfl dX9_becomes_81 (fun H locs hP hD hS => ?_)
  refine lv_iinc (v := (-1)) (lv' := [(4, .int (-1)), (0, .ref h), (1, .long state), (3, .int cause)]) hx hb dX9_becomes_82 hl (k := 0) rfl (by decide +kernel) (by decide) rfl (fun ls hl => ?_)
  refine lv_goto (tgt := 63) hx hb dX9_becomes_85 (by decide) ?_
  refine lv_iload hx hb dX9_becomes_63 (lv_at hl 0 rfl) ?_
  refine lv_if_lt (tgt := 88) hx hb dX9_becomes_65 (by decide) (fun _ => ?_) (fun q => absurd q (by decide +kernel))
  refine lv_aload_n hx hb dX9_becomes_88 rfl (lv_at hl 1 rfl) ?_
  refine lv_aload_n hx hb dX9_becomes_89 rfl (lv_at hl 1 rfl) ?_
  refine lv_ldc2 hx hb hown (hts (.constantLong RX9 151 (32)) (by decide +kernel)) dX9_becomes_90 ?_
  obtain ⟨L_18, eL_18⟩ : ∃ q : Int64, q = ((sp_X9_takes (upd M_9 13 z_11) L_16 32).2) := ⟨_, rfl⟩
  refine k_Vi ⟨hx, hb, hml, hown, hts⟩ (c_X9_takes l D cI cJ cO h r (upd M_9 13 z_11) L_16 32 (by decide +kernel)) (ci := 9) (q0 := 0) rfl rfl (cwV 1 hts gX9_becomes_X9_takes rfl rfl rfl (by decide +kernel) ⟨Nat.le_of_ble_eq_true rfl, Nat.le_of_ble_eq_true rfl⟩) hK hN hP hD hS hA [0] rfl rfl rfl (ws' := [(h, oX9 r (upd M_9 13 z_11) L_18), ((r 12), .inl (cI, 3, .inl (upd (upd (upd a12 2 z_13) 1 z_15) 0 z_17)))]) (by rw [eL_18]; rfl) rfl hl.1 rfl (Nat.le_of_ble_eq_true rfl) dX9_becomes_93 ⟨Nat.le_refl _, Nat.le_refl _⟩ (fun H locs hP hD hS => ?_)
  refine lv_topi (fun z_19 ez_19 => ?_)
  refine k_put hx hb hts hi9 tyX9_ok nmX9 hown hK hP hD hS 0 rfl rfl 11 (by decide) hf100 rfl (.int z_19) rfl rfl (Nat.le_of_ble_eq_true rfl) (ws' := [(h, oX9 r (upd (upd M_9 11 z_19) 13 z_11) L_18), ((r 12), .inl (cI, 3, .inl (upd (upd (upd a12 2 z_13) 1 z_15) 0 z_17)))]) rfl dX9_becomes_96 (fun H locs hP hD hS => ?_)
  refine lv_aload_n hx hb dX9_becomes_99 rfl (lv_at hl 1 rfl) ?_
  refine lv_aload_n hx hb dX9_becomes_100 rfl (lv_at hl 1 rfl) ?_
  refine lv_ldc2 hx hb hown (hts (.constantLong RX9 149 (8)) (by decide +kernel)) dX9_becomes_101 ?_
  obtain ⟨L_20, eL_20⟩ : ∃ q : Int64, q = ((sp_X9_takes (upd (upd M_9 11 z_19) 13 z_11) L_18 8).2) := ⟨_, rfl⟩
  refine k_Vi ⟨hx, hb, hml, hown, hts⟩ (c_X9_takes l D cI cJ cO h r (upd (upd M_9 11 z_19) 13 z_11) L_18 8 (by decide +kernel)) (ci := 9) (q0 := 0) rfl rfl (cwV 1 hts gX9_becomes_X9_takes rfl rfl rfl (by decide +kernel) ⟨Nat.le_of_ble_eq_true rfl, Nat.le_of_ble_eq_true rfl⟩) hK hN hP hD hS hA [0] rfl rfl rfl (ws' := [(h, oX9 r (upd (upd M_9 11 z_19) 13 z_11) L_20), ((r 12), .inl (cI, 3, .inl (upd (upd (upd a12 2 z_13) 1 z_15) 0 z_17)))]) (by rw [eL_20]; rfl) rfl hl.1 rfl (Nat.le_of_ble_eq_true rfl) dX9_becomes_104 ⟨Nat.le_refl _, Nat.le_refl _⟩ (fun H locs hP hD hS => ?_)
  refine lv_topi (fun z_21 ez_21 => ?_)
  refine k_put hx hb hts hi9 tyX9_ok nmX9 hown hK hP hD hS 0 rfl rfl 10 (by decide) hf86 rfl (.int z_21) rfl rfl (Nat.le_of_ble_eq_true rfl) (ws' := [(h, oX9 r (upd (upd (upd M_9 10 z_21) 11 z_19) 13 z_11) L_20), ((r 12), .inl (cI, 3, .inl (upd (upd (upd a12 2 z_13) 1 z_15) 0 z_17)))]) rfl dX9_becomes_107 (fun H locs hP hD hS => ?_)
  refine lv_aload_n hx hb dX9_becomes_110 rfl (lv_at hl 1 rfl) ?_
  refine lv_aload_n hx hb dX9_becomes_111 rfl (lv_at hl 1 rfl) ?_
  refine lv_ldc2 hx hb hown (hts (.constantLong RX9 147 (16)) (by decide +kernel)) dX9_becomes_112 ?_
  obtain ⟨M_22, eM_22⟩ : ∃ q : Nat → Int32, q = (upd (upd (upd M_9 10 z_21) 11 z_19) 13 z_11) := ⟨_, rfl⟩
  rw [← eM_22] at hP hD
  obtain ⟨L_23, eL_23⟩ : ∃ q : Int64, q = ((sp_X9_takes M_22 L_20 16).2) := ⟨_, rfl⟩
  refine k_Vi ⟨hx, hb, hml, hown, hts⟩ (c_X9_takes l D cI cJ cO h r M_22 L_20 16 (by decide +kernel)) (ci := 9) (q0 := 0) rfl rfl (cwV 1 hts gX9_becomes_X9_takes rfl rfl rfl (by decide +kernel) ⟨Nat.le_of_ble_eq_true rfl, Nat.le_of_ble_eq_true rfl⟩) hK hN hP hD hS hA [0] rfl rfl rfl (ws' := [(h, oX9 r M_22 L_23), ((r 12), .inl (cI, 3, .inl (upd (upd (upd a12 2 z_13) 1 z_15) 0 z_17)))]) (by rw [eL_23]; rfl) rfl hl.1 rfl (Nat.le_of_ble_eq_true rfl) dX9_becomes_115 ⟨Nat.le_refl _, Nat.le_refl _⟩ (fun H locs hP hD hS => ?_)
  refine lv_topi (fun z_24 ez_24 => ?_)
  refine k_put hx hb hts hi9 tyX9_ok nmX9 hown hK hP hD hS 0 rfl rfl 9 (by decide) hf77 rfl (.int z_24) rfl rfl (Nat.le_of_ble_eq_true rfl) (ws' := [(h, oX9 r (upd M_22 9 z_24) L_23), ((r 12), .inl (cI, 3, .inl (upd (upd (upd a12 2 z_13) 1 z_15) 0 z_17)))]) rfl dX9_becomes_118 (fun H locs hP hD hS => ?_)
  refine lv_aload_n hx hb dX9_becomes_121 rfl (lv_at hl 1 rfl) ?_
  refine lv_aload_n hx hb dX9_becomes_122 rfl (lv_at hl 1 rfl) ?_
  refine lv_ldc2 hx hb hown (hts (.constantLong RX9 145 (4)) (by decide +kernel)) dX9_becomes_123 ?_
  obtain ⟨L_25, eL_25⟩ : ∃ q : Int64, q = ((sp_X9_takes (upd M_22 9 z_24) L_23 4).2) := ⟨_, rfl⟩
  refine k_Vi ⟨hx, hb, hml, hown, hts⟩ (c_X9_takes l D cI cJ cO h r (upd M_22 9 z_24) L_23 4 (by decide +kernel)) (ci := 9) (q0 := 0) rfl rfl (cwV 1 hts gX9_becomes_X9_takes rfl rfl rfl (by decide +kernel) ⟨Nat.le_of_ble_eq_true rfl, Nat.le_of_ble_eq_true rfl⟩) hK hN hP hD hS hA [0] rfl rfl rfl (ws' := [(h, oX9 r (upd M_22 9 z_24) L_25), ((r 12), .inl (cI, 3, .inl (upd (upd (upd a12 2 z_13) 1 z_15) 0 z_17)))]) (by rw [eL_25]; rfl) rfl hl.1 rfl (Nat.le_of_ble_eq_true rfl) dX9_becomes_126 ⟨Nat.le_refl _, Nat.le_refl _⟩ (fun H locs hP hD hS => ?_)
  refine lv_topi (fun z_26 ez_26 => ?_)
  refine k_put hx hb hts hi9 tyX9_ok nmX9 hown hK hP hD hS 0 rfl rfl 8 (by decide) hf74 rfl (.int z_26) rfl rfl (Nat.le_of_ble_eq_true rfl) (ws' := [(h, oX9 r (upd (upd M_22 8 z_26) 9 z_24) L_25), ((r 12), .inl (cI, 3, .inl (upd (upd (upd a12 2 z_13) 1 z_15) 0 z_17)))]) rfl dX9_becomes_129 (fun H locs hP hD hS => ?_)
  refine lv_aload_n hx hb dX9_becomes_132 rfl (lv_at hl 1 rfl) ?_
  refine lv_aload_n hx hb dX9_becomes_133 rfl (lv_at hl 1 rfl) ?_
  refine k_get hx hb hts hi9 hown hK hP 0 rfl rfl 23 (by decide) hf155 (.long L_25) rfl dX9_becomes_134 ?_
  refine lv_l2i (v := (L_25 : Int64).toInt32) hx hb dX9_becomes_137 rfl ?_
  refine lv_topi (fun z_27 ez_27 => ?_)
  refine k_put hx hb hts hi9 tyX9_ok nmX9 hown hK hP hD hS 0 rfl rfl 7 (by decide) hf32 rfl (.int z_27) rfl rfl (Nat.le_of_ble_eq_true rfl) (ws' := [(h, oX9 r (upd (upd (upd M_22 7 z_27) 8 z_26) 9 z_24) L_25), ((r 12), .inl (cI, 3, .inl (upd (upd (upd a12 2 z_13) 1 z_15) 0 z_17)))]) rfl dX9_becomes_138 (fun H locs hP hD hS => ?_)
  refine lv_aload_n hx hb dX9_becomes_141 rfl (lv_at hl 1 rfl) ?_
  refine lv_iload_n hx hb dX9_becomes_142 rfl (lv_at hl 3 rfl) ?_
  refine k_put hx hb hts hi9 tyX9_ok nmX9 hown hK hP hD hS 0 rfl rfl 18 (by decide) hf38 rfl (.int cause) rfl rfl (Nat.le_of_ble_eq_true rfl) (ws' := [(h, oX9 r (upd (upd (upd (upd M_22 7 z_27) 8 z_26) 9 z_24) 18 cause) L_25), ((r 12), .inl (cI, 3, .inl (upd (upd (upd a12 2 z_13) 1 z_15) 0 z_17)))]) rfl dX9_becomes_143 (fun H locs hP hD hS => ?_)
  have hsp : sp_X9_becomes M L a12 state cause = ((upd (upd (upd (upd M_22 7 z_27) 8 z_26) 9 z_24) 18 cause), L_25, (upd (upd (upd a12 2 z_13) 1 z_15) 0 z_17)) := sq_X9_becomes_1 M L a12 state cause L_1 z_2 L_3 z_4 L_5 z_6 L_7 z_8 M_9 L_10 z_11 L_12 z_13 L_14 z_15 L_16 z_17 L_18 z_19 L_20 z_21 M_22 L_23 z_24 L_25 z_26 z_27 eL_1 ez_2 eL_3 ez_4 eL_5 ez_6 eL_7 ez_8 eM_9 eL_10 ez_11 eL_12 ez_13 eL_14 ez_15 eL_16 ez_17 eL_18 ez_19 eL_20 ez_21 eM_22 eL_23 ez_24 eL_25 ez_26 ez_27
  exact hret _ _ _ _ (by rw [hsp]; exact hP) hS dX9_becomes_146

def sp_X9_begins (M : Nat → Int32) (L : Int64) (a12 : Nat → Int32) : (Nat → Int32) × (Int64) × (Nat → Int32) :=
  let M_1 : Nat → Int32 := ((sp_X9_becomes M L a12 0 (-9)).1)
  let L_2 : Int64 := ((sp_X9_becomes M L a12 0 (-9)).2.1)
  let a_3 : Nat → Int32 := ((sp_X9_becomes M L a12 0 (-9)).2.2)
  ((upd M_1 7 1), L_2, a_3)
set_option maxRecDepth 100000 in
theorem sq_X9_begins_1 (M : Nat → Int32) (L : Int64) (a12 : Nat → Int32) (M_1 : Nat → Int32) (L_2 : Int64) (a_3 : Nat → Int32) (eM_1 : M_1 = ((sp_X9_becomes M L a12 0 (-9)).1)) (eL_2 : L_2 = ((sp_X9_becomes M L a12 0 (-9)).2.1)) (ea_3 : a_3 = ((sp_X9_becomes M L a12 0 (-9)).2.2)) : sp_X9_begins M L a12 = ((upd M_1 7 1), L_2, a_3) := by subst ea_3; subst eL_2; subst eM_1; rfl
set_option maxHeartbeats 4000000 in
set_option maxRecDepth 100000 in
theorem c_X9_begins (l : Launch) (D : va_G) (cI cJ cO : ClassId) (h : Nat) (r : Nat → Nat) (M : Nat → Int32) (L : Int64) (a12 : Nat → Int32)  : MV l D (TY cI cJ cO) yX9_begins wsX9_begins (RM 2) [.ref h] [(h, oX9 r M L), ((r 12), .inl (cI, 3, .inl a12))] [(h, oX9 r ((sp_X9_begins M L a12).1) ((sp_X9_begins M L a12).2.1)), ((r 12), .inl (cI, 3, .inl ((sp_X9_begins M L a12).2.2)))] := by
  refine k_entV (cc := cX9_begins) (maxL := 1) (lv := [(0, .ref h)]) (by decide +kernel) rfl (Nat.le_of_ble_eq_true rfl) rfl ?_
  intro p e s m below meth c A Q ls hx hb hml hts hown hA hS hP hD hK hN hl hret
  have hown : s.vm.findClass RX9 = some m.cls := hown
  have hi9 : ∀ w ∈ wsX90, w ∈ wsX9_begins := fun w h => List.mem_cons_of_mem _ (List.mem_append_right _ h)
  have hf32 := hts (.fieldLink RX9 32 "PressGuardModel" "mode" "I") (by decide +kernel)
  refine lv_aload_n hx hb dX9_begins_0 rfl (lv_at hl 0 rfl) ?_
  refine lv_lconst (v := 0) hx hb dX9_begins_1 (by decide +kernel) ?_
  refine lv_bipush (v := (-9)) hx hb dX9_begins_2 (by decide +kernel) ?_
  obtain ⟨M_1, eM_1⟩ : ∃ q : Nat → Int32, q = ((sp_X9_becomes M L a12 0 (-9)).1) := ⟨_, rfl⟩
  obtain ⟨L_2, eL_2⟩ : ∃ q : Int64, q = ((sp_X9_becomes M L a12 0 (-9)).2.1) := ⟨_, rfl⟩
  obtain ⟨a_3, ea_3⟩ : ∃ q : Nat → Int32, q = ((sp_X9_becomes M L a12 0 (-9)).2.2) := ⟨_, rfl⟩
  refine k_Vv ⟨hx, hb, hml, hown, hts⟩ (c_X9_becomes l D cI cJ cO h r M L a12 0 (-9)) (ci := 9) (q0 := 0) rfl rfl (cwV 2 hts gX9_begins_X9_becomes rfl rfl rfl (by decide +kernel) ⟨Nat.le_of_ble_eq_true rfl, Nat.le_of_ble_eq_true rfl⟩) hK hN hP hD hS hA [0, 1] rfl rfl rfl (ws' := [(h, oX9 r M_1 L_2), ((r 12), .inl (cI, 3, .inl a_3))]) (by rw [eM_1, eL_2, ea_3]; rfl) rfl hl.1 rfl (Nat.le_of_ble_eq_true rfl) dX9_begins_4 ⟨Nat.le_refl _, Nat.le_refl _⟩ (fun H locs hP hD hS => ?_)
  refine lv_aload_n hx hb dX9_begins_7 rfl (lv_at hl 0 rfl) ?_
  refine lv_iconst (v := 1) hx hb dX9_begins_8 (by decide +kernel) ?_
  refine k_put hx hb hts hi9 tyX9_ok nmX9 hown hK hP hD hS 0 rfl rfl 7 (by decide) hf32 rfl (.int 1) rfl rfl (Nat.le_of_ble_eq_true rfl) (ws' := [(h, oX9 r (upd M_1 7 1) L_2), ((r 12), .inl (cI, 3, .inl a_3))]) rfl dX9_begins_9 (fun H locs hP hD hS => ?_)
  have hsp : sp_X9_begins M L a12 = ((upd M_1 7 1), L_2, a_3) := sq_X9_begins_1 M L a12 M_1 L_2 a_3 eM_1 eL_2 ea_3
  exact hret _ _ _ _ (by rw [hsp]; exact hP) hS dX9_begins_12

def sp_X9_modeOf (M : Nat → Int32) (L : Int64) (state : Int64) : Int32 :=
  (((state >>> ((39 : Int32).toInt64 &&& 63)) : Int64).toInt32)
set_option maxHeartbeats 4000000 in
set_option maxRecDepth 100000 in
theorem c_X9_modeOf (l : Launch) (D : va_G) (cI cJ cO : ClassId) (h : Nat) (r : Nat → Nat) (M : Nat → Int32) (L : Int64) (state : Int64)  : MI l D (TY cI cJ cO) yX9_modeOf wsX9_modeOf (RM 0) [.ref h, .long state] [(h, oX9 r M L)] (sp_X9_modeOf M L state) [(h, oX9 r M L)] := by
  refine k_entI (cc := cX9_modeOf) (maxL := 3) (lv := [(0, .ref h), (1, .long state)]) (by decide +kernel) rfl (Nat.le_of_ble_eq_true rfl) rfl ?_
  intro p e s m below meth c A Q ls hx hb hml hts hown hA hS hP hD hK hN hl hret
  have hown : s.vm.findClass RX9 = some m.cls := hown
  refine lv_lload_n hx hb dX9_modeOf_0 rfl (lv_at hl 1 rfl) ?_
  refine lv_bipush (v := 39) hx hb dX9_modeOf_1 (by decide +kernel) ?_
  refine lv_lshr (v := (state >>> ((39 : Int32).toInt64 &&& 63))) hx hb dX9_modeOf_3 rfl ?_
  refine lv_l2i (v := ((state >>> ((39 : Int32).toInt64 &&& 63)) : Int64).toInt32) hx hb dX9_modeOf_4 rfl ?_
  have hsp : sp_X9_modeOf M L state = (((state >>> ((39 : Int32).toInt64 &&& 63)) : Int64).toInt32) := rfl
  exact hret _ _ _ _ _ (by rw [hsp]) rfl hP hS dX9_modeOf_5

def bd_X9_anew_83 (i_6 : Nat) (x_7 : (Nat → Int32)) : (Nat → Int32) :=
  (upd x_7 i_6 2)
def bd_X9_anew_150 (i_13 : Nat) (x_14 : (Nat → Int32)) : (Nat → Int32) :=
  (upd x_14 i_13 0)
def bd_X9_anew_177 (i_16 : Nat) (x_17 : (Nat → Int32)) : (Nat → Int32) :=
  (upd x_17 i_16 0)
def sp_X9_anew (M : Nat → Int32) (L : Int64) (a5 : Nat → Int32) (a6 : Nat → Int32) (a12 : Nat → Int32) (a28 : Nat → Int32) (a31 : Nat → Int32) (p0 : Int32) (s0 : Int32) (l0 : Int32) (o0 : Int32) (b0 : Int32) : Int32 × (Nat → Int32) × (Int64) × (Nat → Int32) × (Nat → Int32) × (Nat → Int32) × (Nat → Int32) × (Nat → Int32) :=
  (if (sp_X9_within p0 0 5) = 0 then
    ((-2), M, L, a5, a6, a12, a28, a31)
  else
    (if (sp_X9_within s0 1 9) = 0 then
      ((-2), M, L, a5, a6, a12, a28, a31)
    else
      (if (sp_X9_within l0 1 30) = 0 then
        ((-2), M, L, a5, a6, a12, a28, a31)
      else
        (if (sp_X9_within o0 0 3) = 0 then
          ((-2), M, L, a5, a6, a12, a28, a31)
        else
          (if (sp_X9_within b0 2 9) = 0 then
            ((-2), M, L, a5, a6, a12, a28, a31)
          else
            let x_7 : (Nat → Int32) := lp bd_X9_anew_83 9 a5
            let M_9 : Nat → Int32 := (upd (upd (upd (upd (upd M 0 p0) 1 s0) 2 l0) 3 o0) 4 b0)
            let M_10 : Nat → Int32 := ((sp_X9_begins M_9 L a12).1)
            let L_11 : Int64 := ((sp_X9_begins M_9 L a12).2.1)
            let a_12 : Nat → Int32 := ((sp_X9_begins M_9 L a12).2.2)
            let x_14 : (Nat → Int32) := lp bd_X9_anew_150 90 a28
            let x_17 : (Nat → Int32) := lp bd_X9_anew_177 5 a31
            (1, (upd (upd (upd (upd (upd M_10 24 0) 25 0) 26 0) 27 0) 30 0), L_11, x_7, (upd (upd a6 0 2) 1 2), a_12, x_14, x_17))))))
set_option maxRecDepth 100000 in
theorem sq_X9_anew_1 (M : Nat → Int32) (L : Int64) (a5 : Nat → Int32) (a6 : Nat → Int32) (a12 : Nat → Int32) (a28 : Nat → Int32) (a31 : Nat → Int32) (p0 : Int32) (s0 : Int32) (l0 : Int32) (o0 : Int32) (b0 : Int32) (x_7 : (Nat → Int32)) (M_9 : Nat → Int32) (M_10 : Nat → Int32) (L_11 : Int64) (a_12 : Nat → Int32) (x_14 : (Nat → Int32)) (x_17 : (Nat → Int32)) (ex_7 : x_7 = lp bd_X9_anew_83 9 a5) (eM_9 : M_9 = (upd (upd (upd (upd (upd M 0 p0) 1 s0) 2 l0) 3 o0) 4 b0)) (eM_10 : M_10 = ((sp_X9_begins M_9 L a12).1)) (eL_11 : L_11 = ((sp_X9_begins M_9 L a12).2.1)) (ea_12 : a_12 = ((sp_X9_begins M_9 L a12).2.2)) (ex_14 : x_14 = lp bd_X9_anew_150 90 a28) (ex_17 : x_17 = lp bd_X9_anew_177 5 a31) (c_1 : ¬ ((sp_X9_within p0 0 5) = 0)) (c_2 : ¬ ((sp_X9_within s0 1 9) = 0)) (c_3 : ¬ ((sp_X9_within l0 1 30) = 0)) (c_4 : ¬ ((sp_X9_within o0 0 3) = 0)) (c_5 : ¬ ((sp_X9_within b0 2 9) = 0)) : sp_X9_anew M L a5 a6 a12 a28 a31 p0 s0 l0 o0 b0 = (1, (upd (upd (upd (upd (upd M_10 24 0) 25 0) 26 0) 27 0) 30 0), L_11, x_7, (upd (upd a6 0 2) 1 2), a_12, x_14, x_17) := by subst ex_17; subst ex_14; subst ea_12; subst eL_11; subst eM_10; subst eM_9; subst ex_7; simp only [sp_X9_anew, if_neg c_1, if_neg c_2, if_neg c_3, if_neg c_4, if_neg c_5]
set_option maxHeartbeats 4000000 in
set_option maxRecDepth 100000 in
theorem c_X9_anew (l : Launch) (D : va_G) (cI cJ cO : ClassId) (h : Nat) (r : Nat → Nat) (M : Nat → Int32) (L : Int64) (a5 : Nat → Int32) (a6 : Nat → Int32) (a12 : Nat → Int32) (a28 : Nat → Int32) (a31 : Nat → Int32) (p0 : Int32) (s0 : Int32) (l0 : Int32) (o0 : Int32) (b0 : Int32)  : MI l D (TY cI cJ cO) yX9_anew wsX9_anew (RM 3) [.ref h, .int p0, .int s0, .int l0, .int o0, .int b0] [(h, oX9 r M L), ((r 5), .inl (cI, 9, .inl a5)), ((r 6), .inl (cI, 2, .inl a6)), ((r 12), .inl (cI, 3, .inl a12)), ((r 28), .inl (cI, 90, .inl a28)), ((r 31), .inl (cI, 5, .inl a31))] ((sp_X9_anew M L a5 a6 a12 a28 a31 p0 s0 l0 o0 b0).1) [(h, oX9 r ((sp_X9_anew M L a5 a6 a12 a28 a31 p0 s0 l0 o0 b0).2.1) ((sp_X9_anew M L a5 a6 a12 a28 a31 p0 s0 l0 o0 b0).2.2.1)), ((r 5), .inl (cI, 9, .inl ((sp_X9_anew M L a5 a6 a12 a28 a31 p0 s0 l0 o0 b0).2.2.2.1))), ((r 6), .inl (cI, 2, .inl ((sp_X9_anew M L a5 a6 a12 a28 a31 p0 s0 l0 o0 b0).2.2.2.2.1))), ((r 12), .inl (cI, 3, .inl ((sp_X9_anew M L a5 a6 a12 a28 a31 p0 s0 l0 o0 b0).2.2.2.2.2.1))), ((r 28), .inl (cI, 90, .inl ((sp_X9_anew M L a5 a6 a12 a28 a31 p0 s0 l0 o0 b0).2.2.2.2.2.2.1))), ((r 31), .inl (cI, 5, .inl ((sp_X9_anew M L a5 a6 a12 a28 a31 p0 s0 l0 o0 b0).2.2.2.2.2.2.2)))] := by
  refine k_entI (cc := cX9_anew) (maxL := 7) (lv := [(0, .ref h), (1, .int p0), (2, .int s0), (3, .int l0), (4, .int o0), (5, .int b0)]) (by decide +kernel) rfl (Nat.le_of_ble_eq_true rfl) rfl ?_
  intro p e s m below meth c A Q ls hx hb hml hts hown hA hS hP hD hK hN hl hret
  have hown : s.vm.findClass RX9 = some m.cls := hown
  have hi9 : ∀ w ∈ wsX90, w ∈ wsX9_anew := fun w h => List.mem_cons_of_mem _ (List.mem_append_right _ h)
  have hf7 := hts (.fieldLink RX9 7 "PressGuardModel" "patience" "I") (by decide +kernel)
  have hf13 := hts (.fieldLink RX9 13 "PressGuardModel" "span" "I") (by decide +kernel)
  have hf16 := hts (.fieldLink RX9 16 "PressGuardModel" "limit" "I") (by decide +kernel)
  have hf19 := hts (.fieldLink RX9 19 "PressGuardModel" "overrun" "I") (by decide +kernel)
  have hf22 := hts (.fieldLink RX9 22 "PressGuardModel" "bottom" "I") (by decide +kernel)
  have hf25 := hts (.fieldLink RX9 25 "PressGuardModel" "stuck" "[I") (by decide +kernel)
  have hf29 := hts (.fieldLink RX9 29 "PressGuardModel" "valves" "[I") (by decide +kernel)
  have hf41 := hts (.fieldLink RX9 41 "PressGuardModel" "lockedAt" "[I") (by decide +kernel)
  have hf47 := hts (.fieldLink RX9 47 "PressGuardModel" "behind" "[I") (by decide +kernel)
  have hf170 := hts (.fieldLink RX9 170 "PressGuardModel" "ticks" "I") (by decide +kernel)
  have hf173 := hts (.fieldLink RX9 173 "PressGuardModel" "dangers" "I") (by decide +kernel)
  have hf176 := hts (.fieldLink RX9 176 "PressGuardModel" "rounds" "I") (by decide +kernel)
  have hf179 := hts (.fieldLink RX9 179 "PressGuardModel" "locks" "I") (by decide +kernel)
  have hf182 := hts (.fieldLink RX9 182 "PressGuardModel" "manyCauses" "I") (by decide +kernel)
  refine lv_iload_n hx hb dX9_anew_0 rfl (lv_at hl 1 rfl) ?_
  refine lv_iconst (v := 0) hx hb dX9_anew_1 (by decide +kernel) ?_
  refine lv_iconst (v := 5) hx hb dX9_anew_2 (by decide +kernel) ?_
  refine k_Si ⟨hx, hb, hml, hown, hts⟩ (c_X9_within l D cI cJ cO p0 0 5) (va_cwS 3 hts gX9_anew_X9_within rfl rfl rfl (by decide +kernel) ⟨Nat.le_of_ble_eq_true rfl, Nat.le_of_ble_eq_true rfl⟩) hK hN hP hD hS hA [] rfl rfl rfl (ws' := [(h, oX9 r M L), ((r 5), .inl (cI, 9, .inl a5)), ((r 6), .inl (cI, 2, .inl a6)), ((r 12), .inl (cI, 3, .inl a12)), ((r 28), .inl (cI, 90, .inl a28)), ((r 31), .inl (cI, 5, .inl a31))]) rfl rfl hl.1 rfl (Nat.le_of_ble_eq_true rfl) dX9_anew_3 ⟨Nat.le_refl _, Nat.le_refl _⟩ (fun H locs hP hD hS => ?_)
  refine lv_if_eq (tgt := 50) hx hb dX9_anew_6 (by decide) (fun c_1 => ?_) (fun c_1 => ?_)
  · skip
    refine lv_bipush (v := (-2)) hx hb dX9_anew_50 (by decide +kernel) ?_
    have hsp : sp_X9_anew M L a5 a6 a12 a28 a31 p0 s0 l0 o0 b0 = ((-2), M, L, a5, a6, a12, a28, a31) := by simp only [sp_X9_anew, if_pos c_1]
    exact hret _ _ _ _ _ (by rw [hsp]) rfl (by rw [hsp]; exact hP) hS dX9_anew_52
  · skip
    refine lv_iload_n hx hb dX9_anew_9 rfl (lv_at hl 2 rfl) ?_
    refine lv_iconst (v := 1) hx hb dX9_anew_10 (by decide +kernel) ?_
    refine lv_bipush (v := 9) hx hb dX9_anew_11 (by decide +kernel) ?_
    refine k_Si ⟨hx, hb, hml, hown, hts⟩ (c_X9_within l D cI cJ cO s0 1 9) (va_cwS 3 hts gX9_anew_X9_within rfl rfl rfl (by decide +kernel) ⟨Nat.le_of_ble_eq_true rfl, Nat.le_of_ble_eq_true rfl⟩) hK hN hP hD hS hA [] rfl rfl rfl (ws' := [(h, oX9 r M L), ((r 5), .inl (cI, 9, .inl a5)), ((r 6), .inl (cI, 2, .inl a6)), ((r 12), .inl (cI, 3, .inl a12)), ((r 28), .inl (cI, 90, .inl a28)), ((r 31), .inl (cI, 5, .inl a31))]) rfl rfl hl.1 rfl (Nat.le_of_ble_eq_true rfl) dX9_anew_13 ⟨Nat.le_refl _, Nat.le_refl _⟩ (fun H locs hP hD hS => ?_)
    refine lv_if_eq (tgt := 50) hx hb dX9_anew_16 (by decide) (fun c_2 => ?_) (fun c_2 => ?_)
    · skip
      refine lv_bipush (v := (-2)) hx hb dX9_anew_50 (by decide +kernel) ?_
      have hsp : sp_X9_anew M L a5 a6 a12 a28 a31 p0 s0 l0 o0 b0 = ((-2), M, L, a5, a6, a12, a28, a31) := by simp only [sp_X9_anew, if_neg c_1, if_pos c_2]
      exact hret _ _ _ _ _ (by rw [hsp]) rfl (by rw [hsp]; exact hP) hS dX9_anew_52
    · skip
      refine lv_iload_n hx hb dX9_anew_19 rfl (lv_at hl 3 rfl) ?_
      refine lv_iconst (v := 1) hx hb dX9_anew_20 (by decide +kernel) ?_
      refine lv_bipush (v := 30) hx hb dX9_anew_21 (by decide +kernel) ?_
      refine k_Si ⟨hx, hb, hml, hown, hts⟩ (c_X9_within l D cI cJ cO l0 1 30) (va_cwS 3 hts gX9_anew_X9_within rfl rfl rfl (by decide +kernel) ⟨Nat.le_of_ble_eq_true rfl, Nat.le_of_ble_eq_true rfl⟩) hK hN hP hD hS hA [] rfl rfl rfl (ws' := [(h, oX9 r M L), ((r 5), .inl (cI, 9, .inl a5)), ((r 6), .inl (cI, 2, .inl a6)), ((r 12), .inl (cI, 3, .inl a12)), ((r 28), .inl (cI, 90, .inl a28)), ((r 31), .inl (cI, 5, .inl a31))]) rfl rfl hl.1 rfl (Nat.le_of_ble_eq_true rfl) dX9_anew_23 ⟨Nat.le_refl _, Nat.le_refl _⟩ (fun H locs hP hD hS => ?_)
      refine lv_if_eq (tgt := 50) hx hb dX9_anew_26 (by decide) (fun c_3 => ?_) (fun c_3 => ?_)
      · skip
        refine lv_bipush (v := (-2)) hx hb dX9_anew_50 (by decide +kernel) ?_
        have hsp : sp_X9_anew M L a5 a6 a12 a28 a31 p0 s0 l0 o0 b0 = ((-2), M, L, a5, a6, a12, a28, a31) := by simp only [sp_X9_anew, if_neg c_1, if_neg c_2, if_pos c_3]
        exact hret _ _ _ _ _ (by rw [hsp]) rfl (by rw [hsp]; exact hP) hS dX9_anew_52
      · skip
        refine lv_iload hx hb dX9_anew_29 (lv_at hl 4 rfl) ?_
        refine lv_iconst (v := 0) hx hb dX9_anew_31 (by decide +kernel) ?_
        refine lv_iconst (v := 3) hx hb dX9_anew_32 (by decide +kernel) ?_
        refine k_Si ⟨hx, hb, hml, hown, hts⟩ (c_X9_within l D cI cJ cO o0 0 3) (va_cwS 3 hts gX9_anew_X9_within rfl rfl rfl (by decide +kernel) ⟨Nat.le_of_ble_eq_true rfl, Nat.le_of_ble_eq_true rfl⟩) hK hN hP hD hS hA [] rfl rfl rfl (ws' := [(h, oX9 r M L), ((r 5), .inl (cI, 9, .inl a5)), ((r 6), .inl (cI, 2, .inl a6)), ((r 12), .inl (cI, 3, .inl a12)), ((r 28), .inl (cI, 90, .inl a28)), ((r 31), .inl (cI, 5, .inl a31))]) rfl rfl hl.1 rfl (Nat.le_of_ble_eq_true rfl) dX9_anew_33 ⟨Nat.le_refl _, Nat.le_refl _⟩ (fun H locs hP hD hS => ?_)
        refine lv_if_eq (tgt := 50) hx hb dX9_anew_36 (by decide) (fun c_4 => ?_) (fun c_4 => ?_)
        · skip
          refine lv_bipush (v := (-2)) hx hb dX9_anew_50 (by decide +kernel) ?_
          have hsp : sp_X9_anew M L a5 a6 a12 a28 a31 p0 s0 l0 o0 b0 = ((-2), M, L, a5, a6, a12, a28, a31) := by simp only [sp_X9_anew, if_neg c_1, if_neg c_2, if_neg c_3, if_pos c_4]
          exact hret _ _ _ _ _ (by rw [hsp]) rfl (by rw [hsp]; exact hP) hS dX9_anew_52
        · skip
          refine lv_iload hx hb dX9_anew_39 (lv_at hl 5 rfl) ?_
          refine lv_iconst (v := 2) hx hb dX9_anew_41 (by decide +kernel) ?_
          refine lv_bipush (v := 9) hx hb dX9_anew_42 (by decide +kernel) ?_
          refine k_Si ⟨hx, hb, hml, hown, hts⟩ (c_X9_within l D cI cJ cO b0 2 9) (va_cwS 3 hts gX9_anew_X9_within rfl rfl rfl (by decide +kernel) ⟨Nat.le_of_ble_eq_true rfl, Nat.le_of_ble_eq_true rfl⟩) hK hN hP hD hS hA [] rfl rfl rfl (ws' := [(h, oX9 r M L), ((r 5), .inl (cI, 9, .inl a5)), ((r 6), .inl (cI, 2, .inl a6)), ((r 12), .inl (cI, 3, .inl a12)), ((r 28), .inl (cI, 90, .inl a28)), ((r 31), .inl (cI, 5, .inl a31))]) rfl rfl hl.1 rfl (Nat.le_of_ble_eq_true rfl) dX9_anew_44 ⟨Nat.le_refl _, Nat.le_refl _⟩ (fun H locs hP hD hS => ?_)
          refine lv_if_ne (tgt := 53) hx hb dX9_anew_47 (by decide) (fun c_5 => ?_) (fun c_5 => ?_)
          · skip
            refine lv_aload_n hx hb dX9_anew_53 rfl (lv_at hl 0 rfl) ?_
            refine lv_iload_n hx hb dX9_anew_54 rfl (lv_at hl 1 rfl) ?_
            refine k_put hx hb hts hi9 tyX9_ok nmX9 hown hK hP hD hS 0 rfl rfl 0 (by decide) hf7 rfl (.int p0) rfl rfl (Nat.le_of_ble_eq_true rfl) (ws' := [(h, oX9 r (upd M 0 p0) L), ((r 5), .inl (cI, 9, .inl a5)), ((r 6), .inl (cI, 2, .inl a6)), ((r 12), .inl (cI, 3, .inl a12)), ((r 28), .inl (cI, 90, .inl a28)), ((r 31), .inl (cI, 5, .inl a31))]) rfl dX9_anew_55 (fun H locs hP hD hS => ?_)
            refine lv_aload_n hx hb dX9_anew_58 rfl (lv_at hl 0 rfl) ?_
            refine lv_iload_n hx hb dX9_anew_59 rfl (lv_at hl 2 rfl) ?_
            refine k_put hx hb hts hi9 tyX9_ok nmX9 hown hK hP hD hS 0 rfl rfl 1 (by decide) hf13 rfl (.int s0) rfl rfl (Nat.le_of_ble_eq_true rfl) (ws' := [(h, oX9 r (upd (upd M 0 p0) 1 s0) L), ((r 5), .inl (cI, 9, .inl a5)), ((r 6), .inl (cI, 2, .inl a6)), ((r 12), .inl (cI, 3, .inl a12)), ((r 28), .inl (cI, 90, .inl a28)), ((r 31), .inl (cI, 5, .inl a31))]) rfl dX9_anew_60 (fun H locs hP hD hS => ?_)
            refine lv_aload_n hx hb dX9_anew_63 rfl (lv_at hl 0 rfl) ?_
            refine lv_iload_n hx hb dX9_anew_64 rfl (lv_at hl 3 rfl) ?_
            refine k_put hx hb hts hi9 tyX9_ok nmX9 hown hK hP hD hS 0 rfl rfl 2 (by decide) hf16 rfl (.int l0) rfl rfl (Nat.le_of_ble_eq_true rfl) (ws' := [(h, oX9 r (upd (upd (upd M 0 p0) 1 s0) 2 l0) L), ((r 5), .inl (cI, 9, .inl a5)), ((r 6), .inl (cI, 2, .inl a6)), ((r 12), .inl (cI, 3, .inl a12)), ((r 28), .inl (cI, 90, .inl a28)), ((r 31), .inl (cI, 5, .inl a31))]) rfl dX9_anew_65 (fun H locs hP hD hS => ?_)
            refine lv_aload_n hx hb dX9_anew_68 rfl (lv_at hl 0 rfl) ?_
            refine lv_iload hx hb dX9_anew_69 (lv_at hl 4 rfl) ?_
            refine k_put hx hb hts hi9 tyX9_ok nmX9 hown hK hP hD hS 0 rfl rfl 3 (by decide) hf19 rfl (.int o0) rfl rfl (Nat.le_of_ble_eq_true rfl) (ws' := [(h, oX9 r (upd (upd (upd (upd M 0 p0) 1 s0) 2 l0) 3 o0) L), ((r 5), .inl (cI, 9, .inl a5)), ((r 6), .inl (cI, 2, .inl a6)), ((r 12), .inl (cI, 3, .inl a12)), ((r 28), .inl (cI, 90, .inl a28)), ((r 31), .inl (cI, 5, .inl a31))]) rfl dX9_anew_71 (fun H locs hP hD hS => ?_)
            refine lv_aload_n hx hb dX9_anew_74 rfl (lv_at hl 0 rfl) ?_
            refine lv_iload hx hb dX9_anew_75 (lv_at hl 5 rfl) ?_
            refine k_put hx hb hts hi9 tyX9_ok nmX9 hown hK hP hD hS 0 rfl rfl 4 (by decide) hf22 rfl (.int b0) rfl rfl (Nat.le_of_ble_eq_true rfl) (ws' := [(h, oX9 r (upd (upd (upd (upd (upd M 0 p0) 1 s0) 2 l0) 3 o0) 4 b0) L), ((r 5), .inl (cI, 9, .inl a5)), ((r 6), .inl (cI, 2, .inl a6)), ((r 12), .inl (cI, 3, .inl a12)), ((r 28), .inl (cI, 90, .inl a28)), ((r 31), .inl (cI, 5, .inl a31))]) rfl dX9_anew_77 (fun H locs hP hD hS => ?_)
            refine lv_iconst (v := 0) hx hb dX9_anew_80 (by decide +kernel) ?_
            refine lv_istore (lv' := [(6, .int 0), (0, .ref h), (1, .int p0), (2, .int s0), (3, .int l0), (4, .int o0), (5, .int b0)]) hx hb dX9_anew_81 hl (by decide) rfl (fun ls hl => ?_)
            obtain ⟨fx_7, hfx_7⟩ : ∃ f : Nat → (Nat → Int32) → (Nat → Int32), f = bd_X9_anew_83 := ⟨_, rfl⟩
            have hB_x_7 : (9 : Int32) = nI 9 := by decide +kernel
            have hN_x_7 : 9 < 2 ^ 31 := by decide
            have Lx_7 : ∀ (nn i_6 : Nat) (x_7 : (Nat → Int32)), 9 + 1 ≤ i_6 + nn → i_6 ≤ 9 → x_7 = lp fx_7 i_6 a5 → ∀ (H : Heap) (locs : List Loc), va_P D vwCl [(h, oX9 r (upd (upd (upd (upd (upd M 0 p0) 1 s0) 2 l0) 3 o0) 4 b0) L), ((r 5), .inl (cI, 9, .inl x_7)), ((r 6), .inl (cI, 2, .inl a6)), ((r 12), .inl (cI, 3, .inl a12)), ((r 28), .inl (cI, 90, .inl a28)), ((r 31), .inl (cI, 5, .inl a31))] H → va_D A [(h, oX9 r (upd (upd (upd (upd (upd M 0 p0) 1 s0) 2 l0) 3 o0) 4 b0) L), ((r 5), .inl (cI, 9, .inl x_7)), ((r 6), .inl (cI, 2, .inl a6)), ((r 12), .inl (cI, 3, .inl a12)), ((r 28), .inl (cI, 90, .inl a28)), ((r 31), .inl (cI, 5, .inl a31))] → va_S A s.heap H locs → ∀ ls : Array Slot, lv_has ls 7 [(0, .ref h), (6, .int (nI i_6))] → W p l e (RM 3) s m ([.ref h, .int p0, .int s0, .int l0, .int o0, .int b0] : List Value).toArray below meth c H locs 0 0 Q (F0 m 83 ls []) := by
              intro nn_x_7
              induction nn_x_7 with
              | zero => intro i_6 x_7 h1 h2; exact absurd h1 (by omega)
              | succ nn_x_7 ih_x_7 =>
                intro i_6 x_7 hn_x_7 hi_i_6 ex_x_7 H locs hP hD hS ls hl
                refine lv_iload hx hb dX9_anew_83 (lv_at hl 1 rfl) ?_
                refine lv_bipush (v := 9) hx hb dX9_anew_85 (by decide +kernel) ?_
                refine lv_icmp_ge (tgt := 104) hx hb dX9_anew_87 (by decide) (fun c_8 => ?_) (fun c_8 => ?_)
                · skip
                  have hq_x_7 : i_6 = 9 := k_eq hB_x_7 c_8 hi_i_6 hN_x_7
                  have ex_7 : x_7 = lp bd_X9_anew_83 9 a5 := by rw [ex_x_7, hfx_7, hq_x_7]
                  refine lv_aload_n hx hb dX9_anew_104 rfl (lv_at hl 0 rfl) ?_
                  refine k_get hx hb hts hi9 hown hK hP 0 rfl rfl 6 (by decide) hf29 (.ref (r 6)) rfl dX9_anew_105 ?_
                  refine lv_iconst (v := 0) hx hb dX9_anew_108 (by decide +kernel) ?_
                  refine lv_iconst (v := 2) hx hb dX9_anew_109 (by decide +kernel) ?_
                  refine k_iast hx hb hK hP hD hS 2 0 rfl rfl 0 (by decide +kernel) (vp_in_iff.mpr (by decide +kernel)) (ws' := [(h, oX9 r (upd (upd (upd (upd (upd M 0 p0) 1 s0) 2 l0) 3 o0) 4 b0) L), ((r 5), .inl (cI, 9, .inl x_7)), ((r 6), .inl (cI, 2, .inl (upd a6 0 2))), ((r 12), .inl (cI, 3, .inl a12)), ((r 28), .inl (cI, 90, .inl a28)), ((r 31), .inl (cI, 5, .inl a31))]) rfl dX9_anew_110 (fun H locs hP hD hS => ?_)
                  refine lv_aload_n hx hb dX9_anew_111 rfl (lv_at hl 0 rfl) ?_
                  refine k_get hx hb hts hi9 hown hK hP 0 rfl rfl 6 (by decide) hf29 (.ref (r 6)) rfl dX9_anew_112 ?_
                  refine lv_iconst (v := 1) hx hb dX9_anew_115 (by decide +kernel) ?_
                  refine lv_iconst (v := 2) hx hb dX9_anew_116 (by decide +kernel) ?_
                  refine k_iast hx hb hK hP hD hS 2 0 rfl rfl 1 (by decide +kernel) (vp_in_iff.mpr (by decide +kernel)) (ws' := [(h, oX9 r (upd (upd (upd (upd (upd M 0 p0) 1 s0) 2 l0) 3 o0) 4 b0) L), ((r 5), .inl (cI, 9, .inl x_7)), ((r 6), .inl (cI, 2, .inl (upd (upd a6 0 2) 1 2))), ((r 12), .inl (cI, 3, .inl a12)), ((r 28), .inl (cI, 90, .inl a28)), ((r 31), .inl (cI, 5, .inl a31))]) rfl dX9_anew_117 (fun H locs hP hD hS => ?_)
                  refine lv_aload_n hx hb dX9_anew_118 rfl (lv_at hl 0 rfl) ?_
                  obtain ⟨M_9, eM_9⟩ : ∃ q : Nat → Int32, q = (upd (upd (upd (upd (upd M 0 p0) 1 s0) 2 l0) 3 o0) 4 b0) := ⟨_, rfl⟩
                  rw [← eM_9] at hP hD
                  obtain ⟨M_10, eM_10⟩ : ∃ q : Nat → Int32, q = ((sp_X9_begins M_9 L a12).1) := ⟨_, rfl⟩
                  obtain ⟨L_11, eL_11⟩ : ∃ q : Int64, q = ((sp_X9_begins M_9 L a12).2.1) := ⟨_, rfl⟩
                  obtain ⟨a_12, ea_12⟩ : ∃ q : Nat → Int32, q = ((sp_X9_begins M_9 L a12).2.2) := ⟨_, rfl⟩
                  refine k_Vv ⟨hx, hb, hml, hown, hts⟩ (c_X9_begins l D cI cJ cO h r M_9 L a12) (ci := 9) (q0 := 0) rfl rfl (cwV 0 hts gX9_anew_X9_begins rfl rfl rfl (by decide +kernel) ⟨Nat.le_of_ble_eq_true rfl, Nat.le_of_ble_eq_true rfl⟩) hK hN hP hD hS hA [0, 3] rfl rfl rfl (ws' := [(h, oX9 r M_10 L_11), ((r 5), .inl (cI, 9, .inl x_7)), ((r 6), .inl (cI, 2, .inl (upd (upd a6 0 2) 1 2))), ((r 12), .inl (cI, 3, .inl a_12)), ((r 28), .inl (cI, 90, .inl a28)), ((r 31), .inl (cI, 5, .inl a31))]) (by rw [eM_10, eL_11, ea_12]; rfl) rfl hl.1 rfl (Nat.le_of_ble_eq_true rfl) dX9_anew_119 ⟨Nat.le_refl _, Nat.le_refl _⟩ (fun H locs hP hD hS => ?_)
                  refine lv_aload_n hx hb dX9_anew_122 rfl (lv_at hl 0 rfl) ?_
                  refine lv_iconst (v := 0) hx hb dX9_anew_123 (by decide +kernel) ?_
                  refine k_put hx hb hts hi9 tyX9_ok nmX9 hown hK hP hD hS 0 rfl rfl 24 (by decide) hf170 rfl (.int 0) rfl rfl (Nat.le_of_ble_eq_true rfl) (ws' := [(h, oX9 r (upd M_10 24 0) L_11), ((r 5), .inl (cI, 9, .inl x_7)), ((r 6), .inl (cI, 2, .inl (upd (upd a6 0 2) 1 2))), ((r 12), .inl (cI, 3, .inl a_12)), ((r 28), .inl (cI, 90, .inl a28)), ((r 31), .inl (cI, 5, .inl a31))]) rfl dX9_anew_124 (fun H locs hP hD hS => ?_)
                  refine lv_aload_n hx hb dX9_anew_127 rfl (lv_at hl 0 rfl) ?_
                  refine lv_iconst (v := 0) hx hb dX9_anew_128 (by decide +kernel) ?_
                  refine k_put hx hb hts hi9 tyX9_ok nmX9 hown hK hP hD hS 0 rfl rfl 25 (by decide) hf173 rfl (.int 0) rfl rfl (Nat.le_of_ble_eq_true rfl) (ws' := [(h, oX9 r (upd (upd M_10 24 0) 25 0) L_11), ((r 5), .inl (cI, 9, .inl x_7)), ((r 6), .inl (cI, 2, .inl (upd (upd a6 0 2) 1 2))), ((r 12), .inl (cI, 3, .inl a_12)), ((r 28), .inl (cI, 90, .inl a28)), ((r 31), .inl (cI, 5, .inl a31))]) rfl dX9_anew_129 (fun H locs hP hD hS => ?_)
                  refine lv_aload_n hx hb dX9_anew_132 rfl (lv_at hl 0 rfl) ?_
                  refine lv_iconst (v := 0) hx hb dX9_anew_133 (by decide +kernel) ?_
                  refine k_put hx hb hts hi9 tyX9_ok nmX9 hown hK hP hD hS 0 rfl rfl 26 (by decide) hf176 rfl (.int 0) rfl rfl (Nat.le_of_ble_eq_true rfl) (ws' := [(h, oX9 r (upd (upd (upd M_10 24 0) 25 0) 26 0) L_11), ((r 5), .inl (cI, 9, .inl x_7)), ((r 6), .inl (cI, 2, .inl (upd (upd a6 0 2) 1 2))), ((r 12), .inl (cI, 3, .inl a_12)), ((r 28), .inl (cI, 90, .inl a28)), ((r 31), .inl (cI, 5, .inl a31))]) rfl dX9_anew_134 (fun H locs hP hD hS => ?_)
                  refine lv_aload_n hx hb dX9_anew_137 rfl (lv_at hl 0 rfl) ?_
                  refine lv_iconst (v := 0) hx hb dX9_anew_138 (by decide +kernel) ?_
                  refine k_put hx hb hts hi9 tyX9_ok nmX9 hown hK hP hD hS 0 rfl rfl 27 (by decide) hf179 rfl (.int 0) rfl rfl (Nat.le_of_ble_eq_true rfl) (ws' := [(h, oX9 r (upd (upd (upd (upd M_10 24 0) 25 0) 26 0) 27 0) L_11), ((r 5), .inl (cI, 9, .inl x_7)), ((r 6), .inl (cI, 2, .inl (upd (upd a6 0 2) 1 2))), ((r 12), .inl (cI, 3, .inl a_12)), ((r 28), .inl (cI, 90, .inl a28)), ((r 31), .inl (cI, 5, .inl a31))]) rfl dX9_anew_139 (fun H locs hP hD hS => ?_)
                  refine lv_aload_n hx hb dX9_anew_142 rfl (lv_at hl 0 rfl) ?_
                  refine lv_iconst (v := 0) hx hb dX9_anew_143 (by decide +kernel) ?_
                  refine k_put hx hb hts hi9 tyX9_ok nmX9 hown hK hP hD hS 0 rfl rfl 30 (by decide) hf182 rfl (.int 0) rfl rfl (Nat.le_of_ble_eq_true rfl) (ws' := [(h, oX9 r (upd (upd (upd (upd (upd M_10 24 0) 25 0) 26 0) 27 0) 30 0) L_11), ((r 5), .inl (cI, 9, .inl x_7)), ((r 6), .inl (cI, 2, .inl (upd (upd a6 0 2) 1 2))), ((r 12), .inl (cI, 3, .inl a_12)), ((r 28), .inl (cI, 90, .inl a28)), ((r 31), .inl (cI, 5, .inl a31))]) rfl dX9_anew_144 (fun H locs hP hD hS => ?_)
                  refine lv_iconst (v := 0) hx hb dX9_anew_147 (by decide +kernel) ?_
                  refine lv_istore (lv' := [(6, .int 0), (0, .ref h)]) hx hb dX9_anew_148 hl (by decide) rfl (fun ls hl => ?_)
                  obtain ⟨fx_14, hfx_14⟩ : ∃ f : Nat → (Nat → Int32) → (Nat → Int32), f = bd_X9_anew_150 := ⟨_, rfl⟩
                  have hB_x_14 : (90 : Int32) = nI 90 := by decide +kernel
                  have hN_x_14 : 90 < 2 ^ 31 := by decide
                  have Lx_14 : ∀ (nn i_13 : Nat) (x_14 : (Nat → Int32)), 90 + 1 ≤ i_13 + nn → i_13 ≤ 90 → x_14 = lp fx_14 i_13 a28 → ∀ (H : Heap) (locs : List Loc), va_P D vwCl [(h, oX9 r (upd (upd (upd (upd (upd M_10 24 0) 25 0) 26 0) 27 0) 30 0) L_11), ((r 5), .inl (cI, 9, .inl x_7)), ((r 6), .inl (cI, 2, .inl (upd (upd a6 0 2) 1 2))), ((r 12), .inl (cI, 3, .inl a_12)), ((r 28), .inl (cI, 90, .inl x_14)), ((r 31), .inl (cI, 5, .inl a31))] H → va_D A [(h, oX9 r (upd (upd (upd (upd (upd M_10 24 0) 25 0) 26 0) 27 0) 30 0) L_11), ((r 5), .inl (cI, 9, .inl x_7)), ((r 6), .inl (cI, 2, .inl (upd (upd a6 0 2) 1 2))), ((r 12), .inl (cI, 3, .inl a_12)), ((r 28), .inl (cI, 90, .inl x_14)), ((r 31), .inl (cI, 5, .inl a31))] → va_S A s.heap H locs → ∀ ls : Array Slot, lv_has ls 7 [(0, .ref h), (6, .int (nI i_13))] → W p l e (RM 3) s m ([.ref h, .int p0, .int s0, .int l0, .int o0, .int b0] : List Value).toArray below meth c H locs 0 0 Q (F0 m 150 ls []) := by
                    intro nn_x_14
                    induction nn_x_14 with
                    | zero => intro i_13 x_14 h1 h2; exact absurd h1 (by omega)
                    | succ nn_x_14 ih_x_14 =>
                      intro i_13 x_14 hn_x_14 hi_i_13 ex_x_14 H locs hP hD hS ls hl
                      refine lv_iload hx hb dX9_anew_150 (lv_at hl 1 rfl) ?_
                      refine lv_aload_n hx hb dX9_anew_152 rfl (lv_at hl 0 rfl) ?_
                      refine k_get hx hb hts hi9 hown hK hP 0 rfl rfl 28 (by decide) hf41 (.ref (r 28)) rfl dX9_anew_153 ?_
                      refine va_alen hx hb hK hP 4 0 rfl rfl (v := 90) (show Int32.ofNat 90 = 90 by decide +kernel) dX9_anew_156 ?_
                      refine lv_icmp_ge (tgt := 174) hx hb dX9_anew_157 (by decide) (fun c_15 => ?_) (fun c_15 => ?_)
                      · skip
                        have hq_x_14 : i_13 = 90 := k_eq hB_x_14 c_15 hi_i_13 hN_x_14
                        have ex_14 : x_14 = lp bd_X9_anew_150 90 a28 := by rw [ex_x_14, hfx_14, hq_x_14]
                        refine lv_iconst (v := 0) hx hb dX9_anew_174 (by decide +kernel) ?_
                        refine lv_istore (lv' := [(6, .int 0), (0, .ref h)]) hx hb dX9_anew_175 hl (by decide) rfl (fun ls hl => ?_)
                        obtain ⟨fx_17, hfx_17⟩ : ∃ f : Nat → (Nat → Int32) → (Nat → Int32), f = bd_X9_anew_177 := ⟨_, rfl⟩
                        have hB_x_17 : (5 : Int32) = nI 5 := by decide +kernel
                        have hN_x_17 : 5 < 2 ^ 31 := by decide
                        have Lx_17 : ∀ (nn i_16 : Nat) (x_17 : (Nat → Int32)), 5 + 1 ≤ i_16 + nn → i_16 ≤ 5 → x_17 = lp fx_17 i_16 a31 → ∀ (H : Heap) (locs : List Loc), va_P D vwCl [(h, oX9 r (upd (upd (upd (upd (upd M_10 24 0) 25 0) 26 0) 27 0) 30 0) L_11), ((r 5), .inl (cI, 9, .inl x_7)), ((r 6), .inl (cI, 2, .inl (upd (upd a6 0 2) 1 2))), ((r 12), .inl (cI, 3, .inl a_12)), ((r 28), .inl (cI, 90, .inl x_14)), ((r 31), .inl (cI, 5, .inl x_17))] H → va_D A [(h, oX9 r (upd (upd (upd (upd (upd M_10 24 0) 25 0) 26 0) 27 0) 30 0) L_11), ((r 5), .inl (cI, 9, .inl x_7)), ((r 6), .inl (cI, 2, .inl (upd (upd a6 0 2) 1 2))), ((r 12), .inl (cI, 3, .inl a_12)), ((r 28), .inl (cI, 90, .inl x_14)), ((r 31), .inl (cI, 5, .inl x_17))] → va_S A s.heap H locs → ∀ ls : Array Slot, lv_has ls 7 [(0, .ref h), (6, .int (nI i_16))] → W p l e (RM 3) s m ([.ref h, .int p0, .int s0, .int l0, .int o0, .int b0] : List Value).toArray below meth c H locs 0 0 Q (F0 m 177 ls []) := by
                          intro nn_x_17
                          induction nn_x_17 with
                          | zero => intro i_16 x_17 h1 h2; exact absurd h1 (by omega)
                          | succ nn_x_17 ih_x_17 =>
                            intro i_16 x_17 hn_x_17 hi_i_16 ex_x_17 H locs hP hD hS ls hl
                            refine lv_iload hx hb dX9_anew_177 (lv_at hl 1 rfl) ?_
                            refine lv_iconst (v := 5) hx hb dX9_anew_179 (by decide +kernel) ?_
                            refine lv_icmp_ge (tgt := 197) hx hb dX9_anew_180 (by decide) (fun c_18 => ?_) (fun c_18 => ?_)
                            · skip
                              have hq_x_17 : i_16 = 5 := k_eq hB_x_17 c_18 hi_i_16 hN_x_17
                              have ex_17 : x_17 = lp bd_X9_anew_177 5 a31 := by rw [ex_x_17, hfx_17, hq_x_17]
                              refine lv_iconst (v := 1) hx hb dX9_anew_197 (by decide +kernel) ?_
                              have hsp : sp_X9_anew M L a5 a6 a12 a28 a31 p0 s0 l0 o0 b0 = (1, (upd (upd (upd (upd (upd M_10 24 0) 25 0) 26 0) 27 0) 30 0), L_11, x_7, (upd (upd a6 0 2) 1 2), a_12, x_14, x_17) := sq_X9_anew_1 M L a5 a6 a12 a28 a31 p0 s0 l0 o0 b0 x_7 M_9 M_10 L_11 a_12 x_14 x_17 ex_7 eM_9 eM_10 eL_11 ea_12 ex_14 ex_17 c_1 c_2 c_3 c_4 c_5
                              exact hret _ _ _ _ _ (by rw [hsp]) rfl (by rw [hsp]; exact hP) hS dX9_anew_198
                            · skip
                              have hlt_i_16 : i_16 < 5 := k_lt hB_x_17 c_18 hi_i_16 hN_x_17
                              refine lv_aload_n hx hb dX9_anew_183 rfl (lv_at hl 0 rfl) ?_
                              refine k_get hx hb hts hi9 hown hK hP 0 rfl rfl 31 (by decide) hf47 (.ref (r 31)) rfl dX9_anew_184 ?_
                              refine lv_iload hx hb dX9_anew_187 (lv_at hl 1 rfl) ?_
                              refine lv_iconst (v := 0) hx hb dX9_anew_189 (by decide +kernel) ?_
                              refine k_iast hx hb hK hP hD hS 5 0 rfl rfl i_16 (nI_clamp (by omega)) (vp_in_nI (by omega) (by omega)) (ws' := [(h, oX9 r (upd (upd (upd (upd (upd M_10 24 0) 25 0) 26 0) 27 0) 30 0) L_11), ((r 5), .inl (cI, 9, .inl x_7)), ((r 6), .inl (cI, 2, .inl (upd (upd a6 0 2) 1 2))), ((r 12), .inl (cI, 3, .inl a_12)), ((r 28), .inl (cI, 90, .inl x_14)), ((r 31), .inl (cI, 5, .inl (upd x_17 i_16 0)))]) rfl dX9_anew_190 (fun H locs hP hD hS => ?_)
                              refine lv_iinc (v := (nI (i_16 + 1))) (lv' := [(6, .int (nI (i_16 + 1))), (0, .ref h)]) hx hb dX9_anew_191 hl (k := 1) rfl (nI_1 i_16) (by decide) rfl (fun ls hl => ?_)
                              refine lv_goto (tgt := 177) hx hb dX9_anew_194 (by decide) ?_
                              exact ih_x_17 (i_16 + 1) (upd x_17 i_16 0) (by omega) (by omega) (by rw [show lp fx_17 (i_16 + 1) a31 = fx_17 i_16 (lp fx_17 i_16 a31) from rfl, ← ex_x_17, hfx_17]; try (first | (rfl; done) | rfl)) _ _ hP hD hS _ (lv_sub hl [1, 0] rfl)
                        exact Lx_17 (5 + 1) 0 a31 (by omega) (Nat.zero_le _) rfl _ _ hP hD hS _ (lv_sub hl [1, 0] rfl)
                      · skip
                        have hlt_i_13 : i_13 < 90 := k_lt hB_x_14 c_15 hi_i_13 hN_x_14
                        refine lv_aload_n hx hb dX9_anew_160 rfl (lv_at hl 0 rfl) ?_
                        refine k_get hx hb hts hi9 hown hK hP 0 rfl rfl 28 (by decide) hf41 (.ref (r 28)) rfl dX9_anew_161 ?_
                        refine lv_iload hx hb dX9_anew_164 (lv_at hl 1 rfl) ?_
                        refine lv_iconst (v := 0) hx hb dX9_anew_166 (by decide +kernel) ?_
                        refine k_iast hx hb hK hP hD hS 4 0 rfl rfl i_13 (nI_clamp (by omega)) (vp_in_nI (by omega) (by omega)) (ws' := [(h, oX9 r (upd (upd (upd (upd (upd M_10 24 0) 25 0) 26 0) 27 0) 30 0) L_11), ((r 5), .inl (cI, 9, .inl x_7)), ((r 6), .inl (cI, 2, .inl (upd (upd a6 0 2) 1 2))), ((r 12), .inl (cI, 3, .inl a_12)), ((r 28), .inl (cI, 90, .inl (upd x_14 i_13 0))), ((r 31), .inl (cI, 5, .inl a31))]) rfl dX9_anew_167 (fun H locs hP hD hS => ?_)
                        refine lv_iinc (v := (nI (i_13 + 1))) (lv' := [(6, .int (nI (i_13 + 1))), (0, .ref h)]) hx hb dX9_anew_168 hl (k := 1) rfl (nI_1 i_13) (by decide) rfl (fun ls hl => ?_)
                        refine lv_goto (tgt := 150) hx hb dX9_anew_171 (by decide) ?_
                        exact ih_x_14 (i_13 + 1) (upd x_14 i_13 0) (by omega) (by omega) (by rw [show lp fx_14 (i_13 + 1) a28 = fx_14 i_13 (lp fx_14 i_13 a28) from rfl, ← ex_x_14, hfx_14]; try (first | (rfl; done) | rfl)) _ _ hP hD hS _ (lv_sub hl [1, 0] rfl)
                  exact Lx_14 (90 + 1) 0 a28 (by omega) (Nat.zero_le _) rfl _ _ hP hD hS _ (lv_sub hl [1, 0] rfl)
                · skip
                  have hlt_i_6 : i_6 < 9 := k_lt hB_x_7 c_8 hi_i_6 hN_x_7
                  refine lv_aload_n hx hb dX9_anew_90 rfl (lv_at hl 0 rfl) ?_
                  refine k_get hx hb hts hi9 hown hK hP 0 rfl rfl 5 (by decide) hf25 (.ref (r 5)) rfl dX9_anew_91 ?_
                  refine lv_iload hx hb dX9_anew_94 (lv_at hl 1 rfl) ?_
                  refine lv_iconst (v := 2) hx hb dX9_anew_96 (by decide +kernel) ?_
                  refine k_iast hx hb hK hP hD hS 1 0 rfl rfl i_6 (nI_clamp (by omega)) (vp_in_nI (by omega) (by omega)) (ws' := [(h, oX9 r (upd (upd (upd (upd (upd M 0 p0) 1 s0) 2 l0) 3 o0) 4 b0) L), ((r 5), .inl (cI, 9, .inl (upd x_7 i_6 2))), ((r 6), .inl (cI, 2, .inl a6)), ((r 12), .inl (cI, 3, .inl a12)), ((r 28), .inl (cI, 90, .inl a28)), ((r 31), .inl (cI, 5, .inl a31))]) rfl dX9_anew_97 (fun H locs hP hD hS => ?_)
                  refine lv_iinc (v := (nI (i_6 + 1))) (lv' := [(6, .int (nI (i_6 + 1))), (0, .ref h)]) hx hb dX9_anew_98 hl (k := 1) rfl (nI_1 i_6) (by decide) rfl (fun ls hl => ?_)
                  refine lv_goto (tgt := 83) hx hb dX9_anew_101 (by decide) ?_
                  exact ih_x_7 (i_6 + 1) (upd x_7 i_6 2) (by omega) (by omega) (by rw [show lp fx_7 (i_6 + 1) a5 = fx_7 i_6 (lp fx_7 i_6 a5) from rfl, ← ex_x_7, hfx_7]; try (first | (rfl; done) | rfl)) _ _ hP hD hS _ (lv_sub hl [1, 0] rfl)
            exact Lx_7 (9 + 1) 0 a5 (by omega) (Nat.zero_le _) rfl _ _ hP hD hS _ (lv_sub hl [1, 0] rfl)
          · skip
            refine lv_bipush (v := (-2)) hx hb dX9_anew_50 (by decide +kernel) ?_
            have hsp : sp_X9_anew M L a5 a6 a12 a28 a31 p0 s0 l0 o0 b0 = ((-2), M, L, a5, a6, a12, a28, a31) := by simp only [sp_X9_anew, if_neg c_1, if_neg c_2, if_neg c_3, if_neg c_4, if_pos c_5]
            exact hret _ _ _ _ _ (by rw [hsp]) rfl (by rw [hsp]; exact hP) hS dX9_anew_52

def sp_X9_stick (M : Nat → Int32) (L : Int64) (a5 : Nat → Int32) (input : Int32) (v : Int32) : Int32 × (Nat → Int32) :=
  (if (sp_X9_within input 0 8) = 0 then
    ((-1), a5)
  else
    (if (sp_X9_within v 0 2) = 0 then
      ((-2), a5)
    else
      ((a5 input.toNatClampNeg), (upd a5 input.toNatClampNeg v))))
set_option maxHeartbeats 4000000 in
set_option maxRecDepth 100000 in
theorem c_X9_stick (l : Launch) (D : va_G) (cI cJ cO : ClassId) (h : Nat) (r : Nat → Nat) (M : Nat → Int32) (L : Int64) (a5 : Nat → Int32) (input : Int32) (v : Int32)  : MI l D (TY cI cJ cO) yX9_stick wsX9_stick (RM 1) [.ref h, .int input, .int v] [(h, oX9 r M L), ((r 5), .inl (cI, 9, .inl a5))] ((sp_X9_stick M L a5 input v).1) [(h, oX9 r M L), ((r 5), .inl (cI, 9, .inl ((sp_X9_stick M L a5 input v).2)))] := by
  refine k_entI (cc := cX9_stick) (maxL := 4) (lv := [(0, .ref h), (1, .int input), (2, .int v)]) (by decide +kernel) rfl (Nat.le_of_ble_eq_true rfl) rfl ?_
  intro p e s m below meth c A Q ls hx hb hml hts hown hA hS hP hD hK hN hl hret
  have hown : s.vm.findClass RX9 = some m.cls := hown
  have hi9 : ∀ w ∈ wsX90, w ∈ wsX9_stick := fun w h => List.mem_cons_of_mem _ (List.mem_append_right _ h)
  have hf25 := hts (.fieldLink RX9 25 "PressGuardModel" "stuck" "[I") (by decide +kernel)
  refine lv_iload_n hx hb dX9_stick_0 rfl (lv_at hl 1 rfl) ?_
  refine lv_iconst (v := 0) hx hb dX9_stick_1 (by decide +kernel) ?_
  refine lv_bipush (v := 8) hx hb dX9_stick_2 (by decide +kernel) ?_
  refine k_Si ⟨hx, hb, hml, hown, hts⟩ (c_X9_within l D cI cJ cO input 0 8) (va_cwS 3 hts gX9_stick_X9_within rfl rfl rfl (by decide +kernel) ⟨Nat.le_of_ble_eq_true rfl, Nat.le_of_ble_eq_true rfl⟩) hK hN hP hD hS hA [] rfl rfl rfl (ws' := [(h, oX9 r M L), ((r 5), .inl (cI, 9, .inl a5))]) rfl rfl hl.1 rfl (Nat.le_of_ble_eq_true rfl) dX9_stick_4 ⟨Nat.le_refl _, Nat.le_refl _⟩ (fun H locs hP hD hS => ?_)
  refine lv_if_ne (tgt := 12) hx hb dX9_stick_7 (by decide) (fun c_1 => ?_) (fun c_1 => ?_)
  · skip
    refine lv_iload_n hx hb dX9_stick_12 rfl (lv_at hl 2 rfl) ?_
    refine lv_iconst (v := 0) hx hb dX9_stick_13 (by decide +kernel) ?_
    refine lv_iconst (v := 2) hx hb dX9_stick_14 (by decide +kernel) ?_
    refine k_Si ⟨hx, hb, hml, hown, hts⟩ (c_X9_within l D cI cJ cO v 0 2) (va_cwS 3 hts gX9_stick_X9_within rfl rfl rfl (by decide +kernel) ⟨Nat.le_of_ble_eq_true rfl, Nat.le_of_ble_eq_true rfl⟩) hK hN hP hD hS hA [] rfl rfl rfl (ws' := [(h, oX9 r M L), ((r 5), .inl (cI, 9, .inl a5))]) rfl rfl hl.1 rfl (Nat.le_of_ble_eq_true rfl) dX9_stick_15 ⟨Nat.le_refl _, Nat.le_refl _⟩ (fun H locs hP hD hS => ?_)
    refine lv_if_ne (tgt := 24) hx hb dX9_stick_18 (by decide) (fun c_2 => ?_) (fun c_2 => ?_)
    · skip
      refine lv_aload_n hx hb dX9_stick_24 rfl (lv_at hl 0 rfl) ?_
      refine k_get hx hb hts hi9 hown hK hP 0 rfl rfl 5 (by decide) hf25 (.ref (r 5)) rfl dX9_stick_25 ?_
      refine lv_iload_n hx hb dX9_stick_28 rfl (lv_at hl 1 rfl) ?_
      refine k_iald hx hb hK hP 1 0 rfl rfl input.toNatClampNeg (rfl) (wi_in c_1 (by decide)) dX9_stick_29 ?_
      refine lv_istore_n (lv' := [(3, .int (a5 input.toNatClampNeg)), (0, .ref h), (1, .int input), (2, .int v)]) hx hb dX9_stick_30 rfl hl (by decide) rfl (fun ls hl => ?_)
      refine lv_aload_n hx hb dX9_stick_31 rfl (lv_at hl 1 rfl) ?_
      refine k_get hx hb hts hi9 hown hK hP 0 rfl rfl 5 (by decide) hf25 (.ref (r 5)) rfl dX9_stick_32 ?_
      refine lv_iload_n hx hb dX9_stick_35 rfl (lv_at hl 2 rfl) ?_
      refine lv_iload_n hx hb dX9_stick_36 rfl (lv_at hl 3 rfl) ?_
      refine k_iast hx hb hK hP hD hS 1 0 rfl rfl input.toNatClampNeg (rfl) (wi_in c_1 (by decide)) (ws' := [(h, oX9 r M L), ((r 5), .inl (cI, 9, .inl (upd a5 input.toNatClampNeg v)))]) rfl dX9_stick_37 (fun H locs hP hD hS => ?_)
      refine lv_iload_n hx hb dX9_stick_38 rfl (lv_at hl 0 rfl) ?_
      have hsp : sp_X9_stick M L a5 input v = ((a5 input.toNatClampNeg), (upd a5 input.toNatClampNeg v)) := by simp only [sp_X9_stick, if_neg c_1, if_neg c_2]
      exact hret _ _ _ _ _ (by rw [hsp]) rfl (by rw [hsp]; exact hP) hS dX9_stick_39
    · skip
      refine lv_bipush (v := (-2)) hx hb dX9_stick_21 (by decide +kernel) ?_
      have hsp : sp_X9_stick M L a5 input v = ((-2), a5) := by simp only [sp_X9_stick, if_neg c_1, if_pos c_2]
      exact hret _ _ _ _ _ (by rw [hsp]) rfl (by rw [hsp]; exact hP) hS dX9_stick_23
  · skip
    refine lv_iconst (v := (-1)) hx hb dX9_stick_10 (by decide +kernel) ?_
    have hsp : sp_X9_stick M L a5 input v = ((-1), a5) := by simp only [sp_X9_stick, if_pos c_1]
    exact hret _ _ _ _ _ (by rw [hsp]) rfl (by rw [hsp]; exact hP) hS dX9_stick_11

def sp_X9_valve (M : Nat → Int32) (L : Int64) (a6 : Nat → Int32) (k : Int32) (v : Int32) : Int32 × (Nat → Int32) :=
  (if (sp_X9_within k 0 1) = 0 then
    ((-1), a6)
  else
    (if (sp_X9_within v 0 2) = 0 then
      ((-2), a6)
    else
      ((a6 k.toNatClampNeg), (upd a6 k.toNatClampNeg v))))
set_option maxHeartbeats 4000000 in
set_option maxRecDepth 100000 in
theorem c_X9_valve (l : Launch) (D : va_G) (cI cJ cO : ClassId) (h : Nat) (r : Nat → Nat) (M : Nat → Int32) (L : Int64) (a6 : Nat → Int32) (k : Int32) (v : Int32)  : MI l D (TY cI cJ cO) yX9_valve wsX9_valve (RM 1) [.ref h, .int k, .int v] [(h, oX9 r M L), ((r 6), .inl (cI, 2, .inl a6))] ((sp_X9_valve M L a6 k v).1) [(h, oX9 r M L), ((r 6), .inl (cI, 2, .inl ((sp_X9_valve M L a6 k v).2)))] := by
  refine k_entI (cc := cX9_valve) (maxL := 4) (lv := [(0, .ref h), (1, .int k), (2, .int v)]) (by decide +kernel) rfl (Nat.le_of_ble_eq_true rfl) rfl ?_
  intro p e s m below meth c A Q ls hx hb hml hts hown hA hS hP hD hK hN hl hret
  have hown : s.vm.findClass RX9 = some m.cls := hown
  have hi9 : ∀ w ∈ wsX90, w ∈ wsX9_valve := fun w h => List.mem_cons_of_mem _ (List.mem_append_right _ h)
  have hf29 := hts (.fieldLink RX9 29 "PressGuardModel" "valves" "[I") (by decide +kernel)
  refine lv_iload_n hx hb dX9_valve_0 rfl (lv_at hl 1 rfl) ?_
  refine lv_iconst (v := 0) hx hb dX9_valve_1 (by decide +kernel) ?_
  refine lv_iconst (v := 1) hx hb dX9_valve_2 (by decide +kernel) ?_
  refine k_Si ⟨hx, hb, hml, hown, hts⟩ (c_X9_within l D cI cJ cO k 0 1) (va_cwS 3 hts gX9_valve_X9_within rfl rfl rfl (by decide +kernel) ⟨Nat.le_of_ble_eq_true rfl, Nat.le_of_ble_eq_true rfl⟩) hK hN hP hD hS hA [] rfl rfl rfl (ws' := [(h, oX9 r M L), ((r 6), .inl (cI, 2, .inl a6))]) rfl rfl hl.1 rfl (Nat.le_of_ble_eq_true rfl) dX9_valve_3 ⟨Nat.le_refl _, Nat.le_refl _⟩ (fun H locs hP hD hS => ?_)
  refine lv_if_ne (tgt := 11) hx hb dX9_valve_6 (by decide) (fun c_1 => ?_) (fun c_1 => ?_)
  · skip
    refine lv_iload_n hx hb dX9_valve_11 rfl (lv_at hl 2 rfl) ?_
    refine lv_iconst (v := 0) hx hb dX9_valve_12 (by decide +kernel) ?_
    refine lv_iconst (v := 2) hx hb dX9_valve_13 (by decide +kernel) ?_
    refine k_Si ⟨hx, hb, hml, hown, hts⟩ (c_X9_within l D cI cJ cO v 0 2) (va_cwS 3 hts gX9_valve_X9_within rfl rfl rfl (by decide +kernel) ⟨Nat.le_of_ble_eq_true rfl, Nat.le_of_ble_eq_true rfl⟩) hK hN hP hD hS hA [] rfl rfl rfl (ws' := [(h, oX9 r M L), ((r 6), .inl (cI, 2, .inl a6))]) rfl rfl hl.1 rfl (Nat.le_of_ble_eq_true rfl) dX9_valve_14 ⟨Nat.le_refl _, Nat.le_refl _⟩ (fun H locs hP hD hS => ?_)
    refine lv_if_ne (tgt := 23) hx hb dX9_valve_17 (by decide) (fun c_2 => ?_) (fun c_2 => ?_)
    · skip
      refine lv_aload_n hx hb dX9_valve_23 rfl (lv_at hl 0 rfl) ?_
      refine k_get hx hb hts hi9 hown hK hP 0 rfl rfl 6 (by decide) hf29 (.ref (r 6)) rfl dX9_valve_24 ?_
      refine lv_iload_n hx hb dX9_valve_27 rfl (lv_at hl 1 rfl) ?_
      refine k_iald hx hb hK hP 1 0 rfl rfl k.toNatClampNeg (rfl) (wi_in c_1 (by decide)) dX9_valve_28 ?_
      refine lv_istore_n (lv' := [(3, .int (a6 k.toNatClampNeg)), (0, .ref h), (1, .int k), (2, .int v)]) hx hb dX9_valve_29 rfl hl (by decide) rfl (fun ls hl => ?_)
      refine lv_aload_n hx hb dX9_valve_30 rfl (lv_at hl 1 rfl) ?_
      refine k_get hx hb hts hi9 hown hK hP 0 rfl rfl 6 (by decide) hf29 (.ref (r 6)) rfl dX9_valve_31 ?_
      refine lv_iload_n hx hb dX9_valve_34 rfl (lv_at hl 2 rfl) ?_
      refine lv_iload_n hx hb dX9_valve_35 rfl (lv_at hl 3 rfl) ?_
      refine k_iast hx hb hK hP hD hS 1 0 rfl rfl k.toNatClampNeg (rfl) (wi_in c_1 (by decide)) (ws' := [(h, oX9 r M L), ((r 6), .inl (cI, 2, .inl (upd a6 k.toNatClampNeg v)))]) rfl dX9_valve_36 (fun H locs hP hD hS => ?_)
      refine lv_iload_n hx hb dX9_valve_37 rfl (lv_at hl 0 rfl) ?_
      have hsp : sp_X9_valve M L a6 k v = ((a6 k.toNatClampNeg), (upd a6 k.toNatClampNeg v)) := by simp only [sp_X9_valve, if_neg c_1, if_neg c_2]
      exact hret _ _ _ _ _ (by rw [hsp]) rfl (by rw [hsp]; exact hP) hS dX9_valve_38
    · skip
      refine lv_bipush (v := (-2)) hx hb dX9_valve_20 (by decide +kernel) ?_
      have hsp : sp_X9_valve M L a6 k v = ((-2), a6) := by simp only [sp_X9_valve, if_neg c_1, if_pos c_2]
      exact hret _ _ _ _ _ (by rw [hsp]) rfl (by rw [hsp]; exact hP) hS dX9_valve_22
  · skip
    refine lv_iconst (v := (-1)) hx hb dX9_valve_9 (by decide +kernel) ?_
    have hsp : sp_X9_valve M L a6 k v = ((-1), a6) := by simp only [sp_X9_valve, if_pos c_1]
    exact hret _ _ _ _ _ (by rw [hsp]) rfl (by rw [hsp]; exact hP) hS dX9_valve_10

def sp_X9_setting (M : Nat → Int32) (L : Int64) (what : Int32) : Int32 :=
  (if what = 0 then
    (M 0)
  else
    (if what = 1 then
      (M 1)
    else
      (if what = 2 then
        (M 2)
      else
        (if what = 3 then
          (M 3)
        else
          (if what = 4 then
            (M 4)
          else
            (-2))))))
set_option maxHeartbeats 4000000 in
set_option maxRecDepth 100000 in
theorem c_X9_setting (l : Launch) (D : va_G) (cI cJ cO : ClassId) (h : Nat) (r : Nat → Nat) (M : Nat → Int32) (L : Int64) (what : Int32)  : MI l D (TY cI cJ cO) yX9_setting wsX9_setting (RM 0) [.ref h, .int what] [(h, oX9 r M L)] (sp_X9_setting M L what) [(h, oX9 r M L)] := by
  refine k_entI (cc := cX9_setting) (maxL := 2) (lv := [(0, .ref h), (1, .int what)]) (by decide +kernel) rfl (Nat.le_of_ble_eq_true rfl) rfl ?_
  intro p e s m below meth c A Q ls hx hb hml hts hown hA hS hP hD hK hN hl hret
  have hown : s.vm.findClass RX9 = some m.cls := hown
  have hi9 : ∀ w ∈ wsX90, w ∈ wsX9_setting := fun w h => List.mem_cons_of_mem _ (List.mem_append_right _ h)
  have hf7 := hts (.fieldLink RX9 7 "PressGuardModel" "patience" "I") (by decide +kernel)
  have hf13 := hts (.fieldLink RX9 13 "PressGuardModel" "span" "I") (by decide +kernel)
  have hf16 := hts (.fieldLink RX9 16 "PressGuardModel" "limit" "I") (by decide +kernel)
  have hf19 := hts (.fieldLink RX9 19 "PressGuardModel" "overrun" "I") (by decide +kernel)
  have hf22 := hts (.fieldLink RX9 22 "PressGuardModel" "bottom" "I") (by decide +kernel)
  refine lv_iload_n hx hb dX9_setting_0 rfl (lv_at hl 1 rfl) ?_
  by_cases c_1 : what = 0
  · refine lv_tableIn (off := 35) (tgt := 36) hx hb dX9_setting_1 (by rw [c_1]; decide) (by rw [c_1]; decide) (by rw [c_1]; rfl) (by decide) ?_
    refine lv_aload_n hx hb dX9_setting_36 rfl (lv_at hl 0 rfl) ?_
    refine k_get hx hb hts hi9 hown hK hP 0 rfl rfl 0 (by decide) hf7 (.int (M 0)) rfl dX9_setting_37 ?_
    have hsp : sp_X9_setting M L what = (M 0) := by simp only [sp_X9_setting, if_pos c_1]
    exact hret _ _ _ _ _ (by rw [hsp]) rfl hP hS dX9_setting_40
  by_cases c_2 : what = 1
  · refine lv_tableIn (off := 40) (tgt := 41) hx hb dX9_setting_1 (by rw [c_2]; decide) (by rw [c_2]; decide) (by rw [c_2]; rfl) (by decide) ?_
    refine lv_aload_n hx hb dX9_setting_41 rfl (lv_at hl 0 rfl) ?_
    refine k_get hx hb hts hi9 hown hK hP 0 rfl rfl 1 (by decide) hf13 (.int (M 1)) rfl dX9_setting_42 ?_
    have hsp : sp_X9_setting M L what = (M 1) := by simp only [sp_X9_setting, if_neg c_1, if_pos c_2]
    exact hret _ _ _ _ _ (by rw [hsp]) rfl hP hS dX9_setting_45
  by_cases c_3 : what = 2
  · refine lv_tableIn (off := 45) (tgt := 46) hx hb dX9_setting_1 (by rw [c_3]; decide) (by rw [c_3]; decide) (by rw [c_3]; rfl) (by decide) ?_
    refine lv_aload_n hx hb dX9_setting_46 rfl (lv_at hl 0 rfl) ?_
    refine k_get hx hb hts hi9 hown hK hP 0 rfl rfl 2 (by decide) hf16 (.int (M 2)) rfl dX9_setting_47 ?_
    have hsp : sp_X9_setting M L what = (M 2) := by simp only [sp_X9_setting, if_neg c_1, if_neg c_2, if_pos c_3]
    exact hret _ _ _ _ _ (by rw [hsp]) rfl hP hS dX9_setting_50
  by_cases c_4 : what = 3
  · refine lv_tableIn (off := 50) (tgt := 51) hx hb dX9_setting_1 (by rw [c_4]; decide) (by rw [c_4]; decide) (by rw [c_4]; rfl) (by decide) ?_
    refine lv_aload_n hx hb dX9_setting_51 rfl (lv_at hl 0 rfl) ?_
    refine k_get hx hb hts hi9 hown hK hP 0 rfl rfl 3 (by decide) hf19 (.int (M 3)) rfl dX9_setting_52 ?_
    have hsp : sp_X9_setting M L what = (M 3) := by simp only [sp_X9_setting, if_neg c_1, if_neg c_2, if_neg c_3, if_pos c_4]
    exact hret _ _ _ _ _ (by rw [hsp]) rfl hP hS dX9_setting_55
  by_cases c_5 : what = 4
  · refine lv_tableIn (off := 55) (tgt := 56) hx hb dX9_setting_1 (by rw [c_5]; decide) (by rw [c_5]; decide) (by rw [c_5]; rfl) (by decide) ?_
    refine lv_aload_n hx hb dX9_setting_56 rfl (lv_at hl 0 rfl) ?_
    refine k_get hx hb hts hi9 hown hK hP 0 rfl rfl 4 (by decide) hf22 (.int (M 4)) rfl dX9_setting_57 ?_
    have hsp : sp_X9_setting M L what = (M 4) := by simp only [sp_X9_setting, if_neg c_1, if_neg c_2, if_neg c_3, if_neg c_4, if_pos c_5]
    exact hret _ _ _ _ _ (by rw [hsp]) rfl hP hS dX9_setting_60
  refine lv_tableOut (tgt := 61) hx hb dX9_setting_1 (by have q0 := lv_neT c_1 (show (0 : Int32).toInt = 0 by decide +kernel); have q1 := lv_neT c_2 (show (1 : Int32).toInt = 1 by decide +kernel); have q2 := lv_neT c_3 (show (2 : Int32).toInt = 2 by decide +kernel); have q3 := lv_neT c_4 (show (3 : Int32).toInt = 3 by decide +kernel); have q4 := lv_neT c_5 (show (4 : Int32).toInt = 4 by decide +kernel); omega) (by decide) ?_
  refine lv_bipush (v := (-2)) hx hb dX9_setting_61 (by decide +kernel) ?_
  have hsp : sp_X9_setting M L what = (-2) := by simp only [sp_X9_setting, if_neg c_1, if_neg c_2, if_neg c_3, if_neg c_4, if_neg c_5]
  exact hret _ _ _ _ _ (by rw [hsp]) rfl hP hS dX9_setting_63

def sp_X9_now (M : Nat → Int32) (L : Int64) (a12 : Nat → Int32) (what : Int32) : Int32 :=
  (if what = 0 then
    (M 7)
  else
    (if what = 1 then
      (M 8)
    else
      (if what = 2 then
        (M 9)
      else
        (if what = 3 then
          (M 10)
        else
          (if what = 4 then
            (M 11)
          else
            (if what = 5 then
              (a12 0)
            else
              (if what = 6 then
                (a12 1)
              else
                (if what = 7 then
                  (a12 2)
                else
                  (if what = 8 then
                    (M 13)
                  else
                    (if what = 9 then
                      (M 14)
                    else
                      (if what = 10 then
                        (M 15)
                      else
                        (if what = 11 then
                          (M 16)
                        else
                          (if what = 12 then
                            (M 17)
                          else
                            (if what = 13 then
                              (M 18)
                            else
                              (-2)))))))))))))))
set_option maxHeartbeats 4000000 in
set_option maxRecDepth 100000 in
theorem c_X9_now (l : Launch) (D : va_G) (cI cJ cO : ClassId) (h : Nat) (r : Nat → Nat) (M : Nat → Int32) (L : Int64) (a12 : Nat → Int32) (what : Int32)  : MI l D (TY cI cJ cO) yX9_now wsX9_now (RM 0) [.ref h, .int what] [(h, oX9 r M L), ((r 12), .inl (cI, 3, .inl a12))] (sp_X9_now M L a12 what) [(h, oX9 r M L), ((r 12), .inl (cI, 3, .inl a12))] := by
  refine k_entI (cc := cX9_now) (maxL := 2) (lv := [(0, .ref h), (1, .int what)]) (by decide +kernel) rfl (Nat.le_of_ble_eq_true rfl) rfl ?_
  intro p e s m below meth c A Q ls hx hb hml hts hown hA hS hP hD hK hN hl hret
  have hown : s.vm.findClass RX9 = some m.cls := hown
  have hi9 : ∀ w ∈ wsX90, w ∈ wsX9_now := fun w h => List.mem_cons_of_mem _ (List.mem_append_right _ h)
  have hf32 := hts (.fieldLink RX9 32 "PressGuardModel" "mode" "I") (by decide +kernel)
  have hf35 := hts (.fieldLink RX9 35 "PressGuardModel" "apart" "[I") (by decide +kernel)
  have hf38 := hts (.fieldLink RX9 38 "PressGuardModel" "lockedBy" "I") (by decide +kernel)
  have hf74 := hts (.fieldLink RX9 74 "PressGuardModel" "hands" "I") (by decide +kernel)
  have hf77 := hts (.fieldLink RX9 77 "PressGuardModel" "since" "I") (by decide +kernel)
  have hf80 := hts (.fieldLink RX9 80 "PressGuardModel" "command" "I") (by decide +kernel)
  have hf83 := hts (.fieldLink RX9 83 "PressGuardModel" "unlike" "I") (by decide +kernel)
  have hf86 := hts (.fieldLink RX9 86 "PressGuardModel" "muting" "I") (by decide +kernel)
  have hf100 := hts (.fieldLink RX9 100 "PressGuardModel" "mutedFor" "I") (by decide +kernel)
  have hf113 := hts (.fieldLink RX9 113 "PressGuardModel" "wasReset" "I") (by decide +kernel)
  have hf130 := hts (.fieldLink RX9 130 "PressGuardModel" "position" "I") (by decide +kernel)
  have hf142 := hts (.fieldLink RX9 142 "PressGuardModel" "brake" "I") (by decide +kernel)
  refine lv_iload_n hx hb dX9_now_0 rfl (lv_at hl 1 rfl) ?_
  by_cases c_1 : what = 0
  · refine lv_tableIn (off := 71) (tgt := 72) hx hb dX9_now_1 (by rw [c_1]; decide) (by rw [c_1]; decide) (by rw [c_1]; rfl) (by decide) ?_
    refine lv_aload_n hx hb dX9_now_72 rfl (lv_at hl 0 rfl) ?_
    refine k_get hx hb hts hi9 hown hK hP 0 rfl rfl 7 (by decide) hf32 (.int (M 7)) rfl dX9_now_73 ?_
    have hsp : sp_X9_now M L a12 what = (M 7) := by simp only [sp_X9_now, if_pos c_1]
    exact hret _ _ _ _ _ (by rw [hsp]) rfl hP hS dX9_now_76
  by_cases c_2 : what = 1
  · refine lv_tableIn (off := 76) (tgt := 77) hx hb dX9_now_1 (by rw [c_2]; decide) (by rw [c_2]; decide) (by rw [c_2]; rfl) (by decide) ?_
    refine lv_aload_n hx hb dX9_now_77 rfl (lv_at hl 0 rfl) ?_
    refine k_get hx hb hts hi9 hown hK hP 0 rfl rfl 8 (by decide) hf74 (.int (M 8)) rfl dX9_now_78 ?_
    have hsp : sp_X9_now M L a12 what = (M 8) := by simp only [sp_X9_now, if_neg c_1, if_pos c_2]
    exact hret _ _ _ _ _ (by rw [hsp]) rfl hP hS dX9_now_81
  by_cases c_3 : what = 2
  · refine lv_tableIn (off := 81) (tgt := 82) hx hb dX9_now_1 (by rw [c_3]; decide) (by rw [c_3]; decide) (by rw [c_3]; rfl) (by decide) ?_
    refine lv_aload_n hx hb dX9_now_82 rfl (lv_at hl 0 rfl) ?_
    refine k_get hx hb hts hi9 hown hK hP 0 rfl rfl 9 (by decide) hf77 (.int (M 9)) rfl dX9_now_83 ?_
    have hsp : sp_X9_now M L a12 what = (M 9) := by simp only [sp_X9_now, if_neg c_1, if_neg c_2, if_pos c_3]
    exact hret _ _ _ _ _ (by rw [hsp]) rfl hP hS dX9_now_86
  by_cases c_4 : what = 3
  · refine lv_tableIn (off := 86) (tgt := 87) hx hb dX9_now_1 (by rw [c_4]; decide) (by rw [c_4]; decide) (by rw [c_4]; rfl) (by decide) ?_
    refine lv_aload_n hx hb dX9_now_87 rfl (lv_at hl 0 rfl) ?_
    refine k_get hx hb hts hi9 hown hK hP 0 rfl rfl 10 (by decide) hf86 (.int (M 10)) rfl dX9_now_88 ?_
    have hsp : sp_X9_now M L a12 what = (M 10) := by simp only [sp_X9_now, if_neg c_1, if_neg c_2, if_neg c_3, if_pos c_4]
    exact hret _ _ _ _ _ (by rw [hsp]) rfl hP hS dX9_now_91
  by_cases c_5 : what = 4
  · refine lv_tableIn (off := 91) (tgt := 92) hx hb dX9_now_1 (by rw [c_5]; decide) (by rw [c_5]; decide) (by rw [c_5]; rfl) (by decide) ?_
    refine lv_aload_n hx hb dX9_now_92 rfl (lv_at hl 0 rfl) ?_
    refine k_get hx hb hts hi9 hown hK hP 0 rfl rfl 11 (by decide) hf100 (.int (M 11)) rfl dX9_now_93 ?_
    have hsp : sp_X9_now M L a12 what = (M 11) := by simp only [sp_X9_now, if_neg c_1, if_neg c_2, if_neg c_3, if_neg c_4, if_pos c_5]
    exact hret _ _ _ _ _ (by rw [hsp]) rfl hP hS dX9_now_96
  by_cases c_6 : what = 5
  · refine lv_tableIn (off := 96) (tgt := 97) hx hb dX9_now_1 (by rw [c_6]; decide) (by rw [c_6]; decide) (by rw [c_6]; rfl) (by decide) ?_
    refine lv_aload_n hx hb dX9_now_97 rfl (lv_at hl 0 rfl) ?_
    refine k_get hx hb hts hi9 hown hK hP 0 rfl rfl 12 (by decide) hf35 (.ref (r 12)) rfl dX9_now_98 ?_
    refine lv_iload_n hx hb dX9_now_101 rfl (lv_at hl 1 rfl) ?_
    refine lv_iconst (v := 5) hx hb dX9_now_102 (by decide +kernel) ?_
    refine lv_isub hx hb dX9_now_103 ?_
    refine k_iald hx hb hK hP 1 0 rfl rfl 0 (by rw [c_6]; decide +kernel) (by rw [c_6]; exact vp_in_iff.mpr (by decide +kernel)) dX9_now_104 ?_
    have hsp : sp_X9_now M L a12 what = (a12 0) := by simp only [sp_X9_now, if_neg c_1, if_neg c_2, if_neg c_3, if_neg c_4, if_neg c_5, if_pos c_6]
    exact hret _ _ _ _ _ (by rw [hsp]) rfl hP hS dX9_now_105
  by_cases c_7 : what = 6
  · refine lv_tableIn (off := 96) (tgt := 97) hx hb dX9_now_1 (by rw [c_7]; decide) (by rw [c_7]; decide) (by rw [c_7]; rfl) (by decide) ?_
    refine lv_aload_n hx hb dX9_now_97 rfl (lv_at hl 0 rfl) ?_
    refine k_get hx hb hts hi9 hown hK hP 0 rfl rfl 12 (by decide) hf35 (.ref (r 12)) rfl dX9_now_98 ?_
    refine lv_iload_n hx hb dX9_now_101 rfl (lv_at hl 1 rfl) ?_
    refine lv_iconst (v := 5) hx hb dX9_now_102 (by decide +kernel) ?_
    refine lv_isub hx hb dX9_now_103 ?_
    refine k_iald hx hb hK hP 1 0 rfl rfl 1 (by rw [c_7]; decide +kernel) (by rw [c_7]; exact vp_in_iff.mpr (by decide +kernel)) dX9_now_104 ?_
    have hsp : sp_X9_now M L a12 what = (a12 1) := by simp only [sp_X9_now, if_neg c_1, if_neg c_2, if_neg c_3, if_neg c_4, if_neg c_5, if_neg c_6, if_pos c_7]
    exact hret _ _ _ _ _ (by rw [hsp]) rfl hP hS dX9_now_105
  by_cases c_8 : what = 7
  · refine lv_tableIn (off := 96) (tgt := 97) hx hb dX9_now_1 (by rw [c_8]; decide) (by rw [c_8]; decide) (by rw [c_8]; rfl) (by decide) ?_
    refine lv_aload_n hx hb dX9_now_97 rfl (lv_at hl 0 rfl) ?_
    refine k_get hx hb hts hi9 hown hK hP 0 rfl rfl 12 (by decide) hf35 (.ref (r 12)) rfl dX9_now_98 ?_
    refine lv_iload_n hx hb dX9_now_101 rfl (lv_at hl 1 rfl) ?_
    refine lv_iconst (v := 5) hx hb dX9_now_102 (by decide +kernel) ?_
    refine lv_isub hx hb dX9_now_103 ?_
    refine k_iald hx hb hK hP 1 0 rfl rfl 2 (by rw [c_8]; decide +kernel) (by rw [c_8]; exact vp_in_iff.mpr (by decide +kernel)) dX9_now_104 ?_
    have hsp : sp_X9_now M L a12 what = (a12 2) := by simp only [sp_X9_now, if_neg c_1, if_neg c_2, if_neg c_3, if_neg c_4, if_neg c_5, if_neg c_6, if_neg c_7, if_pos c_8]
    exact hret _ _ _ _ _ (by rw [hsp]) rfl hP hS dX9_now_105
  by_cases c_9 : what = 8
  · refine lv_tableIn (off := 105) (tgt := 106) hx hb dX9_now_1 (by rw [c_9]; decide) (by rw [c_9]; decide) (by rw [c_9]; rfl) (by decide) ?_
    refine lv_aload_n hx hb dX9_now_106 rfl (lv_at hl 0 rfl) ?_
    refine k_get hx hb hts hi9 hown hK hP 0 rfl rfl 13 (by decide) hf83 (.int (M 13)) rfl dX9_now_107 ?_
    have hsp : sp_X9_now M L a12 what = (M 13) := by simp only [sp_X9_now, if_neg c_1, if_neg c_2, if_neg c_3, if_neg c_4, if_neg c_5, if_neg c_6, if_neg c_7, if_neg c_8, if_pos c_9]
    exact hret _ _ _ _ _ (by rw [hsp]) rfl hP hS dX9_now_110
  by_cases c_10 : what = 9
  · refine lv_tableIn (off := 110) (tgt := 111) hx hb dX9_now_1 (by rw [c_10]; decide) (by rw [c_10]; decide) (by rw [c_10]; rfl) (by decide) ?_
    refine lv_aload_n hx hb dX9_now_111 rfl (lv_at hl 0 rfl) ?_
    refine k_get hx hb hts hi9 hown hK hP 0 rfl rfl 14 (by decide) hf80 (.int (M 14)) rfl dX9_now_112 ?_
    have hsp : sp_X9_now M L a12 what = (M 14) := by simp only [sp_X9_now, if_neg c_1, if_neg c_2, if_neg c_3, if_neg c_4, if_neg c_5, if_neg c_6, if_neg c_7, if_neg c_8, if_neg c_9, if_pos c_10]
    exact hret _ _ _ _ _ (by rw [hsp]) rfl hP hS dX9_now_115
  by_cases c_11 : what = 10
  · refine lv_tableIn (off := 115) (tgt := 116) hx hb dX9_now_1 (by rw [c_11]; decide) (by rw [c_11]; decide) (by rw [c_11]; rfl) (by decide) ?_
    refine lv_aload_n hx hb dX9_now_116 rfl (lv_at hl 0 rfl) ?_
    refine k_get hx hb hts hi9 hown hK hP 0 rfl rfl 15 (by decide) hf130 (.int (M 15)) rfl dX9_now_117 ?_
    have hsp : sp_X9_now M L a12 what = (M 15) := by simp only [sp_X9_now, if_neg c_1, if_neg c_2, if_neg c_3, if_neg c_4, if_neg c_5, if_neg c_6, if_neg c_7, if_neg c_8, if_neg c_9, if_neg c_10, if_pos c_11]
    exact hret _ _ _ _ _ (by rw [hsp]) rfl hP hS dX9_now_120
  by_cases c_12 : what = 11
  · refine lv_tableIn (off := 120) (tgt := 121) hx hb dX9_now_1 (by rw [c_12]; decide) (by rw [c_12]; decide) (by rw [c_12]; rfl) (by decide) ?_
    refine lv_aload_n hx hb dX9_now_121 rfl (lv_at hl 0 rfl) ?_
    refine k_get hx hb hts hi9 hown hK hP 0 rfl rfl 16 (by decide) hf142 (.int (M 16)) rfl dX9_now_122 ?_
    have hsp : sp_X9_now M L a12 what = (M 16) := by simp only [sp_X9_now, if_neg c_1, if_neg c_2, if_neg c_3, if_neg c_4, if_neg c_5, if_neg c_6, if_neg c_7, if_neg c_8, if_neg c_9, if_neg c_10, if_neg c_11, if_pos c_12]
    exact hret _ _ _ _ _ (by rw [hsp]) rfl hP hS dX9_now_125
  by_cases c_13 : what = 12
  · refine lv_tableIn (off := 125) (tgt := 126) hx hb dX9_now_1 (by rw [c_13]; decide) (by rw [c_13]; decide) (by rw [c_13]; rfl) (by decide) ?_
    refine lv_aload_n hx hb dX9_now_126 rfl (lv_at hl 0 rfl) ?_
    refine k_get hx hb hts hi9 hown hK hP 0 rfl rfl 17 (by decide) hf113 (.int (M 17)) rfl dX9_now_127 ?_
    have hsp : sp_X9_now M L a12 what = (M 17) := by simp only [sp_X9_now, if_neg c_1, if_neg c_2, if_neg c_3, if_neg c_4, if_neg c_5, if_neg c_6, if_neg c_7, if_neg c_8, if_neg c_9, if_neg c_10, if_neg c_11, if_neg c_12, if_pos c_13]
    exact hret _ _ _ _ _ (by rw [hsp]) rfl hP hS dX9_now_130
  by_cases c_14 : what = 13
  · refine lv_tableIn (off := 130) (tgt := 131) hx hb dX9_now_1 (by rw [c_14]; decide) (by rw [c_14]; decide) (by rw [c_14]; rfl) (by decide) ?_
    refine lv_aload_n hx hb dX9_now_131 rfl (lv_at hl 0 rfl) ?_
    refine k_get hx hb hts hi9 hown hK hP 0 rfl rfl 18 (by decide) hf38 (.int (M 18)) rfl dX9_now_132 ?_
    have hsp : sp_X9_now M L a12 what = (M 18) := by simp only [sp_X9_now, if_neg c_1, if_neg c_2, if_neg c_3, if_neg c_4, if_neg c_5, if_neg c_6, if_neg c_7, if_neg c_8, if_neg c_9, if_neg c_10, if_neg c_11, if_neg c_12, if_neg c_13, if_pos c_14]
    exact hret _ _ _ _ _ (by rw [hsp]) rfl hP hS dX9_now_135
  refine lv_tableOut (tgt := 136) hx hb dX9_now_1 (by have q0 := lv_neT c_1 (show (0 : Int32).toInt = 0 by decide +kernel); have q1 := lv_neT c_2 (show (1 : Int32).toInt = 1 by decide +kernel); have q2 := lv_neT c_3 (show (2 : Int32).toInt = 2 by decide +kernel); have q3 := lv_neT c_4 (show (3 : Int32).toInt = 3 by decide +kernel); have q4 := lv_neT c_5 (show (4 : Int32).toInt = 4 by decide +kernel); have q5 := lv_neT c_6 (show (5 : Int32).toInt = 5 by decide +kernel); have q6 := lv_neT c_7 (show (6 : Int32).toInt = 6 by decide +kernel); have q7 := lv_neT c_8 (show (7 : Int32).toInt = 7 by decide +kernel); have q8 := lv_neT c_9 (show (8 : Int32).toInt = 8 by decide +kernel); have q9 := lv_neT c_10 (show (9 : Int32).toInt = 9 by decide +kernel); have q10 := lv_neT c_11 (show (10 : Int32).toInt = 10 by decide +kernel); have q11 := lv_neT c_12 (show (11 : Int32).toInt = 11 by decide +kernel); have q12 := lv_neT c_13 (show (12 : Int32).toInt = 12 by decide +kernel); have q13 := lv_neT c_14 (show (13 : Int32).toInt = 13 by decide +kernel); omega) (by decide) ?_
  refine lv_bipush (v := (-2)) hx hb dX9_now_136 (by decide +kernel) ?_
  have hsp : sp_X9_now M L a12 what = (-2) := by simp only [sp_X9_now, if_neg c_1, if_neg c_2, if_neg c_3, if_neg c_4, if_neg c_5, if_neg c_6, if_neg c_7, if_neg c_8, if_neg c_9, if_neg c_10, if_neg c_11, if_neg c_12, if_neg c_13, if_neg c_14]
  exact hret _ _ _ _ _ (by rw [hsp]) rfl hP hS dX9_now_138

def sp_X9_cause (M : Nat → Int32) (L : Int64) (a29 : Nat → Int32) (k : Int32) : Int32 :=
  (if (sp_X9_within k 0 4) = 0 then
    (-2)
  else
    let z_2 : Int32 := (if (M 30) ≤ k then (-9) else (a29 k.toNatClampNeg))
    z_2)
set_option maxRecDepth 100000 in
theorem sq_X9_cause_1 (M : Nat → Int32) (L : Int64) (a29 : Nat → Int32) (k : Int32) (z_2 : Int32) (ez_2 : z_2 = (if (M 30) ≤ k then (-9) else (a29 k.toNatClampNeg))) (c_1 : ¬ ((sp_X9_within k 0 4) = 0)) : sp_X9_cause M L a29 k = z_2 := by subst ez_2; simp only [sp_X9_cause, if_neg c_1]
set_option maxHeartbeats 4000000 in
set_option maxRecDepth 100000 in
theorem c_X9_cause (l : Launch) (D : va_G) (cI cJ cO : ClassId) (h : Nat) (r : Nat → Nat) (M : Nat → Int32) (L : Int64) (a29 : Nat → Int32) (k : Int32)  : MI l D (TY cI cJ cO) yX9_cause wsX9_cause (RM 1) [.ref h, .int k] [(h, oX9 r M L), ((r 29), .inl (cI, 5, .inl a29))] (sp_X9_cause M L a29 k) [(h, oX9 r M L), ((r 29), .inl (cI, 5, .inl a29))] := by
  refine k_entI (cc := cX9_cause) (maxL := 2) (lv := [(0, .ref h), (1, .int k)]) (by decide +kernel) rfl (Nat.le_of_ble_eq_true rfl) rfl ?_
  intro p e s m below meth c A Q ls hx hb hml hts hown hA hS hP hD hK hN hl hret
  have hown : s.vm.findClass RX9 = some m.cls := hown
  have hi9 : ∀ w ∈ wsX90, w ∈ wsX9_cause := fun w h => List.mem_cons_of_mem _ (List.mem_append_right _ h)
  have hf44 := hts (.fieldLink RX9 44 "PressGuardModel" "firstCauses" "[I") (by decide +kernel)
  have hf182 := hts (.fieldLink RX9 182 "PressGuardModel" "manyCauses" "I") (by decide +kernel)
  refine lv_iload_n hx hb dX9_cause_0 rfl (lv_at hl 1 rfl) ?_
  refine lv_iconst (v := 0) hx hb dX9_cause_1 (by decide +kernel) ?_
  refine lv_iconst (v := 4) hx hb dX9_cause_2 (by decide +kernel) ?_
  refine k_Si ⟨hx, hb, hml, hown, hts⟩ (c_X9_within l D cI cJ cO k 0 4) (va_cwS 3 hts gX9_cause_X9_within rfl rfl rfl (by decide +kernel) ⟨Nat.le_of_ble_eq_true rfl, Nat.le_of_ble_eq_true rfl⟩) hK hN hP hD hS hA [] rfl rfl rfl (ws' := [(h, oX9 r M L), ((r 29), .inl (cI, 5, .inl a29))]) rfl rfl hl.1 rfl (Nat.le_of_ble_eq_true rfl) dX9_cause_3 ⟨Nat.le_refl _, Nat.le_refl _⟩ (fun H locs hP hD hS => ?_)
  refine lv_if_ne (tgt := 12) hx hb dX9_cause_6 (by decide) (fun c_1 => ?_) (fun c_1 => ?_)
  · skip
    refine lv_iload_n hx hb dX9_cause_12 rfl (lv_at hl 1 rfl) ?_
    refine lv_aload_n hx hb dX9_cause_13 rfl (lv_at hl 0 rfl) ?_
    refine k_get hx hb hts hi9 hown hK hP 0 rfl rfl 30 (by decide) hf182 (.int (M 30)) rfl dX9_cause_14 ?_
    have J_3 : ∀ z_2 : Int32, z_2 = (if (M 30) ≤ k then (-9) else (a29 k.toNatClampNeg)) → ∀ (H : Heap) (locs : List Loc), va_P D vwCl [(h, oX9 r M L), ((r 29), .inl (cI, 5, .inl a29))] H → va_D A [(h, oX9 r M L), ((r 29), .inl (cI, 5, .inl a29))] → va_S A s.heap H locs → ∀ ls : Array Slot, lv_has ls 2 [] → W p l e (RM 1) s m ([.ref h, .int k] : List Value).toArray below meth c H locs 0 0 Q (F0 m 31 ls [.int z_2]) := by
      intro z_2 ez_2 H locs hP hD hS ls hl
      have hsp : sp_X9_cause M L a29 k = z_2 := sq_X9_cause_1 M L a29 k z_2 ez_2 c_1
      exact hret _ _ _ _ _ (by rw [hsp]) rfl hP hS dX9_cause_31
    refine lv_icmp_ge (tgt := 29) hx hb dX9_cause_17 (by decide) (fun c_4 => ?_) (fun c_4 => ?_)
    · skip
      refine lv_bipush (v := (-9)) hx hb dX9_cause_29 (by decide +kernel) ?_
      exact J_3 (-9) (by first | (simp only [if_pos c_4]; done) | rfl) _ _ hP hD hS _ (lv_sub hl [] rfl)
    · skip
      refine lv_aload_n hx hb dX9_cause_20 rfl (lv_at hl 0 rfl) ?_
      refine k_get hx hb hts hi9 hown hK hP 0 rfl rfl 29 (by decide) hf44 (.ref (r 29)) rfl dX9_cause_21 ?_
      refine lv_iload_n hx hb dX9_cause_24 rfl (lv_at hl 1 rfl) ?_
      refine k_iald hx hb hK hP 1 0 rfl rfl k.toNatClampNeg (rfl) (wi_in c_1 (by decide)) dX9_cause_25 ?_
      refine lv_goto (tgt := 31) hx hb dX9_cause_26 (by decide) ?_
      exact J_3 (a29 k.toNatClampNeg) (by first | (simp only [if_neg c_4]; done) | rfl) _ _ hP hD hS _ (lv_sub hl [] rfl)
  · skip
    refine lv_bipush (v := (-2)) hx hb dX9_cause_9 (by decide +kernel) ?_
    have hsp : sp_X9_cause M L a29 k = (-2) := by simp only [sp_X9_cause, if_pos c_1]
    exact hret _ _ _ _ _ (by rw [hsp]) rfl hP hS dX9_cause_11

def sp_X9_followed (M : Nat → Int32) (L : Int64) (a31 : Nat → Int32) (ahead : Int32) : Int32 :=
  let z_1 : Int32 := (if (sp_X9_within ahead 0 4) = 0 then (-2) else (a31 ahead.toNatClampNeg))
  z_1
set_option maxRecDepth 100000 in
theorem sq_X9_followed_1 (M : Nat → Int32) (L : Int64) (a31 : Nat → Int32) (ahead : Int32) (z_1 : Int32) (ez_1 : z_1 = (if (sp_X9_within ahead 0 4) = 0 then (-2) else (a31 ahead.toNatClampNeg))) : sp_X9_followed M L a31 ahead = z_1 := by subst ez_1; rfl
set_option maxHeartbeats 4000000 in
set_option maxRecDepth 100000 in
theorem c_X9_followed (l : Launch) (D : va_G) (cI cJ cO : ClassId) (h : Nat) (r : Nat → Nat) (M : Nat → Int32) (L : Int64) (a31 : Nat → Int32) (ahead : Int32)  : MI l D (TY cI cJ cO) yX9_followed wsX9_followed (RM 1) [.ref h, .int ahead] [(h, oX9 r M L), ((r 31), .inl (cI, 5, .inl a31))] (sp_X9_followed M L a31 ahead) [(h, oX9 r M L), ((r 31), .inl (cI, 5, .inl a31))] := by
  refine k_entI (cc := cX9_followed) (maxL := 2) (lv := [(0, .ref h), (1, .int ahead)]) (by decide +kernel) rfl (Nat.le_of_ble_eq_true rfl) rfl ?_
  intro p e s m below meth c A Q ls hx hb hml hts hown hA hS hP hD hK hN hl hret
  have hown : s.vm.findClass RX9 = some m.cls := hown
  have hi9 : ∀ w ∈ wsX90, w ∈ wsX9_followed := fun w h => List.mem_cons_of_mem _ (List.mem_append_right _ h)
  have hf47 := hts (.fieldLink RX9 47 "PressGuardModel" "behind" "[I") (by decide +kernel)
  refine lv_iload_n hx hb dX9_followed_0 rfl (lv_at hl 1 rfl) ?_
  refine lv_iconst (v := 0) hx hb dX9_followed_1 (by decide +kernel) ?_
  refine lv_iconst (v := 4) hx hb dX9_followed_2 (by decide +kernel) ?_
  refine k_Si ⟨hx, hb, hml, hown, hts⟩ (c_X9_within l D cI cJ cO ahead 0 4) (va_cwS 3 hts gX9_followed_X9_within rfl rfl rfl (by decide +kernel) ⟨Nat.le_of_ble_eq_true rfl, Nat.le_of_ble_eq_true rfl⟩) hK hN hP hD hS hA [] rfl rfl rfl (ws' := [(h, oX9 r M L), ((r 31), .inl (cI, 5, .inl a31))]) rfl rfl hl.1 rfl (Nat.le_of_ble_eq_true rfl) dX9_followed_3 ⟨Nat.le_refl _, Nat.le_refl _⟩ (fun H locs hP hD hS => ?_)
  have J_2 : ∀ z_1 : Int32, z_1 = (if (sp_X9_within ahead 0 4) = 0 then (-2) else (a31 ahead.toNatClampNeg)) → ∀ (H : Heap) (locs : List Loc), va_P D vwCl [(h, oX9 r M L), ((r 31), .inl (cI, 5, .inl a31))] H → va_D A [(h, oX9 r M L), ((r 31), .inl (cI, 5, .inl a31))] → va_S A s.heap H locs → ∀ ls : Array Slot, lv_has ls 2 [] → W p l e (RM 1) s m ([.ref h, .int ahead] : List Value).toArray below meth c H locs 0 0 Q (F0 m 20 ls [.int z_1]) := by
    intro z_1 ez_1 H locs hP hD hS ls hl
    have hsp : sp_X9_followed M L a31 ahead = z_1 := sq_X9_followed_1 M L a31 ahead z_1 ez_1
    exact hret _ _ _ _ _ (by rw [hsp]) rfl hP hS dX9_followed_20
  refine lv_if_eq (tgt := 18) hx hb dX9_followed_6 (by decide) (fun c_3 => ?_) (fun c_3 => ?_)
  · skip
    refine lv_bipush (v := (-2)) hx hb dX9_followed_18 (by decide +kernel) ?_
    exact J_2 (-2) (by first | (simp only [if_pos c_3]; done) | rfl) _ _ hP hD hS _ (lv_sub hl [] rfl)
  · skip
    refine lv_aload_n hx hb dX9_followed_9 rfl (lv_at hl 0 rfl) ?_
    refine k_get hx hb hts hi9 hown hK hP 0 rfl rfl 31 (by decide) hf47 (.ref (r 31)) rfl dX9_followed_10 ?_
    refine lv_iload_n hx hb dX9_followed_13 rfl (lv_at hl 1 rfl) ?_
    refine k_iald hx hb hK hP 1 0 rfl rfl ahead.toNatClampNeg (rfl) (wi_in c_3 (by decide)) dX9_followed_14 ?_
    refine lv_goto (tgt := 20) hx hb dX9_followed_15 (by decide) ?_
    exact J_2 (a31 ahead.toNatClampNeg) (by first | (simp only [if_neg c_3]; done) | rfl) _ _ hP hD hS _ (lv_sub hl [] rfl)

def bd_X9_many_66 (a5 : Nat → Int32) (i_6 : Nat) (x_7 : (Int32)) : (Int32) :=
  (let z_8 : Int32 := (if (a5 i_6) = 2 then 0 else 1); (x_7 + z_8))
def sp_X9_many (M : Nat → Int32) (L : Int64) (a5 : Nat → Int32) (a6 : Nat → Int32) (what : Int32) : Int32 :=
  (if what = 0 then
    (M 24)
  else
    (if what = 1 then
      (M 25)
    else
      (if what = 2 then
        (M 26)
      else
        (if what = 3 then
          (M 33)
        else
          (if what = 4 then
            let x_7 : (Int32) := lp (bd_X9_many_66 a5) 9 0
            x_7
          else
            (if what = 5 then
              let z_13 : Int32 := (if (a6 0) = 2 then 0 else 1)
              let z_15 : Int32 := (if (a6 1) = 2 then 0 else 1)
              (z_13 + z_15)
            else
              (if what = 6 then
                (M 27)
              else
                (-2))))))))
set_option maxRecDepth 100000 in
theorem sq_X9_many_1 (M : Nat → Int32) (L : Int64) (a5 : Nat → Int32) (a6 : Nat → Int32) (what : Int32) (x_7 : (Int32)) (ex_7 : x_7 = lp (bd_X9_many_66 a5) 9 0) (c_1 : ¬ (what = 0)) (c_2 : ¬ (what = 1)) (c_3 : ¬ (what = 2)) (c_4 : ¬ (what = 3)) (c_5 : what = 4) : sp_X9_many M L a5 a6 what = x_7 := by subst ex_7; simp only [sp_X9_many, if_neg c_1, if_neg c_2, if_neg c_3, if_neg c_4, if_pos c_5]
set_option maxRecDepth 100000 in
theorem sq_X9_many_2 (M : Nat → Int32) (L : Int64) (a5 : Nat → Int32) (a6 : Nat → Int32) (what : Int32) (z_13 : Int32) (z_15 : Int32) (ez_13 : z_13 = (if (a6 0) = 2 then 0 else 1)) (ez_15 : z_15 = (if (a6 1) = 2 then 0 else 1)) (c_1 : ¬ (what = 0)) (c_2 : ¬ (what = 1)) (c_3 : ¬ (what = 2)) (c_4 : ¬ (what = 3)) (c_5 : ¬ (what = 4)) (c_12 : what = 5) : sp_X9_many M L a5 a6 what = (z_13 + z_15) := by subst ez_15; subst ez_13; simp only [sp_X9_many, if_neg c_1, if_neg c_2, if_neg c_3, if_neg c_4, if_neg c_5, if_pos c_12]
set_option maxHeartbeats 4000000 in
set_option maxRecDepth 100000 in
theorem c_X9_many (l : Launch) (D : va_G) (cI cJ cO : ClassId) (h : Nat) (r : Nat → Nat) (M : Nat → Int32) (L : Int64) (a5 : Nat → Int32) (a6 : Nat → Int32) (what : Int32)  : MI l D (TY cI cJ cO) yX9_many wsX9_many (RM 0) [.ref h, .int what] [(h, oX9 r M L), ((r 5), .inl (cI, 9, .inl a5)), ((r 6), .inl (cI, 2, .inl a6))] (sp_X9_many M L a5 a6 what) [(h, oX9 r M L), ((r 5), .inl (cI, 9, .inl a5)), ((r 6), .inl (cI, 2, .inl a6))] := by
  refine k_entI (cc := cX9_many) (maxL := 4) (lv := [(0, .ref h), (1, .int what)]) (by decide +kernel) rfl (Nat.le_of_ble_eq_true rfl) rfl ?_
  intro p e s m below meth c A Q ls hx hb hml hts hown hA hS hP hD hK hN hl hret
  have hown : s.vm.findClass RX9 = some m.cls := hown
  have hi9 : ∀ w ∈ wsX90, w ∈ wsX9_many := fun w h => List.mem_cons_of_mem _ (List.mem_append_right _ h)
  have hf25 := hts (.fieldLink RX9 25 "PressGuardModel" "stuck" "[I") (by decide +kernel)
  have hf29 := hts (.fieldLink RX9 29 "PressGuardModel" "valves" "[I") (by decide +kernel)
  have hf170 := hts (.fieldLink RX9 170 "PressGuardModel" "ticks" "I") (by decide +kernel)
  have hf173 := hts (.fieldLink RX9 173 "PressGuardModel" "dangers" "I") (by decide +kernel)
  have hf176 := hts (.fieldLink RX9 176 "PressGuardModel" "rounds" "I") (by decide +kernel)
  have hf179 := hts (.fieldLink RX9 179 "PressGuardModel" "locks" "I") (by decide +kernel)
  have hf202 := hts (.fieldLink RX9 202 "PressGuardModel" "steps" "I") (by decide +kernel)
  refine lv_iconst (v := 0) hx hb dX9_many_0 (by decide +kernel) ?_
  refine lv_istore_n (lv' := [(2, .int 0), (0, .ref h), (1, .int what)]) hx hb dX9_many_1 rfl hl (by decide) rfl (fun ls hl => ?_)
  refine lv_iload_n hx hb dX9_many_2 rfl (lv_at hl 2 rfl) ?_
  by_cases c_1 : what = 0
  · refine lv_tableIn (off := 41) (tgt := 44) hx hb dX9_many_3 (by rw [c_1]; decide) (by rw [c_1]; decide) (by rw [c_1]; rfl) (by decide) ?_
    refine lv_aload_n hx hb dX9_many_44 rfl (lv_at hl 1 rfl) ?_
    refine k_get hx hb hts hi9 hown hK hP 0 rfl rfl 24 (by decide) hf170 (.int (M 24)) rfl dX9_many_45 ?_
    have hsp : sp_X9_many M L a5 a6 what = (M 24) := by simp only [sp_X9_many, if_pos c_1]
    exact hret _ _ _ _ _ (by rw [hsp]) rfl hP hS dX9_many_48
  by_cases c_2 : what = 1
  · refine lv_tableIn (off := 46) (tgt := 49) hx hb dX9_many_3 (by rw [c_2]; decide) (by rw [c_2]; decide) (by rw [c_2]; rfl) (by decide) ?_
    refine lv_aload_n hx hb dX9_many_49 rfl (lv_at hl 1 rfl) ?_
    refine k_get hx hb hts hi9 hown hK hP 0 rfl rfl 25 (by decide) hf173 (.int (M 25)) rfl dX9_many_50 ?_
    have hsp : sp_X9_many M L a5 a6 what = (M 25) := by simp only [sp_X9_many, if_neg c_1, if_pos c_2]
    exact hret _ _ _ _ _ (by rw [hsp]) rfl hP hS dX9_many_53
  by_cases c_3 : what = 2
  · refine lv_tableIn (off := 51) (tgt := 54) hx hb dX9_many_3 (by rw [c_3]; decide) (by rw [c_3]; decide) (by rw [c_3]; rfl) (by decide) ?_
    refine lv_aload_n hx hb dX9_many_54 rfl (lv_at hl 1 rfl) ?_
    refine k_get hx hb hts hi9 hown hK hP 0 rfl rfl 26 (by decide) hf176 (.int (M 26)) rfl dX9_many_55 ?_
    have hsp : sp_X9_many M L a5 a6 what = (M 26) := by simp only [sp_X9_many, if_neg c_1, if_neg c_2, if_pos c_3]
    exact hret _ _ _ _ _ (by rw [hsp]) rfl hP hS dX9_many_58
  by_cases c_4 : what = 3
  · refine lv_tableIn (off := 56) (tgt := 59) hx hb dX9_many_3 (by rw [c_4]; decide) (by rw [c_4]; decide) (by rw [c_4]; rfl) (by decide) ?_
    refine lv_aload_n hx hb dX9_many_59 rfl (lv_at hl 1 rfl) ?_
    refine k_get hx hb hts hi9 hown hK hP 0 rfl rfl 33 (by decide) hf202 (.int (M 33)) rfl dX9_many_60 ?_
    have hsp : sp_X9_many M L a5 a6 what = (M 33) := by simp only [sp_X9_many, if_neg c_1, if_neg c_2, if_neg c_3, if_pos c_4]
    exact hret _ _ _ _ _ (by rw [hsp]) rfl hP hS dX9_many_63
  by_cases c_5 : what = 4
  · refine lv_tableIn (off := 61) (tgt := 64) hx hb dX9_many_3 (by rw [c_5]; decide) (by rw [c_5]; decide) (by rw [c_5]; rfl) (by decide) ?_
    refine lv_iconst (v := 0) hx hb dX9_many_64 (by decide +kernel) ?_
    refine lv_istore_n (lv' := [(3, .int 0), (2, .int 0), (0, .ref h), (1, .int what)]) hx hb dX9_many_65 rfl hl (by decide) rfl (fun ls hl => ?_)
    obtain ⟨fx_7, hfx_7⟩ : ∃ f : Nat → (Int32) → (Int32), f = (bd_X9_many_66 a5) := ⟨_, rfl⟩
    have hB_x_7 : (9 : Int32) = nI 9 := by decide +kernel
    have hN_x_7 : 9 < 2 ^ 31 := by decide
    have Lx_7 : ∀ (nn i_6 : Nat) (x_7 : (Int32)), 9 + 1 ≤ i_6 + nn → i_6 ≤ 9 → x_7 = lp fx_7 i_6 0 → ∀ (H : Heap) (locs : List Loc), va_P D vwCl [(h, oX9 r M L), ((r 5), .inl (cI, 9, .inl a5)), ((r 6), .inl (cI, 2, .inl a6))] H → va_D A [(h, oX9 r M L), ((r 5), .inl (cI, 9, .inl a5)), ((r 6), .inl (cI, 2, .inl a6))] → va_S A s.heap H locs → ∀ ls : Array Slot, lv_has ls 4 [(0, .ref h), (2, .int x_7), (3, .int (nI i_6))] → W p l e (RM 0) s m ([.ref h, .int what] : List Value).toArray below meth c H locs 0 0 Q (F0 m 66 ls []) := by
      intro nn_x_7
      induction nn_x_7 with
      | zero => intro i_6 x_7 h1 h2; exact absurd h1 (by omega)
      | succ nn_x_7 ih_x_7 =>
        intro i_6 x_7 hn_x_7 hi_i_6 ex_x_7 H locs hP hD hS ls hl
        refine lv_iload_n hx hb dX9_many_66 rfl (lv_at hl 2 rfl) ?_
        refine lv_bipush (v := 9) hx hb dX9_many_67 (by decide +kernel) ?_
        refine lv_icmp_ge (tgt := 96) hx hb dX9_many_69 (by decide) (fun c_8 => ?_) (fun c_8 => ?_)
        · skip
          have hq_x_7 : i_6 = 9 := k_eq hB_x_7 c_8 hi_i_6 hN_x_7
          have ex_7 : x_7 = lp (bd_X9_many_66 a5) 9 0 := by rw [ex_x_7, hfx_7, hq_x_7]
          refine lv_iload_n hx hb dX9_many_96 rfl (lv_at hl 1 rfl) ?_
          have hsp : sp_X9_many M L a5 a6 what = x_7 := sq_X9_many_1 M L a5 a6 what x_7 ex_7 c_1 c_2 c_3 c_4 c_5
          exact hret _ _ _ _ _ (by rw [hsp]) rfl hP hS dX9_many_97
        · skip
          have hlt_i_6 : i_6 < 9 := k_lt hB_x_7 c_8 hi_i_6 hN_x_7
          refine lv_iload_n hx hb dX9_many_72 rfl (lv_at hl 1 rfl) ?_
          refine lv_aload_n hx hb dX9_many_73 rfl (lv_at hl 0 rfl) ?_
          refine k_get hx hb hts hi9 hown hK hP 0 rfl rfl 5 (by decide) hf25 (.ref (r 5)) rfl dX9_many_74 ?_
          refine lv_iload_n hx hb dX9_many_77 rfl (lv_at hl 2 rfl) ?_
          refine k_iald hx hb hK hP 1 0 rfl rfl i_6 (nI_clamp (by omega)) (vp_in_nI (by omega) (by omega)) dX9_many_78 ?_
          refine lv_iconst (v := 2) hx hb dX9_many_79 (by decide +kernel) ?_
          have J_10 : ∀ z_9 : Int32, z_9 = (if (a5 i_6) = 2 then 0 else 1) → ∀ (H : Heap) (locs : List Loc), va_P D vwCl [(h, oX9 r M L), ((r 5), .inl (cI, 9, .inl a5)), ((r 6), .inl (cI, 2, .inl a6))] H → va_D A [(h, oX9 r M L), ((r 5), .inl (cI, 9, .inl a5)), ((r 6), .inl (cI, 2, .inl a6))] → va_S A s.heap H locs → ∀ ls : Array Slot, lv_has ls 4 [(0, .ref h), (3, .int (nI i_6))] → W p l e (RM 0) s m ([.ref h, .int what] : List Value).toArray below meth c H locs 0 0 Q (F0 m 88 ls [.int z_9, .int x_7]) := by
            intro z_9 ez_9 H locs hP hD hS ls hl
            refine lv_iadd hx hb dX9_many_88 ?_
            refine lv_istore_n (lv' := [(2, .int (x_7 + z_9)), (0, .ref h), (3, .int (nI i_6))]) hx hb dX9_many_89 rfl hl (by decide) rfl (fun ls hl => ?_)
            refine lv_iinc (v := (nI (i_6 + 1))) (lv' := [(3, .int (nI (i_6 + 1))), (2, .int (x_7 + z_9)), (0, .ref h)]) hx hb dX9_many_90 hl (k := 2) rfl (nI_1 i_6) (by decide) rfl (fun ls hl => ?_)
            refine lv_goto (tgt := 66) hx hb dX9_many_93 (by decide) ?_
            exact ih_x_7 (i_6 + 1) (x_7 + z_9) (by omega) (by omega) (by subst ez_9; rw [show lp fx_7 (i_6 + 1) 0 = fx_7 i_6 (lp fx_7 i_6 0) from rfl, ← ex_x_7, hfx_7]; try (first | (rfl; done) | rfl)) _ _ hP hD hS _ (lv_sub hl [2, 1, 0] rfl)
          refine lv_icmp_eq (tgt := 87) hx hb dX9_many_80 (by decide) (fun c_11 => ?_) (fun c_11 => ?_)
          · skip
            refine lv_iconst (v := 0) hx hb dX9_many_87 (by decide +kernel) ?_
            exact J_10 0 (by first | (simp only [if_pos c_11]; done) | rfl) _ _ hP hD hS _ (lv_sub hl [0, 2] rfl)
          · skip
            refine lv_iconst (v := 1) hx hb dX9_many_83 (by decide +kernel) ?_
            refine lv_goto (tgt := 88) hx hb dX9_many_84 (by decide) ?_
            exact J_10 1 (by first | (simp only [if_neg c_11]; done) | rfl) _ _ hP hD hS _ (lv_sub hl [0, 2] rfl)
    exact Lx_7 (9 + 1) 0 0 (by omega) (Nat.zero_le _) rfl _ _ hP hD hS _ (lv_sub hl [2, 1, 0] rfl)
  by_cases c_12 : what = 5
  · refine lv_tableIn (off := 95) (tgt := 98) hx hb dX9_many_3 (by rw [c_12]; decide) (by rw [c_12]; decide) (by rw [c_12]; rfl) (by decide) ?_
    refine lv_aload_n hx hb dX9_many_98 rfl (lv_at hl 1 rfl) ?_
    refine k_get hx hb hts hi9 hown hK hP 0 rfl rfl 6 (by decide) hf29 (.ref (r 6)) rfl dX9_many_99 ?_
    refine lv_iconst (v := 0) hx hb dX9_many_102 (by decide +kernel) ?_
    refine k_iald hx hb hK hP 2 0 rfl rfl 0 (by decide +kernel) (vp_in_iff.mpr (by decide +kernel)) dX9_many_103 ?_
    refine lv_iconst (v := 2) hx hb dX9_many_104 (by decide +kernel) ?_
    have J_14 : ∀ z_13 : Int32, z_13 = (if (a6 0) = 2 then 0 else 1) → ∀ (H : Heap) (locs : List Loc), va_P D vwCl [(h, oX9 r M L), ((r 5), .inl (cI, 9, .inl a5)), ((r 6), .inl (cI, 2, .inl a6))] H → va_D A [(h, oX9 r M L), ((r 5), .inl (cI, 9, .inl a5)), ((r 6), .inl (cI, 2, .inl a6))] → va_S A s.heap H locs → ∀ ls : Array Slot, lv_has ls 4 [(0, .ref h)] → W p l e (RM 0) s m ([.ref h, .int what] : List Value).toArray below meth c H locs 0 0 Q (F0 m 113 ls [.int z_13]) := by
      intro z_13 ez_13 H locs hP hD hS ls hl
      refine lv_aload_n hx hb dX9_many_113 rfl (lv_at hl 0 rfl) ?_
      refine k_get hx hb hts hi9 hown hK hP 0 rfl rfl 6 (by decide) hf29 (.ref (r 6)) rfl dX9_many_114 ?_
      refine lv_iconst (v := 1) hx hb dX9_many_117 (by decide +kernel) ?_
      refine k_iald hx hb hK hP 2 0 rfl rfl 1 (by decide +kernel) (vp_in_iff.mpr (by decide +kernel)) dX9_many_118 ?_
      refine lv_iconst (v := 2) hx hb dX9_many_119 (by decide +kernel) ?_
      have J_16 : ∀ z_15 : Int32, z_15 = (if (a6 1) = 2 then 0 else 1) → ∀ (H : Heap) (locs : List Loc), va_P D vwCl [(h, oX9 r M L), ((r 5), .inl (cI, 9, .inl a5)), ((r 6), .inl (cI, 2, .inl a6))] H → va_D A [(h, oX9 r M L), ((r 5), .inl (cI, 9, .inl a5)), ((r 6), .inl (cI, 2, .inl a6))] → va_S A s.heap H locs → ∀ ls : Array Slot, lv_has ls 4 [] → W p l e (RM 0) s m ([.ref h, .int what] : List Value).toArray below meth c H locs 0 0 Q (F0 m 128 ls [.int z_15, .int z_13]) := by
        intro z_15 ez_15 H locs hP hD hS ls hl
        refine lv_iadd hx hb dX9_many_128 ?_
        have hsp : sp_X9_many M L a5 a6 what = (z_13 + z_15) := sq_X9_many_2 M L a5 a6 what z_13 z_15 ez_13 ez_15 c_1 c_2 c_3 c_4 c_5 c_12
        exact hret _ _ _ _ _ (by rw [hsp]) rfl hP hS dX9_many_129
      refine lv_icmp_eq (tgt := 127) hx hb dX9_many_120 (by decide) (fun c_17 => ?_) (fun c_17 => ?_)
      · skip
        refine lv_iconst (v := 0) hx hb dX9_many_127 (by decide +kernel) ?_
        exact J_16 0 (by first | (simp only [if_pos c_17]; done) | rfl) _ _ hP hD hS _ (lv_sub hl [] rfl)
      · skip
        refine lv_iconst (v := 1) hx hb dX9_many_123 (by decide +kernel) ?_
        refine lv_goto (tgt := 128) hx hb dX9_many_124 (by decide) ?_
        exact J_16 1 (by first | (simp only [if_neg c_17]; done) | rfl) _ _ hP hD hS _ (lv_sub hl [] rfl)
    refine lv_icmp_eq (tgt := 112) hx hb dX9_many_105 (by decide) (fun c_18 => ?_) (fun c_18 => ?_)
    · skip
      refine lv_iconst (v := 0) hx hb dX9_many_112 (by decide +kernel) ?_
      exact J_14 0 (by first | (simp only [if_pos c_18]; done) | rfl) _ _ hP hD hS _ (lv_sub hl [1] rfl)
    · skip
      refine lv_iconst (v := 1) hx hb dX9_many_108 (by decide +kernel) ?_
      refine lv_goto (tgt := 113) hx hb dX9_many_109 (by decide) ?_
      exact J_14 1 (by first | (simp only [if_neg c_18]; done) | rfl) _ _ hP hD hS _ (lv_sub hl [1] rfl)
  by_cases c_19 : what = 6
  · refine lv_tableIn (off := 127) (tgt := 130) hx hb dX9_many_3 (by rw [c_19]; decide) (by rw [c_19]; decide) (by rw [c_19]; rfl) (by decide) ?_
    refine lv_aload_n hx hb dX9_many_130 rfl (lv_at hl 1 rfl) ?_
    refine k_get hx hb hts hi9 hown hK hP 0 rfl rfl 27 (by decide) hf179 (.int (M 27)) rfl dX9_many_131 ?_
    have hsp : sp_X9_many M L a5 a6 what = (M 27) := by simp only [sp_X9_many, if_neg c_1, if_neg c_2, if_neg c_3, if_neg c_4, if_neg c_5, if_neg c_12, if_pos c_19]
    exact hret _ _ _ _ _ (by rw [hsp]) rfl hP hS dX9_many_134
  refine lv_tableOut (tgt := 135) hx hb dX9_many_3 (by have q0 := lv_neT c_1 (show (0 : Int32).toInt = 0 by decide +kernel); have q1 := lv_neT c_2 (show (1 : Int32).toInt = 1 by decide +kernel); have q2 := lv_neT c_3 (show (2 : Int32).toInt = 2 by decide +kernel); have q3 := lv_neT c_4 (show (3 : Int32).toInt = 3 by decide +kernel); have q4 := lv_neT c_5 (show (4 : Int32).toInt = 4 by decide +kernel); have q5 := lv_neT c_12 (show (5 : Int32).toInt = 5 by decide +kernel); have q6 := lv_neT c_19 (show (6 : Int32).toInt = 6 by decide +kernel); omega) (by decide) ?_
  refine lv_bipush (v := (-2)) hx hb dX9_many_135 (by decide +kernel) ?_
  have hsp : sp_X9_many M L a5 a6 what = (-2) := by simp only [sp_X9_many, if_neg c_1, if_neg c_2, if_neg c_3, if_neg c_4, if_neg c_5, if_neg c_12, if_neg c_19]
  exact hret _ _ _ _ _ (by rw [hsp]) rfl hP hS dX9_many_137

def sp_X9_wipe (M : Nat → Int32) (L : Int64) : Int32 × (Nat → Int32) :=
  ((M 33), (upd M 33 0))
set_option maxHeartbeats 4000000 in
set_option maxRecDepth 100000 in
theorem c_X9_wipe (l : Launch) (D : va_G) (cI cJ cO : ClassId) (h : Nat) (r : Nat → Nat) (M : Nat → Int32) (L : Int64)  : MI l D (TY cI cJ cO) yX9_wipe wsX9_wipe (RM 0) [.ref h] [(h, oX9 r M L)] ((sp_X9_wipe M L).1) [(h, oX9 r ((sp_X9_wipe M L).2) L)] := by
  refine k_entI (cc := cX9_wipe) (maxL := 2) (lv := [(0, .ref h)]) (by decide +kernel) rfl (Nat.le_of_ble_eq_true rfl) rfl ?_
  intro p e s m below meth c A Q ls hx hb hml hts hown hA hS hP hD hK hN hl hret
  have hown : s.vm.findClass RX9 = some m.cls := hown
  have hi9 : ∀ w ∈ wsX90, w ∈ wsX9_wipe := fun w h => List.mem_cons_of_mem _ (List.mem_append_right _ h)
  have hf202 := hts (.fieldLink RX9 202 "PressGuardModel" "steps" "I") (by decide +kernel)
  refine lv_aload_n hx hb dX9_wipe_0 rfl (lv_at hl 0 rfl) ?_
  refine k_get hx hb hts hi9 hown hK hP 0 rfl rfl 33 (by decide) hf202 (.int (M 33)) rfl dX9_wipe_1 ?_
  refine lv_istore_n (lv' := [(1, .int (M 33)), (0, .ref h)]) hx hb dX9_wipe_4 rfl hl (by decide) rfl (fun ls hl => ?_)
  refine lv_aload_n hx hb dX9_wipe_5 rfl (lv_at hl 1 rfl) ?_
  refine lv_iconst (v := 0) hx hb dX9_wipe_6 (by decide +kernel) ?_
  refine k_put hx hb hts hi9 tyX9_ok nmX9 hown hK hP hD hS 0 rfl rfl 33 (by decide) hf202 rfl (.int 0) rfl rfl (Nat.le_of_ble_eq_true rfl) (ws' := [(h, oX9 r (upd M 33 0) L)]) rfl dX9_wipe_7 (fun H locs hP hD hS => ?_)
  refine lv_iload_n hx hb dX9_wipe_10 rfl (lv_at hl 0 rfl) ?_
  have hsp : sp_X9_wipe M L = ((M 33), (upd M 33 0)) := rfl
  exact hret _ _ _ _ _ (by rw [hsp]) rfl (by rw [hsp]; exact hP) hS dX9_wipe_11

def sp_X9_stepAt (M : Nat → Int32) (L : Int64) (a32 : Nat → Int32) (k : Int32) : Int32 :=
  let z_1 : Int32 := (if (sp_X9_within k 0 ((M 33) - 1)) = 0 then (-1) else (a32 k.toNatClampNeg))
  z_1
set_option maxRecDepth 100000 in
theorem sq_X9_stepAt_1 (M : Nat → Int32) (L : Int64) (a32 : Nat → Int32) (k : Int32) (z_1 : Int32) (ez_1 : z_1 = (if (sp_X9_within k 0 ((M 33) - 1)) = 0 then (-1) else (a32 k.toNatClampNeg))) : sp_X9_stepAt M L a32 k = z_1 := by subst ez_1; rfl
set_option maxHeartbeats 4000000 in
set_option maxRecDepth 100000 in
theorem c_X9_stepAt (l : Launch) (D : va_G) (cI cJ cO : ClassId) (h : Nat) (r : Nat → Nat) (M : Nat → Int32) (L : Int64) (a32 : Nat → Int32) (k : Int32) (h0 : ¬ M 33 < 0) (h1 : ¬ 32 < M 33) : MI l D (TY cI cJ cO) yX9_stepAt wsX9_stepAt (RM 1) [.ref h, .int k] [(h, oX9 r M L), ((r 32), .inl (cI, 32, .inl a32))] (sp_X9_stepAt M L a32 k) [(h, oX9 r M L), ((r 32), .inl (cI, 32, .inl a32))] := by
  refine k_entI (cc := cX9_stepAt) (maxL := 2) (lv := [(0, .ref h), (1, .int k)]) (by decide +kernel) rfl (Nat.le_of_ble_eq_true rfl) rfl ?_
  intro p e s m below meth c A Q ls hx hb hml hts hown hA hS hP hD hK hN hl hret
  have hown : s.vm.findClass RX9 = some m.cls := hown
  have hi9 : ∀ w ∈ wsX90, w ∈ wsX9_stepAt := fun w h => List.mem_cons_of_mem _ (List.mem_append_right _ h)
  have hf50 := hts (.fieldLink RX9 50 "PressGuardModel" "script" "[I") (by decide +kernel)
  have hf202 := hts (.fieldLink RX9 202 "PressGuardModel" "steps" "I") (by decide +kernel)
  refine lv_iload_n hx hb dX9_stepAt_0 rfl (lv_at hl 1 rfl) ?_
  refine lv_iconst (v := 0) hx hb dX9_stepAt_1 (by decide +kernel) ?_
  refine lv_aload_n hx hb dX9_stepAt_2 rfl (lv_at hl 0 rfl) ?_
  refine k_get hx hb hts hi9 hown hK hP 0 rfl rfl 33 (by decide) hf202 (.int (M 33)) rfl dX9_stepAt_3 ?_
  refine lv_iconst (v := 1) hx hb dX9_stepAt_6 (by decide +kernel) ?_
  refine lv_isub hx hb dX9_stepAt_7 ?_
  refine k_Si ⟨hx, hb, hml, hown, hts⟩ (c_X9_within l D cI cJ cO k 0 ((M 33) - 1)) (va_cwS 3 hts gX9_stepAt_X9_within rfl rfl rfl (by decide +kernel) ⟨Nat.le_of_ble_eq_true rfl, Nat.le_of_ble_eq_true rfl⟩) hK hN hP hD hS hA [] rfl rfl rfl (ws' := [(h, oX9 r M L), ((r 32), .inl (cI, 32, .inl a32))]) rfl rfl hl.1 rfl (Nat.le_of_ble_eq_true rfl) dX9_stepAt_8 ⟨Nat.le_refl _, Nat.le_refl _⟩ (fun H locs hP hD hS => ?_)
  have J_2 : ∀ z_1 : Int32, z_1 = (if (sp_X9_within k 0 ((M 33) - 1)) = 0 then (-1) else (a32 k.toNatClampNeg)) → ∀ (H : Heap) (locs : List Loc), va_P D vwCl [(h, oX9 r M L), ((r 32), .inl (cI, 32, .inl a32))] H → va_D A [(h, oX9 r M L), ((r 32), .inl (cI, 32, .inl a32))] → va_S A s.heap H locs → ∀ ls : Array Slot, lv_has ls 2 [] → W p l e (RM 1) s m ([.ref h, .int k] : List Value).toArray below meth c H locs 0 0 Q (F0 m 24 ls [.int z_1]) := by
    intro z_1 ez_1 H locs hP hD hS ls hl
    have hsp : sp_X9_stepAt M L a32 k = z_1 := sq_X9_stepAt_1 M L a32 k z_1 ez_1
    exact hret _ _ _ _ _ (by rw [hsp]) rfl hP hS dX9_stepAt_24
  refine lv_if_eq (tgt := 23) hx hb dX9_stepAt_11 (by decide) (fun c_3 => ?_) (fun c_3 => ?_)
  · skip
    refine lv_iconst (v := (-1)) hx hb dX9_stepAt_23 (by decide +kernel) ?_
    exact J_2 (-1) (by first | (simp only [if_pos c_3]; done) | rfl) _ _ hP hD hS _ (lv_sub hl [] rfl)
  · skip
    refine lv_aload_n hx hb dX9_stepAt_14 rfl (lv_at hl 0 rfl) ?_
    refine k_get hx hb hts hi9 hown hK hP 0 rfl rfl 32 (by decide) hf50 (.ref (r 32)) rfl dX9_stepAt_15 ?_
    refine lv_iload_n hx hb dX9_stepAt_18 rfl (lv_at hl 1 rfl) ?_
    refine k_iald hx hb hK hP 1 0 rfl rfl k.toNatClampNeg (rfl) (stepAt_in c_3 h0 h1) dX9_stepAt_19 ?_
    refine lv_goto (tgt := 24) hx hb dX9_stepAt_20 (by decide) ?_
    exact J_2 (a32 k.toNatClampNeg) (by first | (simp only [if_neg c_3]; done) | rfl) _ _ hP hD hS _ (lv_sub hl [] rfl)

def sp_X9_step (M : Nat → Int32) (L : Int64) (a32 : Nat → Int32) (set : Int32) : Int32 × (Nat → Int32) × (Nat → Int32) :=
  (if (sp_X9_isSet set) = 0 then
    ((-2), M, a32)
  else
    (if (M 33) = 32 then
      ((-4), M, a32)
    else
      let z_3 : Int32 := ((M 33) + 1)
      (z_3, (upd M 33 z_3), (upd a32 ((M 33).toNatClampNeg) set))))
set_option maxRecDepth 100000 in
theorem sq_X9_step_1 (M : Nat → Int32) (L : Int64) (a32 : Nat → Int32) (set : Int32) (z_3 : Int32) (ez_3 : z_3 = ((M 33) + 1)) (c_1 : ¬ ((sp_X9_isSet set) = 0)) (c_2 : ¬ ((M 33) = 32)) : sp_X9_step M L a32 set = (z_3, (upd M 33 z_3), (upd a32 ((M 33).toNatClampNeg) set)) := by subst ez_3; simp only [sp_X9_step, if_neg c_1, if_neg c_2]
set_option maxHeartbeats 4000000 in
set_option maxRecDepth 100000 in
theorem c_X9_step (l : Launch) (D : va_G) (cI cJ cO : ClassId) (h : Nat) (r : Nat → Nat) (M : Nat → Int32) (L : Int64) (a32 : Nat → Int32) (set : Int32) (h0 : ¬ M 33 < 0) (h1 : ¬ 32 < M 33) : MI l D (TY cI cJ cO) yX9_step wsX9_step (RM 2) [.ref h, .int set] [(h, oX9 r M L), ((r 32), .inl (cI, 32, .inl a32))] ((sp_X9_step M L a32 set).1) [(h, oX9 r ((sp_X9_step M L a32 set).2.1) L), ((r 32), .inl (cI, 32, .inl ((sp_X9_step M L a32 set).2.2)))] := by
  refine k_entI (cc := cX9_step) (maxL := 2) (lv := [(0, .ref h), (1, .int set)]) (by decide +kernel) rfl (Nat.le_of_ble_eq_true rfl) rfl ?_
  intro p e s m below meth c A Q ls hx hb hml hts hown hA hS hP hD hK hN hl hret
  have hown : s.vm.findClass RX9 = some m.cls := hown
  have hi9 : ∀ w ∈ wsX90, w ∈ wsX9_step := fun w h => List.mem_cons_of_mem _ (List.mem_append_right _ h)
  have hf50 := hts (.fieldLink RX9 50 "PressGuardModel" "script" "[I") (by decide +kernel)
  have hf202 := hts (.fieldLink RX9 202 "PressGuardModel" "steps" "I") (by decide +kernel)
  refine lv_iload_n hx hb dX9_step_0 rfl (lv_at hl 1 rfl) ?_
  refine k_Si ⟨hx, hb, hml, hown, hts⟩ (c_X9_isSet l D cI cJ cO set) (va_cwS 1 hts gX9_step_X9_isSet rfl rfl rfl (by decide +kernel) ⟨Nat.le_of_ble_eq_true rfl, Nat.le_of_ble_eq_true rfl⟩) hK hN hP hD hS hA [] rfl rfl rfl (ws' := [(h, oX9 r M L), ((r 32), .inl (cI, 32, .inl a32))]) rfl rfl hl.1 rfl (Nat.le_of_ble_eq_true rfl) dX9_step_1 ⟨Nat.le_refl _, Nat.le_refl _⟩ (fun H locs hP hD hS => ?_)
  refine lv_if_ne (tgt := 10) hx hb dX9_step_4 (by decide) (fun c_1 => ?_) (fun c_1 => ?_)
  · skip
    refine lv_aload_n hx hb dX9_step_10 rfl (lv_at hl 0 rfl) ?_
    refine k_get hx hb hts hi9 hown hK hP 0 rfl rfl 33 (by decide) hf202 (.int (M 33)) rfl dX9_step_11 ?_
    refine lv_bipush (v := 32) hx hb dX9_step_14 (by decide +kernel) ?_
    refine lv_icmp_ne (tgt := 22) hx hb dX9_step_16 (by decide) (fun c_2 => ?_) (fun c_2 => ?_)
    · skip
      refine lv_aload_n hx hb dX9_step_22 rfl (lv_at hl 0 rfl) ?_
      refine k_get hx hb hts hi9 hown hK hP 0 rfl rfl 32 (by decide) hf50 (.ref (r 32)) rfl dX9_step_23 ?_
      refine lv_aload_n hx hb dX9_step_26 rfl (lv_at hl 0 rfl) ?_
      refine k_get hx hb hts hi9 hown hK hP 0 rfl rfl 33 (by decide) hf202 (.int (M 33)) rfl dX9_step_27 ?_
      refine lv_iload_n hx hb dX9_step_30 rfl (lv_at hl 1 rfl) ?_
      refine k_iast hx hb hK hP hD hS 1 0 rfl rfl ((M 33).toNatClampNeg) (rfl) (step_in h0 h1 c_2) (ws' := [(h, oX9 r M L), ((r 32), .inl (cI, 32, .inl (upd a32 ((M 33).toNatClampNeg) set)))]) rfl dX9_step_31 (fun H locs hP hD hS => ?_)
      refine lv_aload_n hx hb dX9_step_32 rfl (lv_at hl 0 rfl) ?_
      refine lv_dup hx hb dX9_step_33 rfl ?_
      refine k_get hx hb hts hi9 hown hK hP 0 rfl rfl 33 (by decide) hf202 (.int (M 33)) rfl dX9_step_34 ?_
      refine lv_iconst (v := 1) hx hb dX9_step_37 (by decide +kernel) ?_
      refine lv_iadd hx hb dX9_step_38 ?_
      refine lv_topi (fun z_3 ez_3 => ?_)
      refine k_put hx hb hts hi9 tyX9_ok nmX9 hown hK hP hD hS 0 rfl rfl 33 (by decide) hf202 rfl (.int z_3) rfl rfl (Nat.le_of_ble_eq_true rfl) (ws' := [(h, oX9 r (upd M 33 z_3) L), ((r 32), .inl (cI, 32, .inl (upd a32 ((M 33).toNatClampNeg) set)))]) rfl dX9_step_39 (fun H locs hP hD hS => ?_)
      refine lv_aload_n hx hb dX9_step_42 rfl (lv_at hl 0 rfl) ?_
      refine k_get hx hb hts hi9 hown hK hP 0 rfl rfl 33 (by decide) hf202 (.int z_3) rfl dX9_step_43 ?_
      have hsp : sp_X9_step M L a32 set = (z_3, (upd M 33 z_3), (upd a32 ((M 33).toNatClampNeg) set)) := sq_X9_step_1 M L a32 set z_3 ez_3 c_1 c_2
      exact hret _ _ _ _ _ (by rw [hsp]) rfl (by rw [hsp]; exact hP) hS dX9_step_46
    · skip
      refine lv_bipush (v := (-4)) hx hb dX9_step_19 (by decide +kernel) ?_
      have hsp : sp_X9_step M L a32 set = ((-4), M, a32) := by simp only [sp_X9_step, if_neg c_1, if_pos c_2]
      exact hret _ _ _ _ _ (by rw [hsp]) rfl (by rw [hsp]; exact hP) hS dX9_step_21
  · skip
    refine lv_bipush (v := (-2)) hx hb dX9_step_7 (by decide +kernel) ?_
    have hsp : sp_X9_step M L a32 set = ((-2), M, a32) := by simp only [sp_X9_step, if_pos c_1]
    exact hret _ _ _ _ _ (by rw [hsp]) rfl (by rw [hsp]; exact hP) hS dX9_step_9

def bd_X9_keeps_2 (i_1 : Nat) (x_2 : (Nat → Int32) × (Nat → Int32)) : (Nat → Int32) × (Nat → Int32) :=
  (let z_3 : Int32 := ((x_2.1) i_1); ((upd (x_2.1) i_1 2), (upd (x_2.2) i_1 z_3)))
def bd_X9_keeps_35 (i_4 : Nat) (x_5 : (Nat → Int32) × (Nat → Int32)) : (Nat → Int32) × (Nat → Int32) :=
  (let z_6 : Int32 := ((x_5.1) i_4); ((upd (x_5.1) i_4 2), (upd (x_5.2) (9 + i_4) z_6)))
def sp_X9_keeps (M : Nat → Int32) (L : Int64) (a5 : Nat → Int32) (a6 : Nat → Int32) (a35 : Nat → Int32) : (Nat → Int32) × (Nat → Int32) × (Nat → Int32) :=
  let x_2 : (Nat → Int32) × (Nat → Int32) := lp bd_X9_keeps_2 9 (a5, a35)
  let x_5 : (Nat → Int32) × (Nat → Int32) := lp bd_X9_keeps_35 2 (a6, (x_2.2))
  ((x_2.1), (x_5.1), (x_5.2))
set_option maxRecDepth 100000 in
theorem sq_X9_keeps_1 (M : Nat → Int32) (L : Int64) (a5 : Nat → Int32) (a6 : Nat → Int32) (a35 : Nat → Int32) (x_2 : (Nat → Int32) × (Nat → Int32)) (x_5 : (Nat → Int32) × (Nat → Int32)) (ex_2 : x_2 = lp bd_X9_keeps_2 9 (a5, a35)) (ex_5 : x_5 = lp bd_X9_keeps_35 2 (a6, (x_2.2))) : sp_X9_keeps M L a5 a6 a35 = ((x_2.1), (x_5.1), (x_5.2)) := by subst ex_5; subst ex_2; rfl
set_option maxHeartbeats 4000000 in
set_option maxRecDepth 100000 in
theorem c_X9_keeps (l : Launch) (D : va_G) (cI cJ cO : ClassId) (h : Nat) (r : Nat → Nat) (M : Nat → Int32) (L : Int64) (a5 : Nat → Int32) (a6 : Nat → Int32) (a35 : Nat → Int32)  : MV l D (TY cI cJ cO) yX9_keeps wsX9_keeps (RM 0) [.ref h] [(h, oX9 r M L), ((r 5), .inl (cI, 9, .inl a5)), ((r 6), .inl (cI, 2, .inl a6)), ((r 35), .inl (cI, 11, .inl a35))] [(h, oX9 r M L), ((r 5), .inl (cI, 9, .inl ((sp_X9_keeps M L a5 a6 a35).1))), ((r 6), .inl (cI, 2, .inl ((sp_X9_keeps M L a5 a6 a35).2.1))), ((r 35), .inl (cI, 11, .inl ((sp_X9_keeps M L a5 a6 a35).2.2)))] := by
  refine k_entV (cc := cX9_keeps) (maxL := 2) (lv := [(0, .ref h)]) (by decide +kernel) rfl (Nat.le_of_ble_eq_true rfl) rfl ?_
  intro p e s m below meth c A Q ls hx hb hml hts hown hA hS hP hD hK hN hl hret
  have hown : s.vm.findClass RX9 = some m.cls := hown
  have hi9 : ∀ w ∈ wsX90, w ∈ wsX9_keeps := fun w h => List.mem_cons_of_mem _ (List.mem_append_right _ h)
  have hf25 := hts (.fieldLink RX9 25 "PressGuardModel" "stuck" "[I") (by decide +kernel)
  have hf29 := hts (.fieldLink RX9 29 "PressGuardModel" "valves" "[I") (by decide +kernel)
  have hf56 := hts (.fieldLink RX9 56 "PressGuardModel" "keptStuck" "[I") (by decide +kernel)
  refine lv_iconst (v := 0) hx hb dX9_keeps_0 (by decide +kernel) ?_
  refine lv_istore_n (lv' := [(1, .int 0), (0, .ref h)]) hx hb dX9_keeps_1 rfl hl (by decide) rfl (fun ls hl => ?_)
  obtain ⟨fx_2, hfx_2⟩ : ∃ f : Nat → (Nat → Int32) × (Nat → Int32) → (Nat → Int32) × (Nat → Int32), f = bd_X9_keeps_2 := ⟨_, rfl⟩
  have hB_x_2 : (9 : Int32) = nI 9 := by decide +kernel
  have hN_x_2 : 9 < 2 ^ 31 := by decide
  have Lx_2 : ∀ (nn i_1 : Nat) (x_2 : (Nat → Int32) × (Nat → Int32)), 9 + 1 ≤ i_1 + nn → i_1 ≤ 9 → x_2 = lp fx_2 i_1 (a5, a35) → ∀ (H : Heap) (locs : List Loc), va_P D vwCl [(h, oX9 r M L), ((r 5), .inl (cI, 9, .inl (x_2.1))), ((r 6), .inl (cI, 2, .inl a6)), ((r 35), .inl (cI, 11, .inl (x_2.2)))] H → va_D A [(h, oX9 r M L), ((r 5), .inl (cI, 9, .inl (x_2.1))), ((r 6), .inl (cI, 2, .inl a6)), ((r 35), .inl (cI, 11, .inl (x_2.2)))] → va_S A s.heap H locs → ∀ ls : Array Slot, lv_has ls 2 [(0, .ref h), (1, .int (nI i_1))] → W p l e (RM 0) s m ([.ref h] : List Value).toArray below meth c H locs 0 0 Q (F0 m 2 ls []) := by
    intro nn_x_2
    induction nn_x_2 with
    | zero => intro i_1 x_2 h1 h2; exact absurd h1 (by omega)
    | succ nn_x_2 ih_x_2 =>
      intro i_1 x_2 hn_x_2 hi_i_1 ex_x_2 H locs hP hD hS ls hl
      refine lv_iload_n hx hb dX9_keeps_2 rfl (lv_at hl 1 rfl) ?_
      refine lv_bipush (v := 9) hx hb dX9_keeps_3 (by decide +kernel) ?_
      refine lv_icmp_ge (tgt := 33) hx hb dX9_keeps_5 (by decide) (fun c_3 => ?_) (fun c_3 => ?_)
      · skip
        have hq_x_2 : i_1 = 9 := k_eq hB_x_2 c_3 hi_i_1 hN_x_2
        have ex_2 : x_2 = lp bd_X9_keeps_2 9 (a5, a35) := by rw [ex_x_2, hfx_2, hq_x_2]
        refine lv_iconst (v := 0) hx hb dX9_keeps_33 (by decide +kernel) ?_
        refine lv_istore_n (lv' := [(1, .int 0), (0, .ref h)]) hx hb dX9_keeps_34 rfl hl (by decide) rfl (fun ls hl => ?_)
        obtain ⟨fx_5, hfx_5⟩ : ∃ f : Nat → (Nat → Int32) × (Nat → Int32) → (Nat → Int32) × (Nat → Int32), f = bd_X9_keeps_35 := ⟨_, rfl⟩
        have hB_x_5 : (2 : Int32) = nI 2 := by decide +kernel
        have hN_x_5 : 2 < 2 ^ 31 := by decide
        have Lx_5 : ∀ (nn i_4 : Nat) (x_5 : (Nat → Int32) × (Nat → Int32)), 2 + 1 ≤ i_4 + nn → i_4 ≤ 2 → x_5 = lp fx_5 i_4 (a6, (x_2.2)) → ∀ (H : Heap) (locs : List Loc), va_P D vwCl [(h, oX9 r M L), ((r 5), .inl (cI, 9, .inl (x_2.1))), ((r 6), .inl (cI, 2, .inl (x_5.1))), ((r 35), .inl (cI, 11, .inl (x_5.2)))] H → va_D A [(h, oX9 r M L), ((r 5), .inl (cI, 9, .inl (x_2.1))), ((r 6), .inl (cI, 2, .inl (x_5.1))), ((r 35), .inl (cI, 11, .inl (x_5.2)))] → va_S A s.heap H locs → ∀ ls : Array Slot, lv_has ls 2 [(0, .ref h), (1, .int (nI i_4))] → W p l e (RM 0) s m ([.ref h] : List Value).toArray below meth c H locs 0 0 Q (F0 m 35 ls []) := by
          intro nn_x_5
          induction nn_x_5 with
          | zero => intro i_4 x_5 h1 h2; exact absurd h1 (by omega)
          | succ nn_x_5 ih_x_5 =>
            intro i_4 x_5 hn_x_5 hi_i_4 ex_x_5 H locs hP hD hS ls hl
            refine lv_iload_n hx hb dX9_keeps_35 rfl (lv_at hl 1 rfl) ?_
            refine lv_iconst (v := 2) hx hb dX9_keeps_36 (by decide +kernel) ?_
            refine lv_icmp_ge (tgt := 68) hx hb dX9_keeps_37 (by decide) (fun c_6 => ?_) (fun c_6 => ?_)
            · skip
              have hq_x_5 : i_4 = 2 := k_eq hB_x_5 c_6 hi_i_4 hN_x_5
              have ex_5 : x_5 = lp bd_X9_keeps_35 2 (a6, (x_2.2)) := by rw [ex_x_5, hfx_5, hq_x_5]
              have hsp : sp_X9_keeps M L a5 a6 a35 = ((x_2.1), (x_5.1), (x_5.2)) := sq_X9_keeps_1 M L a5 a6 a35 x_2 x_5 ex_2 ex_5
              exact hret _ _ _ _ (by rw [hsp]; exact hP) hS dX9_keeps_68
            · skip
              have hlt_i_4 : i_4 < 2 := k_lt hB_x_5 c_6 hi_i_4 hN_x_5
              refine lv_aload_n hx hb dX9_keeps_40 rfl (lv_at hl 0 rfl) ?_
              refine k_get hx hb hts hi9 hown hK hP 0 rfl rfl 35 (by decide) hf56 (.ref (r 35)) rfl dX9_keeps_41 ?_
              refine lv_bipush (v := 9) hx hb dX9_keeps_44 (by decide +kernel) ?_
              refine lv_iload_n hx hb dX9_keeps_46 rfl (lv_at hl 1 rfl) ?_
              refine lv_iadd hx hb dX9_keeps_47 ?_
              refine lv_aload_n hx hb dX9_keeps_48 rfl (lv_at hl 0 rfl) ?_
              refine k_get hx hb hts hi9 hown hK hP 0 rfl rfl 6 (by decide) hf29 (.ref (r 6)) rfl dX9_keeps_49 ?_
              refine lv_iload_n hx hb dX9_keeps_52 rfl (lv_at hl 1 rfl) ?_
              refine k_iald hx hb hK hP 2 0 rfl rfl i_4 (nI_clamp (by omega)) (vp_in_nI (by omega) (by omega)) dX9_keeps_53 ?_
              refine lv_topi (fun z_7 ez_7 => ?_)
              refine k_iast hx hb hK hP hD hS 3 0 rfl rfl (9 + i_4) (by rw [show (9 : Int32) = nI 9 from rfl, nI_add]; exact nI_clamp (by omega)) (by rw [show (9 : Int32) = nI 9 from rfl, nI_add]; exact vp_in_nI (by omega) (by omega)) (ws' := [(h, oX9 r M L), ((r 5), .inl (cI, 9, .inl (x_2.1))), ((r 6), .inl (cI, 2, .inl (x_5.1))), ((r 35), .inl (cI, 11, .inl (upd (x_5.2) (9 + i_4) z_7)))]) rfl dX9_keeps_54 (fun H locs hP hD hS => ?_)
              refine lv_aload_n hx hb dX9_keeps_55 rfl (lv_at hl 0 rfl) ?_
              refine k_get hx hb hts hi9 hown hK hP 0 rfl rfl 6 (by decide) hf29 (.ref (r 6)) rfl dX9_keeps_56 ?_
              refine lv_iload_n hx hb dX9_keeps_59 rfl (lv_at hl 1 rfl) ?_
              refine lv_iconst (v := 2) hx hb dX9_keeps_60 (by decide +kernel) ?_
              refine k_iast hx hb hK hP hD hS 2 0 rfl rfl i_4 (nI_clamp (by omega)) (vp_in_nI (by omega) (by omega)) (ws' := [(h, oX9 r M L), ((r 5), .inl (cI, 9, .inl (x_2.1))), ((r 6), .inl (cI, 2, .inl (upd (x_5.1) i_4 2))), ((r 35), .inl (cI, 11, .inl (upd (x_5.2) (9 + i_4) z_7)))]) rfl dX9_keeps_61 (fun H locs hP hD hS => ?_)
              refine lv_iinc (v := (nI (i_4 + 1))) (lv' := [(1, .int (nI (i_4 + 1))), (0, .ref h)]) hx hb dX9_keeps_62 hl (k := 1) rfl (nI_1 i_4) (by decide) rfl (fun ls hl => ?_)
              refine lv_goto (tgt := 35) hx hb dX9_keeps_65 (by decide) ?_
              exact ih_x_5 (i_4 + 1) ((upd (x_5.1) i_4 2), (upd (x_5.2) (9 + i_4) z_7)) (by omega) (by omega) (by subst ez_7; rw [show lp fx_5 (i_4 + 1) (a6, (x_2.2)) = fx_5 i_4 (lp fx_5 i_4 (a6, (x_2.2))) from rfl, ← ex_x_5, hfx_5]; try (first | (rfl; done) | rfl)) _ _ hP hD hS _ (lv_sub hl [1, 0] rfl)
        exact Lx_5 (2 + 1) 0 (a6, (x_2.2)) (by omega) (Nat.zero_le _) rfl _ _ hP hD hS _ (lv_sub hl [1, 0] rfl)
      · skip
        have hlt_i_1 : i_1 < 9 := k_lt hB_x_2 c_3 hi_i_1 hN_x_2
        refine lv_aload_n hx hb dX9_keeps_8 rfl (lv_at hl 0 rfl) ?_
        refine k_get hx hb hts hi9 hown hK hP 0 rfl rfl 35 (by decide) hf56 (.ref (r 35)) rfl dX9_keeps_9 ?_
        refine lv_iload_n hx hb dX9_keeps_12 rfl (lv_at hl 1 rfl) ?_
        refine lv_aload_n hx hb dX9_keeps_13 rfl (lv_at hl 0 rfl) ?_
        refine k_get hx hb hts hi9 hown hK hP 0 rfl rfl 5 (by decide) hf25 (.ref (r 5)) rfl dX9_keeps_14 ?_
        refine lv_iload_n hx hb dX9_keeps_17 rfl (lv_at hl 1 rfl) ?_
        refine k_iald hx hb hK hP 1 0 rfl rfl i_1 (nI_clamp (by omega)) (vp_in_nI (by omega) (by omega)) dX9_keeps_18 ?_
        refine lv_topi (fun z_8 ez_8 => ?_)
        refine k_iast hx hb hK hP hD hS 3 0 rfl rfl i_1 (nI_clamp (by omega)) (vp_in_nI (by omega) (by omega)) (ws' := [(h, oX9 r M L), ((r 5), .inl (cI, 9, .inl (x_2.1))), ((r 6), .inl (cI, 2, .inl a6)), ((r 35), .inl (cI, 11, .inl (upd (x_2.2) i_1 z_8)))]) rfl dX9_keeps_19 (fun H locs hP hD hS => ?_)
        refine lv_aload_n hx hb dX9_keeps_20 rfl (lv_at hl 0 rfl) ?_
        refine k_get hx hb hts hi9 hown hK hP 0 rfl rfl 5 (by decide) hf25 (.ref (r 5)) rfl dX9_keeps_21 ?_
        refine lv_iload_n hx hb dX9_keeps_24 rfl (lv_at hl 1 rfl) ?_
        refine lv_iconst (v := 2) hx hb dX9_keeps_25 (by decide +kernel) ?_
        refine k_iast hx hb hK hP hD hS 1 0 rfl rfl i_1 (nI_clamp (by omega)) (vp_in_nI (by omega) (by omega)) (ws' := [(h, oX9 r M L), ((r 5), .inl (cI, 9, .inl (upd (x_2.1) i_1 2))), ((r 6), .inl (cI, 2, .inl a6)), ((r 35), .inl (cI, 11, .inl (upd (x_2.2) i_1 z_8)))]) rfl dX9_keeps_26 (fun H locs hP hD hS => ?_)
        refine lv_iinc (v := (nI (i_1 + 1))) (lv' := [(1, .int (nI (i_1 + 1))), (0, .ref h)]) hx hb dX9_keeps_27 hl (k := 1) rfl (nI_1 i_1) (by decide) rfl (fun ls hl => ?_)
        refine lv_goto (tgt := 2) hx hb dX9_keeps_30 (by decide) ?_
        exact ih_x_2 (i_1 + 1) ((upd (x_2.1) i_1 2), (upd (x_2.2) i_1 z_8)) (by omega) (by omega) (by subst ez_8; rw [show lp fx_2 (i_1 + 1) (a5, a35) = fx_2 i_1 (lp fx_2 i_1 (a5, a35)) from rfl, ← ex_x_2, hfx_2]; try (first | (rfl; done) | rfl)) _ _ hP hD hS _ (lv_sub hl [1, 0] rfl)
  exact Lx_2 (9 + 1) 0 (a5, a35) (by omega) (Nat.zero_le _) rfl _ _ hP hD hS _ (lv_sub hl [1, 0] rfl)

def bd_X9_restores_2 (a35 : Nat → Int32) (i_1 : Nat) (x_2 : (Nat → Int32)) : (Nat → Int32) :=
  (let z_3 : Int32 := (a35 i_1); (upd x_2 i_1 z_3))
def bd_X9_restores_28 (a35 : Nat → Int32) (i_4 : Nat) (x_5 : (Nat → Int32)) : (Nat → Int32) :=
  (let z_6 : Int32 := (a35 (9 + i_4)); (upd x_5 i_4 z_6))
def sp_X9_restores (M : Nat → Int32) (L : Int64) (a5 : Nat → Int32) (a6 : Nat → Int32) (a35 : Nat → Int32) : (Nat → Int32) × (Nat → Int32) :=
  let x_2 : (Nat → Int32) := lp (bd_X9_restores_2 a35) 9 a5
  let x_5 : (Nat → Int32) := lp (bd_X9_restores_28 a35) 2 a6
  (x_2, x_5)
set_option maxRecDepth 100000 in
theorem sq_X9_restores_1 (M : Nat → Int32) (L : Int64) (a5 : Nat → Int32) (a6 : Nat → Int32) (a35 : Nat → Int32) (x_2 : (Nat → Int32)) (x_5 : (Nat → Int32)) (ex_2 : x_2 = lp (bd_X9_restores_2 a35) 9 a5) (ex_5 : x_5 = lp (bd_X9_restores_28 a35) 2 a6) : sp_X9_restores M L a5 a6 a35 = (x_2, x_5) := by subst ex_5; subst ex_2; rfl
set_option maxHeartbeats 4000000 in
set_option maxRecDepth 100000 in
theorem c_X9_restores (l : Launch) (D : va_G) (cI cJ cO : ClassId) (h : Nat) (r : Nat → Nat) (M : Nat → Int32) (L : Int64) (a5 : Nat → Int32) (a6 : Nat → Int32) (a35 : Nat → Int32)  : MV l D (TY cI cJ cO) yX9_restores wsX9_restores (RM 0) [.ref h] [(h, oX9 r M L), ((r 5), .inl (cI, 9, .inl a5)), ((r 6), .inl (cI, 2, .inl a6)), ((r 35), .inl (cI, 11, .inl a35))] [(h, oX9 r M L), ((r 5), .inl (cI, 9, .inl ((sp_X9_restores M L a5 a6 a35).1))), ((r 6), .inl (cI, 2, .inl ((sp_X9_restores M L a5 a6 a35).2))), ((r 35), .inl (cI, 11, .inl a35))] := by
  refine k_entV (cc := cX9_restores) (maxL := 2) (lv := [(0, .ref h)]) (by decide +kernel) rfl (Nat.le_of_ble_eq_true rfl) rfl ?_
  intro p e s m below meth c A Q ls hx hb hml hts hown hA hS hP hD hK hN hl hret
  have hown : s.vm.findClass RX9 = some m.cls := hown
  have hi9 : ∀ w ∈ wsX90, w ∈ wsX9_restores := fun w h => List.mem_cons_of_mem _ (List.mem_append_right _ h)
  have hf25 := hts (.fieldLink RX9 25 "PressGuardModel" "stuck" "[I") (by decide +kernel)
  have hf29 := hts (.fieldLink RX9 29 "PressGuardModel" "valves" "[I") (by decide +kernel)
  have hf56 := hts (.fieldLink RX9 56 "PressGuardModel" "keptStuck" "[I") (by decide +kernel)
  refine lv_iconst (v := 0) hx hb dX9_restores_0 (by decide +kernel) ?_
  refine lv_istore_n (lv' := [(1, .int 0), (0, .ref h)]) hx hb dX9_restores_1 rfl hl (by decide) rfl (fun ls hl => ?_)
  obtain ⟨fx_2, hfx_2⟩ : ∃ f : Nat → (Nat → Int32) → (Nat → Int32), f = (bd_X9_restores_2 a35) := ⟨_, rfl⟩
  have hB_x_2 : (9 : Int32) = nI 9 := by decide +kernel
  have hN_x_2 : 9 < 2 ^ 31 := by decide
  have Lx_2 : ∀ (nn i_1 : Nat) (x_2 : (Nat → Int32)), 9 + 1 ≤ i_1 + nn → i_1 ≤ 9 → x_2 = lp fx_2 i_1 a5 → ∀ (H : Heap) (locs : List Loc), va_P D vwCl [(h, oX9 r M L), ((r 5), .inl (cI, 9, .inl x_2)), ((r 6), .inl (cI, 2, .inl a6)), ((r 35), .inl (cI, 11, .inl a35))] H → va_D A [(h, oX9 r M L), ((r 5), .inl (cI, 9, .inl x_2)), ((r 6), .inl (cI, 2, .inl a6)), ((r 35), .inl (cI, 11, .inl a35))] → va_S A s.heap H locs → ∀ ls : Array Slot, lv_has ls 2 [(0, .ref h), (1, .int (nI i_1))] → W p l e (RM 0) s m ([.ref h] : List Value).toArray below meth c H locs 0 0 Q (F0 m 2 ls []) := by
    intro nn_x_2
    induction nn_x_2 with
    | zero => intro i_1 x_2 h1 h2; exact absurd h1 (by omega)
    | succ nn_x_2 ih_x_2 =>
      intro i_1 x_2 hn_x_2 hi_i_1 ex_x_2 H locs hP hD hS ls hl
      refine lv_iload_n hx hb dX9_restores_2 rfl (lv_at hl 1 rfl) ?_
      refine lv_bipush (v := 9) hx hb dX9_restores_3 (by decide +kernel) ?_
      refine lv_icmp_ge (tgt := 26) hx hb dX9_restores_5 (by decide) (fun c_3 => ?_) (fun c_3 => ?_)
      · skip
        have hq_x_2 : i_1 = 9 := k_eq hB_x_2 c_3 hi_i_1 hN_x_2
        have ex_2 : x_2 = lp (bd_X9_restores_2 a35) 9 a5 := by rw [ex_x_2, hfx_2, hq_x_2]
        refine lv_iconst (v := 0) hx hb dX9_restores_26 (by decide +kernel) ?_
        refine lv_istore_n (lv' := [(1, .int 0), (0, .ref h)]) hx hb dX9_restores_27 rfl hl (by decide) rfl (fun ls hl => ?_)
        obtain ⟨fx_5, hfx_5⟩ : ∃ f : Nat → (Nat → Int32) → (Nat → Int32), f = (bd_X9_restores_28 a35) := ⟨_, rfl⟩
        have hB_x_5 : (2 : Int32) = nI 2 := by decide +kernel
        have hN_x_5 : 2 < 2 ^ 31 := by decide
        have Lx_5 : ∀ (nn i_4 : Nat) (x_5 : (Nat → Int32)), 2 + 1 ≤ i_4 + nn → i_4 ≤ 2 → x_5 = lp fx_5 i_4 a6 → ∀ (H : Heap) (locs : List Loc), va_P D vwCl [(h, oX9 r M L), ((r 5), .inl (cI, 9, .inl x_2)), ((r 6), .inl (cI, 2, .inl x_5)), ((r 35), .inl (cI, 11, .inl a35))] H → va_D A [(h, oX9 r M L), ((r 5), .inl (cI, 9, .inl x_2)), ((r 6), .inl (cI, 2, .inl x_5)), ((r 35), .inl (cI, 11, .inl a35))] → va_S A s.heap H locs → ∀ ls : Array Slot, lv_has ls 2 [(0, .ref h), (1, .int (nI i_4))] → W p l e (RM 0) s m ([.ref h] : List Value).toArray below meth c H locs 0 0 Q (F0 m 28 ls []) := by
          intro nn_x_5
          induction nn_x_5 with
          | zero => intro i_4 x_5 h1 h2; exact absurd h1 (by omega)
          | succ nn_x_5 ih_x_5 =>
            intro i_4 x_5 hn_x_5 hi_i_4 ex_x_5 H locs hP hD hS ls hl
            refine lv_iload_n hx hb dX9_restores_28 rfl (lv_at hl 1 rfl) ?_
            refine lv_iconst (v := 2) hx hb dX9_restores_29 (by decide +kernel) ?_
            refine lv_icmp_ge (tgt := 54) hx hb dX9_restores_30 (by decide) (fun c_6 => ?_) (fun c_6 => ?_)
            · skip
              have hq_x_5 : i_4 = 2 := k_eq hB_x_5 c_6 hi_i_4 hN_x_5
              have ex_5 : x_5 = lp (bd_X9_restores_28 a35) 2 a6 := by rw [ex_x_5, hfx_5, hq_x_5]
              have hsp : sp_X9_restores M L a5 a6 a35 = (x_2, x_5) := sq_X9_restores_1 M L a5 a6 a35 x_2 x_5 ex_2 ex_5
              exact hret _ _ _ _ (by rw [hsp]; exact hP) hS dX9_restores_54
            · skip
              have hlt_i_4 : i_4 < 2 := k_lt hB_x_5 c_6 hi_i_4 hN_x_5
              refine lv_aload_n hx hb dX9_restores_33 rfl (lv_at hl 0 rfl) ?_
              refine k_get hx hb hts hi9 hown hK hP 0 rfl rfl 6 (by decide) hf29 (.ref (r 6)) rfl dX9_restores_34 ?_
              refine lv_iload_n hx hb dX9_restores_37 rfl (lv_at hl 1 rfl) ?_
              refine lv_aload_n hx hb dX9_restores_38 rfl (lv_at hl 0 rfl) ?_
              refine k_get hx hb hts hi9 hown hK hP 0 rfl rfl 35 (by decide) hf56 (.ref (r 35)) rfl dX9_restores_39 ?_
              refine lv_bipush (v := 9) hx hb dX9_restores_42 (by decide +kernel) ?_
              refine lv_iload_n hx hb dX9_restores_44 rfl (lv_at hl 1 rfl) ?_
              refine lv_iadd hx hb dX9_restores_45 ?_
              refine k_iald hx hb hK hP 3 0 rfl rfl (9 + i_4) (by rw [show (9 : Int32) = nI 9 from rfl, nI_add]; exact nI_clamp (by omega)) (by rw [show (9 : Int32) = nI 9 from rfl, nI_add]; exact vp_in_nI (by omega) (by omega)) dX9_restores_46 ?_
              refine lv_topi (fun z_7 ez_7 => ?_)
              refine k_iast hx hb hK hP hD hS 2 0 rfl rfl i_4 (nI_clamp (by omega)) (vp_in_nI (by omega) (by omega)) (ws' := [(h, oX9 r M L), ((r 5), .inl (cI, 9, .inl x_2)), ((r 6), .inl (cI, 2, .inl (upd x_5 i_4 z_7))), ((r 35), .inl (cI, 11, .inl a35))]) rfl dX9_restores_47 (fun H locs hP hD hS => ?_)
              refine lv_iinc (v := (nI (i_4 + 1))) (lv' := [(1, .int (nI (i_4 + 1))), (0, .ref h)]) hx hb dX9_restores_48 hl (k := 1) rfl (nI_1 i_4) (by decide) rfl (fun ls hl => ?_)
              refine lv_goto (tgt := 28) hx hb dX9_restores_51 (by decide) ?_
              exact ih_x_5 (i_4 + 1) (upd x_5 i_4 z_7) (by omega) (by omega) (by subst ez_7; rw [show lp fx_5 (i_4 + 1) a6 = fx_5 i_4 (lp fx_5 i_4 a6) from rfl, ← ex_x_5, hfx_5]; try (first | (rfl; done) | rfl)) _ _ hP hD hS _ (lv_sub hl [1, 0] rfl)
        exact Lx_5 (2 + 1) 0 a6 (by omega) (Nat.zero_le _) rfl _ _ hP hD hS _ (lv_sub hl [1, 0] rfl)
      · skip
        have hlt_i_1 : i_1 < 9 := k_lt hB_x_2 c_3 hi_i_1 hN_x_2
        refine lv_aload_n hx hb dX9_restores_8 rfl (lv_at hl 0 rfl) ?_
        refine k_get hx hb hts hi9 hown hK hP 0 rfl rfl 5 (by decide) hf25 (.ref (r 5)) rfl dX9_restores_9 ?_
        refine lv_iload_n hx hb dX9_restores_12 rfl (lv_at hl 1 rfl) ?_
        refine lv_aload_n hx hb dX9_restores_13 rfl (lv_at hl 0 rfl) ?_
        refine k_get hx hb hts hi9 hown hK hP 0 rfl rfl 35 (by decide) hf56 (.ref (r 35)) rfl dX9_restores_14 ?_
        refine lv_iload_n hx hb dX9_restores_17 rfl (lv_at hl 1 rfl) ?_
        refine k_iald hx hb hK hP 3 0 rfl rfl i_1 (nI_clamp (by omega)) (vp_in_nI (by omega) (by omega)) dX9_restores_18 ?_
        refine lv_topi (fun z_8 ez_8 => ?_)
        refine k_iast hx hb hK hP hD hS 1 0 rfl rfl i_1 (nI_clamp (by omega)) (vp_in_nI (by omega) (by omega)) (ws' := [(h, oX9 r M L), ((r 5), .inl (cI, 9, .inl (upd x_2 i_1 z_8))), ((r 6), .inl (cI, 2, .inl a6)), ((r 35), .inl (cI, 11, .inl a35))]) rfl dX9_restores_19 (fun H locs hP hD hS => ?_)
        refine lv_iinc (v := (nI (i_1 + 1))) (lv' := [(1, .int (nI (i_1 + 1))), (0, .ref h)]) hx hb dX9_restores_20 hl (k := 1) rfl (nI_1 i_1) (by decide) rfl (fun ls hl => ?_)
        refine lv_goto (tgt := 2) hx hb dX9_restores_23 (by decide) ?_
        exact ih_x_2 (i_1 + 1) (upd x_2 i_1 z_8) (by omega) (by omega) (by subst ez_8; rw [show lp fx_2 (i_1 + 1) a5 = fx_2 i_1 (lp fx_2 i_1 a5) from rfl, ← ex_x_2, hfx_2]; try (first | (rfl; done) | rfl)) _ _ hP hD hS _ (lv_sub hl [1, 0] rfl)
  exact Lx_2 (9 + 1) 0 a5 (by omega) (Nat.zero_le _) rfl _ _ hP hD hS _ (lv_sub hl [1, 0] rfl)

def bd_X9_isMay_4 (may : Int32) (i_1 : Nat) (x_2 : (Int32)) : (Int32) :=
  (x_2 + (sp_X9_bit may (nI i_1)))
def sp_X9_isMay (M : Nat → Int32) (L : Int64) (may : Int32) : Int32 :=
  let x_2 : (Int32) := lp (bd_X9_isMay_4 may) 9 0
  let z_4 : Int32 := (if (sp_X9_isSet may) = 0 then 0 else (if 2 < x_2 then 0 else 1))
  z_4
set_option maxRecDepth 100000 in
theorem sq_X9_isMay_1 (M : Nat → Int32) (L : Int64) (may : Int32) (x_2 : (Int32)) (z_4 : Int32) (ex_2 : x_2 = lp (bd_X9_isMay_4 may) 9 0) (ez_4 : z_4 = (if (sp_X9_isSet may) = 0 then 0 else (if 2 < x_2 then 0 else 1))) : sp_X9_isMay M L may = z_4 := by subst ez_4; subst ex_2; rfl
set_option maxHeartbeats 4000000 in
set_option maxRecDepth 100000 in
theorem c_X9_isMay (l : Launch) (D : va_G) (cI cJ cO : ClassId) (h : Nat) (r : Nat → Nat) (M : Nat → Int32) (L : Int64) (may : Int32)  : MI l D (TY cI cJ cO) yX9_isMay wsX9_isMay (RM 2) [.ref h, .int may] [(h, oX9 r M L)] (sp_X9_isMay M L may) [(h, oX9 r M L)] := by
  refine k_entI (cc := cX9_isMay) (maxL := 4) (lv := [(0, .ref h), (1, .int may)]) (by decide +kernel) rfl (Nat.le_of_ble_eq_true rfl) rfl ?_
  intro p e s m below meth c A Q ls hx hb hml hts hown hA hS hP hD hK hN hl hret
  have hown : s.vm.findClass RX9 = some m.cls := hown
  refine lv_iconst (v := 0) hx hb dX9_isMay_0 (by decide +kernel) ?_
  refine lv_istore_n (lv' := [(2, .int 0), (0, .ref h), (1, .int may)]) hx hb dX9_isMay_1 rfl hl (by decide) rfl (fun ls hl => ?_)
  refine lv_iconst (v := 0) hx hb dX9_isMay_2 (by decide +kernel) ?_
  refine lv_istore_n (lv' := [(3, .int 0), (2, .int 0), (0, .ref h), (1, .int may)]) hx hb dX9_isMay_3 rfl hl (by decide) rfl (fun ls hl => ?_)
  obtain ⟨fx_2, hfx_2⟩ : ∃ f : Nat → (Int32) → (Int32), f = (bd_X9_isMay_4 may) := ⟨_, rfl⟩
  have hB_x_2 : (9 : Int32) = nI 9 := by decide +kernel
  have hN_x_2 : 9 < 2 ^ 31 := by decide
  have Lx_2 : ∀ (nn i_1 : Nat) (x_2 : (Int32)), 9 + 1 ≤ i_1 + nn → i_1 ≤ 9 → x_2 = lp fx_2 i_1 0 → ∀ (H : Heap) (locs : List Loc), va_P D vwCl [(h, oX9 r M L)] H → va_D A [(h, oX9 r M L)] → va_S A s.heap H locs → ∀ ls : Array Slot, lv_has ls 4 [(1, .int may), (2, .int x_2), (3, .int (nI i_1))] → W p l e (RM 2) s m ([.ref h, .int may] : List Value).toArray below meth c H locs 0 0 Q (F0 m 4 ls []) := by
    intro nn_x_2
    induction nn_x_2 with
    | zero => intro i_1 x_2 h1 h2; exact absurd h1 (by omega)
    | succ nn_x_2 ih_x_2 =>
      intro i_1 x_2 hn_x_2 hi_i_1 ex_x_2 H locs hP hD hS ls hl
      refine lv_iload_n hx hb dX9_isMay_4 rfl (lv_at hl 2 rfl) ?_
      refine lv_bipush (v := 9) hx hb dX9_isMay_5 (by decide +kernel) ?_
      refine lv_icmp_ge (tgt := 24) hx hb dX9_isMay_7 (by decide) (fun c_3 => ?_) (fun c_3 => ?_)
      · skip
        have hq_x_2 : i_1 = 9 := k_eq hB_x_2 c_3 hi_i_1 hN_x_2
        have ex_2 : x_2 = lp (bd_X9_isMay_4 may) 9 0 := by rw [ex_x_2, hfx_2, hq_x_2]
        refine lv_iload_n hx hb dX9_isMay_24 rfl (lv_at hl 0 rfl) ?_
        refine k_Si ⟨hx, hb, hml, hown, hts⟩ (c_X9_isSet l D cI cJ cO may) (va_cwS 1 hts gX9_isMay_X9_isSet rfl rfl rfl (by decide +kernel) ⟨Nat.le_of_ble_eq_true rfl, Nat.le_of_ble_eq_true rfl⟩) hK hN hP hD hS hA [] rfl rfl rfl (ws' := [(h, oX9 r M L)]) rfl rfl hl.1 rfl (Nat.le_of_ble_eq_true rfl) dX9_isMay_25 ⟨Nat.le_refl _, Nat.le_refl _⟩ (fun H locs hP hD hS => ?_)
        have J_5 : ∀ z_4 : Int32, z_4 = (if (sp_X9_isSet may) = 0 then 0 else (if 2 < x_2 then 0 else 1)) → ∀ (H : Heap) (locs : List Loc), va_P D vwCl [(h, oX9 r M L)] H → va_D A [(h, oX9 r M L)] → va_S A s.heap H locs → ∀ ls : Array Slot, lv_has ls 4 [] → W p l e (RM 2) s m ([.ref h, .int may] : List Value).toArray below meth c H locs 0 0 Q (F0 m 41 ls [.int z_4]) := by
          intro z_4 ez_4 H locs hP hD hS ls hl
          have hsp : sp_X9_isMay M L may = z_4 := sq_X9_isMay_1 M L may x_2 z_4 ex_2 ez_4
          exact hret _ _ _ _ _ (by rw [hsp]) (by subst ez_4; subst ex_2; (repeat' split) <;> rfl) hP hS dX9_isMay_41
        refine lv_if_eq (tgt := 40) hx hb dX9_isMay_28 (by decide) (fun c_6 => ?_) (fun c_6 => ?_)
        · skip
          refine lv_iconst (v := 0) hx hb dX9_isMay_40 (by decide +kernel) ?_
          exact J_5 0 (by first | (simp only [if_pos c_6]; done) | rfl) _ _ hP hD hS _ (lv_sub hl [] rfl)
        · skip
          refine lv_iload_n hx hb dX9_isMay_31 rfl (lv_at hl 1 rfl) ?_
          refine lv_iconst (v := 2) hx hb dX9_isMay_32 (by decide +kernel) ?_
          refine lv_icmp_gt (tgt := 40) hx hb dX9_isMay_33 (by decide) (fun c_7 => ?_) (fun c_7 => ?_)
          · skip
            refine lv_iconst (v := 0) hx hb dX9_isMay_40 (by decide +kernel) ?_
            exact J_5 0 (by first | (simp only [if_neg c_6, if_pos c_7]; done) | rfl) _ _ hP hD hS _ (lv_sub hl [] rfl)
          · skip
            refine lv_iconst (v := 1) hx hb dX9_isMay_36 (by decide +kernel) ?_
            refine lv_goto (tgt := 41) hx hb dX9_isMay_37 (by decide) ?_
            exact J_5 1 (by first | (simp only [if_neg c_6, if_neg c_7]; done) | rfl) _ _ hP hD hS _ (lv_sub hl [] rfl)
      · skip
        have hlt_i_1 : i_1 < 9 := k_lt hB_x_2 c_3 hi_i_1 hN_x_2
        refine lv_iload_n hx hb dX9_isMay_10 rfl (lv_at hl 1 rfl) ?_
        refine lv_iload_n hx hb dX9_isMay_11 rfl (lv_at hl 0 rfl) ?_
        refine lv_iload_n hx hb dX9_isMay_12 rfl (lv_at hl 2 rfl) ?_
        refine k_Si ⟨hx, hb, hml, hown, hts⟩ (c_X9_bit l D cI cJ cO may (nI i_1)) (va_cwS 2 hts gX9_isMay_X9_bit rfl rfl rfl (by decide +kernel) ⟨Nat.le_of_ble_eq_true rfl, Nat.le_of_ble_eq_true rfl⟩) hK hN hP hD hS hA [] rfl rfl rfl (ws' := [(h, oX9 r M L)]) rfl rfl hl.1 rfl (Nat.le_of_ble_eq_true rfl) dX9_isMay_13 ⟨Nat.le_refl _, Nat.le_refl _⟩ (fun H locs hP hD hS => ?_)
        refine lv_iadd hx hb dX9_isMay_16 ?_
        refine lv_istore_n (lv' := [(2, .int (x_2 + (sp_X9_bit may (nI i_1)))), (1, .int may), (3, .int (nI i_1))]) hx hb dX9_isMay_17 rfl hl (by decide) rfl (fun ls hl => ?_)
        refine lv_iinc (v := (nI (i_1 + 1))) (lv' := [(3, .int (nI (i_1 + 1))), (2, .int (x_2 + (sp_X9_bit may (nI i_1)))), (1, .int may)]) hx hb dX9_isMay_18 hl (k := 2) rfl (nI_1 i_1) (by decide) rfl (fun ls hl => ?_)
        refine lv_goto (tgt := 4) hx hb dX9_isMay_21 (by decide) ?_
        exact ih_x_2 (i_1 + 1) (x_2 + (sp_X9_bit may (nI i_1))) (by omega) (by omega) (by rw [show lp fx_2 (i_1 + 1) 0 = fx_2 i_1 (lp fx_2 i_1 0) from rfl, ← ex_x_2, hfx_2]; try (first | (rfl; done) | rfl)) _ _ hP hD hS _ (lv_sub hl [2, 1, 0] rfl)
  exact Lx_2 (9 + 1) 0 0 (by omega) (Nat.zero_le _) rfl _ _ hP hD hS _ (lv_sub hl [3, 1, 0] rfl)

def bd_X9_chosen_12 (may : Int32) (choice : Int32) (i_1 : Nat) (x_2 : Int32 × Int32) : Int32 × Int32 :=
  (let z_3 : Int32 := (if (sp_X9_bit may (nI i_1)) = 1 then (let z_3 : Int32 := ((x_2.1) ||| ((sp_X9_bit choice (x_2.2)) <<< ((nI i_1) &&& 31))); z_3) else (x_2.1)); (let z_4 : Int32 := (if (sp_X9_bit may (nI i_1)) = 1 then ((x_2.2) + 1) else (x_2.2)); (z_3, z_4)))
def sp_X9_chosen (set : Int32) (may : Int32) (choice : Int32) : Int32 :=
  let x_2 : Int32 × Int32 := lp (bd_X9_chosen_12 may choice) 9 ((set &&& (may ^^^ (-1))), 0)
  (x_2.1)
set_option maxRecDepth 100000 in
theorem sq_X9_chosen_1 (set : Int32) (may : Int32) (choice : Int32) (x_2 : Int32 × Int32) (ex_2 : x_2 = lp (bd_X9_chosen_12 may choice) 9 ((set &&& (may ^^^ (-1))), 0)) : sp_X9_chosen set may choice = (x_2.1) := by subst ex_2; rfl
set_option maxHeartbeats 4000000 in
set_option maxRecDepth 100000 in
theorem c_X9_chosen (l : Launch) (D : va_G) (cI cJ cO : ClassId) (set : Int32) (may : Int32) (choice : Int32)  : MI l D (TY cI cJ cO) yX9_chosen wsX9_chosen (RM 1) [.int set, .int may, .int choice] [] (sp_X9_chosen set may choice) [] := by
  refine k_entI (cc := cX9_chosen) (maxL := 6) (lv := [(0, .int set), (1, .int may), (2, .int choice)]) (by decide +kernel) rfl (Nat.le_of_ble_eq_true rfl) rfl ?_
  intro p e s m below meth c A Q ls hx hb hml hts hown hA hS hP hD hK hN hl hret
  have hown : s.vm.findClass RX9 = some m.cls := hown
  refine lv_iload_n hx hb dX9_chosen_0 rfl (lv_at hl 0 rfl) ?_
  refine lv_iload_n hx hb dX9_chosen_1 rfl (lv_at hl 1 rfl) ?_
  refine lv_iconst (v := (-1)) hx hb dX9_chosen_2 (by decide +kernel) ?_
  refine lv_ixor hx hb dX9_chosen_3 ?_
  refine lv_iand hx hb dX9_chosen_4 ?_
  refine lv_istore_n (lv' := [(3, .int (set &&& (may ^^^ (-1)))), (0, .int set), (1, .int may), (2, .int choice)]) hx hb dX9_chosen_5 rfl hl (by decide) rfl (fun ls hl => ?_)
  refine lv_iconst (v := 0) hx hb dX9_chosen_6 (by decide +kernel) ?_
  refine lv_istore (lv' := [(4, .int 0), (3, .int (set &&& (may ^^^ (-1)))), (0, .int set), (1, .int may), (2, .int choice)]) hx hb dX9_chosen_7 hl (by decide) rfl (fun ls hl => ?_)
  refine lv_iconst (v := 0) hx hb dX9_chosen_9 (by decide +kernel) ?_
  refine lv_istore (lv' := [(5, .int 0), (4, .int 0), (3, .int (set &&& (may ^^^ (-1)))), (0, .int set), (1, .int may), (2, .int choice)]) hx hb dX9_chosen_10 hl (by decide) rfl (fun ls hl => ?_)
  obtain ⟨fx_2, hfx_2⟩ : ∃ f : Nat → Int32 × Int32 → Int32 × Int32, f = (bd_X9_chosen_12 may choice) := ⟨_, rfl⟩
  have hB_x_2 : (9 : Int32) = nI 9 := by decide +kernel
  have hN_x_2 : 9 < 2 ^ 31 := by decide
  have Lx_2 : ∀ (nn i_1 : Nat) (x_2 : Int32 × Int32), 9 + 1 ≤ i_1 + nn → i_1 ≤ 9 → x_2 = lp fx_2 i_1 ((set &&& (may ^^^ (-1))), 0) → ∀ (H : Heap) (locs : List Loc), va_P D vwCl [] H → va_D A [] → va_S A s.heap H locs → ∀ ls : Array Slot, lv_has ls 6 [(1, .int may), (2, .int choice), (3, .int (x_2.1)), (4, .int (x_2.2)), (5, .int (nI i_1))] → W p l e (RM 1) s m ([.int set, .int may, .int choice] : List Value).toArray below meth c H locs 0 0 Q (F0 m 12 ls []) := by
    intro nn_x_2
    induction nn_x_2 with
    | zero => intro i_1 x_2 h1 h2; exact absurd h1 (by omega)
    | succ nn_x_2 ih_x_2 =>
      intro i_1 x_2 hn_x_2 hi_i_1 ex_x_2 H locs hP hD hS ls hl
      refine lv_iload hx hb dX9_chosen_12 (lv_at hl 4 rfl) ?_
      refine lv_bipush (v := 9) hx hb dX9_chosen_14 (by decide +kernel) ?_
      refine lv_icmp_ge (tgt := 50) hx hb dX9_chosen_16 (by decide) (fun c_3 => ?_) (fun c_3 => ?_)
      · skip
        have hq_x_2 : i_1 = 9 := k_eq hB_x_2 c_3 hi_i_1 hN_x_2
        have ex_2 : x_2 = lp (bd_X9_chosen_12 may choice) 9 ((set &&& (may ^^^ (-1))), 0) := by rw [ex_x_2, hfx_2, hq_x_2]
        refine lv_iload_n hx hb dX9_chosen_50 rfl (lv_at hl 2 rfl) ?_
        have hsp : sp_X9_chosen set may choice = (x_2.1) := sq_X9_chosen_1 set may choice x_2 ex_2
        exact hret _ _ _ _ _ (by rw [hsp]) rfl hP hS dX9_chosen_51
      · skip
        have hlt_i_1 : i_1 < 9 := k_lt hB_x_2 c_3 hi_i_1 hN_x_2
        refine lv_iload_n hx hb dX9_chosen_19 rfl (lv_at hl 0 rfl) ?_
        refine lv_iload hx hb dX9_chosen_20 (lv_at hl 4 rfl) ?_
        refine k_Si ⟨hx, hb, hml, hown, hts⟩ (c_X9_bit l D cI cJ cO may (nI i_1)) (va_cwS 2 hts gX9_chosen_X9_bit rfl rfl rfl (by decide +kernel) ⟨Nat.le_of_ble_eq_true rfl, Nat.le_of_ble_eq_true rfl⟩) hK hN hP hD hS hA [] rfl rfl rfl (ws' := []) rfl rfl hl.1 rfl (Nat.le_of_ble_eq_true rfl) dX9_chosen_22 ⟨Nat.le_refl _, Nat.le_refl _⟩ (fun H locs hP hD hS => ?_)
        refine lv_iconst (v := 1) hx hb dX9_chosen_25 (by decide +kernel) ?_
        have J_6 : ∀ z_4 : Int32, z_4 = (if (sp_X9_bit may (nI i_1)) = 1 then (let z_4 : Int32 := ((x_2.1) ||| ((sp_X9_bit choice (x_2.2)) <<< ((nI i_1) &&& 31))); z_4) else (x_2.1)) → ∀ z_5 : Int32, z_5 = (if (sp_X9_bit may (nI i_1)) = 1 then ((x_2.2) + 1) else (x_2.2)) → ∀ (H : Heap) (locs : List Loc), va_P D vwCl [] H → va_D A [] → va_S A s.heap H locs → ∀ ls : Array Slot, lv_has ls 6 [(1, .int may), (2, .int choice), (3, .int z_4), (4, .int z_5), (5, .int (nI i_1))] → W p l e (RM 1) s m ([.int set, .int may, .int choice] : List Value).toArray below meth c H locs 0 0 Q (F0 m 44 ls []) := by
          intro z_4 ez_4 z_5 ez_5 H locs hP hD hS ls hl
          refine lv_iinc (v := (nI (i_1 + 1))) (lv' := [(5, .int (nI (i_1 + 1))), (1, .int may), (2, .int choice), (3, .int z_4), (4, .int z_5)]) hx hb dX9_chosen_44 hl (k := 4) rfl (nI_1 i_1) (by decide) rfl (fun ls hl => ?_)
          refine lv_goto (tgt := 12) hx hb dX9_chosen_47 (by decide) ?_
          exact ih_x_2 (i_1 + 1) (z_4, z_5) (by omega) (by omega) (by subst ez_5; subst ez_4; rw [show lp fx_2 (i_1 + 1) ((set &&& (may ^^^ (-1))), 0) = fx_2 i_1 (lp fx_2 i_1 ((set &&& (may ^^^ (-1))), 0)) from rfl, ← ex_x_2, hfx_2]; try (first | (rfl; done) | rfl)) _ _ hP hD hS _ (lv_sub hl [1, 2, 3, 4, 0] rfl)
        refine lv_icmp_ne (tgt := 44) hx hb dX9_chosen_26 (by decide) (fun c_7 => ?_) (fun c_7 => ?_)
        · skip
          exact J_6 (x_2.1) (by first | (simp only [if_neg c_7]; done) | rfl) (x_2.2) (by first | (simp only [if_neg c_7]; done) | rfl) _ _ hP hD hS _ (lv_sub hl [0, 1, 2, 3, 4] rfl)
        · skip
          refine lv_iload_n hx hb dX9_chosen_29 rfl (lv_at hl 2 rfl) ?_
          refine lv_iload_n hx hb dX9_chosen_30 rfl (lv_at hl 1 rfl) ?_
          refine lv_iload hx hb dX9_chosen_31 (lv_at hl 3 rfl) ?_
          refine k_Si ⟨hx, hb, hml, hown, hts⟩ (c_X9_bit l D cI cJ cO choice (x_2.2)) (va_cwS 2 hts gX9_chosen_X9_bit rfl rfl rfl (by decide +kernel) ⟨Nat.le_of_ble_eq_true rfl, Nat.le_of_ble_eq_true rfl⟩) hK hN hP hD hS hA [] rfl rfl rfl (ws' := []) rfl rfl hl.1 rfl (Nat.le_of_ble_eq_true rfl) dX9_chosen_33 ⟨Nat.le_refl _, Nat.le_refl _⟩ (fun H locs hP hD hS => ?_)
          refine lv_iload hx hb dX9_chosen_36 (lv_at hl 4 rfl) ?_
          refine lv_ishl hx hb dX9_chosen_38 ?_
          refine lv_ior hx hb dX9_chosen_39 ?_
          refine lv_topi (fun z_8 ez_8 => ?_)
          refine lv_istore_n (lv' := [(3, .int z_8), (1, .int may), (2, .int choice), (4, .int (x_2.2)), (5, .int (nI i_1))]) hx hb dX9_chosen_40 rfl hl (by decide) rfl (fun ls hl => ?_)
          refine lv_iinc (v := ((x_2.2) + 1)) (lv' := [(4, .int ((x_2.2) + 1)), (3, .int z_8), (1, .int may), (2, .int choice), (5, .int (nI i_1))]) hx hb dX9_chosen_41 hl (k := 3) rfl rfl (by decide) rfl (fun ls hl => ?_)
          exact J_6 z_8 (by subst ez_8; first | (simp only [if_pos c_7]; done) | rfl) ((x_2.2) + 1) (by subst ez_8; first | (simp only [if_pos c_7]; done) | rfl) _ _ hP hD hS _ (lv_sub hl [2, 3, 1, 0, 4] rfl)
  exact Lx_2 (9 + 1) 0 ((set &&& (may ^^^ (-1))), 0) (by omega) (Nat.zero_le _) rfl _ _ hP hD hS _ (lv_sub hl [4, 5, 2, 1, 0] rfl)
