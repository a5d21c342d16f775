def sp_X4_chooseSets (Z : Nat → Int32) (c0 : Nat → Int32) (set : Int32) (may : Int32) : (Nat → Int32) × (Nat → Int32) :=
  let z_1 : Int32 := (set &&& (may ^^^ (-1)))
  let z_2 : Int32 := ((set &&& (may ^^^ (-1))) ||| (may &&& (-may)))
  let z_3 : Int32 := ((set &&& (may ^^^ (-1))) ||| (may &&& ((may &&& (-may)) ^^^ (-1))))
  let z_4 : Int32 := ((set &&& (may ^^^ (-1))) ||| may)
  let z_5 : Int32 := (if 2 < (sp_J6_bitCount_0f7a4 may) then 2 else (sp_J6_bitCount_0f7a4 may))
  let z_6 : Int32 := (1 <<< (z_5 &&& 31))
  ((upd Z 4 z_6), (upd (upd (upd (upd c0 0 z_1) 1 z_2) 2 z_3) 3 z_4))
set_option maxRecDepth 100000 in
theorem sq_X4_chooseSets_1 (Z : Nat → Int32) (c0 : Nat → Int32) (set : Int32) (may : Int32) (z_1 : Int32) (z_2 : Int32) (z_3 : Int32) (z_4 : Int32) (z_5 : Int32) (z_6 : Int32) (ez_1 : z_1 = (set &&& (may ^^^ (-1)))) (ez_2 : z_2 = ((set &&& (may ^^^ (-1))) ||| (may &&& (-may)))) (ez_3 : z_3 = ((set &&& (may ^^^ (-1))) ||| (may &&& ((may &&& (-may)) ^^^ (-1))))) (ez_4 : z_4 = ((set &&& (may ^^^ (-1))) ||| may)) (ez_5 : z_5 = (if 2 < (sp_J6_bitCount_0f7a4 may) then 2 else (sp_J6_bitCount_0f7a4 may))) (ez_6 : z_6 = (1 <<< (z_5 &&& 31))) : sp_X4_chooseSets Z c0 set may = ((upd Z 4 z_6), (upd (upd (upd (upd c0 0 z_1) 1 z_2) 2 z_3) 3 z_4)) := by subst ez_6; subst ez_5; subst ez_4; subst ez_3; subst ez_2; subst ez_1; rfl
set_option maxHeartbeats 4000000 in
set_option maxRecDepth 100000 in
theorem c_X4_chooseSets (l : Launch) (D : va_G) (cI cJ cO : ClassId) (h : Nat) (pa : Nat) (tb : Nat) (fw : Nat) (ch : Nat) (Z : Nat → Int32) (c0 : Nat → Int32) (set : Int32) (may : Int32)  : MV l D (TY cI cJ cO) yX4_chooseSets wsX4_chooseSets (RM 1) [.ref h, .int set, .int may] [(h, oX4 pa tb fw ch Z), (ch, .inl (cI, 4, .inl c0))] [(h, oX4 pa tb fw ch ((sp_X4_chooseSets Z c0 set may).1)), (ch, .inl (cI, 4, .inl ((sp_X4_chooseSets Z c0 set may).2)))] := by
  refine k_entV (cc := cX4_chooseSets) (maxL := 6) (lv := [(0, .ref h), (1, .int set), (2, .int may)]) (by decide +kernel) rfl (Nat.le_of_ble_eq_true rfl) rfl ?_
  intro p e s m below meth c A Q ls hx hb hml hts hown hA hS hP hD hK hN hl hret
  have hown : s.vm.findClass RX4 = some m.cls := hown
  have hi4 : ∀ w ∈ wsX40, w ∈ wsX4_chooseSets := fun w h => List.mem_cons_of_mem _ (List.mem_append_right _ h)
  have hf25 := hts (.fieldLink RX4 25 "PressGuard$Search" "choices" "[I") (by decide +kernel)
  have hf28 := hts (.fieldLink RX4 28 "PressGuard$Search" "choiceCount" "I") (by decide +kernel)
  refine lv_iload_n hx hb dX4_chooseSets_0 rfl (lv_at hl 2 rfl) ?_
  refine lv_iload_n hx hb dX4_chooseSets_1 rfl (lv_at hl 2 rfl) ?_
  refine lv_ineg hx hb dX4_chooseSets_2 ?_
  refine lv_iand hx hb dX4_chooseSets_3 ?_
  refine lv_istore_n (lv' := [(3, .int (may &&& (-may))), (0, .ref h), (1, .int set), (2, .int may)]) hx hb dX4_chooseSets_4 rfl hl (by decide) rfl (fun ls hl => ?_)
  refine lv_iload_n hx hb dX4_chooseSets_5 rfl (lv_at hl 3 rfl) ?_
  refine lv_iload_n hx hb dX4_chooseSets_6 rfl (lv_at hl 0 rfl) ?_
  refine lv_iconst (v := (-1)) hx hb dX4_chooseSets_7 (by decide +kernel) ?_
  refine lv_ixor hx hb dX4_chooseSets_8 ?_
  refine lv_iand hx hb dX4_chooseSets_9 ?_
  refine lv_istore (lv' := [(4, .int (may &&& ((may &&& (-may)) ^^^ (-1)))), (3, .int (may &&& (-may))), (0, .ref h), (1, .int set), (2, .int may)]) hx hb dX4_chooseSets_10 hl (by decide) rfl (fun ls hl => ?_)
  refine lv_iload_n hx hb dX4_chooseSets_12 rfl (lv_at hl 3 rfl) ?_
  refine lv_iload_n hx hb dX4_chooseSets_13 rfl (lv_at hl 4 rfl) ?_
  refine lv_iconst (v := (-1)) hx hb dX4_chooseSets_14 (by decide +kernel) ?_
  refine lv_ixor hx hb dX4_chooseSets_15 ?_
  refine lv_iand hx hb dX4_chooseSets_16 ?_
  refine lv_istore (lv' := [(5, .int (set &&& (may ^^^ (-1)))), (4, .int (may &&& ((may &&& (-may)) ^^^ (-1)))), (3, .int (may &&& (-may))), (0, .ref h), (1, .int set), (2, .int may)]) hx hb dX4_chooseSets_17 hl (by decide) rfl (fun ls hl => ?_)
  refine lv_aload_n hx hb dX4_chooseSets_19 rfl (lv_at hl 3 rfl) ?_
  refine k_get hx hb hts hi4 hown hK hP 0 rfl rfl 3 (by decide) hf25 (.ref ch) rfl dX4_chooseSets_20 ?_
  refine lv_iconst (v := 0) hx hb dX4_chooseSets_23 (by decide +kernel) ?_
  refine lv_iload hx hb dX4_chooseSets_24 (lv_at hl 0 rfl) ?_
  refine lv_topi (fun z_1 ez_1 => ?_)
  refine k_iast hx hb hK hP hD hS 1 0 rfl rfl 0 (by decide +kernel) (vp_in_iff.mpr (by decide +kernel)) (ws' := [(h, oX4 pa tb fw ch Z), (ch, .inl (cI, 4, .inl (upd c0 0 z_1)))]) rfl dX4_chooseSets_26 (fun H locs hP hD hS => ?_)
  refine lv_aload_n hx hb dX4_chooseSets_27 rfl (lv_at hl 3 rfl) ?_
  refine k_get hx hb hts hi4 hown hK hP 0 rfl rfl 3 (by decide) hf25 (.ref ch) rfl dX4_chooseSets_28 ?_
  refine lv_iconst (v := 1) hx hb dX4_chooseSets_31 (by decide +kernel) ?_
  refine lv_iload hx hb dX4_chooseSets_32 (lv_at hl 0 rfl) ?_
  refine lv_iload_n hx hb dX4_chooseSets_34 rfl (lv_at hl 2 rfl) ?_
  refine lv_ior hx hb dX4_chooseSets_35 ?_
  refine lv_topi (fun z_2 ez_2 => ?_)
  refine k_iast hx hb hK hP hD hS 1 0 rfl rfl 1 (by decide +kernel) (vp_in_iff.mpr (by decide +kernel)) (ws' := [(h, oX4 pa tb fw ch Z), (ch, .inl (cI, 4, .inl (upd (upd c0 0 z_1) 1 z_2)))]) rfl dX4_chooseSets_36 (fun H locs hP hD hS => ?_)
  refine lv_aload_n hx hb dX4_chooseSets_37 rfl (lv_at hl 3 rfl) ?_
  refine k_get hx hb hts hi4 hown hK hP 0 rfl rfl 3 (by decide) hf25 (.ref ch) rfl dX4_chooseSets_38 ?_
  refine lv_iconst (v := 2) hx hb dX4_chooseSets_41 (by decide +kernel) ?_
  refine lv_iload hx hb dX4_chooseSets_42 (lv_at hl 0 rfl) ?_
  refine lv_iload hx hb dX4_chooseSets_44 (lv_at hl 1 rfl) ?_
  refine lv_ior hx hb dX4_chooseSets_46 ?_
  refine lv_topi (fun z_3 ez_3 => ?_)
  refine k_iast hx hb hK hP hD hS 1 0 rfl rfl 2 (by decide +kernel) (vp_in_iff.mpr (by decide +kernel)) (ws' := [(h, oX4 pa tb fw ch Z), (ch, .inl (cI, 4, .inl (upd (upd (upd c0 0 z_1) 1 z_2) 2 z_3)))]) rfl dX4_chooseSets_47 (fun H locs hP hD hS => ?_)
  refine lv_aload_n hx hb dX4_chooseSets_48 rfl (lv_at hl 3 rfl) ?_
  refine k_get hx hb hts hi4 hown hK hP 0 rfl rfl 3 (by decide) hf25 (.ref ch) rfl dX4_chooseSets_49 ?_
  refine lv_iconst (v := 3) hx hb dX4_chooseSets_52 (by decide +kernel) ?_
  refine lv_iload hx hb dX4_chooseSets_53 (lv_at hl 0 rfl) ?_
  refine lv_iload_n hx hb dX4_chooseSets_55 rfl (lv_at hl 5 rfl) ?_
  refine lv_ior hx hb dX4_chooseSets_56 ?_
  refine lv_topi (fun z_4 ez_4 => ?_)
  refine k_iast hx hb hK hP hD hS 1 0 rfl rfl 3 (by decide +kernel) (vp_in_iff.mpr (by decide +kernel)) (ws' := [(h, oX4 pa tb fw ch Z), (ch, .inl (cI, 4, .inl (upd (upd (upd (upd c0 0 z_1) 1 z_2) 2 z_3) 3 z_4)))]) rfl dX4_chooseSets_57 (fun H locs hP hD hS => ?_)
  refine lv_aload_n hx hb dX4_chooseSets_58 rfl (lv_at hl 3 rfl) ?_
  refine lv_iconst (v := 1) hx hb dX4_chooseSets_59 (by decide +kernel) ?_
  refine lv_iload_n hx hb dX4_chooseSets_60 rfl (lv_at hl 5 rfl) ?_
  refine k_Si ⟨hx, hb, hml, hown, hts⟩ (c_J6_bitCount_0f7a4 l D cI cJ cO may) (va_cwS 1 hts gX4_chooseSets_J6_bitCount_0f7a4 rfl rfl rfl (by decide +kernel) ⟨Nat.le_of_ble_eq_true rfl, Nat.le_of_ble_eq_true rfl⟩) hK hN hP hD hS hA [] rfl rfl rfl (ws' := [(h, oX4 pa tb fw ch Z), (ch, .inl (cI, 4, .inl (upd (upd (upd (upd c0 0 z_1) 1 z_2) 2 z_3) 3 z_4)))]) rfl rfl hl.1 rfl (Nat.le_of_ble_eq_true rfl) dX4_chooseSets_61 ⟨Nat.le_refl _, Nat.le_refl _⟩ (fun H locs hP hD hS => ?_)
  refine lv_iconst (v := 2) hx hb dX4_chooseSets_64 (by decide +kernel) ?_
  refine va_mmin hx hb (hml.trans hl.1.symm) hown (hts (.methodLink RX4 75 Lib.Math.min.name) (by decide +kernel)) (hts (.static Lib.Math.min.name) (by decide +kernel)) (hts (.initialized "java/lang/Math") (by decide +kernel)) (hts (.code Lib.Math.min.name Lib.Math.min.code 2 (some .int)) (by decide +kernel)) (Nat.le_of_ble_eq_true rfl) (Nat.le_of_ble_eq_true rfl) (Nat.le_refl _) (Nat.le_refl _) dX4_chooseSets_65 ?_
  refine lv_topi (fun z_5 ez_5 => ?_)
  refine lv_ishl hx hb dX4_chooseSets_68 ?_
  refine lv_topi (fun z_6 ez_6 => ?_)
  refine k_put hx hb hts hi4 tyX4_ok nmX4 hown hK hP hD hS 0 rfl rfl 4 (by decide) hf28 rfl (.int z_6) rfl rfl (Nat.le_of_ble_eq_true rfl) (ws' := [(h, oX4 pa tb fw ch (upd Z 4 z_6)), (ch, .inl (cI, 4, .inl (upd (upd (upd (upd c0 0 z_1) 1 z_2) 2 z_3) 3 z_4)))]) rfl dX4_chooseSets_69 (fun H locs hP hD hS => ?_)
  have hsp : sp_X4_chooseSets Z c0 set may = ((upd Z 4 z_6), (upd (upd (upd (upd c0 0 z_1) 1 z_2) 2 z_3) 3 z_4)) := sq_X4_chooseSets_1 Z c0 set may z_1 z_2 z_3 z_4 z_5 z_6 ez_1 ez_2 ez_3 ez_4 ez_5 ez_6
  exact hret _ _ _ _ (by rw [hsp]; exact hP) hS dX4_chooseSets_72

def bd_X4_addState_13 (Z : Nat → Int32) (t0 : Nat → Int64) (number : Int64) (z_1 : Int32) (i_2 : Nat) (x_3 : Unit) : (Unit) ⊕ ((Nat → Int32) × (Nat → Int64)) :=
  (if (lg_cmp (t0 (((z_1 + (nI i_2)) &&& 2047).toNatClampNeg)) number) = 0 then (Sum.inr (Z, t0)) else (if (lg_cmp (t0 (((z_1 + (nI i_2)) &&& 2047).toNatClampNeg)) 0) = 0 then (let z_6 : Int32 := ((Z 5) + 1); (Sum.inr ((upd Z 5 z_6), (vp_updL t0 (((z_1 + (nI i_2)) &&& 2047).toNatClampNeg) number)))) else (Sum.inl ())))
def sp_X4_addState (Z : Nat → Int32) (t0 : Nat → Int64) (number : Int64) : (Nat → Int32) × (Nat → Int64) :=
  let z_1 : Int32 := (((((number * (-7046029254386353131)).toUInt64 >>> ((53 : Int32).toInt64.toUInt64 &&& Int64.toUInt64 63)).toInt64) : Int64).toInt32)
  sE (fun (x_3 : Unit) =>
    (Z, t0)) (lq (bd_X4_addState_13 Z t0 number z_1) 2048 0 ())
set_option maxRecDepth 100000 in
theorem sq_X4_addState_1 (Z : Nat → Int32) (t0 : Nat → Int64) (number : Int64) (x_3 : Unit) (z_1 : Int32) (ez_1 : z_1 = (((((number * (-7046029254386353131)).toUInt64 >>> ((53 : Int32).toInt64.toUInt64 &&& Int64.toUInt64 63)).toInt64) : Int64).toInt32)) (hsx_x_3 : lq (bd_X4_addState_13 Z t0 number z_1) 2048 0 () = Sum.inl x_3) : sp_X4_addState Z t0 number = (Z, t0) := by subst ez_1; simp only [sp_X4_addState, hsx_x_3, sE_inl]
set_option maxRecDepth 100000 in
theorem sq_X4_addState_2 (Z : Nat → Int32) (t0 : Nat → Int64) (number : Int64) (z_1 : Int32) (res : (Nat → Int32) × (Nat → Int64)) (ez_1 : z_1 = (((((number * (-7046029254386353131)).toUInt64 >>> ((53 : Int32).toInt64.toUInt64 &&& Int64.toUInt64 63)).toInt64) : Int64).toInt32)) (hsr : lq (bd_X4_addState_13 Z t0 number z_1) 2048 0 () = Sum.inr res) : sp_X4_addState Z t0 number = res := by subst ez_1; simp only [sp_X4_addState, hsr, sE_inr]
set_option maxRecDepth 100000 in
theorem sq_X4_addState_3 (Z : Nat → Int32) (t0 : Nat → Int64) (number : Int64) (z_1 : Int32) (res : (Nat → Int32) × (Nat → Int64)) (ez_1 : z_1 = (((((number * (-7046029254386353131)).toUInt64 >>> ((53 : Int32).toInt64.toUInt64 &&& Int64.toUInt64 63)).toInt64) : Int64).toInt32)) (hsr : lq (bd_X4_addState_13 Z t0 number z_1) 2048 0 () = Sum.inr res) : sp_X4_addState Z t0 number = res := by subst ez_1; simp only [sp_X4_addState, hsr, sE_inr]
set_option maxHeartbeats 4000000 in
set_option maxRecDepth 100000 in
theorem c_X4_addState (l : Launch) (D : va_G) (cI cJ cO : ClassId) (h : Nat) (pa : Nat) (tb : Nat) (fw : Nat) (ch : Nat) (Z : Nat → Int32) (t0 : Nat → Int64) (number : Int64)  : MV l D (TY cI cJ cO) yX4_addState wsX4_addState (RM 0) [.ref h, .long number] [(h, oX4 pa tb fw ch Z), (tb, .inl (cJ, 2048, .inr (.inl t0)))] [(h, oX4 pa tb fw ch ((sp_X4_addState Z t0 number).1)), (tb, .inl (cJ, 2048, .inr (.inl ((sp_X4_addState Z t0 number).2))))] := by
  refine k_entV (cc := cX4_addState) (maxL := 6) (lv := [(0, .ref h), (1, .long number)]) (by decide +kernel) rfl (Nat.le_of_ble_eq_true rfl) rfl ?_
  intro p e s m below meth c A Q ls hx hb hml hts hown hA hS hP hD hK hN hl hret
  have hown : s.vm.findClass RX4 = some m.cls := hown
  have hi4 : ∀ w ∈ wsX40, w ∈ wsX4_addState := fun w h => List.mem_cons_of_mem _ (List.mem_append_right _ h)
  have hf17 := hts (.fieldLink RX4 17 "PressGuard$Search" "table" "[J") (by decide +kernel)
  have hf32 := hts (.fieldLink RX4 32 "PressGuard$Search" "states" "I") (by decide +kernel)
  refine lv_lload_n hx hb dX4_addState_0 rfl (lv_at hl 1 rfl) ?_
  refine lv_ldc2 hx hb hown (hts (.constantLong RX4 103 (-7046029254386353131)) (by decide +kernel)) dX4_addState_1 ?_
  refine lv_lmul hx hb dX4_addState_4 ?_
  refine lv_bipush (v := 53) hx hb dX4_addState_5 (by decide +kernel) ?_
  refine lv_lushr (v := ((number * (-7046029254386353131)).toUInt64 >>> ((53 : Int32).toInt64.toUInt64 &&& Int64.toUInt64 63)).toInt64) hx hb dX4_addState_7 rfl ?_
  refine lv_l2i (v := ((((number * (-7046029254386353131)).toUInt64 >>> ((53 : Int32).toInt64.toUInt64 &&& Int64.toUInt64 63)).toInt64) : Int64).toInt32) hx hb dX4_addState_8 rfl ?_
  refine lv_topi (fun z_1 ez_1 => ?_)
  refine lv_istore_n (lv' := [(3, .int z_1), (0, .ref h), (1, .long number)]) hx hb dX4_addState_9 rfl hl (by decide) rfl (fun ls hl => ?_)
  refine lv_iconst (v := 0) hx hb dX4_addState_10 (by decide +kernel) ?_
  refine lv_istore (lv' := [(4, .int 0), (3, .int z_1), (0, .ref h), (1, .long number)]) hx hb dX4_addState_11 hl (by decide) rfl (fun ls hl => ?_)
  obtain ⟨fx_3, hfx_3⟩ : ∃ f : Nat → Unit → (Unit) ⊕ ((Nat → Int32) × (Nat → Int64)), f = (bd_X4_addState_13 Z t0 number z_1) := ⟨_, rfl⟩
  have hB_x_3 : (2048 : Int32) = nI 2048 := by decide +kernel
  have hN_x_3 : 2048 < 2 ^ 31 := by decide
  have Lx_3 : ∀ (nn i_2 : Nat) (x_3 : Unit), i_2 + nn = 2048 → lq fx_3 nn i_2 x_3 = lq fx_3 2048 0 () → ∀ (H : Heap) (locs : List Loc), va_P D vwCl [(h, oX4 pa tb fw ch Z), (tb, .inl (cJ, 2048, .inr (.inl t0)))] H → va_D A [(h, oX4 pa tb fw ch Z), (tb, .inl (cJ, 2048, .inr (.inl t0)))] → va_S A s.heap H locs → ∀ ls : Array Slot, lv_has ls 6 [(0, .ref h), (1, .long number), (3, .int z_1), (4, .int (nI i_2))] → W p l e (RM 0) s m ([.ref h, .long number] : List Value).toArray below meth c H locs 0 0 Q (F0 m 13 ls []) := by
    intro nn_x_3
    induction nn_x_3 with
    | zero =>
      intro i_2 x_3 hi_i_2 hs_x_3 H locs hP hD hS ls hl
      refine lv_iload hx hb dX4_addState_13 (lv_at hl 3 rfl) ?_
      refine lv_sipush (v := 2048) hx hb dX4_addState_15 (by decide +kernel) ?_
      refine lv_icmp_ge (tgt := 81) hx hb dX4_addState_18 (by decide) (fun _ => ?_) (fun q => absurd (show _ ≤ _ by rw [hB_x_3]; exact nI_le (by omega) (by omega)) q)
      have hsx_x_3 : lq (bd_X4_addState_13 Z t0 number z_1) 2048 0 () = Sum.inl x_3 := by rw [← hfx_3, ← hs_x_3]; rfl
      have hsp : sp_X4_addState Z t0 number = (Z, t0) := sq_X4_addState_1 Z t0 number x_3 z_1 ez_1 hsx_x_3
      exact hret _ _ _ _ (by rw [hsp]; exact hP) hS dX4_addState_81
    | succ nn_x_3 ih_x_3 =>
      intro i_2 x_3 hi_i_2 hs_x_3 H locs hP hD hS ls hl
      have hlt_i_2 : i_2 < 2048 := by omega
      refine lv_iload hx hb dX4_addState_13 (lv_at hl 3 rfl) ?_
      refine lv_sipush (v := 2048) hx hb dX4_addState_15 (by decide +kernel) ?_
      refine lv_icmp_ge (tgt := 81) hx hb dX4_addState_18 (by decide) (fun q => absurd q (by rw [hB_x_3]; exact nI_ge hlt_i_2 hN_x_3)) (fun _ => ?_)
      refine lv_iload_n hx hb dX4_addState_21 rfl (lv_at hl 2 rfl) ?_
      refine lv_iload hx hb dX4_addState_22 (lv_at hl 3 rfl) ?_
      refine lv_iadd hx hb dX4_addState_24 ?_
      refine lv_sipush (v := 2047) hx hb dX4_addState_25 (by decide +kernel) ?_
      refine lv_iand hx hb dX4_addState_28 ?_
      refine lv_istore (lv' := [(5, .int ((z_1 + (nI i_2)) &&& 2047)), (0, .ref h), (1, .long number), (3, .int z_1), (4, .int (nI i_2))]) hx hb dX4_addState_29 hl (by decide) rfl (fun ls hl => ?_)
      refine lv_aload_n hx hb dX4_addState_31 rfl (lv_at hl 1 rfl) ?_
      refine k_get hx hb hts hi4 hown hK hP 0 rfl rfl 1 (by decide) hf17 (.ref tb) rfl dX4_addState_32 ?_
      refine lv_iload hx hb dX4_addState_35 (lv_at hl 0 rfl) ?_
      refine k_lald hx hb hK hP 1 1 rfl rfl (((z_1 + (nI i_2)) &&& 2047).toNatClampNeg) (rfl) (and_in _) dX4_addState_37 ?_
      refine lv_lload_n hx hb dX4_addState_38 rfl (lv_at hl 2 rfl) ?_
      refine W.lcmp hx hb dX4_addState_39 ?_
      refine lv_if_ne (tgt := 44) hx hb dX4_addState_40 (by decide) (fun c_4 => ?_) (fun c_4 => ?_)
      · skip
        refine lv_aload_n hx hb dX4_addState_44 rfl (lv_at hl 1 rfl) ?_
        refine k_get hx hb hts hi4 hown hK hP 0 rfl rfl 1 (by decide) hf17 (.ref tb) rfl dX4_addState_45 ?_
        refine lv_iload hx hb dX4_addState_48 (lv_at hl 0 rfl) ?_
        refine k_lald hx hb hK hP 1 1 rfl rfl (((z_1 + (nI i_2)) &&& 2047).toNatClampNeg) (rfl) (and_in _) dX4_addState_50 ?_
        refine lv_lconst (v := 0) hx hb dX4_addState_51 (by decide +kernel) ?_
        refine W.lcmp hx hb dX4_addState_52 ?_
        refine lv_if_ne (tgt := 75) hx hb dX4_addState_53 (by decide) (fun c_5 => ?_) (fun c_5 => ?_)
        · skip
          refine lv_iinc (v := (nI (i_2 + 1))) (lv' := [(4, .int (nI (i_2 + 1))), (5, .int ((z_1 + (nI i_2)) &&& 2047)), (0, .ref h), (1, .long number), (3, .int z_1)]) hx hb dX4_addState_75 hl (k := 4) rfl (nI_1 i_2) (by decide) rfl (fun ls hl => ?_)
          refine lv_goto (tgt := 13) hx hb dX4_addState_78 (by decide) ?_
          exact ih_x_3 (i_2 + 1) () (by omega) (by rw [← hs_x_3]; exact (lq_inl (by rw [hfx_3]; simp only [bd_X4_addState_13, if_neg c_4, if_neg c_5])).symm) _ _ hP hD hS _ (lv_sub hl [2, 3, 4, 0] rfl)
        · skip
          refine lv_aload_n hx hb dX4_addState_56 rfl (lv_at hl 1 rfl) ?_
          refine k_get hx hb hts hi4 hown hK hP 0 rfl rfl 1 (by decide) hf17 (.ref tb) rfl dX4_addState_57 ?_
          refine lv_iload hx hb dX4_addState_60 (lv_at hl 0 rfl) ?_
          refine lv_lload_n hx hb dX4_addState_62 rfl (lv_at hl 2 rfl) ?_
          refine k_last hx hb hK hP hD hS 1 1 rfl rfl (((z_1 + (nI i_2)) &&& 2047).toNatClampNeg) (rfl) (and_in _) (ws' := [(h, oX4 pa tb fw ch Z), (tb, .inl (cJ, 2048, .inr (.inl (vp_updL t0 (((z_1 + (nI i_2)) &&& 2047).toNatClampNeg) number))))]) rfl dX4_addState_63 (fun H locs hP hD hS => ?_)
          refine lv_aload_n hx hb dX4_addState_64 rfl (lv_at hl 1 rfl) ?_
          refine lv_dup hx hb dX4_addState_65 rfl ?_
          refine k_get hx hb hts hi4 hown hK hP 0 rfl rfl 5 (by decide) hf32 (.int (Z 5)) rfl dX4_addState_66 ?_
          refine lv_iconst (v := 1) hx hb dX4_addState_69 (by decide +kernel) ?_
          refine lv_iadd hx hb dX4_addState_70 ?_
          refine lv_topi (fun z_6 ez_6 => ?_)
          refine k_put hx hb hts hi4 tyX4_ok nmX4 hown hK hP hD hS 0 rfl rfl 5 (by decide) hf32 rfl (.int z_6) rfl rfl (Nat.le_of_ble_eq_true rfl) (ws' := [(h, oX4 pa tb fw ch (upd Z 5 z_6)), (tb, .inl (cJ, 2048, .inr (.inl (vp_updL t0 (((z_1 + (nI i_2)) &&& 2047).toNatClampNeg) number))))]) rfl dX4_addState_71 (fun H locs hP hD hS => ?_)
          have hsr : lq (bd_X4_addState_13 Z t0 number z_1) 2048 0 () = Sum.inr ((upd Z 5 z_6), (vp_updL t0 (((z_1 + (nI i_2)) &&& 2047).toNatClampNeg) number)) := by rw [← hfx_3, ← hs_x_3]; exact lq_inr (by subst ez_6; rw [hfx_3]; simp only [bd_X4_addState_13, if_neg c_4, if_pos c_5])
          have hsp : sp_X4_addState Z t0 number = ((upd Z 5 z_6), (vp_updL t0 (((z_1 + (nI i_2)) &&& 2047).toNatClampNeg) number)) := sq_X4_addState_2 Z t0 number z_1 ((upd Z 5 z_6), (vp_updL t0 (((z_1 + (nI i_2)) &&& 2047).toNatClampNeg) number)) ez_1 hsr
          exact hret _ _ _ _ (by rw [hsp]; exact hP) hS dX4_addState_74
      · skip
        have hsr : lq (bd_X4_addState_13 Z t0 number z_1) 2048 0 () = Sum.inr (Z, t0) := by rw [← hfx_3, ← hs_x_3]; exact lq_inr (by rw [hfx_3]; simp only [bd_X4_addState_13, if_pos c_4])
        have hsp : sp_X4_addState Z t0 number = (Z, t0) := sq_X4_addState_3 Z t0 number z_1 (Z, t0) ez_1 hsr
        exact hret _ _ _ _ (by rw [hsp]; exact hP) hS dX4_addState_43
  exact Lx_3 2048 0 () (by omega) rfl _ _ hP hD hS _ (lv_sub hl [2, 3, 1, 0] rfl)

def sp_X4_meet (Z : Nat → Int32) (t0 : Nat → Int64) (w0 : Nat → Int32) (P : Nat → Int32) (depth : Int32) : (Nat → Int32) × (Nat → Int64) × (Nat → Int32) :=
  let Z_1 : Nat → Int32 := ((sp_X4_addState Z t0 (sp_X2_stateNumber P)).1)
  let t_2 : Nat → Int64 := ((sp_X4_addState Z t0 (sp_X2_stateNumber P)).2)
  let z_3 : Int32 := (if (Z_1 6) < (P 16) then (P 16) else (Z_1 6))
  let z_4 : Nat → Int32 := (if (sp_X8_within (P 2) 0 4) = 0 then w0 else (if (w0 ((P 2).toNatClampNeg)) = (-9) then (upd w0 ((P 2).toNatClampNeg) depth) else (if (w0 ((P 2).toNatClampNeg)) ≤ depth then w0 else (upd w0 ((P 2).toNatClampNeg) depth))))
  ((upd Z_1 6 z_3), t_2, z_4)
set_option maxRecDepth 100000 in
theorem sq_X4_meet_1 (Z : Nat → Int32) (t0 : Nat → Int64) (w0 : Nat → Int32) (P : Nat → Int32) (depth : Int32) (Z_1 : Nat → Int32) (t_2 : Nat → Int64) (z_3 : Int32) (z_4 : Nat → Int32) (eZ_1 : Z_1 = ((sp_X4_addState Z t0 (sp_X2_stateNumber P)).1)) (et_2 : t_2 = ((sp_X4_addState Z t0 (sp_X2_stateNumber P)).2)) (ez_3 : z_3 = (if (Z_1 6) < (P 16) then (P 16) else (Z_1 6))) (ez_4 : z_4 = (if (sp_X8_within (P 2) 0 4) = 0 then w0 else (if (w0 ((P 2).toNatClampNeg)) = (-9) then (upd w0 ((P 2).toNatClampNeg) depth) else (if (w0 ((P 2).toNatClampNeg)) ≤ depth then w0 else (upd w0 ((P 2).toNatClampNeg) depth))))) : sp_X4_meet Z t0 w0 P depth = ((upd Z_1 6 z_3), t_2, z_4) := by subst ez_4; subst ez_3; subst et_2; subst eZ_1; rfl
set_option maxHeartbeats 4000000 in
set_option maxRecDepth 100000 in
theorem c_X4_meet (l : Launch) (D : va_G) (cI cJ cO : ClassId) (h : Nat) (o : Nat) (pa : Nat) (tb : Nat) (fw : Nat) (ch : Nat) (b0 : Nat) (b1 : Nat) (Z : Nat → Int32) (t0 : Nat → Int64) (w0 : Nat → Int32) (P : Nat → Int32) (depth : Int32)  : MV l D (TY cI cJ cO) yX4_meet wsX4_meet (RM 1) [.ref h, .ref o, .int depth] [(h, oX4 pa tb fw ch Z), (tb, .inl (cJ, 2048, .inr (.inl t0))), (fw, .inl (cI, 5, .inl w0)), (o, oX2 b0 b1 P)] [(h, oX4 pa tb fw ch ((sp_X4_meet Z t0 w0 P depth).1)), (tb, .inl (cJ, 2048, .inr (.inl ((sp_X4_meet Z t0 w0 P depth).2.1)))), (fw, .inl (cI, 5, .inl ((sp_X4_meet Z t0 w0 P depth).2.2))), (o, oX2 b0 b1 P)] := by
  refine k_entV (cc := cX4_meet) (maxL := 4) (lv := [(0, .ref h), (1, .ref o), (2, .int depth)]) (by decide +kernel) rfl (Nat.le_of_ble_eq_true rfl) rfl ?_
  intro p e s m below meth c A Q ls hx hb hml hts hown hA hS hP hD hK hN hl hret
  have hown : s.vm.findClass RX4 = some m.cls := hown
  have hi2 : ∀ w ∈ wsX20, w ∈ wsX4_meet := fun w h => List.mem_cons_of_mem _ (List.mem_append_right _ h)
  have hi4 : ∀ w ∈ wsX40, w ∈ wsX4_meet := fun w h => List.mem_cons_of_mem _ (List.mem_append_left _ (List.mem_append_right _ h))
  have hf21 := hts (.fieldLink RX4 21 "PressGuard$Search" "fewest" "[I") (by decide +kernel)
  have hf35 := hts (.fieldLink RX4 35 "PressGuard$Search" "mostDangers" "I") (by decide +kernel)
  have hf58 := hts (.fieldLink RX4 58 "PressGuard$Press" "dangers" "I") (by decide +kernel)
  have hf100 := hts (.fieldLink RX4 100 "PressGuard$Press" "mode" "I") (by decide +kernel)
  refine lv_aload_n hx hb dX4_meet_0 rfl (lv_at hl 0 rfl) ?_
  refine lv_aload_n hx hb dX4_meet_1 rfl (lv_at hl 1 rfl) ?_
  refine k_Vl ⟨hx, hb, hml, hown, hts⟩ (c_X2_stateNumber l D cI cJ cO o b0 b1 P) (ci := 2) (q0 := 3) rfl rfl (cwV 0 hts gX4_meet_X2_stateNumber rfl rfl rfl (by decide +kernel) ⟨Nat.le_of_ble_eq_true rfl, Nat.le_of_ble_eq_true rfl⟩) hK hN hP hD hS hA [3] rfl rfl rfl (ws' := [(h, oX4 pa tb fw ch Z), (tb, .inl (cJ, 2048, .inr (.inl t0))), (fw, .inl (cI, 5, .inl w0)), (o, oX2 b0 b1 P)]) rfl rfl hl.1 rfl (Nat.le_of_ble_eq_true rfl) dX4_meet_2 ⟨Nat.le_refl _, Nat.le_refl _⟩ (fun H locs hP hD hS => ?_)
  obtain ⟨Z_1, eZ_1⟩ : ∃ q : Nat → Int32, q = ((sp_X4_addState Z t0 (sp_X2_stateNumber P)).1) := ⟨_, rfl⟩
  obtain ⟨t_2, et_2⟩ : ∃ q : Nat → Int64, q = ((sp_X4_addState Z t0 (sp_X2_stateNumber P)).2) := ⟨_, rfl⟩
  refine k_Vv ⟨hx, hb, hml, hown, hts⟩ (c_X4_addState l D cI cJ cO h pa tb fw ch Z t0 (sp_X2_stateNumber P)) (ci := 4) (q0 := 0) rfl rfl (cwV 1 hts gX4_meet_X4_addState rfl rfl rfl (by decide +kernel) ⟨Nat.le_of_ble_eq_true rfl, Nat.le_of_ble_eq_true rfl⟩) hK hN hP hD hS hA [0, 1] rfl rfl rfl (ws' := [(h, oX4 pa tb fw ch Z_1), (tb, .inl (cJ, 2048, .inr (.inl t_2))), (fw, .inl (cI, 5, .inl w0)), (o, oX2 b0 b1 P)]) (by rw [eZ_1, et_2]; rfl) rfl hl.1 rfl (Nat.le_of_ble_eq_true rfl) dX4_meet_5 ⟨Nat.le_refl _, Nat.le_refl _⟩ (fun H locs hP hD hS => ?_)
  refine lv_aload_n hx hb dX4_meet_8 rfl (lv_at hl 0 rfl) ?_
  refine lv_aload_n hx hb dX4_meet_9 rfl (lv_at hl 0 rfl) ?_
  refine k_get hx hb hts hi4 hown hK hP 0 rfl rfl 6 (by decide) hf35 (.int (Z_1 6)) rfl dX4_meet_10 ?_
  refine lv_aload_n hx hb dX4_meet_13 rfl (lv_at hl 1 rfl) ?_
  refine k_get hx hb hts hi2 hown hK hP 3 rfl rfl 16 (by decide) hf58 (.int (P 16)) rfl dX4_meet_14 ?_
  refine va_mmax hx hb (hml.trans hl.1.symm) hown (hts (.methodLink RX4 97 Lib.Math.max.name) (by decide +kernel)) (hts (.static Lib.Math.max.name) (by decide +kernel)) (hts (.initialized "java/lang/Math") (by decide +kernel)) (hts (.code Lib.Math.max.name Lib.Math.max.code 2 (some .int)) (by decide +kernel)) (Nat.le_of_ble_eq_true rfl) (Nat.le_of_ble_eq_true rfl) (Nat.le_refl _) (Nat.le_refl _) dX4_meet_17 ?_
  refine lv_topi (fun z_3 ez_3 => ?_)
  refine k_put hx hb hts hi4 tyX4_ok nmX4 hown hK hP hD hS 0 rfl rfl 6 (by decide) hf35 rfl (.int z_3) rfl rfl (Nat.le_of_ble_eq_true rfl) (ws' := [(h, oX4 pa tb fw ch (upd Z_1 6 z_3)), (tb, .inl (cJ, 2048, .inr (.inl t_2))), (fw, .inl (cI, 5, .inl w0)), (o, oX2 b0 b1 P)]) rfl dX4_meet_20 (fun H locs hP hD hS => ?_)
  refine lv_aload_n hx hb dX4_meet_23 rfl (lv_at hl 1 rfl) ?_
  refine k_get hx hb hts hi2 hown hK hP 3 rfl rfl 2 (by decide) hf100 (.int (P 2)) rfl dX4_meet_24 ?_
  refine lv_istore_n (lv' := [(3, .int (P 2)), (0, .ref h), (1, .ref o), (2, .int depth)]) hx hb dX4_meet_27 rfl hl (by decide) rfl (fun ls hl => ?_)
  refine lv_iload_n hx hb dX4_meet_28 rfl (lv_at hl 0 rfl) ?_
  refine lv_iconst (v := 0) hx hb dX4_meet_29 (by decide +kernel) ?_
  refine lv_iconst (v := 4) hx hb dX4_meet_30 (by decide +kernel) ?_
  refine k_SNi ⟨hx, hb, hml, hown, hts⟩ (c_X8_within l D cI cJ cO (P 2) 0 4) (va_cnB 3 hts gX4_meet_X8_within_n65 rfl rfl rfl (hN.1 1 _ rfl) (hts (.initialized RX8) (by decide +kernel)) (by decide +kernel) ⟨Nat.le_of_ble_eq_true rfl, Nat.le_of_ble_eq_true rfl⟩) (hts (.static yX8_within) (by decide +kernel)) hK hN hP hD hS hA [] rfl rfl rfl (ws' := [(h, oX4 pa tb fw ch (upd Z_1 6 z_3)), (tb, .inl (cJ, 2048, .inr (.inl t_2))), (fw, .inl (cI, 5, .inl w0)), (o, oX2 b0 b1 P)]) rfl rfl hl.1 rfl (Nat.le_of_ble_eq_true rfl) dX4_meet_31 ⟨Nat.le_refl _, Nat.le_refl _⟩ (fun H locs hP hD hS => ?_)
  have J_5 : ∀ z_4 : Nat → Int32, z_4 = (if (sp_X8_within (P 2) 0 4) = 0 then w0 else (if (w0 ((P 2).toNatClampNeg)) = (-9) then (upd w0 ((P 2).toNatClampNeg) depth) else (if (w0 ((P 2).toNatClampNeg)) ≤ depth then w0 else (upd w0 ((P 2).toNatClampNeg) depth)))) → ∀ (H : Heap) (locs : List Loc), va_P D vwCl [(h, oX4 pa tb fw ch (upd Z_1 6 z_3)), (tb, .inl (cJ, 2048, .inr (.inl t_2))), (fw, .inl (cI, 5, .inl z_4)), (o, oX2 b0 b1 P)] H → va_D A [(h, oX4 pa tb fw ch (upd Z_1 6 z_3)), (tb, .inl (cJ, 2048, .inr (.inl t_2))), (fw, .inl (cI, 5, .inl z_4)), (o, oX2 b0 b1 P)] → va_S A s.heap H locs → ∀ ls : Array Slot, lv_has ls 4 [] → W p l e (RM 1) s m ([.ref h, .ref o, .int depth] : List Value).toArray below meth c H locs 0 0 Q (F0 m 65 ls []) := by
    intro z_4 ez_4 H locs hP hD hS ls hl
    have hsp : sp_X4_meet Z t0 w0 P depth = ((upd Z_1 6 z_3), t_2, z_4) := sq_X4_meet_1 Z t0 w0 P depth Z_1 t_2 z_3 z_4 eZ_1 et_2 ez_3 ez_4
    exact hret _ _ _ _ (by rw [hsp]; exact hP) hS dX4_meet_65
  refine lv_if_eq (tgt := 65) hx hb dX4_meet_34 (by decide) (fun c_6 => ?_) (fun c_6 => ?_)
  · skip
    exact J_5 w0 (by first | (simp only [if_pos c_6]; done) | rfl) _ _ hP hD hS _ (lv_sub hl [] rfl)
  · skip
    refine lv_aload_n hx hb dX4_meet_37 rfl (lv_at hl 1 rfl) ?_
    refine k_get hx hb hts hi4 hown hK hP 0 rfl rfl 2 (by decide) hf21 (.ref fw) rfl dX4_meet_38 ?_
    refine lv_iload_n hx hb dX4_meet_41 rfl (lv_at hl 0 rfl) ?_
    refine k_iald hx hb hK hP 2 0 rfl rfl ((P 2).toNatClampNeg) (rfl) (wi_in c_6 (by decide)) dX4_meet_42 ?_
    refine lv_bipush (v := (-9)) hx hb dX4_meet_43 (by decide +kernel) ?_
    refine lv_icmp_eq (tgt := 58) hx hb dX4_meet_45 (by decide) (fun c_7 => ?_) (fun c_7 => ?_)
    · skip
      refine lv_aload_n hx hb dX4_meet_58 rfl (lv_at hl 1 rfl) ?_
      refine k_get hx hb hts hi4 hown hK hP 0 rfl rfl 2 (by decide) hf21 (.ref fw) rfl dX4_meet_59 ?_
      refine lv_iload_n hx hb dX4_meet_62 rfl (lv_at hl 0 rfl) ?_
      refine lv_iload_n hx hb dX4_meet_63 rfl (lv_at hl 3 rfl) ?_
      refine k_iast hx hb hK hP hD hS 2 0 rfl rfl ((P 2).toNatClampNeg) (rfl) (wi_in c_6 (by decide)) (ws' := [(h, oX4 pa tb fw ch (upd Z_1 6 z_3)), (tb, .inl (cJ, 2048, .inr (.inl t_2))), (fw, .inl (cI, 5, .inl (upd w0 ((P 2).toNatClampNeg) depth))), (o, oX2 b0 b1 P)]) rfl dX4_meet_64 (fun H locs hP hD hS => ?_)
      exact J_5 (upd w0 ((P 2).toNatClampNeg) depth) (by first | (simp only [if_neg c_6, if_pos c_7]; done) | rfl) _ _ hP hD hS _ (lv_sub hl [] rfl)
    · skip
      refine lv_iload_n hx hb dX4_meet_48 rfl (lv_at hl 3 rfl) ?_
      refine lv_aload_n hx hb dX4_meet_49 rfl (lv_at hl 1 rfl) ?_
      refine k_get hx hb hts hi4 hown hK hP 0 rfl rfl 2 (by decide) hf21 (.ref fw) rfl dX4_meet_50 ?_
      refine lv_iload_n hx hb dX4_meet_53 rfl (lv_at hl 0 rfl) ?_
      refine k_iald hx hb hK hP 2 0 rfl rfl ((P 2).toNatClampNeg) (rfl) (wi_in c_6 (by decide)) dX4_meet_54 ?_
      refine lv_icmp_ge (tgt := 65) hx hb dX4_meet_55 (by decide) (fun c_8 => ?_) (fun c_8 => ?_)
      · skip
        exact J_5 w0 (by first | (simp only [if_neg c_6, if_neg c_7, if_pos c_8]; done) | rfl) _ _ hP hD hS _ (lv_sub hl [] rfl)
      · skip
        refine lv_aload_n hx hb dX4_meet_58 rfl (lv_at hl 1 rfl) ?_
        refine k_get hx hb hts hi4 hown hK hP 0 rfl rfl 2 (by decide) hf21 (.ref fw) rfl dX4_meet_59 ?_
        refine lv_iload_n hx hb dX4_meet_62 rfl (lv_at hl 0 rfl) ?_
        refine lv_iload_n hx hb dX4_meet_63 rfl (lv_at hl 3 rfl) ?_
        refine k_iast hx hb hK hP hD hS 2 0 rfl rfl ((P 2).toNatClampNeg) (rfl) (wi_in c_6 (by decide)) (ws' := [(h, oX4 pa tb fw ch (upd Z_1 6 z_3)), (tb, .inl (cJ, 2048, .inr (.inl t_2))), (fw, .inl (cI, 5, .inl (upd w0 ((P 2).toNatClampNeg) depth))), (o, oX2 b0 b1 P)]) rfl dX4_meet_64 (fun H locs hP hD hS => ?_)
        exact J_5 (upd w0 ((P 2).toNatClampNeg) depth) (by first | (simp only [if_neg c_6, if_neg c_7, if_neg c_8]; done) | rfl) _ _ hP hD hS _ (lv_sub hl [] rfl)

def sp_X4_part (Z : Nat → Int32) (w0 : Nat → Int32) (what : Int32) : Int32 :=
  (if what = 0 then
    (Z 5)
  else
    (if what = 1 then
      (Z 6)
    else
      let z_3 : Int32 := (if (sp_X8_within what 10 14) = 0 then (-2) else (w0 ((what - 10).toNatClampNeg)))
      z_3))
set_option maxRecDepth 100000 in
theorem sq_X4_part_1 (Z : Nat → Int32) (w0 : Nat → Int32) (what : Int32) (z_3 : Int32) (ez_3 : z_3 = (if (sp_X8_within what 10 14) = 0 then (-2) else (w0 ((what - 10).toNatClampNeg)))) (c_1 : ¬ (what = 0)) (c_2 : ¬ (what = 1)) : sp_X4_part Z w0 what = z_3 := by subst ez_3; simp only [sp_X4_part, if_neg c_1, if_neg c_2]
set_option maxHeartbeats 4000000 in
set_option maxRecDepth 100000 in
theorem c_X4_part (l : Launch) (D : va_G) (cI cJ cO : ClassId) (h : Nat) (pa : Nat) (tb : Nat) (fw : Nat) (ch : Nat) (Z : Nat → Int32) (w0 : Nat → Int32) (what : Int32)  : MI l D (TY cI cJ cO) yX4_part wsX4_part (RM 1) [.ref h, .int what] [(h, oX4 pa tb fw ch Z), (fw, .inl (cI, 5, .inl w0))] (sp_X4_part Z w0 what) [(h, oX4 pa tb fw ch Z), (fw, .inl (cI, 5, .inl w0))] := by
  refine k_entI (cc := cX4_part) (maxL := 2) (lv := [(0, .ref h), (1, .int what)]) (by decide +kernel) rfl (Nat.le_of_ble_eq_true rfl) rfl ?_
  intro p e s m below meth c A Q ls hx hb hml hts hown hA hS hP hD hK hN hl hret
  have hown : s.vm.findClass RX4 = some m.cls := hown
  have hi4 : ∀ w ∈ wsX40, w ∈ wsX4_part := fun w h => List.mem_cons_of_mem _ (List.mem_append_right _ h)
  have hf21 := hts (.fieldLink RX4 21 "PressGuard$Search" "fewest" "[I") (by decide +kernel)
  have hf32 := hts (.fieldLink RX4 32 "PressGuard$Search" "states" "I") (by decide +kernel)
  have hf35 := hts (.fieldLink RX4 35 "PressGuard$Search" "mostDangers" "I") (by decide +kernel)
  refine lv_iload_n hx hb dX4_part_0 rfl (lv_at hl 1 rfl) ?_
  refine lv_if_ne (tgt := 9) hx hb dX4_part_1 (by decide) (fun c_1 => ?_) (fun c_1 => ?_)
  · skip
    refine lv_iload_n hx hb dX4_part_9 rfl (lv_at hl 1 rfl) ?_
    refine lv_iconst (v := 1) hx hb dX4_part_10 (by decide +kernel) ?_
    refine lv_icmp_ne (tgt := 19) hx hb dX4_part_11 (by decide) (fun c_2 => ?_) (fun c_2 => ?_)
    · skip
      refine lv_iload_n hx hb dX4_part_19 rfl (lv_at hl 1 rfl) ?_
      refine lv_bipush (v := 10) hx hb dX4_part_20 (by decide +kernel) ?_
      refine lv_bipush (v := 14) hx hb dX4_part_22 (by decide +kernel) ?_
      refine k_SNi ⟨hx, hb, hml, hown, hts⟩ (c_X8_within l D cI cJ cO what 10 14) (va_cnB 3 hts gX4_part_X8_within_n65 rfl rfl rfl (hN.1 1 _ rfl) (hts (.initialized RX8) (by decide +kernel)) (by decide +kernel) ⟨Nat.le_of_ble_eq_true rfl, Nat.le_of_ble_eq_true rfl⟩) (hts (.static yX8_within) (by decide +kernel)) hK hN hP hD hS hA [] rfl rfl rfl (ws' := [(h, oX4 pa tb fw ch Z), (fw, .inl (cI, 5, .inl w0))]) rfl rfl hl.1 rfl (Nat.le_of_ble_eq_true rfl) dX4_part_24 ⟨Nat.le_refl _, Nat.le_refl _⟩ (fun H locs hP hD hS => ?_)
      have J_4 : ∀ z_3 : Int32, z_3 = (if (sp_X8_within what 10 14) = 0 then (-2) else (w0 ((what - 10).toNatClampNeg))) → ∀ (H : Heap) (locs : List Loc), va_P D vwCl [(h, oX4 pa tb fw ch Z), (fw, .inl (cI, 5, .inl w0))] H → va_D A [(h, oX4 pa tb fw ch Z), (fw, .inl (cI, 5, .inl w0))] → va_S A s.heap H locs → ∀ ls : Array Slot, lv_has ls 2 [] → W p l e (RM 1) s m ([.ref h, .int what] : List Value).toArray below meth c H locs 0 0 Q (F0 m 44 ls [.int z_3]) := by
        intro z_3 ez_3 H locs hP hD hS ls hl
        have hsp : sp_X4_part Z w0 what = z_3 := sq_X4_part_1 Z w0 what z_3 ez_3 c_1 c_2
        exact hret _ _ _ _ _ (by rw [hsp]) rfl hP hS dX4_part_44
      refine lv_if_eq (tgt := 42) hx hb dX4_part_27 (by decide) (fun c_5 => ?_) (fun c_5 => ?_)
      · skip
        refine lv_bipush (v := (-2)) hx hb dX4_part_42 (by decide +kernel) ?_
        exact J_4 (-2) (by first | (simp only [if_pos c_5]; done) | rfl) _ _ hP hD hS _ (lv_sub hl [] rfl)
      · skip
        refine lv_aload_n hx hb dX4_part_30 rfl (lv_at hl 0 rfl) ?_
        refine k_get hx hb hts hi4 hown hK hP 0 rfl rfl 2 (by decide) hf21 (.ref fw) rfl dX4_part_31 ?_
        refine lv_iload_n hx hb dX4_part_34 rfl (lv_at hl 1 rfl) ?_
        refine lv_bipush (v := 10) hx hb dX4_part_35 (by decide +kernel) ?_
        refine lv_isub hx hb dX4_part_37 ?_
        refine k_iald hx hb hK hP 1 0 rfl rfl ((what - 10).toNatClampNeg) (rfl) (fw_in c_5) dX4_part_38 ?_
        refine lv_goto (tgt := 44) hx hb dX4_part_39 (by decide) ?_
        exact J_4 (w0 ((what - 10).toNatClampNeg)) (by first | (simp only [if_neg c_5]; done) | rfl) _ _ hP hD hS _ (lv_sub hl [] rfl)
    · skip
      refine lv_aload_n hx hb dX4_part_14 rfl (lv_at hl 0 rfl) ?_
      refine k_get hx hb hts hi4 hown hK hP 0 rfl rfl 6 (by decide) hf35 (.int (Z 6)) rfl dX4_part_15 ?_
      have hsp : sp_X4_part Z w0 what = (Z 6) := by simp only [sp_X4_part, if_neg c_1, if_pos c_2]
      exact hret _ _ _ _ _ (by rw [hsp]) rfl hP hS dX4_part_18
  · skip
    refine lv_aload_n hx hb dX4_part_4 rfl (lv_at hl 0 rfl) ?_
    refine k_get hx hb hts hi4 hown hK hP 0 rfl rfl 5 (by decide) hf32 (.int (Z 5)) rfl dX4_part_5 ?_
    have hsp : sp_X4_part Z w0 what = (Z 5) := by simp only [sp_X4_part, if_pos c_1]
    exact hret _ _ _ _ _ (by rw [hsp]) rfl hP hS dX4_part_8
