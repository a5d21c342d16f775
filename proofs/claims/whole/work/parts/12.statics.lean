def sp_X8_within (v : Int32) (least : Int32) (most : Int32) : Int32 :=
  let z_1 : Int32 := (if v < least then 0 else (if most < v then 0 else 1))
  z_1
set_option maxRecDepth 100000 in
theorem sq_X8_within_1 (v : Int32) (least : Int32) (most : Int32) (z_1 : Int32) (ez_1 : z_1 = (if v < least then 0 else (if most < v then 0 else 1))) : sp_X8_within v least most = z_1 := by subst ez_1; rfl
set_option maxHeartbeats 4000000 in
set_option maxRecDepth 100000 in
theorem c_X8_within (l : Launch) (D : va_G) (cI cJ cO : ClassId) (v : Int32) (least : Int32) (most : Int32)  : MI l D (TY cI cJ cO) yX8_within wsX8_within (RM 0) [.int v, .int least, .int most] [] (sp_X8_within v least most) [] := by
  refine k_entI (cc := cX8_within) (maxL := 3) (lv := [(0, .int v), (1, .int least), (2, .int most)]) (by decide +kernel) rfl (Nat.le_of_ble_eq_true rfl) rfl ?_
  intro p e s m below meth c A Q ls hx hb hml hts hown hA hS hP hD hK hN hl hret
  have hown : s.vm.findClass RX8 = some m.cls := hown
  refine lv_iload_n hx hb dX8_within_0 rfl (lv_at hl 0 rfl) ?_
  refine lv_iload_n hx hb dX8_within_1 rfl (lv_at hl 1 rfl) ?_
  have J_2 : ∀ z_1 : Int32, z_1 = (if v < least then 0 else (if most < v then 0 else 1)) → ∀ (H : Heap) (locs : List Loc), va_P D vwCl [] H → va_D A [] → va_S A s.heap H locs → ∀ ls : Array Slot, lv_has ls 3 [] → W p l e (RM 0) s m ([.int v, .int least, .int most] : List Value).toArray below meth c H locs 0 0 Q (F0 m 15 ls [.int z_1]) := by
    intro z_1 ez_1 H locs hP hD hS ls hl
    have hsp : sp_X8_within v least most = z_1 := sq_X8_within_1 v least most z_1 ez_1
    exact hret _ _ _ _ _ (by rw [hsp]) (by subst ez_1; (repeat' split) <;> rfl) hP hS dX8_within_15
  refine lv_icmp_lt (tgt := 14) hx hb dX8_within_2 (by decide) (fun c_3 => ?_) (fun c_3 => ?_)
  · skip
    refine lv_iconst (v := 0) hx hb dX8_within_14 (by decide +kernel) ?_
    exact J_2 0 (by first | (simp only [if_pos c_3]; done) | rfl) _ _ hP hD hS _ (lv_sub hl [] rfl)
  · skip
    refine lv_iload_n hx hb dX8_within_5 rfl (lv_at hl 0 rfl) ?_
    refine lv_iload_n hx hb dX8_within_6 rfl (lv_at hl 2 rfl) ?_
    refine lv_icmp_gt (tgt := 14) hx hb dX8_within_7 (by decide) (fun c_4 => ?_) (fun c_4 => ?_)
    · skip
      refine lv_iconst (v := 0) hx hb dX8_within_14 (by decide +kernel) ?_
      exact J_2 0 (by first | (simp only [if_neg c_3, if_pos c_4]; done) | rfl) _ _ hP hD hS _ (lv_sub hl [] rfl)
    · skip
      refine lv_iconst (v := 1) hx hb dX8_within_10 (by decide +kernel) ?_
      refine lv_goto (tgt := 15) hx hb dX8_within_11 (by decide) ?_
      exact J_2 1 (by first | (simp only [if_neg c_3, if_neg c_4]; done) | rfl) _ _ hP hD hS _ (lv_sub hl [] rfl)

def sp_X8_isSet (set : Int32) : Int32 :=
  (sp_X8_within set 0 511)
set_option maxHeartbeats 4000000 in
set_option maxRecDepth 100000 in
theorem c_X8_isSet (l : Launch) (D : va_G) (cI cJ cO : ClassId) (set : Int32)  : MI l D (TY cI cJ cO) yX8_isSet wsX8_isSet (RM 1) [.int set] [] (sp_X8_isSet set) [] := by
  refine k_entI (cc := cX8_isSet) (maxL := 1) (lv := [(0, .int set)]) (by decide +kernel) rfl (Nat.le_of_ble_eq_true rfl) rfl ?_
  intro p e s m below meth c A Q ls hx hb hml hts hown hA hS hP hD hK hN hl hret
  have hown : s.vm.findClass RX8 = some m.cls := hown
  refine lv_iload_n hx hb dX8_isSet_0 rfl (lv_at hl 0 rfl) ?_
  refine lv_iconst (v := 0) hx hb dX8_isSet_1 (by decide +kernel) ?_
  refine lv_sipush (v := 511) hx hb dX8_isSet_2 (by decide +kernel) ?_
  refine k_Si ⟨hx, hb, hml, hown, hts⟩ (c_X8_within l D cI cJ cO set 0 511) (va_cwS 3 hts gX8_isSet_X8_within rfl rfl rfl (by decide +kernel) ⟨Nat.le_of_ble_eq_true rfl, Nat.le_of_ble_eq_true rfl⟩) hK hN hP hD hS hA [] rfl rfl rfl (ws' := []) rfl rfl hl.1 rfl (Nat.le_of_ble_eq_true rfl) dX8_isSet_5 ⟨Nat.le_refl _, Nat.le_refl _⟩ (fun H locs hP hD hS => ?_)
  have hsp : sp_X8_isSet set = (sp_X8_within set 0 511) := rfl
  exact hret _ _ _ _ _ (by rw [hsp]) (by simp only [sp_X8_within]; (repeat' split) <;> rfl) hP hS dX8_isSet_8

def sp_X8_bit (set : Int32) (input : Int32) : Int32 :=
  ((set >>> (input &&& 31)) &&& 1)
set_option maxHeartbeats 4000000 in
set_option maxRecDepth 100000 in
theorem c_X8_bit (l : Launch) (D : va_G) (cI cJ cO : ClassId) (set : Int32) (input : Int32)  : MI l D (TY cI cJ cO) yX8_bit wsX8_bit (RM 0) [.int set, .int input] [] (sp_X8_bit set input) [] := by
  refine k_entI (cc := cX8_bit) (maxL := 2) (lv := [(0, .int set), (1, .int input)]) (by decide +kernel) rfl (Nat.le_of_ble_eq_true rfl) rfl ?_
  intro p e s m below meth c A Q ls hx hb hml hts hown hA hS hP hD hK hN hl hret
  have hown : s.vm.findClass RX8 = some m.cls := hown
  refine lv_iload_n hx hb dX8_bit_0 rfl (lv_at hl 0 rfl) ?_
  refine lv_iload_n hx hb dX8_bit_1 rfl (lv_at hl 1 rfl) ?_
  refine lv_ishr hx hb dX8_bit_2 ?_
  refine lv_iconst (v := 1) hx hb dX8_bit_3 (by decide +kernel) ?_
  refine lv_iand hx hb dX8_bit_4 ?_
  have hsp : sp_X8_bit set input = ((set >>> (input &&& 31)) &&& 1) := rfl
  exact hret _ _ _ _ _ (by rw [hsp]) rfl hP hS dX8_bit_5

def sp_X8_pairCount (set : Int32) (a : Int32) : Int32 :=
  ((sp_X8_bit set a) + (sp_X8_bit set (a + 1)))
set_option maxHeartbeats 4000000 in
set_option maxRecDepth 100000 in
theorem c_X8_pairCount (l : Launch) (D : va_G) (cI cJ cO : ClassId) (set : Int32) (a : Int32)  : MI l D (TY cI cJ cO) yX8_pairCount wsX8_pairCount (RM 1) [.int set, .int a] [] (sp_X8_pairCount set a) [] := by
  refine k_entI (cc := cX8_pairCount) (maxL := 2) (lv := [(0, .int set), (1, .int a)]) (by decide +kernel) rfl (Nat.le_of_ble_eq_true rfl) rfl ?_
  intro p e s m below meth c A Q ls hx hb hml hts hown hA hS hP hD hK hN hl hret
  have hown : s.vm.findClass RX8 = some m.cls := hown
  refine lv_iload_n hx hb dX8_pairCount_0 rfl (lv_at hl 0 rfl) ?_
  refine lv_iload_n hx hb dX8_pairCount_1 rfl (lv_at hl 1 rfl) ?_
  refine k_Si ⟨hx, hb, hml, hown, hts⟩ (c_X8_bit l D cI cJ cO set a) (va_cwS 2 hts gX8_pairCount_X8_bit rfl rfl rfl (by decide +kernel) ⟨Nat.le_of_ble_eq_true rfl, Nat.le_of_ble_eq_true rfl⟩) hK hN hP hD hS hA [] rfl rfl rfl (ws' := []) rfl rfl hl.1 rfl (Nat.le_of_ble_eq_true rfl) dX8_pairCount_2 ⟨Nat.le_refl _, Nat.le_refl _⟩ (fun H locs hP hD hS => ?_)
  refine lv_iload_n hx hb dX8_pairCount_5 rfl (lv_at hl 0 rfl) ?_
  refine lv_iload_n hx hb dX8_pairCount_6 rfl (lv_at hl 1 rfl) ?_
  refine lv_iconst (v := 1) hx hb dX8_pairCount_7 (by decide +kernel) ?_
  refine lv_iadd hx hb dX8_pairCount_8 ?_
  refine k_Si ⟨hx, hb, hml, hown, hts⟩ (c_X8_bit l D cI cJ cO set (a + 1)) (va_cwS 2 hts gX8_pairCount_X8_bit rfl rfl rfl (by decide +kernel) ⟨Nat.le_of_ble_eq_true rfl, Nat.le_of_ble_eq_true rfl⟩) hK hN hP hD hS hA [] rfl rfl rfl (ws' := []) rfl rfl hl.1 rfl (Nat.le_of_ble_eq_true rfl) dX8_pairCount_9 ⟨Nat.le_refl _, Nat.le_refl _⟩ (fun H locs hP hD hS => ?_)
  refine lv_iadd hx hb dX8_pairCount_12 ?_
  have hsp : sp_X8_pairCount set a = ((sp_X8_bit set a) + (sp_X8_bit set (a + 1))) := rfl
  exact hret _ _ _ _ _ (by rw [hsp]) rfl hP hS dX8_pairCount_13

def sp_J6_bitCount_0f7a4 (x : Int32) : Int32 :=
  let z_1 : Int32 := (x - (((x.toUInt32 >>> ((1 : Int32).toUInt32 &&& Int32.toUInt32 31)).toInt32) &&& 1431655765))
  let z_2 : Int32 := ((z_1 &&& 858993459) + (((z_1.toUInt32 >>> ((2 : Int32).toUInt32 &&& Int32.toUInt32 31)).toInt32) &&& 858993459))
  let z_3 : Int32 := ((z_2 + ((z_2.toUInt32 >>> ((4 : Int32).toUInt32 &&& Int32.toUInt32 31)).toInt32)) &&& 252645135)
  let z_4 : Int32 := (z_3 + ((z_3.toUInt32 >>> ((8 : Int32).toUInt32 &&& Int32.toUInt32 31)).toInt32))
  let z_5 : Int32 := (z_4 + ((z_4.toUInt32 >>> ((16 : Int32).toUInt32 &&& Int32.toUInt32 31)).toInt32))
  (z_5 &&& 63)
set_option maxRecDepth 100000 in
theorem sq_J6_bitCount_0f7a4_1 (x : Int32) (z_1 : Int32) (z_2 : Int32) (z_3 : Int32) (z_4 : Int32) (z_5 : Int32) (ez_1 : z_1 = (x - (((x.toUInt32 >>> ((1 : Int32).toUInt32 &&& Int32.toUInt32 31)).toInt32) &&& 1431655765))) (ez_2 : z_2 = ((z_1 &&& 858993459) + (((z_1.toUInt32 >>> ((2 : Int32).toUInt32 &&& Int32.toUInt32 31)).toInt32) &&& 858993459))) (ez_3 : z_3 = ((z_2 + ((z_2.toUInt32 >>> ((4 : Int32).toUInt32 &&& Int32.toUInt32 31)).toInt32)) &&& 252645135)) (ez_4 : z_4 = (z_3 + ((z_3.toUInt32 >>> ((8 : Int32).toUInt32 &&& Int32.toUInt32 31)).toInt32))) (ez_5 : z_5 = (z_4 + ((z_4.toUInt32 >>> ((16 : Int32).toUInt32 &&& Int32.toUInt32 31)).toInt32))) : sp_J6_bitCount_0f7a4 x = (z_5 &&& 63) := by subst ez_5; subst ez_4; subst ez_3; subst ez_2; subst ez_1; rfl
set_option maxHeartbeats 4000000 in
set_option maxRecDepth 100000 in
theorem c_J6_bitCount_0f7a4 (l : Launch) (D : va_G) (cI cJ cO : ClassId) (x : Int32)  : MI l D (TY cI cJ cO) yJ6_bitCount_0f7a4 wsJ6_bitCount_0f7a4 (RM 0) [.int x] [] (sp_J6_bitCount_0f7a4 x) [] := by
  refine k_entI (cc := cJ6_bitCount_0f7a4) (maxL := 1) (lv := [(0, .int x)]) (by decide +kernel) rfl (Nat.le_of_ble_eq_true rfl) rfl ?_
  intro p e s m below meth c A Q ls hx hb hml hts hown hA hS hP hD hK hN hl hret
  have hown : s.vm.findClass RJ6 = some m.cls := hown
  refine lv_iload_n hx hb dJ6_bitCount_0f7a4_0 rfl (lv_at hl 0 rfl) ?_
  refine lv_iload_n hx hb dJ6_bitCount_0f7a4_1 rfl (lv_at hl 0 rfl) ?_
  refine lv_iconst (v := 1) hx hb dJ6_bitCount_0f7a4_2 (by decide +kernel) ?_
  refine lv_iushr (v := (x.toUInt32 >>> ((1 : Int32).toUInt32 &&& Int32.toUInt32 31)).toInt32) hx hb dJ6_bitCount_0f7a4_3 rfl ?_
  refine lv_ldcw hx hb hown (hts (.constant RJ6 265 (1431655765)) (by decide +kernel)) dJ6_bitCount_0f7a4_4 ?_
  refine lv_iand hx hb dJ6_bitCount_0f7a4_7 ?_
  refine lv_isub hx hb dJ6_bitCount_0f7a4_8 ?_
  refine lv_topi (fun z_1 ez_1 => ?_)
  refine lv_istore_n (lv' := [(0, .int z_1)]) hx hb dJ6_bitCount_0f7a4_9 rfl hl (by decide) rfl (fun ls hl => ?_)
  refine lv_iload_n hx hb dJ6_bitCount_0f7a4_10 rfl (lv_at hl 0 rfl) ?_
  refine lv_ldcw hx hb hown (hts (.constant RJ6 266 (858993459)) (by decide +kernel)) dJ6_bitCount_0f7a4_11 ?_
  refine lv_iand hx hb dJ6_bitCount_0f7a4_14 ?_
  refine lv_iload_n hx hb dJ6_bitCount_0f7a4_15 rfl (lv_at hl 0 rfl) ?_
  refine lv_iconst (v := 2) hx hb dJ6_bitCount_0f7a4_16 (by decide +kernel) ?_
  refine lv_iushr (v := (z_1.toUInt32 >>> ((2 : Int32).toUInt32 &&& Int32.toUInt32 31)).toInt32) hx hb dJ6_bitCount_0f7a4_17 rfl ?_
  refine lv_ldcw hx hb hown (hts (.constant RJ6 266 (858993459)) (by decide +kernel)) dJ6_bitCount_0f7a4_18 ?_
  refine lv_iand hx hb dJ6_bitCount_0f7a4_21 ?_
  refine lv_iadd hx hb dJ6_bitCount_0f7a4_22 ?_
  refine lv_topi (fun z_2 ez_2 => ?_)
  refine lv_istore_n (lv' := [(0, .int z_2)]) hx hb dJ6_bitCount_0f7a4_23 rfl hl (by decide) rfl (fun ls hl => ?_)
  refine lv_iload_n hx hb dJ6_bitCount_0f7a4_24 rfl (lv_at hl 0 rfl) ?_
  refine lv_iload_n hx hb dJ6_bitCount_0f7a4_25 rfl (lv_at hl 0 rfl) ?_
  refine lv_iconst (v := 4) hx hb dJ6_bitCount_0f7a4_26 (by decide +kernel) ?_
  refine lv_iushr (v := (z_2.toUInt32 >>> ((4 : Int32).toUInt32 &&& Int32.toUInt32 31)).toInt32) hx hb dJ6_bitCount_0f7a4_27 rfl ?_
  refine lv_iadd hx hb dJ6_bitCount_0f7a4_28 ?_
  refine lv_ldcw hx hb hown (hts (.constant RJ6 267 (252645135)) (by decide +kernel)) dJ6_bitCount_0f7a4_29 ?_
  refine lv_iand hx hb dJ6_bitCount_0f7a4_32 ?_
  refine lv_topi (fun z_3 ez_3 => ?_)
  refine lv_istore_n (lv' := [(0, .int z_3)]) hx hb dJ6_bitCount_0f7a4_33 rfl hl (by decide) rfl (fun ls hl => ?_)
  refine lv_iload_n hx hb dJ6_bitCount_0f7a4_34 rfl (lv_at hl 0 rfl) ?_
  refine lv_iload_n hx hb dJ6_bitCount_0f7a4_35 rfl (lv_at hl 0 rfl) ?_
  refine lv_bipush (v := 8) hx hb dJ6_bitCount_0f7a4_36 (by decide +kernel) ?_
  refine lv_iushr (v := (z_3.toUInt32 >>> ((8 : Int32).toUInt32 &&& Int32.toUInt32 31)).toInt32) hx hb dJ6_bitCount_0f7a4_38 rfl ?_
  refine lv_iadd hx hb dJ6_bitCount_0f7a4_39 ?_
  refine lv_topi (fun z_4 ez_4 => ?_)
  refine lv_istore_n (lv' := [(0, .int z_4)]) hx hb dJ6_bitCount_0f7a4_40 rfl hl (by decide) rfl (fun ls hl => ?_)
  refine lv_iload_n hx hb dJ6_bitCount_0f7a4_41 rfl (lv_at hl 0 rfl) ?_
  refine lv_iload_n hx hb dJ6_bitCount_0f7a4_42 rfl (lv_at hl 0 rfl) ?_
  refine lv_bipush (v := 16) hx hb dJ6_bitCount_0f7a4_43 (by decide +kernel) ?_
  refine lv_iushr (v := (z_4.toUInt32 >>> ((16 : Int32).toUInt32 &&& Int32.toUInt32 31)).toInt32) hx hb dJ6_bitCount_0f7a4_45 rfl ?_
  refine lv_iadd hx hb dJ6_bitCount_0f7a4_46 ?_
  refine lv_topi (fun z_5 ez_5 => ?_)
  refine lv_istore_n (lv' := [(0, .int z_5)]) hx hb dJ6_bitCount_0f7a4_47 rfl hl (by decide) rfl (fun ls hl => ?_)
  refine lv_iload_n hx hb dJ6_bitCount_0f7a4_48 rfl (lv_at hl 0 rfl) ?_
  refine lv_bipush (v := 63) hx hb dJ6_bitCount_0f7a4_49 (by decide +kernel) ?_
  refine lv_iand hx hb dJ6_bitCount_0f7a4_51 ?_
  have hsp : sp_J6_bitCount_0f7a4 x = (z_5 &&& 63) := sq_J6_bitCount_0f7a4_1 x z_1 z_2 z_3 z_4 z_5 ez_1 ez_2 ez_3 ez_4 ez_5
  exact hret _ _ _ _ _ (by rw [hsp]) rfl hP hS dJ6_bitCount_0f7a4_52
