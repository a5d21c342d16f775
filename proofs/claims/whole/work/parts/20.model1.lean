def sp_X9_within (v : Int32) (least : Int32) (most : Int32) : Int32 :=
  let z_1 : Int32 := (if v < least then 0 else (if most < v then 0 else 1))
  z_1
set_option maxRecDepth 100000 in
theorem sq_X9_within_1 (v : Int32) (least : Int32) (most : Int32) (z_1 : Int32) (ez_1 : z_1 = (if v < least then 0 else (if most < v then 0 else 1))) : sp_X9_within v least most = z_1 := by subst ez_1; rfl
set_option maxHeartbeats 4000000 in
set_option maxRecDepth 100000 in
theorem c_X9_within (l : Launch) (D : va_G) (cI cJ cO : ClassId) (v : Int32) (least : Int32) (most : Int32)  : MI l D (TY cI cJ cO) yX9_within wsX9_within (RM 0) [.int v, .int least, .int most] [] (sp_X9_within v least most) [] := by
  refine k_entI (cc := cX9_within) (maxL := 3) (lv := [(0, .int v), (1, .int least), (2, .int most)]) (by decide +kernel) rfl (Nat.le_of_ble_eq_true rfl) rfl ?_
  intro p e s m below meth c A Q ls hx hb hml hts hown hA hS hP hD hK hN hl hret
  have hown : s.vm.findClass RX9 = some m.cls := hown
  refine lv_iload_n hx hb dX9_within_0 rfl (lv_at hl 0 rfl) ?_
  refine lv_iload_n hx hb dX9_within_1 rfl (lv_at hl 1 rfl) ?_
  have J_2 : ∀ z_1 : Int32, z_1 = (if v < least then 0 else (if most < v then 0 else 1)) → ∀ (H : Heap) (locs : List Loc), va_P D vwCl [] H → va_D A [] → va_S A s.heap H locs → ∀ ls : Array Slot, lv_has ls 3 [] → W p l e (RM 0) s m ([.int v, .int least, .int most] : List Value).toArray below meth c H locs 0 0 Q (F0 m 15 ls [.int z_1]) := by
    intro z_1 ez_1 H locs hP hD hS ls hl
    have hsp : sp_X9_within v least most = z_1 := sq_X9_within_1 v least most z_1 ez_1
    exact hret _ _ _ _ _ (by rw [hsp]) (by subst ez_1; (repeat' split) <;> rfl) hP hS dX9_within_15
  refine lv_icmp_lt (tgt := 14) hx hb dX9_within_2 (by decide) (fun c_3 => ?_) (fun c_3 => ?_)
  · skip
    refine lv_iconst (v := 0) hx hb dX9_within_14 (by decide +kernel) ?_
    exact J_2 0 (by first | (simp only [if_pos c_3]; done) | rfl) _ _ hP hD hS _ (lv_sub hl [] rfl)
  · skip
    refine lv_iload_n hx hb dX9_within_5 rfl (lv_at hl 0 rfl) ?_
    refine lv_iload_n hx hb dX9_within_6 rfl (lv_at hl 2 rfl) ?_
    refine lv_icmp_gt (tgt := 14) hx hb dX9_within_7 (by decide) (fun c_4 => ?_) (fun c_4 => ?_)
    · skip
      refine lv_iconst (v := 0) hx hb dX9_within_14 (by decide +kernel) ?_
      exact J_2 0 (by first | (simp only [if_neg c_3, if_pos c_4]; done) | rfl) _ _ hP hD hS _ (lv_sub hl [] rfl)
    · skip
      refine lv_iconst (v := 1) hx hb dX9_within_10 (by decide +kernel) ?_
      refine lv_goto (tgt := 15) hx hb dX9_within_11 (by decide) ?_
      exact J_2 1 (by first | (simp only [if_neg c_3, if_neg c_4]; done) | rfl) _ _ hP hD hS _ (lv_sub hl [] rfl)

def sp_X9_isSet (set : Int32) : Int32 :=
  (sp_X9_within set 0 511)
set_option maxHeartbeats 4000000 in
set_option maxRecDepth 100000 in
theorem c_X9_isSet (l : Launch) (D : va_G) (cI cJ cO : ClassId) (set : Int32)  : MI l D (TY cI cJ cO) yX9_isSet wsX9_isSet (RM 1) [.int set] [] (sp_X9_isSet set) [] := by
  refine k_entI (cc := cX9_isSet) (maxL := 1) (lv := [(0, .int set)]) (by decide +kernel) rfl (Nat.le_of_ble_eq_true rfl) rfl ?_
  intro p e s m below meth c A Q ls hx hb hml hts hown hA hS hP hD hK hN hl hret
  have hown : s.vm.findClass RX9 = some m.cls := hown
  refine lv_iload_n hx hb dX9_isSet_0 rfl (lv_at hl 0 rfl) ?_
  refine lv_iconst (v := 0) hx hb dX9_isSet_1 (by decide +kernel) ?_
  refine lv_sipush (v := 511) hx hb dX9_isSet_2 (by decide +kernel) ?_
  refine k_Si ⟨hx, hb, hml, hown, hts⟩ (c_X9_within l D cI cJ cO set 0 511) (va_cwS 3 hts gX9_isSet_X9_within rfl rfl rfl (by decide +kernel) ⟨Nat.le_of_ble_eq_true rfl, Nat.le_of_ble_eq_true rfl⟩) hK hN hP hD hS hA [] rfl rfl rfl (ws' := []) rfl rfl hl.1 rfl (Nat.le_of_ble_eq_true rfl) dX9_isSet_5 ⟨Nat.le_refl _, Nat.le_refl _⟩ (fun H locs hP hD hS => ?_)
  have hsp : sp_X9_isSet set = (sp_X9_within set 0 511) := rfl
  exact hret _ _ _ _ _ (by rw [hsp]) (by simp only [sp_X9_within]; (repeat' split) <;> rfl) hP hS dX9_isSet_8

def sp_X9_bit (set : Int32) (k : Int32) : Int32 :=
  ((set >>> (k &&& 31)) &&& 1)
set_option maxHeartbeats 4000000 in
set_option maxRecDepth 100000 in
theorem c_X9_bit (l : Launch) (D : va_G) (cI cJ cO : ClassId) (set : Int32) (k : Int32)  : MI l D (TY cI cJ cO) yX9_bit wsX9_bit (RM 0) [.int set, .int k] [] (sp_X9_bit set k) [] := by
  refine k_entI (cc := cX9_bit) (maxL := 2) (lv := [(0, .int set), (1, .int k)]) (by decide +kernel) rfl (Nat.le_of_ble_eq_true rfl) rfl ?_
  intro p e s m below meth c A Q ls hx hb hml hts hown hA hS hP hD hK hN hl hret
  have hown : s.vm.findClass RX9 = some m.cls := hown
  refine lv_iload_n hx hb dX9_bit_0 rfl (lv_at hl 0 rfl) ?_
  refine lv_iload_n hx hb dX9_bit_1 rfl (lv_at hl 1 rfl) ?_
  refine lv_ishr hx hb dX9_bit_2 ?_
  refine lv_iconst (v := 1) hx hb dX9_bit_3 (by decide +kernel) ?_
  refine lv_iand hx hb dX9_bit_4 ?_
  have hsp : sp_X9_bit set k = ((set >>> (k &&& 31)) &&& 1) := rfl
  exact hret _ _ _ _ _ (by rw [hsp]) rfl hP hS dX9_bit_5

def sp_X9_isOn (seen : Int32) (twin : Int32) : Int32 :=
  let z_1 : Int32 := (if ((seen >>> ((2 * twin) &&& 31)) &&& 3) = 3 then 1 else 0)
  z_1
set_option maxRecDepth 100000 in
theorem sq_X9_isOn_1 (seen : Int32) (twin : Int32) (z_1 : Int32) (ez_1 : z_1 = (if ((seen >>> ((2 * twin) &&& 31)) &&& 3) = 3 then 1 else 0)) : sp_X9_isOn seen twin = z_1 := by subst ez_1; rfl
set_option maxHeartbeats 4000000 in
set_option maxRecDepth 100000 in
theorem c_X9_isOn (l : Launch) (D : va_G) (cI cJ cO : ClassId) (seen : Int32) (twin : Int32)  : MI l D (TY cI cJ cO) yX9_isOn wsX9_isOn (RM 0) [.int seen, .int twin] [] (sp_X9_isOn seen twin) [] := by
  refine k_entI (cc := cX9_isOn) (maxL := 2) (lv := [(0, .int seen), (1, .int twin)]) (by decide +kernel) rfl (Nat.le_of_ble_eq_true rfl) rfl ?_
  intro p e s m below meth c A Q ls hx hb hml hts hown hA hS hP hD hK hN hl hret
  have hown : s.vm.findClass RX9 = some m.cls := hown
  refine lv_iload_n hx hb dX9_isOn_0 rfl (lv_at hl 0 rfl) ?_
  refine lv_iconst (v := 2) hx hb dX9_isOn_1 (by decide +kernel) ?_
  refine lv_iload_n hx hb dX9_isOn_2 rfl (lv_at hl 1 rfl) ?_
  refine lv_imul hx hb dX9_isOn_3 ?_
  refine lv_ishr hx hb dX9_isOn_4 ?_
  refine lv_iconst (v := 3) hx hb dX9_isOn_5 (by decide +kernel) ?_
  refine lv_iand hx hb dX9_isOn_6 ?_
  refine lv_iconst (v := 3) hx hb dX9_isOn_7 (by decide +kernel) ?_
  have J_2 : ∀ z_1 : Int32, z_1 = (if ((seen >>> ((2 * twin) &&& 31)) &&& 3) = 3 then 1 else 0) → ∀ (H : Heap) (locs : List Loc), va_P D vwCl [] H → va_D A [] → va_S A s.heap H locs → ∀ ls : Array Slot, lv_has ls 2 [] → W p l e (RM 0) s m ([.int seen, .int twin] : List Value).toArray below meth c H locs 0 0 Q (F0 m 16 ls [.int z_1]) := by
    intro z_1 ez_1 H locs hP hD hS ls hl
    have hsp : sp_X9_isOn seen twin = z_1 := sq_X9_isOn_1 seen twin z_1 ez_1
    exact hret _ _ _ _ _ (by rw [hsp]) (by subst ez_1; (repeat' split) <;> rfl) hP hS dX9_isOn_16
  refine lv_icmp_ne (tgt := 15) hx hb dX9_isOn_8 (by decide) (fun c_3 => ?_) (fun c_3 => ?_)
  · skip
    refine lv_iconst (v := 0) hx hb dX9_isOn_15 (by decide +kernel) ?_
    exact J_2 0 (by first | (simp only [if_neg c_3]; done) | rfl) _ _ hP hD hS _ (lv_sub hl [] rfl)
  · skip
    refine lv_iconst (v := 1) hx hb dX9_isOn_11 (by decide +kernel) ?_
    refine lv_goto (tgt := 16) hx hb dX9_isOn_12 (by decide) ?_
    exact J_2 1 (by first | (simp only [if_pos c_3]; done) | rfl) _ _ hP hD hS _ (lv_sub hl [] rfl)

def sp_X9_mutingBy (was : Int32) (one : Int32) (two : Int32) : Int32 :=
  (if was = 4 then
    let z_17 : Int32 := (if (one + two) = 0 then 0 else 4)
    z_17
  else
    (if (one + two) = 0 then
      let z_14 : Int32 := (if was = 2 then 4 else 0)
      z_14
    else
      (if (one + two) = 2 then
        let z_11 : Int32 := (if was = 0 then 4 else 2)
        z_11
      else
        (if one = 1 then
          let z_8 : Int32 := (if was = 3 then 4 else 1)
          z_8
        else
          let z_5 : Int32 := (if was < 2 then 4 else 3)
          z_5))))
set_option maxRecDepth 100000 in
theorem sq_X9_mutingBy_1 (was : Int32) (one : Int32) (two : Int32) (z_5 : Int32) (ez_5 : z_5 = (if was < 2 then 4 else 3)) (c_1 : ¬ (was = 4)) (c_2 : ¬ ((one + two) = 0)) (c_3 : ¬ ((one + two) = 2)) (c_4 : ¬ (one = 1)) : sp_X9_mutingBy was one two = z_5 := by subst ez_5; simp only [sp_X9_mutingBy, if_neg c_1, if_neg c_2, if_neg c_3, if_neg c_4]
set_option maxRecDepth 100000 in
theorem sq_X9_mutingBy_2 (was : Int32) (one : Int32) (two : Int32) (z_8 : Int32) (ez_8 : z_8 = (if was = 3 then 4 else 1)) (c_1 : ¬ (was = 4)) (c_2 : ¬ ((one + two) = 0)) (c_3 : ¬ ((one + two) = 2)) (c_4 : one = 1) : sp_X9_mutingBy was one two = z_8 := by subst ez_8; simp only [sp_X9_mutingBy, if_neg c_1, if_neg c_2, if_neg c_3, if_pos c_4]
set_option maxRecDepth 100000 in
theorem sq_X9_mutingBy_3 (was : Int32) (one : Int32) (two : Int32) (z_11 : Int32) (ez_11 : z_11 = (if was = 0 then 4 else 2)) (c_1 : ¬ (was = 4)) (c_2 : ¬ ((one + two) = 0)) (c_3 : (one + two) = 2) : sp_X9_mutingBy was one two = z_11 := by subst ez_11; simp only [sp_X9_mutingBy, if_neg c_1, if_neg c_2, if_pos c_3]
set_option maxRecDepth 100000 in
theorem sq_X9_mutingBy_4 (was : Int32) (one : Int32) (two : Int32) (z_14 : Int32) (ez_14 : z_14 = (if was = 2 then 4 else 0)) (c_1 : ¬ (was = 4)) (c_2 : (one + two) = 0) : sp_X9_mutingBy was one two = z_14 := by subst ez_14; simp only [sp_X9_mutingBy, if_neg c_1, if_pos c_2]
set_option maxRecDepth 100000 in
theorem sq_X9_mutingBy_5 (was : Int32) (one : Int32) (two : Int32) (z_17 : Int32) (ez_17 : z_17 = (if (one + two) = 0 then 0 else 4)) (c_1 : was = 4) : sp_X9_mutingBy was one two = z_17 := by subst ez_17; simp only [sp_X9_mutingBy, if_pos c_1]
set_option maxHeartbeats 4000000 in
set_option maxRecDepth 100000 in
theorem c_X9_mutingBy (l : Launch) (D : va_G) (cI cJ cO : ClassId) (was : Int32) (one : Int32) (two : Int32)  : MI l D (TY cI cJ cO) yX9_mutingBy wsX9_mutingBy (RM 0) [.int was, .int one, .int two] [] (sp_X9_mutingBy was one two) [] := by
  refine k_entI (cc := cX9_mutingBy) (maxL := 3) (lv := [(0, .int was), (1, .int one), (2, .int two)]) (by decide +kernel) rfl (Nat.le_of_ble_eq_true rfl) rfl ?_
  intro p e s m below meth c A Q ls hx hb hml hts hown hA hS hP hD hK hN hl hret
  have hown : s.vm.findClass RX9 = some m.cls := hown
  refine lv_iload_n hx hb dX9_mutingBy_0 rfl (lv_at hl 0 rfl) ?_
  refine lv_iconst (v := 4) hx hb dX9_mutingBy_1 (by decide +kernel) ?_
  refine lv_icmp_ne (tgt := 17) hx hb dX9_mutingBy_2 (by decide) (fun c_1 => ?_) (fun c_1 => ?_)
  · skip
    refine lv_iload_n hx hb dX9_mutingBy_17 rfl (lv_at hl 1 rfl) ?_
    refine lv_iload_n hx hb dX9_mutingBy_18 rfl (lv_at hl 2 rfl) ?_
    refine lv_iadd hx hb dX9_mutingBy_19 ?_
    refine lv_if_ne (tgt := 34) hx hb dX9_mutingBy_20 (by decide) (fun c_2 => ?_) (fun c_2 => ?_)
    · skip
      refine lv_iload_n hx hb dX9_mutingBy_34 rfl (lv_at hl 1 rfl) ?_
      refine lv_iload_n hx hb dX9_mutingBy_35 rfl (lv_at hl 2 rfl) ?_
      refine lv_iadd hx hb dX9_mutingBy_36 ?_
      refine lv_iconst (v := 2) hx hb dX9_mutingBy_37 (by decide +kernel) ?_
      refine lv_icmp_ne (tgt := 51) hx hb dX9_mutingBy_38 (by decide) (fun c_3 => ?_) (fun c_3 => ?_)
      · skip
        refine lv_iload_n hx hb dX9_mutingBy_51 rfl (lv_at hl 1 rfl) ?_
        refine lv_iconst (v := 1) hx hb dX9_mutingBy_52 (by decide +kernel) ?_
        refine lv_icmp_ne (tgt := 67) hx hb dX9_mutingBy_53 (by decide) (fun c_4 => ?_) (fun c_4 => ?_)
        · skip
          refine lv_iload_n hx hb dX9_mutingBy_67 rfl (lv_at hl 0 rfl) ?_
          refine lv_iconst (v := 2) hx hb dX9_mutingBy_68 (by decide +kernel) ?_
          have J_6 : ∀ z_5 : Int32, z_5 = (if was < 2 then 4 else 3) → ∀ (H : Heap) (locs : List Loc), va_P D vwCl [] H → va_D A [] → va_S A s.heap H locs → ∀ ls : Array Slot, lv_has ls 3 [] → W p l e (RM 0) s m ([.int was, .int one, .int two] : List Value).toArray below meth c H locs 0 0 Q (F0 m 77 ls [.int z_5]) := by
            intro z_5 ez_5 H locs hP hD hS ls hl
            have hsp : sp_X9_mutingBy was one two = z_5 := sq_X9_mutingBy_1 was one two z_5 ez_5 c_1 c_2 c_3 c_4
            exact hret _ _ _ _ _ (by rw [hsp]) rfl hP hS dX9_mutingBy_77
          refine lv_icmp_lt (tgt := 76) hx hb dX9_mutingBy_69 (by decide) (fun c_7 => ?_) (fun c_7 => ?_)
          · skip
            refine lv_iconst (v := 4) hx hb dX9_mutingBy_76 (by decide +kernel) ?_
            exact J_6 4 (by first | (simp only [if_pos c_7]; done) | rfl) _ _ hP hD hS _ (lv_sub hl [] rfl)
          · skip
            refine lv_iconst (v := 3) hx hb dX9_mutingBy_72 (by decide +kernel) ?_
            refine lv_goto (tgt := 77) hx hb dX9_mutingBy_73 (by decide) ?_
            exact J_6 3 (by first | (simp only [if_neg c_7]; done) | rfl) _ _ hP hD hS _ (lv_sub hl [] rfl)
        · skip
          refine lv_iload_n hx hb dX9_mutingBy_56 rfl (lv_at hl 0 rfl) ?_
          refine lv_iconst (v := 3) hx hb dX9_mutingBy_57 (by decide +kernel) ?_
          have J_9 : ∀ z_8 : Int32, z_8 = (if was = 3 then 4 else 1) → ∀ (H : Heap) (locs : List Loc), va_P D vwCl [] H → va_D A [] → va_S A s.heap H locs → ∀ ls : Array Slot, lv_has ls 3 [] → W p l e (RM 0) s m ([.int was, .int one, .int two] : List Value).toArray below meth c H locs 0 0 Q (F0 m 66 ls [.int z_8]) := by
            intro z_8 ez_8 H locs hP hD hS ls hl
            have hsp : sp_X9_mutingBy was one two = z_8 := sq_X9_mutingBy_2 was one two z_8 ez_8 c_1 c_2 c_3 c_4
            exact hret _ _ _ _ _ (by rw [hsp]) rfl hP hS dX9_mutingBy_66
          refine lv_icmp_ne (tgt := 65) hx hb dX9_mutingBy_58 (by decide) (fun c_10 => ?_) (fun c_10 => ?_)
          · skip
            refine lv_iconst (v := 1) hx hb dX9_mutingBy_65 (by decide +kernel) ?_
            exact J_9 1 (by first | (simp only [if_neg c_10]; done) | rfl) _ _ hP hD hS _ (lv_sub hl [] rfl)
          · skip
            refine lv_iconst (v := 4) hx hb dX9_mutingBy_61 (by decide +kernel) ?_
            refine lv_goto (tgt := 66) hx hb dX9_mutingBy_62 (by decide) ?_
            exact J_9 4 (by first | (simp only [if_pos c_10]; done) | rfl) _ _ hP hD hS _ (lv_sub hl [] rfl)
      · skip
        refine lv_iload_n hx hb dX9_mutingBy_41 rfl (lv_at hl 0 rfl) ?_
        have J_12 : ∀ z_11 : Int32, z_11 = (if was = 0 then 4 else 2) → ∀ (H : Heap) (locs : List Loc), va_P D vwCl [] H → va_D A [] → va_S A s.heap H locs → ∀ ls : Array Slot, lv_has ls 3 [] → W p l e (RM 0) s m ([.int was, .int one, .int two] : List Value).toArray below meth c H locs 0 0 Q (F0 m 50 ls [.int z_11]) := by
          intro z_11 ez_11 H locs hP hD hS ls hl
          have hsp : sp_X9_mutingBy was one two = z_11 := sq_X9_mutingBy_3 was one two z_11 ez_11 c_1 c_2 c_3
          exact hret _ _ _ _ _ (by rw [hsp]) rfl hP hS dX9_mutingBy_50
        refine lv_if_ne (tgt := 49) hx hb dX9_mutingBy_42 (by decide) (fun c_13 => ?_) (fun c_13 => ?_)
        · skip
          refine lv_iconst (v := 2) hx hb dX9_mutingBy_49 (by decide +kernel) ?_
          exact J_12 2 (by first | (simp only [if_neg c_13]; done) | rfl) _ _ hP hD hS _ (lv_sub hl [] rfl)
        · skip
          refine lv_iconst (v := 4) hx hb dX9_mutingBy_45 (by decide +kernel) ?_
          refine lv_goto (tgt := 50) hx hb dX9_mutingBy_46 (by decide) ?_
          exact J_12 4 (by first | (simp only [if_pos c_13]; done) | rfl) _ _ hP hD hS _ (lv_sub hl [] rfl)
    · skip
      refine lv_iload_n hx hb dX9_mutingBy_23 rfl (lv_at hl 0 rfl) ?_
      refine lv_iconst (v := 2) hx hb dX9_mutingBy_24 (by decide +kernel) ?_
      have J_15 : ∀ z_14 : Int32, z_14 = (if was = 2 then 4 else 0) → ∀ (H : Heap) (locs : List Loc), va_P D vwCl [] H → va_D A [] → va_S A s.heap H locs → ∀ ls : Array Slot, lv_has ls 3 [] → W p l e (RM 0) s m ([.int was, .int one, .int two] : List Value).toArray below meth c H locs 0 0 Q (F0 m 33 ls [.int z_14]) := by
        intro z_14 ez_14 H locs hP hD hS ls hl
        have hsp : sp_X9_mutingBy was one two = z_14 := sq_X9_mutingBy_4 was one two z_14 ez_14 c_1 c_2
        exact hret _ _ _ _ _ (by rw [hsp]) rfl hP hS dX9_mutingBy_33
      refine lv_icmp_ne (tgt := 32) hx hb dX9_mutingBy_25 (by decide) (fun c_16 => ?_) (fun c_16 => ?_)
      · skip
        refine lv_iconst (v := 0) hx hb dX9_mutingBy_32 (by decide +kernel) ?_
        exact J_15 0 (by first | (simp only [if_neg c_16]; done) | rfl) _ _ hP hD hS _ (lv_sub hl [] rfl)
      · skip
        refine lv_iconst (v := 4) hx hb dX9_mutingBy_28 (by decide +kernel) ?_
        refine lv_goto (tgt := 33) hx hb dX9_mutingBy_29 (by decide) ?_
        exact J_15 4 (by first | (simp only [if_pos c_16]; done) | rfl) _ _ hP hD hS _ (lv_sub hl [] rfl)
  · skip
    refine lv_iload_n hx hb dX9_mutingBy_5 rfl (lv_at hl 1 rfl) ?_
    refine lv_iload_n hx hb dX9_mutingBy_6 rfl (lv_at hl 2 rfl) ?_
    refine lv_iadd hx hb dX9_mutingBy_7 ?_
    have J_18 : ∀ z_17 : Int32, z_17 = (if (one + two) = 0 then 0 else 4) → ∀ (H : Heap) (locs : List Loc), va_P D vwCl [] H → va_D A [] → va_S A s.heap H locs → ∀ ls : Array Slot, lv_has ls 3 [] → W p l e (RM 0) s m ([.int was, .int one, .int two] : List Value).toArray below meth c H locs 0 0 Q (F0 m 16 ls [.int z_17]) := by
      intro z_17 ez_17 H locs hP hD hS ls hl
      have hsp : sp_X9_mutingBy was one two = z_17 := sq_X9_mutingBy_5 was one two z_17 ez_17 c_1
      exact hret _ _ _ _ _ (by rw [hsp]) rfl hP hS dX9_mutingBy_16
    refine lv_if_ne (tgt := 15) hx hb dX9_mutingBy_8 (by decide) (fun c_19 => ?_) (fun c_19 => ?_)
    · skip
      refine lv_iconst (v := 4) hx hb dX9_mutingBy_15 (by decide +kernel) ?_
      exact J_18 4 (by first | (simp only [if_neg c_19]; done) | rfl) _ _ hP hD hS _ (lv_sub hl [] rfl)
    · skip
      refine lv_iconst (v := 0) hx hb dX9_mutingBy_11 (by decide +kernel) ?_
      refine lv_goto (tgt := 16) hx hb dX9_mutingBy_12 (by decide) ?_
      exact J_18 0 (by first | (simp only [if_pos c_19]; done) | rfl) _ _ hP hD hS _ (lv_sub hl [] rfl)

def sp_X9_more (v : Int32) : Int32 :=
  let z_1 : Int32 := (if 9 ≤ v then 9 else (v + 1))
  z_1
set_option maxRecDepth 100000 in
theorem sq_X9_more_1 (v : Int32) (z_1 : Int32) (ez_1 : z_1 = (if 9 ≤ v then 9 else (v + 1))) : sp_X9_more v = z_1 := by subst ez_1; rfl
set_option maxHeartbeats 4000000 in
set_option maxRecDepth 100000 in
theorem c_X9_more (l : Launch) (D : va_G) (cI cJ cO : ClassId) (v : Int32)  : MI l D (TY cI cJ cO) yX9_more wsX9_more (RM 0) [.int v] [] (sp_X9_more v) [] := by
  refine k_entI (cc := cX9_more) (maxL := 1) (lv := [(0, .int v)]) (by decide +kernel) rfl (Nat.le_of_ble_eq_true rfl) rfl ?_
  intro p e s m below meth c A Q ls hx hb hml hts hown hA hS hP hD hK hN hl hret
  have hown : s.vm.findClass RX9 = some m.cls := hown
  refine lv_iload_n hx hb dX9_more_0 rfl (lv_at hl 0 rfl) ?_
  refine lv_bipush (v := 9) hx hb dX9_more_1 (by decide +kernel) ?_
  have J_2 : ∀ z_1 : Int32, z_1 = (if 9 ≤ v then 9 else (v + 1)) → ∀ (H : Heap) (locs : List Loc), va_P D vwCl [] H → va_D A [] → va_S A s.heap H locs → ∀ ls : Array Slot, lv_has ls 1 [] → W p l e (RM 0) s m ([.int v] : List Value).toArray below meth c H locs 0 0 Q (F0 m 14 ls [.int z_1]) := by
    intro z_1 ez_1 H locs hP hD hS ls hl
    have hsp : sp_X9_more v = z_1 := sq_X9_more_1 v z_1 ez_1
    exact hret _ _ _ _ _ (by rw [hsp]) rfl hP hS dX9_more_14
  refine lv_icmp_ge (tgt := 12) hx hb dX9_more_3 (by decide) (fun c_3 => ?_) (fun c_3 => ?_)
  · skip
    refine lv_bipush (v := 9) hx hb dX9_more_12 (by decide +kernel) ?_
    exact J_2 9 (by first | (simp only [if_pos c_3]; done) | rfl) _ _ hP hD hS _ (lv_sub hl [] rfl)
  · skip
    refine lv_iload_n hx hb dX9_more_6 rfl (lv_at hl 0 rfl) ?_
    refine lv_iconst (v := 1) hx hb dX9_more_7 (by decide +kernel) ?_
    refine lv_iadd hx hb dX9_more_8 ?_
    refine lv_goto (tgt := 14) hx hb dX9_more_9 (by decide) ?_
    exact J_2 (v + 1) (by first | (simp only [if_neg c_3]; done) | rfl) _ _ hP hD hS _ (lv_sub hl [] rfl)

def bd_X9_seen_4 (a5 : Nat → Int32) (set : Int32) (i_1 : Nat) (x_2 : (Int32)) : (Int32) :=
  (let z_3 : Int32 := (if (a5 i_1) = 2 then (sp_X9_bit set (nI i_1)) else (a5 i_1)); (x_2 ||| (z_3 <<< ((nI i_1) &&& 31))))
def sp_X9_seen (M : Nat → Int32) (L : Int64) (a5 : Nat → Int32) (set : Int32) : Int32 :=
  let x_2 : (Int32) := lp (bd_X9_seen_4 a5 set) 9 0
  x_2
set_option maxRecDepth 100000 in
theorem sq_X9_seen_1 (M : Nat → Int32) (L : Int64) (a5 : Nat → Int32) (set : Int32) (x_2 : (Int32)) (ex_2 : x_2 = lp (bd_X9_seen_4 a5 set) 9 0) : sp_X9_seen M L a5 set = x_2 := by subst ex_2; rfl
set_option maxHeartbeats 4000000 in
set_option maxRecDepth 100000 in
theorem c_X9_seen (l : Launch) (D : va_G) (cI cJ cO : ClassId) (h : Nat) (r : Nat → Nat) (M : Nat → Int32) (L : Int64) (a5 : Nat → Int32) (set : Int32)  : MI l D (TY cI cJ cO) yX9_seen wsX9_seen (RM 1) [.ref h, .int set] [(h, oX9 r M L), ((r 5), .inl (cI, 9, .inl a5))] (sp_X9_seen M L a5 set) [(h, oX9 r M L), ((r 5), .inl (cI, 9, .inl a5))] := by
  refine k_entI (cc := cX9_seen) (maxL := 4) (lv := [(0, .ref h), (1, .int set)]) (by decide +kernel) rfl (Nat.le_of_ble_eq_true rfl) rfl ?_
  intro p e s m below meth c A Q ls hx hb hml hts hown hA hS hP hD hK hN hl hret
  have hown : s.vm.findClass RX9 = some m.cls := hown
  have hi9 : ∀ w ∈ wsX90, w ∈ wsX9_seen := fun w h => List.mem_cons_of_mem _ (List.mem_append_right _ h)
  have hf25 := hts (.fieldLink RX9 25 "PressGuardModel" "stuck" "[I") (by decide +kernel)
  refine lv_iconst (v := 0) hx hb dX9_seen_0 (by decide +kernel) ?_
  refine lv_istore_n (lv' := [(2, .int 0), (0, .ref h), (1, .int set)]) hx hb dX9_seen_1 rfl hl (by decide) rfl (fun ls hl => ?_)
  refine lv_iconst (v := 0) hx hb dX9_seen_2 (by decide +kernel) ?_
  refine lv_istore_n (lv' := [(3, .int 0), (2, .int 0), (0, .ref h), (1, .int set)]) hx hb dX9_seen_3 rfl hl (by decide) rfl (fun ls hl => ?_)
  obtain ⟨fx_2, hfx_2⟩ : ∃ f : Nat → (Int32) → (Int32), f = (bd_X9_seen_4 a5 set) := ⟨_, rfl⟩
  have hB_x_2 : (9 : Int32) = nI 9 := by decide +kernel
  have hN_x_2 : 9 < 2 ^ 31 := by decide
  have Lx_2 : ∀ (nn i_1 : Nat) (x_2 : (Int32)), 9 + 1 ≤ i_1 + nn → i_1 ≤ 9 → x_2 = lp fx_2 i_1 0 → ∀ (H : Heap) (locs : List Loc), va_P D vwCl [(h, oX9 r M L), ((r 5), .inl (cI, 9, .inl a5))] H → va_D A [(h, oX9 r M L), ((r 5), .inl (cI, 9, .inl a5))] → va_S A s.heap H locs → ∀ ls : Array Slot, lv_has ls 4 [(0, .ref h), (1, .int set), (2, .int x_2), (3, .int (nI i_1))] → W p l e (RM 1) s m ([.ref h, .int set] : List Value).toArray below meth c H locs 0 0 Q (F0 m 4 ls []) := by
    intro nn_x_2
    induction nn_x_2 with
    | zero => intro i_1 x_2 h1 h2; exact absurd h1 (by omega)
    | succ nn_x_2 ih_x_2 =>
      intro i_1 x_2 hn_x_2 hi_i_1 ex_x_2 H locs hP hD hS ls hl
      refine lv_iload_n hx hb dX9_seen_4 rfl (lv_at hl 3 rfl) ?_
      refine lv_bipush (v := 9) hx hb dX9_seen_5 (by decide +kernel) ?_
      refine lv_icmp_ge (tgt := 45) hx hb dX9_seen_7 (by decide) (fun c_3 => ?_) (fun c_3 => ?_)
      · skip
        have hq_x_2 : i_1 = 9 := k_eq hB_x_2 c_3 hi_i_1 hN_x_2
        have ex_2 : x_2 = lp (bd_X9_seen_4 a5 set) 9 0 := by rw [ex_x_2, hfx_2, hq_x_2]
        refine lv_iload_n hx hb dX9_seen_45 rfl (lv_at hl 2 rfl) ?_
        have hsp : sp_X9_seen M L a5 set = x_2 := sq_X9_seen_1 M L a5 set x_2 ex_2
        exact hret _ _ _ _ _ (by rw [hsp]) rfl hP hS dX9_seen_46
      · skip
        have hlt_i_1 : i_1 < 9 := k_lt hB_x_2 c_3 hi_i_1 hN_x_2
        refine lv_iload_n hx hb dX9_seen_10 rfl (lv_at hl 2 rfl) ?_
        refine lv_aload_n hx hb dX9_seen_11 rfl (lv_at hl 0 rfl) ?_
        refine k_get hx hb hts hi9 hown hK hP 0 rfl rfl 5 (by decide) hf25 (.ref (r 5)) rfl dX9_seen_12 ?_
        refine lv_iload_n hx hb dX9_seen_15 rfl (lv_at hl 3 rfl) ?_
        refine k_iald hx hb hK hP 1 0 rfl rfl i_1 (nI_clamp (by omega)) (vp_in_nI (by omega) (by omega)) dX9_seen_16 ?_
        refine lv_iconst (v := 2) hx hb dX9_seen_17 (by decide +kernel) ?_
        have J_5 : ∀ z_4 : Int32, z_4 = (if (a5 i_1) = 2 then (sp_X9_bit set (nI i_1)) else (a5 i_1)) → ∀ (H : Heap) (locs : List Loc), va_P D vwCl [(h, oX9 r M L), ((r 5), .inl (cI, 9, .inl a5))] H → va_D A [(h, oX9 r M L), ((r 5), .inl (cI, 9, .inl a5))] → va_S A s.heap H locs → ∀ ls : Array Slot, lv_has ls 4 [(0, .ref h), (1, .int set), (3, .int (nI i_1))] → W p l e (RM 1) s m ([.ref h, .int set] : List Value).toArray below meth c H locs 0 0 Q (F0 m 35 ls [.int z_4, .int x_2]) := by
          intro z_4 ez_4 H locs hP hD hS ls hl
          refine lv_iload_n hx hb dX9_seen_35 rfl (lv_at hl 2 rfl) ?_
          refine lv_ishl hx hb dX9_seen_36 ?_
          refine lv_ior hx hb dX9_seen_37 ?_
          refine lv_istore_n (lv' := [(2, .int (x_2 ||| (z_4 <<< ((nI i_1) &&& 31)))), (0, .ref h), (1, .int set), (3, .int (nI i_1))]) hx hb dX9_seen_38 rfl hl (by decide) rfl (fun ls hl => ?_)
          refine lv_iinc (v := (nI (i_1 + 1))) (lv' := [(3, .int (nI (i_1 + 1))), (2, .int (x_2 ||| (z_4 <<< ((nI i_1) &&& 31)))), (0, .ref h), (1, .int set)]) hx hb dX9_seen_39 hl (k := 3) rfl (nI_1 i_1) (by decide) rfl (fun ls hl => ?_)
          refine lv_goto (tgt := 4) hx hb dX9_seen_42 (by decide) ?_
          exact ih_x_2 (i_1 + 1) (x_2 ||| (z_4 <<< ((nI i_1) &&& 31))) (by omega) (by omega) (by subst ez_4; rw [show lp fx_2 (i_1 + 1) 0 = fx_2 i_1 (lp fx_2 i_1 0) from rfl, ← ex_x_2, hfx_2]; try (first | (rfl; done) | rfl)) _ _ hP hD hS _ (lv_sub hl [2, 3, 1, 0] rfl)
        refine lv_icmp_ne (tgt := 29) hx hb dX9_seen_18 (by decide) (fun c_6 => ?_) (fun c_6 => ?_)
        · skip
          refine lv_aload_n hx hb dX9_seen_29 rfl (lv_at hl 0 rfl) ?_
          refine k_get hx hb hts hi9 hown hK hP 0 rfl rfl 5 (by decide) hf25 (.ref (r 5)) rfl dX9_seen_30 ?_
          refine lv_iload_n hx hb dX9_seen_33 rfl (lv_at hl 3 rfl) ?_
          refine k_iald hx hb hK hP 1 0 rfl rfl i_1 (nI_clamp (by omega)) (vp_in_nI (by omega) (by omega)) dX9_seen_34 ?_
          exact J_5 (a5 i_1) (by first | (simp only [if_neg c_6]; done) | rfl) _ _ hP hD hS _ (lv_sub hl [0, 1, 3] rfl)
        · skip
          refine lv_iload_n hx hb dX9_seen_21 rfl (lv_at hl 1 rfl) ?_
          refine lv_iload_n hx hb dX9_seen_22 rfl (lv_at hl 3 rfl) ?_
          refine k_Si ⟨hx, hb, hml, hown, hts⟩ (c_X9_bit l D cI cJ cO set (nI i_1)) (va_cwS 2 hts gX9_seen_X9_bit rfl rfl rfl (by decide +kernel) ⟨Nat.le_of_ble_eq_true rfl, Nat.le_of_ble_eq_true rfl⟩) hK hN hP hD hS hA [] rfl rfl rfl (ws' := [(h, oX9 r M L), ((r 5), .inl (cI, 9, .inl a5))]) rfl rfl hl.1 rfl (Nat.le_of_ble_eq_true rfl) dX9_seen_23 ⟨Nat.le_refl _, Nat.le_refl _⟩ (fun H locs hP hD hS => ?_)
          refine lv_goto (tgt := 35) hx hb dX9_seen_26 (by decide) ?_
          exact J_5 (sp_X9_bit set (nI i_1)) (by first | (simp only [if_pos c_6]; done) | rfl) _ _ hP hD hS _ (lv_sub hl [0, 1, 3] rfl)
  exact Lx_2 (9 + 1) 0 0 (by omega) (Nat.zero_le _) rfl _ _ hP hD hS _ (lv_sub hl [2, 3, 1, 0] rfl)

def sp_X9_handsBy (M : Nat → Int32) (L : Int64) (many : Int32) : Int32 :=
  (if many = 0 then
    0
  else
    (if (M 8) = 3 then
      3
    else
      (if many = 2 then
        2
      else
        (if (M 8) = 2 then
          3
        else
          let z_5 : Int32 := (if (M 8) = 1 then (if ((M 9) + 1) ≤ (M 1) then 1 else 3) else 1)
          z_5))))
set_option maxRecDepth 100000 in
theorem sq_X9_handsBy_1 (M : Nat → Int32) (L : Int64) (many : Int32) (z_5 : Int32) (ez_5 : z_5 = (if (M 8) = 1 then (if ((M 9) + 1) ≤ (M 1) then 1 else 3) else 1)) (c_1 : ¬ (many = 0)) (c_2 : ¬ ((M 8) = 3)) (c_3 : ¬ (many = 2)) (c_4 : ¬ ((M 8) = 2)) : sp_X9_handsBy M L many = z_5 := by subst ez_5; simp only [sp_X9_handsBy, if_neg c_1, if_neg c_2, if_neg c_3, if_neg c_4]
set_option maxHeartbeats 4000000 in
set_option maxRecDepth 100000 in
theorem c_X9_handsBy (l : Launch) (D : va_G) (cI cJ cO : ClassId) (h : Nat) (r : Nat → Nat) (M : Nat → Int32) (L : Int64) (many : Int32)  : MI l D (TY cI cJ cO) yX9_handsBy wsX9_handsBy (RM 0) [.ref h, .int many] [(h, oX9 r M L)] (sp_X9_handsBy M L many) [(h, oX9 r M L)] := by
  refine k_entI (cc := cX9_handsBy) (maxL := 2) (lv := [(0, .ref h), (1, .int many)]) (by decide +kernel) rfl (Nat.le_of_ble_eq_true rfl) rfl ?_
  intro p e s m below meth c A Q ls hx hb hml hts hown hA hS hP hD hK hN hl hret
  have hown : s.vm.findClass RX9 = some m.cls := hown
  have hi9 : ∀ w ∈ wsX90, w ∈ wsX9_handsBy := fun w h => List.mem_cons_of_mem _ (List.mem_append_right _ h)
  have hf13 := hts (.fieldLink RX9 13 "PressGuardModel" "span" "I") (by decide +kernel)
  have hf74 := hts (.fieldLink RX9 74 "PressGuardModel" "hands" "I") (by decide +kernel)
  have hf77 := hts (.fieldLink RX9 77 "PressGuardModel" "since" "I") (by decide +kernel)
  refine lv_iload_n hx hb dX9_handsBy_0 rfl (lv_at hl 1 rfl) ?_
  refine lv_if_ne (tgt := 6) hx hb dX9_handsBy_1 (by decide) (fun c_1 => ?_) (fun c_1 => ?_)
  · skip
    refine lv_aload_n hx hb dX9_handsBy_6 rfl (lv_at hl 0 rfl) ?_
    refine k_get hx hb hts hi9 hown hK hP 0 rfl rfl 8 (by decide) hf74 (.int (M 8)) rfl dX9_handsBy_7 ?_
    refine lv_iconst (v := 3) hx hb dX9_handsBy_10 (by decide +kernel) ?_
    refine lv_icmp_ne (tgt := 16) hx hb dX9_handsBy_11 (by decide) (fun c_2 => ?_) (fun c_2 => ?_)
    · skip
      refine lv_iload_n hx hb dX9_handsBy_16 rfl (lv_at hl 1 rfl) ?_
      refine lv_iconst (v := 2) hx hb dX9_handsBy_17 (by decide +kernel) ?_
      refine lv_icmp_ne (tgt := 23) hx hb dX9_handsBy_18 (by decide) (fun c_3 => ?_) (fun c_3 => ?_)
      · skip
        refine lv_aload_n hx hb dX9_handsBy_23 rfl (lv_at hl 0 rfl) ?_
        refine k_get hx hb hts hi9 hown hK hP 0 rfl rfl 8 (by decide) hf74 (.int (M 8)) rfl dX9_handsBy_24 ?_
        refine lv_iconst (v := 2) hx hb dX9_handsBy_27 (by decide +kernel) ?_
        refine lv_icmp_ne (tgt := 33) hx hb dX9_handsBy_28 (by decide) (fun c_4 => ?_) (fun c_4 => ?_)
        · skip
          refine lv_aload_n hx hb dX9_handsBy_33 rfl (lv_at hl 0 rfl) ?_
          refine k_get hx hb hts hi9 hown hK hP 0 rfl rfl 8 (by decide) hf74 (.int (M 8)) rfl dX9_handsBy_34 ?_
          refine lv_iconst (v := 1) hx hb dX9_handsBy_37 (by decide +kernel) ?_
          have J_6 : ∀ z_5 : Int32, z_5 = (if (M 8) = 1 then (if ((M 9) + 1) ≤ (M 1) then 1 else 3) else 1) → ∀ (H : Heap) (locs : List Loc), va_P D vwCl [(h, oX9 r M L)] H → va_D A [(h, oX9 r M L)] → va_S A s.heap H locs → ∀ ls : Array Slot, lv_has ls 2 [] → W p l e (RM 0) s m ([.ref h, .int many] : List Value).toArray below meth c H locs 0 0 Q (F0 m 59 ls [.int z_5]) := by
            intro z_5 ez_5 H locs hP hD hS ls hl
            have hsp : sp_X9_handsBy M L many = z_5 := sq_X9_handsBy_1 M L many z_5 ez_5 c_1 c_2 c_3 c_4
            exact hret _ _ _ _ _ (by rw [hsp]) rfl hP hS dX9_handsBy_59
          refine lv_icmp_ne (tgt := 58) hx hb dX9_handsBy_38 (by decide) (fun c_7 => ?_) (fun c_7 => ?_)
          · skip
            refine lv_iconst (v := 1) hx hb dX9_handsBy_58 (by decide +kernel) ?_
            exact J_6 1 (by first | (simp only [if_neg c_7]; done) | rfl) _ _ hP hD hS _ (lv_sub hl [] rfl)
          · skip
            refine lv_aload_n hx hb dX9_handsBy_41 rfl (lv_at hl 0 rfl) ?_
            refine k_get hx hb hts hi9 hown hK hP 0 rfl rfl 9 (by decide) hf77 (.int (M 9)) rfl dX9_handsBy_42 ?_
            refine lv_iconst (v := 1) hx hb dX9_handsBy_45 (by decide +kernel) ?_
            refine lv_iadd hx hb dX9_handsBy_46 ?_
            refine lv_aload_n hx hb dX9_handsBy_47 rfl (lv_at hl 0 rfl) ?_
            refine k_get hx hb hts hi9 hown hK hP 0 rfl rfl 1 (by decide) hf13 (.int (M 1)) rfl dX9_handsBy_48 ?_
            refine lv_icmp_le (tgt := 58) hx hb dX9_handsBy_51 (by decide) (fun c_8 => ?_) (fun c_8 => ?_)
            · skip
              refine lv_iconst (v := 1) hx hb dX9_handsBy_58 (by decide +kernel) ?_
              exact J_6 1 (by first | (simp only [if_pos c_7, if_pos c_8]; done) | rfl) _ _ hP hD hS _ (lv_sub hl [] rfl)
            · skip
              refine lv_iconst (v := 3) hx hb dX9_handsBy_54 (by decide +kernel) ?_
              refine lv_goto (tgt := 59) hx hb dX9_handsBy_55 (by decide) ?_
              exact J_6 3 (by first | (simp only [if_pos c_7, if_neg c_8]; done) | rfl) _ _ hP hD hS _ (lv_sub hl [] rfl)
        · skip
          refine lv_iconst (v := 3) hx hb dX9_handsBy_31 (by decide +kernel) ?_
          have hsp : sp_X9_handsBy M L many = 3 := by simp only [sp_X9_handsBy, if_neg c_1, if_neg c_2, if_neg c_3, if_pos c_4]
          exact hret _ _ _ _ _ (by rw [hsp]) rfl hP hS dX9_handsBy_32
      · skip
        refine lv_iconst (v := 2) hx hb dX9_handsBy_21 (by decide +kernel) ?_
        have hsp : sp_X9_handsBy M L many = 2 := by simp only [sp_X9_handsBy, if_neg c_1, if_neg c_2, if_pos c_3]
        exact hret _ _ _ _ _ (by rw [hsp]) rfl hP hS dX9_handsBy_22
    · skip
      refine lv_iconst (v := 3) hx hb dX9_handsBy_14 (by decide +kernel) ?_
      have hsp : sp_X9_handsBy M L many = 3 := by simp only [sp_X9_handsBy, if_neg c_1, if_pos c_2]
      exact hret _ _ _ _ _ (by rw [hsp]) rfl hP hS dX9_handsBy_15
  · skip
    refine lv_iconst (v := 0) hx hb dX9_handsBy_4 (by decide +kernel) ?_
    have hsp : sp_X9_handsBy M L many = 0 := by simp only [sp_X9_handsBy, if_pos c_1]
    exact hret _ _ _ _ _ (by rw [hsp]) rfl hP hS dX9_handsBy_5

def sp_X9_valveAt (M : Nat → Int32) (L : Int64) (a6 : Nat → Int32) (k : Int32) : Int32 :=
  let z_1 : Int32 := (if (a6 k.toNatClampNeg) = 2 then (M 14) else (a6 k.toNatClampNeg))
  z_1
set_option maxRecDepth 100000 in
theorem sq_X9_valveAt_1 (M : Nat → Int32) (L : Int64) (a6 : Nat → Int32) (k : Int32) (z_1 : Int32) (ez_1 : z_1 = (if (a6 k.toNatClampNeg) = 2 then (M 14) else (a6 k.toNatClampNeg))) : sp_X9_valveAt M L a6 k = z_1 := by subst ez_1; rfl
set_option maxHeartbeats 4000000 in
set_option maxRecDepth 100000 in
theorem c_X9_valveAt (l : Launch) (D : va_G) (cI cJ cO : ClassId) (h : Nat) (r : Nat → Nat) (M : Nat → Int32) (L : Int64) (a6 : Nat → Int32) (k : Int32) (hk : vp_in k 2) : MI l D (TY cI cJ cO) yX9_valveAt wsX9_valveAt (RM 0) [.ref h, .int k] [(h, oX9 r M L), ((r 6), .inl (cI, 2, .inl a6))] (sp_X9_valveAt M L a6 k) [(h, oX9 r M L), ((r 6), .inl (cI, 2, .inl a6))] := by
  refine k_entI (cc := cX9_valveAt) (maxL := 2) (lv := [(0, .ref h), (1, .int k)]) (by decide +kernel) rfl (Nat.le_of_ble_eq_true rfl) rfl ?_
  intro p e s m below meth c A Q ls hx hb hml hts hown hA hS hP hD hK hN hl hret
  have hown : s.vm.findClass RX9 = some m.cls := hown
  have hi9 : ∀ w ∈ wsX90, w ∈ wsX9_valveAt := fun w h => List.mem_cons_of_mem _ (List.mem_append_right _ h)
  have hf29 := hts (.fieldLink RX9 29 "PressGuardModel" "valves" "[I") (by decide +kernel)
  have hf80 := hts (.fieldLink RX9 80 "PressGuardModel" "command" "I") (by decide +kernel)
  refine lv_aload_n hx hb dX9_valveAt_0 rfl (lv_at hl 0 rfl) ?_
  refine k_get hx hb hts hi9 hown hK hP 0 rfl rfl 6 (by decide) hf29 (.ref (r 6)) rfl dX9_valveAt_1 ?_
  refine lv_iload_n hx hb dX9_valveAt_4 rfl (lv_at hl 1 rfl) ?_
  refine k_iald hx hb hK hP 1 0 rfl rfl k.toNatClampNeg (rfl) (hk) dX9_valveAt_5 ?_
  refine lv_iconst (v := 2) hx hb dX9_valveAt_6 (by decide +kernel) ?_
  have J_2 : ∀ z_1 : Int32, z_1 = (if (a6 k.toNatClampNeg) = 2 then (M 14) else (a6 k.toNatClampNeg)) → ∀ (H : Heap) (locs : List Loc), va_P D vwCl [(h, oX9 r M L), ((r 6), .inl (cI, 2, .inl a6))] H → va_D A [(h, oX9 r M L), ((r 6), .inl (cI, 2, .inl a6))] → va_S A s.heap H locs → ∀ ls : Array Slot, lv_has ls 2 [] → W p l e (RM 0) s m ([.ref h, .int k] : List Value).toArray below meth c H locs 0 0 Q (F0 m 23 ls [.int z_1]) := by
    intro z_1 ez_1 H locs hP hD hS ls hl
    have hsp : sp_X9_valveAt M L a6 k = z_1 := sq_X9_valveAt_1 M L a6 k z_1 ez_1
    exact hret _ _ _ _ _ (by rw [hsp]) rfl hP hS dX9_valveAt_23
  refine lv_icmp_ne (tgt := 17) hx hb dX9_valveAt_7 (by decide) (fun c_3 => ?_) (fun c_3 => ?_)
  · skip
    refine lv_aload_n hx hb dX9_valveAt_17 rfl (lv_at hl 0 rfl) ?_
    refine k_get hx hb hts hi9 hown hK hP 0 rfl rfl 6 (by decide) hf29 (.ref (r 6)) rfl dX9_valveAt_18 ?_
    refine lv_iload_n hx hb dX9_valveAt_21 rfl (lv_at hl 1 rfl) ?_
    refine k_iald hx hb hK hP 1 0 rfl rfl k.toNatClampNeg (rfl) (hk) dX9_valveAt_22 ?_
    exact J_2 (a6 k.toNatClampNeg) (by first | (simp only [if_neg c_3]; done) | rfl) _ _ hP hD hS _ (lv_sub hl [] rfl)
  · skip
    refine lv_aload_n hx hb dX9_valveAt_10 rfl (lv_at hl 0 rfl) ?_
    refine k_get hx hb hts hi9 hown hK hP 0 rfl rfl 14 (by decide) hf80 (.int (M 14)) rfl dX9_valveAt_11 ?_
    refine lv_goto (tgt := 23) hx hb dX9_valveAt_14 (by decide) ?_
    exact J_2 (M 14) (by first | (simp only [if_pos c_3]; done) | rfl) _ _ hP hD hS _ (lv_sub hl [] rfl)

def sp_X9_leastCause (M : Nat → Int32) (L : Int64) (a12 : Nat → Int32) (ahead : Int32) : Int32 :=
  (if (a12 0) ≤ (M 0) then
    (if (a12 1) ≤ (M 0) then
      (if (a12 2) ≤ (M 0) then
        (if (M 13) ≤ 1 then
          let z_5 : Int32 := (if (M 10) = 4 then (if ahead = 2 then 5 else (-9)) else (-9))
          z_5
        else
          4)
      else
        3)
    else
      2)
  else
    1)
set_option maxRecDepth 100000 in
theorem sq_X9_leastCause_1 (M : Nat → Int32) (L : Int64) (a12 : Nat → Int32) (ahead : Int32) (z_5 : Int32) (ez_5 : z_5 = (if (M 10) = 4 then (if ahead = 2 then 5 else (-9)) else (-9))) (c_1 : (a12 0) ≤ (M 0)) (c_2 : (a12 1) ≤ (M 0)) (c_3 : (a12 2) ≤ (M 0)) (c_4 : (M 13) ≤ 1) : sp_X9_leastCause M L a12 ahead = z_5 := by subst ez_5; simp only [sp_X9_leastCause, if_pos c_1, if_pos c_2, if_pos c_3, if_pos c_4]
set_option maxHeartbeats 4000000 in
set_option maxRecDepth 100000 in
theorem c_X9_leastCause (l : Launch) (D : va_G) (cI cJ cO : ClassId) (h : Nat) (r : Nat → Nat) (M : Nat → Int32) (L : Int64) (a12 : Nat → Int32) (ahead : Int32)  : MI l D (TY cI cJ cO) yX9_leastCause wsX9_leastCause (RM 0) [.ref h, .int ahead] [(h, oX9 r M L), ((r 12), .inl (cI, 3, .inl a12))] (sp_X9_leastCause M L a12 ahead) [(h, oX9 r M L), ((r 12), .inl (cI, 3, .inl a12))] := by
  refine k_entI (cc := cX9_leastCause) (maxL := 3) (lv := [(0, .ref h), (1, .int ahead)]) (by decide +kernel) rfl (Nat.le_of_ble_eq_true rfl) rfl ?_
  intro p e s m below meth c A Q ls hx hb hml hts hown hA hS hP hD hK hN hl hret
  have hown : s.vm.findClass RX9 = some m.cls := hown
  have hi9 : ∀ w ∈ wsX90, w ∈ wsX9_leastCause := fun w h => List.mem_cons_of_mem _ (List.mem_append_right _ h)
  have hf7 := hts (.fieldLink RX9 7 "PressGuardModel" "patience" "I") (by decide +kernel)
  have hf35 := hts (.fieldLink RX9 35 "PressGuardModel" "apart" "[I") (by decide +kernel)
  have hf83 := hts (.fieldLink RX9 83 "PressGuardModel" "unlike" "I") (by decide +kernel)
  have hf86 := hts (.fieldLink RX9 86 "PressGuardModel" "muting" "I") (by decide +kernel)
  refine lv_iconst (v := 0) hx hb dX9_leastCause_0 (by decide +kernel) ?_
  refine lv_istore_n (lv' := [(2, .int 0), (0, .ref h), (1, .int ahead)]) hx hb dX9_leastCause_1 rfl hl (by decide) rfl (fun ls hl => ?_)
  refine lv_iload_n hx hb dX9_leastCause_2 rfl (lv_at hl 0 rfl) ?_
  refine lv_iconst (v := 3) hx hb dX9_leastCause_3 (by decide +kernel) ?_
  refine lv_icmp_ge (tgt := 30) hx hb dX9_leastCause_4 (by decide) (fun q => absurd q (by decide +kernel)) (fun _ => ?_)
  refine lv_aload_n hx hb dX9_leastCause_7 rfl (lv_at hl 1 rfl) ?_
  refine k_get hx hb hts hi9 hown hK hP 0 rfl rfl 12 (by decide) hf35 (.ref (r 12)) rfl dX9_leastCause_8 ?_
  refine lv_iload_n hx hb dX9_leastCause_11 rfl (lv_at hl 0 rfl) ?_
  refine k_iald hx hb hK hP 1 0 rfl rfl 0 (by decide +kernel) (vp_in_iff.mpr (by decide +kernel)) dX9_leastCause_12 ?_
  refine lv_aload_n hx hb dX9_leastCause_13 rfl (lv_at hl 1 rfl) ?_
  refine k_get hx hb hts hi9 hown hK hP 0 rfl rfl 0 (by decide) hf7 (.int (M 0)) rfl dX9_leastCause_14 ?_
  refine lv_icmp_le (tgt := 24) hx hb dX9_leastCause_17 (by decide) (fun c_1 => ?_) (fun c_1 => ?_)
  · skip
    refine lv_iinc (v := 1) (lv' := [(2, .int 1), (0, .ref h), (1, .int ahead)]) hx hb dX9_leastCause_24 hl (k := 0) rfl (by decide +kernel) (by decide) rfl (fun ls hl => ?_)
    refine lv_goto (tgt := 2) hx hb dX9_leastCause_27 (by decide) ?_
    refine lv_iload_n hx hb dX9_leastCause_2 rfl (lv_at hl 0 rfl) ?_
    refine lv_iconst (v := 3) hx hb dX9_leastCause_3 (by decide +kernel) ?_
    refine lv_icmp_ge (tgt := 30) hx hb dX9_leastCause_4 (by decide) (fun q => absurd q (by decide +kernel)) (fun _ => ?_)
    refine lv_aload_n hx hb dX9_leastCause_7 rfl (lv_at hl 1 rfl) ?_
    refine k_get hx hb hts hi9 hown hK hP 0 rfl rfl 12 (by decide) hf35 (.ref (r 12)) rfl dX9_leastCause_8 ?_
    refine lv_iload_n hx hb dX9_leastCause_11 rfl (lv_at hl 0 rfl) ?_
    refine k_iald hx hb hK hP 1 0 rfl rfl 1 (by decide +kernel) (vp_in_iff.mpr (by decide +kernel)) dX9_leastCause_12 ?_
    refine lv_aload_n hx hb dX9_leastCause_13 rfl (lv_at hl 1 rfl) ?_
    refine k_get hx hb hts hi9 hown hK hP 0 rfl rfl 0 (by decide) hf7 (.int (M 0)) rfl dX9_leastCause_14 ?_
    refine lv_icmp_le (tgt := 24) hx hb dX9_leastCause_17 (by decide) (fun c_2 => ?_) (fun c_2 => ?_)
    · skip
      refine lv_iinc (v := 2) (lv' := [(2, .int 2), (0, .ref h), (1, .int ahead)]) hx hb dX9_leastCause_24 hl (k := 0) rfl (by decide +kernel) (by decide) rfl (fun ls hl => ?_)
      refine lv_goto (tgt := 2) hx hb dX9_leastCause_27 (by decide) ?_
      refine lv_iload_n hx hb dX9_leastCause_2 rfl (lv_at hl 0 rfl) ?_
      refine lv_iconst (v := 3) hx hb dX9_leastCause_3 (by decide +kernel) ?_
      refine lv_icmp_ge (tgt := 30) hx hb dX9_leastCause_4 (by decide) (fun q => absurd q (by decide +kernel)) (fun _ => ?_)
      refine lv_aload_n hx hb dX9_leastCause_7 rfl (lv_at hl 1 rfl) ?_
      refine k_get hx hb hts hi9 hown hK hP 0 rfl rfl 12 (by decide) hf35 (.ref (r 12)) rfl dX9_leastCause_8 ?_
      refine lv_iload_n hx hb dX9_leastCause_11 rfl (lv_at hl 0 rfl) ?_
      refine k_iald hx hb hK hP 1 0 rfl rfl 2 (by decide +kernel) (vp_in_iff.mpr (by decide +kernel)) dX9_leastCause_12 ?_
      refine lv_aload_n hx hb dX9_leastCause_13 rfl (lv_at hl 1 rfl) ?_
      refine k_get hx hb hts hi9 hown hK hP 0 rfl rfl 0 (by decide) hf7 (.int (M 0)) rfl dX9_leastCause_14 ?_
      refine lv_icmp_le (tgt := 24) hx hb dX9_leastCause_17 (by decide) (fun c_3 => ?_) (fun c_3 => ?_)
      · skip
        refine lv_iinc (v := 3) (lv' := [(2, .int 3), (0, .ref h), (1, .int ahead)]) hx hb dX9_leastCause_24 hl (k := 0) rfl (by decide +kernel) (by decide) rfl (fun ls hl => ?_)
        refine lv_goto (tgt := 2) hx hb dX9_leastCause_27 (by decide) ?_
        refine lv_iload_n hx hb dX9_leastCause_2 rfl (lv_at hl 0 rfl) ?_
        refine lv_iconst (v := 3) hx hb dX9_leastCause_3 (by decide +kernel) ?_
        refine lv_icmp_ge (tgt := 30) hx hb dX9_leastCause_4 (by decide) (fun _ => ?_) (fun q => absurd q (by decide +kernel))
        refine lv_aload_n hx hb dX9_leastCause_30 rfl (lv_at hl 1 rfl) ?_
        refine k_get hx hb hts hi9 hown hK hP 0 rfl rfl 13 (by decide) hf83 (.int (M 13)) rfl dX9_leastCause_31 ?_
        refine lv_iconst (v := 1) hx hb dX9_leastCause_34 (by decide +kernel) ?_
        refine lv_icmp_le (tgt := 40) hx hb dX9_leastCause_35 (by decide) (fun c_4 => ?_) (fun c_4 => ?_)
        · skip
          refine lv_aload_n hx hb dX9_leastCause_40 rfl (lv_at hl 1 rfl) ?_
          refine k_get hx hb hts hi9 hown hK hP 0 rfl rfl 10 (by decide) hf86 (.int (M 10)) rfl dX9_leastCause_41 ?_
          refine lv_iconst (v := 4) hx hb dX9_leastCause_44 (by decide +kernel) ?_
          have J_6 : ∀ z_5 : Int32, z_5 = (if (M 10) = 4 then (if ahead = 2 then 5 else (-9)) else (-9)) → ∀ (H : Heap) (locs : List Loc), va_P D vwCl [(h, oX9 r M L), ((r 12), .inl (cI, 3, .inl a12))] H → va_D A [(h, oX9 r M L), ((r 12), .inl (cI, 3, .inl a12))] → va_S A s.heap H locs → ∀ ls : Array Slot, lv_has ls 3 [] → W p l e (RM 0) s m ([.ref h, .int ahead] : List Value).toArray below meth c H locs 0 0 Q (F0 m 59 ls [.int z_5]) := by
            intro z_5 ez_5 H locs hP hD hS ls hl
            have hsp : sp_X9_leastCause M L a12 ahead = z_5 := sq_X9_leastCause_1 M L a12 ahead z_5 ez_5 c_1 c_2 c_3 c_4
            exact hret _ _ _ _ _ (by rw [hsp]) rfl hP hS dX9_leastCause_59
          refine lv_icmp_ne (tgt := 57) hx hb dX9_leastCause_45 (by decide) (fun c_7 => ?_) (fun c_7 => ?_)
          · skip
            refine lv_bipush (v := (-9)) hx hb dX9_leastCause_57 (by decide +kernel) ?_
            exact J_6 (-9) (by first | (simp only [if_neg c_7]; done) | rfl) _ _ hP hD hS _ (lv_sub hl [] rfl)
          · skip
            refine lv_iload_n hx hb dX9_leastCause_48 rfl (lv_at hl 2 rfl) ?_
            refine lv_iconst (v := 2) hx hb dX9_leastCause_49 (by decide +kernel) ?_
            refine lv_icmp_ne (tgt := 57) hx hb dX9_leastCause_50 (by decide) (fun c_8 => ?_) (fun c_8 => ?_)
            · skip
              refine lv_bipush (v := (-9)) hx hb dX9_leastCause_57 (by decide +kernel) ?_
              exact J_6 (-9) (by first | (simp only [if_pos c_7, if_neg c_8]; done) | rfl) _ _ hP hD hS _ (lv_sub hl [] rfl)
            · skip
              refine lv_iconst (v := 5) hx hb dX9_leastCause_53 (by decide +kernel) ?_
              refine lv_goto (tgt := 59) hx hb dX9_leastCause_54 (by decide) ?_
              exact J_6 5 (by first | (simp only [if_pos c_7, if_pos c_8]; done) | rfl) _ _ hP hD hS _ (lv_sub hl [] rfl)
        · skip
          refine lv_iconst (v := 4) hx hb dX9_leastCause_38 (by decide +kernel) ?_
          have hsp : sp_X9_leastCause M L a12 ahead = 4 := by simp only [sp_X9_leastCause, if_pos c_1, if_pos c_2, if_pos c_3, if_neg c_4]
          exact hret _ _ _ _ _ (by rw [hsp]) rfl hP hS dX9_leastCause_39
      · skip
        refine lv_iload_n hx hb dX9_leastCause_20 rfl (lv_at hl 0 rfl) ?_
        refine lv_iconst (v := 1) hx hb dX9_leastCause_21 (by decide +kernel) ?_
        refine lv_iadd hx hb dX9_leastCause_22 ?_
        refine lv_topi (fun z_9 ez_9 => ?_)
        obtain rfl : z_9 = 3 := ez_9.trans (by decide +kernel)
        have hsp : sp_X9_leastCause M L a12 ahead = 3 := by simp only [sp_X9_leastCause, if_pos c_1, if_pos c_2, if_neg c_3]
        exact hret _ _ _ _ _ (by rw [hsp]) rfl hP hS dX9_leastCause_23
    · skip
      refine lv_iload_n hx hb dX9_leastCause_20 rfl (lv_at hl 0 rfl) ?_
      refine lv_iconst (v := 1) hx hb dX9_leastCause_21 (by decide +kernel) ?_
      refine lv_iadd hx hb dX9_leastCause_22 ?_
      refine lv_topi (fun z_10 ez_10 => ?_)
      obtain rfl : z_10 = 2 := ez_10.trans (by decide +kernel)
      have hsp : sp_X9_leastCause M L a12 ahead = 2 := by simp only [sp_X9_leastCause, if_pos c_1, if_neg c_2]
      exact hret _ _ _ _ _ (by rw [hsp]) rfl hP hS dX9_leastCause_23
  · skip
    refine lv_iload_n hx hb dX9_leastCause_20 rfl (lv_at hl 0 rfl) ?_
    refine lv_iconst (v := 1) hx hb dX9_leastCause_21 (by decide +kernel) ?_
    refine lv_iadd hx hb dX9_leastCause_22 ?_
    refine lv_topi (fun z_11 ez_11 => ?_)
    obtain rfl : z_11 = 1 := ez_11.trans (by decide +kernel)
    have hsp : sp_X9_leastCause M L a12 ahead = 1 := by simp only [sp_X9_leastCause, if_neg c_1]
    exact hret _ _ _ _ _ (by rw [hsp]) rfl hP hS dX9_leastCause_23

def sp_X9_goesOn (M : Nat → Int32) (L : Int64) (a12 : Nat → Int32) (isTaken : Int32) (isBarred : Int32) (isLetGo : Int32) : (Nat → Int32) :=
  (if (sp_X9_leastCause M L a12 (M 7)) = (-9) then
    (if (M 7) = 0 then
      let z_3 : Nat → Int32 := (if isLetGo = 0 then (upd M 19 (-9)) else (if (M 8) = 0 then (if isBarred = 0 then (let z_5 : Int32 := (if (M 15) = 0 then 1 else 3); (upd (upd (upd M 7 z_5) 18 (-9)) 19 (-9))) else (upd M 19 (-9))) else (upd M 19 (-9))))
      z_3
    else
      (if (M 7) = 1 then
        let z_12 : Int32 := (if isTaken = 0 then 1 else (if isBarred = 0 then 2 else 1))
        (upd (upd M 7 z_12) 19 (-9))
      else
        (if (M 7) = 2 then
          let z_17 : Int32 := (if isBarred = 0 then (if (M 8) = 2 then 2 else 3) else 3)
          (upd (upd M 7 z_17) 19 (-9))
        else
          (if (M 7) = 3 then
            let z_22 : Nat → Int32 := (if isTaken = 0 then (upd M 19 (-9)) else (if isBarred = 0 then (let z_23 : Int32 := (if (M 4) ≤ (M 15) then 4 else 2); (upd (upd M 7 z_23) 19 (-9))) else (upd M 19 (-9))))
            z_22
          else
            (upd M 19 (-9))))))
  else
    (if (M 7) = 0 then
      (upd M 19 (-9))
    else
      let z_32 : Int32 := (sp_X9_leastCause M L a12 (M 7))
      let z_33 : Int32 := (sp_X9_leastCause M L a12 (M 7))
      (upd (upd (upd (upd M 7 0) 18 z_32) 19 z_33) 20 (M 15))))
set_option maxRecDepth 100000 in
theorem sq_X9_goesOn_1 (M : Nat → Int32) (L : Int64) (a12 : Nat → Int32) (isTaken : Int32) (isBarred : Int32) (isLetGo : Int32) (z_3 : Nat → Int32) (ez_3 : z_3 = (if isLetGo = 0 then (upd M 19 (-9)) else (if (M 8) = 0 then (if isBarred = 0 then (let z_5 : Int32 := (if (M 15) = 0 then 1 else 3); (upd (upd (upd M 7 z_5) 18 (-9)) 19 (-9))) else (upd M 19 (-9))) else (upd M 19 (-9))))) (c_1 : (sp_X9_leastCause M L a12 (M 7)) = (-9)) (c_2 : (M 7) = 0) : sp_X9_goesOn M L a12 isTaken isBarred isLetGo = z_3 := by subst ez_3; simp only [sp_X9_goesOn, if_pos c_1, if_pos c_2]
set_option maxRecDepth 100000 in
theorem sq_X9_goesOn_2 (M : Nat → Int32) (L : Int64) (a12 : Nat → Int32) (isTaken : Int32) (isBarred : Int32) (isLetGo : Int32) (z_12 : Int32) (ez_12 : z_12 = (if isTaken = 0 then 1 else (if isBarred = 0 then 2 else 1))) (c_1 : (sp_X9_leastCause M L a12 (M 7)) = (-9)) (c_2 : ¬ ((M 7) = 0)) (c_11 : (M 7) = 1) : sp_X9_goesOn M L a12 isTaken isBarred isLetGo = (upd (upd M 7 z_12) 19 (-9)) := by subst ez_12; simp only [sp_X9_goesOn, if_pos c_1, if_neg c_2, if_pos c_11]
set_option maxRecDepth 100000 in
theorem sq_X9_goesOn_3 (M : Nat → Int32) (L : Int64) (a12 : Nat → Int32) (isTaken : Int32) (isBarred : Int32) (isLetGo : Int32) (z_17 : Int32) (ez_17 : z_17 = (if isBarred = 0 then (if (M 8) = 2 then 2 else 3) else 3)) (c_1 : (sp_X9_leastCause M L a12 (M 7)) = (-9)) (c_2 : ¬ ((M 7) = 0)) (c_11 : ¬ ((M 7) = 1)) (c_16 : (M 7) = 2) : sp_X9_goesOn M L a12 isTaken isBarred isLetGo = (upd (upd M 7 z_17) 19 (-9)) := by subst ez_17; simp only [sp_X9_goesOn, if_pos c_1, if_neg c_2, if_neg c_11, if_pos c_16]
set_option maxRecDepth 100000 in
theorem sq_X9_goesOn_4 (M : Nat → Int32) (L : Int64) (a12 : Nat → Int32) (isTaken : Int32) (isBarred : Int32) (isLetGo : Int32) (z_22 : Nat → Int32) (ez_22 : z_22 = (if isTaken = 0 then (upd M 19 (-9)) else (if isBarred = 0 then (let z_23 : Int32 := (if (M 4) ≤ (M 15) then 4 else 2); (upd (upd M 7 z_23) 19 (-9))) else (upd M 19 (-9))))) (c_1 : (sp_X9_leastCause M L a12 (M 7)) = (-9)) (c_2 : ¬ ((M 7) = 0)) (c_11 : ¬ ((M 7) = 1)) (c_16 : ¬ ((M 7) = 2)) (c_21 : (M 7) = 3) : sp_X9_goesOn M L a12 isTaken isBarred isLetGo = z_22 := by subst ez_22; simp only [sp_X9_goesOn, if_pos c_1, if_neg c_2, if_neg c_11, if_neg c_16, if_pos c_21]
set_option maxRecDepth 100000 in
theorem sq_X9_goesOn_5 (M : Nat → Int32) (L : Int64) (a12 : Nat → Int32) (isTaken : Int32) (isBarred : Int32) (isLetGo : Int32) (z_32 : Int32) (z_33 : Int32) (ez_32 : z_32 = (sp_X9_leastCause M L a12 (M 7))) (ez_33 : z_33 = (sp_X9_leastCause M L a12 (M 7))) (c_1 : ¬ ((sp_X9_leastCause M L a12 (M 7)) = (-9))) (c_29 : ¬ ((M 7) = 0)) : sp_X9_goesOn M L a12 isTaken isBarred isLetGo = (upd (upd (upd (upd M 7 0) 18 z_32) 19 z_33) 20 (M 15)) := by subst ez_33; subst ez_32; simp only [sp_X9_goesOn, if_neg c_1, if_neg c_29]
set_option maxHeartbeats 4000000 in
set_option maxRecDepth 100000 in
theorem c_X9_goesOn (l : Launch) (D : va_G) (cI cJ cO : ClassId) (h : Nat) (r : Nat → Nat) (M : Nat → Int32) (L : Int64) (a12 : Nat → Int32) (isTaken : Int32) (isBarred : Int32) (isLetGo : Int32)  : MV l D (TY cI cJ cO) yX9_goesOn wsX9_goesOn (RM 1) [.ref h, .int isTaken, .int isBarred, .int isLetGo] [(h, oX9 r M L), ((r 12), .inl (cI, 3, .inl a12))] [(h, oX9 r (sp_X9_goesOn M L a12 isTaken isBarred isLetGo) L), ((r 12), .inl (cI, 3, .inl a12))] := by
  refine k_entV (cc := cX9_goesOn) (maxL := 5) (lv := [(0, .ref h), (1, .int isTaken), (2, .int isBarred), (3, .int isLetGo)]) (by decide +kernel) rfl (Nat.le_of_ble_eq_true rfl) rfl ?_
  intro p e s m below meth c A Q ls hx hb hml hts hown hA hS hP hD hK hN hl hret
  have hown : s.vm.findClass RX9 = some m.cls := hown
  have hi9 : ∀ w ∈ wsX90, w ∈ wsX9_goesOn := fun w h => List.mem_cons_of_mem _ (List.mem_append_right _ h)
  have hf22 := hts (.fieldLink RX9 22 "PressGuardModel" "bottom" "I") (by decide +kernel)
  have hf32 := hts (.fieldLink RX9 32 "PressGuardModel" "mode" "I") (by decide +kernel)
  have hf38 := hts (.fieldLink RX9 38 "PressGuardModel" "lockedBy" "I") (by decide +kernel)
  have hf74 := hts (.fieldLink RX9 74 "PressGuardModel" "hands" "I") (by decide +kernel)
  have hf127 := hts (.fieldLink RX9 127 "PressGuardModel" "newCause" "I") (by decide +kernel)
  have hf130 := hts (.fieldLink RX9 130 "PressGuardModel" "position" "I") (by decide +kernel)
  have hf133 := hts (.fieldLink RX9 133 "PressGuardModel" "newPlace" "I") (by decide +kernel)
  refine lv_aload_n hx hb dX9_goesOn_0 rfl (lv_at hl 0 rfl) ?_
  refine lv_aload_n hx hb dX9_goesOn_1 rfl (lv_at hl 0 rfl) ?_
  refine k_get hx hb hts hi9 hown hK hP 0 rfl rfl 7 (by decide) hf32 (.int (M 7)) rfl dX9_goesOn_2 ?_
  refine k_Vi ⟨hx, hb, hml, hown, hts⟩ (c_X9_leastCause l D cI cJ cO h r M L a12 (M 7)) (ci := 9) (q0 := 0) rfl rfl (cwV 1 hts gX9_goesOn_X9_leastCause rfl rfl rfl (by decide +kernel) ⟨Nat.le_of_ble_eq_true rfl, Nat.le_of_ble_eq_true rfl⟩) hK hN hP hD hS hA [0, 1] rfl rfl rfl (ws' := [(h, oX9 r M L), ((r 12), .inl (cI, 3, .inl a12))]) rfl rfl hl.1 rfl (Nat.le_of_ble_eq_true rfl) dX9_goesOn_5 ⟨Nat.le_refl _, Nat.le_refl _⟩ (fun H locs hP hD hS => ?_)
  refine lv_istore (lv' := [(4, .int (sp_X9_leastCause M L a12 (M 7))), (0, .ref h), (1, .int isTaken), (2, .int isBarred), (3, .int isLetGo)]) hx hb dX9_goesOn_8 hl (by decide) rfl (fun ls hl => ?_)
  refine lv_aload_n hx hb dX9_goesOn_10 rfl (lv_at hl 1 rfl) ?_
  refine lv_bipush (v := (-9)) hx hb dX9_goesOn_11 (by decide +kernel) ?_
  refine k_put hx hb hts hi9 tyX9_ok nmX9 hown hK hP hD hS 0 rfl rfl 19 (by decide) hf127 rfl (.int (-9)) rfl rfl (Nat.le_of_ble_eq_true rfl) (ws' := [(h, oX9 r (upd M 19 (-9)) L), ((r 12), .inl (cI, 3, .inl a12))]) rfl dX9_goesOn_13 (fun H locs hP hD hS => ?_)
  refine lv_iload hx hb dX9_goesOn_16 (lv_at hl 0 rfl) ?_
  refine lv_bipush (v := (-9)) hx hb dX9_goesOn_18 (by decide +kernel) ?_
  refine lv_icmp_eq (tgt := 56) hx hb dX9_goesOn_20 (by decide) (fun c_1 => ?_) (fun c_1 => ?_)
  · skip
    refine lv_aload_n hx hb dX9_goesOn_56 rfl (lv_at hl 1 rfl) ?_
    refine k_get hx hb hts hi9 hown hK hP 0 rfl rfl 7 (by decide) hf32 (.int (M 7)) rfl dX9_goesOn_57 ?_
    by_cases c_2 : (M 7) = 0
    · refine lv_tableIn (off := 32) (tgt := 92) hx hb dX9_goesOn_60 (by rw [c_2]; decide) (by rw [c_2]; decide) (by rw [c_2]; rfl) (by decide) ?_
      refine lv_iload_n hx hb dX9_goesOn_92 rfl (lv_at hl 4 rfl) ?_
      have J_4 : ∀ z_3 : Nat → Int32, z_3 = (if isLetGo = 0 then (upd M 19 (-9)) else (if (M 8) = 0 then (if isBarred = 0 then (let z_5 : Int32 := (if (M 15) = 0 then 1 else 3); (upd (upd (upd M 7 z_5) 18 (-9)) 19 (-9))) else (upd M 19 (-9))) else (upd M 19 (-9)))) → ∀ (H : Heap) (locs : List Loc), va_P D vwCl [(h, oX9 r z_3 L), ((r 12), .inl (cI, 3, .inl a12))] H → va_D A [(h, oX9 r z_3 L), ((r 12), .inl (cI, 3, .inl a12))] → va_S A s.heap H locs → ∀ ls : Array Slot, lv_has ls 5 [] → W p l e (RM 1) s m ([.ref h, .int isTaken, .int isBarred, .int isLetGo] : List Value).toArray below meth c H locs 0 0 Q (F0 m 214 ls []) := by
        intro z_3 ez_3 H locs hP hD hS ls hl
        have hsp : sp_X9_goesOn M L a12 isTaken isBarred isLetGo = z_3 := sq_X9_goesOn_1 M L a12 isTaken isBarred isLetGo z_3 ez_3 c_1 c_2
        exact hret _ _ _ _ (by rw [hsp]; exact hP) hS dX9_goesOn_214
      refine lv_if_eq (tgt := 214) hx hb dX9_goesOn_93 (by decide) (fun c_5 => ?_) (fun c_5 => ?_)
      · skip
        exact J_4 (upd M 19 (-9)) (by first | (simp only [if_pos c_5]; done) | rfl) _ _ hP hD hS _ (lv_sub hl [] rfl)
      · skip
        refine lv_iload hx hb dX9_goesOn_96 (lv_at hl 0 rfl) ?_
        refine lv_bipush (v := (-9)) hx hb dX9_goesOn_98 (by decide +kernel) ?_
        refine lv_icmp_ne (tgt := 214) hx hb dX9_goesOn_100 (by decide) (fun q => absurd c_1 q) (fun _ => ?_)
        refine lv_aload_n hx hb dX9_goesOn_103 rfl (lv_at hl 1 rfl) ?_
        refine k_get hx hb hts hi9 hown hK hP 0 rfl rfl 8 (by decide) hf74 (.int (M 8)) rfl dX9_goesOn_104 ?_
        refine lv_if_ne (tgt := 214) hx hb dX9_goesOn_107 (by decide) (fun c_6 => ?_) (fun c_6 => ?_)
        · skip
          exact J_4 (upd M 19 (-9)) (by first | (simp only [if_neg c_5, if_neg c_6]; done) | rfl) _ _ hP hD hS _ (lv_sub hl [] rfl)
        · skip
          refine lv_iload_n hx hb dX9_goesOn_110 rfl (lv_at hl 3 rfl) ?_
          refine lv_if_ne (tgt := 214) hx hb dX9_goesOn_111 (by decide) (fun c_7 => ?_) (fun c_7 => ?_)
          · skip
            exact J_4 (upd M 19 (-9)) (by first | (simp only [if_neg c_5, if_pos c_6, if_neg c_7]; done) | rfl) _ _ hP hD hS _ (lv_sub hl [] rfl)
          · skip
            refine lv_aload_n hx hb dX9_goesOn_114 rfl (lv_at hl 1 rfl) ?_
            refine lv_aload_n hx hb dX9_goesOn_115 rfl (lv_at hl 1 rfl) ?_
            refine k_get hx hb hts hi9 hown hK hP 0 rfl rfl 15 (by decide) hf130 (.int (M 15)) rfl dX9_goesOn_116 ?_
            have J_9 : ∀ z_8 : Int32, z_8 = (if (M 15) = 0 then 1 else 3) → ∀ (H : Heap) (locs : List Loc), va_P D vwCl [(h, oX9 r (upd M 19 (-9)) L), ((r 12), .inl (cI, 3, .inl a12))] H → va_D A [(h, oX9 r (upd M 19 (-9)) L), ((r 12), .inl (cI, 3, .inl a12))] → va_S A s.heap H locs → ∀ ls : Array Slot, lv_has ls 5 [(0, .ref h)] → W p l e (RM 1) s m ([.ref h, .int isTaken, .int isBarred, .int isLetGo] : List Value).toArray below meth c H locs 0 0 Q (F0 m 127 ls [.int z_8, .ref h]) := by
              intro z_8 ez_8 H locs hP hD hS ls hl
              refine k_put hx hb hts hi9 tyX9_ok nmX9 hown hK hP hD hS 0 rfl rfl 7 (by decide) hf32 rfl (.int z_8) rfl rfl (Nat.le_of_ble_eq_true rfl) (ws' := [(h, oX9 r (upd (upd M 7 z_8) 19 (-9)) L), ((r 12), .inl (cI, 3, .inl a12))]) rfl dX9_goesOn_127 (fun H locs hP hD hS => ?_)
              refine lv_aload_n hx hb dX9_goesOn_130 rfl (lv_at hl 0 rfl) ?_
              refine lv_bipush (v := (-9)) hx hb dX9_goesOn_131 (by decide +kernel) ?_
              refine k_put hx hb hts hi9 tyX9_ok nmX9 hown hK hP hD hS 0 rfl rfl 18 (by decide) hf38 rfl (.int (-9)) rfl rfl (Nat.le_of_ble_eq_true rfl) (ws' := [(h, oX9 r (upd (upd (upd M 7 z_8) 18 (-9)) 19 (-9)) L), ((r 12), .inl (cI, 3, .inl a12))]) rfl dX9_goesOn_133 (fun H locs hP hD hS => ?_)
              refine lv_goto (tgt := 214) hx hb dX9_goesOn_136 (by decide) ?_
              exact J_4 (upd (upd (upd M 7 z_8) 18 (-9)) 19 (-9)) (by subst ez_8; first | (simp only [if_neg c_5, if_pos c_6, if_pos c_7]; done) | rfl) _ _ hP hD hS _ (lv_sub hl [] rfl)
            refine lv_if_ne (tgt := 126) hx hb dX9_goesOn_119 (by decide) (fun c_10 => ?_) (fun c_10 => ?_)
            · skip
              refine lv_iconst (v := 3) hx hb dX9_goesOn_126 (by decide +kernel) ?_
              exact J_9 3 (by first | (simp only [if_neg c_10]; done) | rfl) _ _ hP hD hS _ (lv_sub hl [1] rfl)
            · skip
              refine lv_iconst (v := 1) hx hb dX9_goesOn_122 (by decide +kernel) ?_
              refine lv_goto (tgt := 127) hx hb dX9_goesOn_123 (by decide) ?_
              exact J_9 1 (by first | (simp only [if_pos c_10]; done) | rfl) _ _ hP hD hS _ (lv_sub hl [1] rfl)
    by_cases c_11 : (M 7) = 1
    · refine lv_tableIn (off := 79) (tgt := 139) hx hb dX9_goesOn_60 (by rw [c_11]; decide) (by rw [c_11]; decide) (by rw [c_11]; rfl) (by decide) ?_
      refine lv_aload_n hx hb dX9_goesOn_139 rfl (lv_at hl 1 rfl) ?_
      refine lv_iload_n hx hb dX9_goesOn_140 rfl (lv_at hl 2 rfl) ?_
      have J_13 : ∀ z_12 : Int32, z_12 = (if isTaken = 0 then 1 else (if isBarred = 0 then 2 else 1)) → ∀ (H : Heap) (locs : List Loc), va_P D vwCl [(h, oX9 r (upd M 19 (-9)) L), ((r 12), .inl (cI, 3, .inl a12))] H → va_D A [(h, oX9 r (upd M 19 (-9)) L), ((r 12), .inl (cI, 3, .inl a12))] → va_S A s.heap H locs → ∀ ls : Array Slot, lv_has ls 5 [] → W p l e (RM 1) s m ([.ref h, .int isTaken, .int isBarred, .int isLetGo] : List Value).toArray below meth c H locs 0 0 Q (F0 m 153 ls [.int z_12, .ref h]) := by
        intro z_12 ez_12 H locs hP hD hS ls hl
        refine k_put hx hb hts hi9 tyX9_ok nmX9 hown hK hP hD hS 0 rfl rfl 7 (by decide) hf32 rfl (.int z_12) rfl rfl (Nat.le_of_ble_eq_true rfl) (ws' := [(h, oX9 r (upd (upd M 7 z_12) 19 (-9)) L), ((r 12), .inl (cI, 3, .inl a12))]) rfl dX9_goesOn_153 (fun H locs hP hD hS => ?_)
        refine lv_goto (tgt := 214) hx hb dX9_goesOn_156 (by decide) ?_
        have hsp : sp_X9_goesOn M L a12 isTaken isBarred isLetGo = (upd (upd M 7 z_12) 19 (-9)) := sq_X9_goesOn_2 M L a12 isTaken isBarred isLetGo z_12 ez_12 c_1 c_2 c_11
        exact hret _ _ _ _ (by rw [hsp]; exact hP) hS dX9_goesOn_214
      refine lv_if_eq (tgt := 152) hx hb dX9_goesOn_141 (by decide) (fun c_14 => ?_) (fun c_14 => ?_)
      · skip
        refine lv_iconst (v := 1) hx hb dX9_goesOn_152 (by decide +kernel) ?_
        exact J_13 1 (by first | (simp only [if_pos c_14]; done) | rfl) _ _ hP hD hS _ (lv_sub hl [] rfl)
      · skip
        refine lv_iload_n hx hb dX9_goesOn_144 rfl (lv_at hl 3 rfl) ?_
        refine lv_if_ne (tgt := 152) hx hb dX9_goesOn_145 (by decide) (fun c_15 => ?_) (fun c_15 => ?_)
        · skip
          refine lv_iconst (v := 1) hx hb dX9_goesOn_152 (by decide +kernel) ?_
          exact J_13 1 (by first | (simp only [if_neg c_14, if_neg c_15]; done) | rfl) _ _ hP hD hS _ (lv_sub hl [] rfl)
        · skip
          refine lv_iconst (v := 2) hx hb dX9_goesOn_148 (by decide +kernel) ?_
          refine lv_goto (tgt := 153) hx hb dX9_goesOn_149 (by decide) ?_
          exact J_13 2 (by first | (simp only [if_neg c_14, if_pos c_15]; done) | rfl) _ _ hP hD hS _ (lv_sub hl [] rfl)
    by_cases c_16 : (M 7) = 2
    · refine lv_tableIn (off := 99) (tgt := 159) hx hb dX9_goesOn_60 (by rw [c_16]; decide) (by rw [c_16]; decide) (by rw [c_16]; rfl) (by decide) ?_
      refine lv_aload_n hx hb dX9_goesOn_159 rfl (lv_at hl 1 rfl) ?_
      refine lv_iload_n hx hb dX9_goesOn_160 rfl (lv_at hl 3 rfl) ?_
      have J_18 : ∀ z_17 : Int32, z_17 = (if isBarred = 0 then (if (M 8) = 2 then 2 else 3) else 3) → ∀ (H : Heap) (locs : List Loc), va_P D vwCl [(h, oX9 r (upd M 19 (-9)) L), ((r 12), .inl (cI, 3, .inl a12))] H → va_D A [(h, oX9 r (upd M 19 (-9)) L), ((r 12), .inl (cI, 3, .inl a12))] → va_S A s.heap H locs → ∀ ls : Array Slot, lv_has ls 5 [] → W p l e (RM 1) s m ([.ref h, .int isTaken, .int isBarred, .int isLetGo] : List Value).toArray below meth c H locs 0 0 Q (F0 m 177 ls [.int z_17, .ref h]) := by
        intro z_17 ez_17 H locs hP hD hS ls hl
        refine k_put hx hb hts hi9 tyX9_ok nmX9 hown hK hP hD hS 0 rfl rfl 7 (by decide) hf32 rfl (.int z_17) rfl rfl (Nat.le_of_ble_eq_true rfl) (ws' := [(h, oX9 r (upd (upd M 7 z_17) 19 (-9)) L), ((r 12), .inl (cI, 3, .inl a12))]) rfl dX9_goesOn_177 (fun H locs hP hD hS => ?_)
        refine lv_goto (tgt := 214) hx hb dX9_goesOn_180 (by decide) ?_
        have hsp : sp_X9_goesOn M L a12 isTaken isBarred isLetGo = (upd (upd M 7 z_17) 19 (-9)) := sq_X9_goesOn_3 M L a12 isTaken isBarred isLetGo z_17 ez_17 c_1 c_2 c_11 c_16
        exact hret _ _ _ _ (by rw [hsp]; exact hP) hS dX9_goesOn_214
      refine lv_if_ne (tgt := 172) hx hb dX9_goesOn_161 (by decide) (fun c_19 => ?_) (fun c_19 => ?_)
      · skip
        refine lv_iconst (v := 3) hx hb dX9_goesOn_172 (by decide +kernel) ?_
        refine lv_goto (tgt := 177) hx hb dX9_goesOn_173 (by decide) ?_
        exact J_18 3 (by first | (simp only [if_neg c_19]; done) | rfl) _ _ hP hD hS _ (lv_sub hl [] rfl)
      · skip
        refine lv_aload_n hx hb dX9_goesOn_164 rfl (lv_at hl 1 rfl) ?_
        refine k_get hx hb hts hi9 hown hK hP 0 rfl rfl 8 (by decide) hf74 (.int (M 8)) rfl dX9_goesOn_165 ?_
        refine lv_iconst (v := 2) hx hb dX9_goesOn_168 (by decide +kernel) ?_
        refine lv_icmp_eq (tgt := 176) hx hb dX9_goesOn_169 (by decide) (fun c_20 => ?_) (fun c_20 => ?_)
        · skip
          refine lv_iconst (v := 2) hx hb dX9_goesOn_176 (by decide +kernel) ?_
          exact J_18 2 (by first | (simp only [if_pos c_19, if_pos c_20]; done) | rfl) _ _ hP hD hS _ (lv_sub hl [] rfl)
        · skip
          refine lv_iconst (v := 3) hx hb dX9_goesOn_172 (by decide +kernel) ?_
          refine lv_goto (tgt := 177) hx hb dX9_goesOn_173 (by decide) ?_
          exact J_18 3 (by first | (simp only [if_pos c_19, if_neg c_20]; done) | rfl) _ _ hP hD hS _ (lv_sub hl [] rfl)
    by_cases c_21 : (M 7) = 3
    · refine lv_tableIn (off := 123) (tgt := 183) hx hb dX9_goesOn_60 (by rw [c_21]; decide) (by rw [c_21]; decide) (by rw [c_21]; rfl) (by decide) ?_
      refine lv_iload_n hx hb dX9_goesOn_183 rfl (lv_at hl 2 rfl) ?_
      have J_23 : ∀ z_22 : Nat → Int32, z_22 = (if isTaken = 0 then (upd M 19 (-9)) else (if isBarred = 0 then (let z_23 : Int32 := (if (M 4) ≤ (M 15) then 4 else 2); (upd (upd M 7 z_23) 19 (-9))) else (upd M 19 (-9)))) → ∀ (H : Heap) (locs : List Loc), va_P D vwCl [(h, oX9 r z_22 L), ((r 12), .inl (cI, 3, .inl a12))] H → va_D A [(h, oX9 r z_22 L), ((r 12), .inl (cI, 3, .inl a12))] → va_S A s.heap H locs → ∀ ls : Array Slot, lv_has ls 5 [] → W p l e (RM 1) s m ([.ref h, .int isTaken, .int isBarred, .int isLetGo] : List Value).toArray below meth c H locs 0 0 Q (F0 m 214 ls []) := by
        intro z_22 ez_22 H locs hP hD hS ls hl
        have hsp : sp_X9_goesOn M L a12 isTaken isBarred isLetGo = z_22 := sq_X9_goesOn_4 M L a12 isTaken isBarred isLetGo z_22 ez_22 c_1 c_2 c_11 c_16 c_21
        exact hret _ _ _ _ (by rw [hsp]; exact hP) hS dX9_goesOn_214
      refine lv_if_eq (tgt := 214) hx hb dX9_goesOn_184 (by decide) (fun c_24 => ?_) (fun c_24 => ?_)
      · skip
        exact J_23 (upd M 19 (-9)) (by first | (simp only [if_pos c_24]; done) | rfl) _ _ hP hD hS _ (lv_sub hl [] rfl)
      · skip
        refine lv_iload_n hx hb dX9_goesOn_187 rfl (lv_at hl 3 rfl) ?_
        refine lv_if_ne (tgt := 214) hx hb dX9_goesOn_188 (by decide) (fun c_25 => ?_) (fun c_25 => ?_)
        · skip
          exact J_23 (upd M 19 (-9)) (by first | (simp only [if_neg c_24, if_neg c_25]; done) | rfl) _ _ hP hD hS _ (lv_sub hl [] rfl)
        · skip
          refine lv_aload_n hx hb dX9_goesOn_191 rfl (lv_at hl 1 rfl) ?_
          refine lv_aload_n hx hb dX9_goesOn_192 rfl (lv_at hl 1 rfl) ?_
          refine k_get hx hb hts hi9 hown hK hP 0 rfl rfl 15 (by decide) hf130 (.int (M 15)) rfl dX9_goesOn_193 ?_
          refine lv_aload_n hx hb dX9_goesOn_196 rfl (lv_at hl 1 rfl) ?_
          refine k_get hx hb hts hi9 hown hK hP 0 rfl rfl 4 (by decide) hf22 (.int (M 4)) rfl dX9_goesOn_197 ?_
          have J_27 : ∀ z_26 : Int32, z_26 = (if (M 4) ≤ (M 15) then 4 else 2) → ∀ (H : Heap) (locs : List Loc), va_P D vwCl [(h, oX9 r (upd M 19 (-9)) L), ((r 12), .inl (cI, 3, .inl a12))] H → va_D A [(h, oX9 r (upd M 19 (-9)) L), ((r 12), .inl (cI, 3, .inl a12))] → va_S A s.heap H locs → ∀ ls : Array Slot, lv_has ls 5 [] → W p l e (RM 1) s m ([.ref h, .int isTaken, .int isBarred, .int isLetGo] : List Value).toArray below meth c H locs 0 0 Q (F0 m 208 ls [.int z_26, .ref h]) := by
            intro z_26 ez_26 H locs hP hD hS ls hl
            refine k_put hx hb hts hi9 tyX9_ok nmX9 hown hK hP hD hS 0 rfl rfl 7 (by decide) hf32 rfl (.int z_26) rfl rfl (Nat.le_of_ble_eq_true rfl) (ws' := [(h, oX9 r (upd (upd M 7 z_26) 19 (-9)) L), ((r 12), .inl (cI, 3, .inl a12))]) rfl dX9_goesOn_208 (fun H locs hP hD hS => ?_)
            refine lv_goto (tgt := 214) hx hb dX9_goesOn_211 (by decide) ?_
            exact J_23 (upd (upd M 7 z_26) 19 (-9)) (by subst ez_26; first | (simp only [if_neg c_24, if_pos c_25]; done) | rfl) _ _ hP hD hS _ (lv_sub hl [] rfl)
          refine lv_icmp_ge (tgt := 207) hx hb dX9_goesOn_200 (by decide) (fun c_28 => ?_) (fun c_28 => ?_)
          · skip
            refine lv_iconst (v := 4) hx hb dX9_goesOn_207 (by decide +kernel) ?_
            exact J_27 4 (by first | (simp only [if_pos c_28]; done) | rfl) _ _ hP hD hS _ (lv_sub hl [] rfl)
          · skip
            refine lv_iconst (v := 2) hx hb dX9_goesOn_203 (by decide +kernel) ?_
            refine lv_goto (tgt := 208) hx hb dX9_goesOn_204 (by decide) ?_
            exact J_27 2 (by first | (simp only [if_neg c_28]; done) | rfl) _ _ hP hD hS _ (lv_sub hl [] rfl)
    refine lv_tableOut (tgt := 214) hx hb dX9_goesOn_60 (by have q0 := lv_neT c_2 (show (0 : Int32).toInt = 0 by decide +kernel); have q1 := lv_neT c_11 (show (1 : Int32).toInt = 1 by decide +kernel); have q2 := lv_neT c_16 (show (2 : Int32).toInt = 2 by decide +kernel); have q3 := lv_neT c_21 (show (3 : Int32).toInt = 3 by decide +kernel); omega) (by decide) ?_
    have hsp : sp_X9_goesOn M L a12 isTaken isBarred isLetGo = (upd M 19 (-9)) := by simp only [sp_X9_goesOn, if_pos c_1, if_neg c_2, if_neg c_11, if_neg c_16, if_neg c_21]
    exact hret _ _ _ _ (by rw [hsp]; exact hP) hS dX9_goesOn_214
  · skip
    refine lv_aload_n hx hb dX9_goesOn_23 rfl (lv_at hl 1 rfl) ?_
    refine k_get hx hb hts hi9 hown hK hP 0 rfl rfl 7 (by decide) hf32 (.int (M 7)) rfl dX9_goesOn_24 ?_
    refine lv_if_eq (tgt := 56) hx hb dX9_goesOn_27 (by decide) (fun c_29 => ?_) (fun c_29 => ?_)
    · skip
      refine lv_aload_n hx hb dX9_goesOn_56 rfl (lv_at hl 1 rfl) ?_
      refine k_get hx hb hts hi9 hown hK hP 0 rfl rfl 7 (by decide) hf32 (.int (M 7)) rfl dX9_goesOn_57 ?_
      refine lv_tableIn (off := 32) (tgt := 92) hx hb dX9_goesOn_60 (by rw [c_29]; decide) (by rw [c_29]; decide) (by rw [c_29]; rfl) (by decide) ?_
      refine lv_iload_n hx hb dX9_goesOn_92 rfl (lv_at hl 4 rfl) ?_
      have J_30 : ∀ (H : Heap) (locs : List Loc), va_P D vwCl [(h, oX9 r (upd M 19 (-9)) L), ((r 12), .inl (cI, 3, .inl a12))] H → va_D A [(h, oX9 r (upd M 19 (-9)) L), ((r 12), .inl (cI, 3, .inl a12))] → va_S A s.heap H locs → ∀ ls : Array Slot, lv_has ls 5 [] → W p l e (RM 1) s m ([.ref h, .int isTaken, .int isBarred, .int isLetGo] : List Value).toArray below meth c H locs 0 0 Q (F0 m 214 ls []) := by
        intro H locs hP hD hS ls hl
        have hsp : sp_X9_goesOn M L a12 isTaken isBarred isLetGo = (upd M 19 (-9)) := by simp only [sp_X9_goesOn, if_neg c_1, if_pos c_29]
        exact hret _ _ _ _ (by rw [hsp]; exact hP) hS dX9_goesOn_214
      refine lv_if_eq (tgt := 214) hx hb dX9_goesOn_93 (by decide) (fun c_31 => ?_) (fun c_31 => ?_)
      · skip
        exact J_30 _ _ hP hD hS _ (lv_sub hl [] rfl)
      · skip
        refine lv_iload hx hb dX9_goesOn_96 (lv_at hl 0 rfl) ?_
        refine lv_bipush (v := (-9)) hx hb dX9_goesOn_98 (by decide +kernel) ?_
        refine lv_icmp_ne (tgt := 214) hx hb dX9_goesOn_100 (by decide) (fun _ => ?_) (fun q => absurd q c_1)
        exact J_30 _ _ hP hD hS _ (lv_sub hl [] rfl)
    · skip
      refine lv_aload_n hx hb dX9_goesOn_30 rfl (lv_at hl 1 rfl) ?_
      refine lv_iconst (v := 0) hx hb dX9_goesOn_31 (by decide +kernel) ?_
      refine k_put hx hb hts hi9 tyX9_ok nmX9 hown hK hP hD hS 0 rfl rfl 7 (by decide) hf32 rfl (.int 0) rfl rfl (Nat.le_of_ble_eq_true rfl) (ws' := [(h, oX9 r (upd (upd M 7 0) 19 (-9)) L), ((r 12), .inl (cI, 3, .inl a12))]) rfl dX9_goesOn_32 (fun H locs hP hD hS => ?_)
      refine lv_aload_n hx hb dX9_goesOn_35 rfl (lv_at hl 1 rfl) ?_
      refine lv_iload hx hb dX9_goesOn_36 (lv_at hl 0 rfl) ?_
      refine lv_topi (fun z_32 ez_32 => ?_)
      refine k_put hx hb hts hi9 tyX9_ok nmX9 hown hK hP hD hS 0 rfl rfl 18 (by decide) hf38 rfl (.int z_32) rfl rfl (Nat.le_of_ble_eq_true rfl) (ws' := [(h, oX9 r (upd (upd (upd M 7 0) 18 z_32) 19 (-9)) L), ((r 12), .inl (cI, 3, .inl a12))]) rfl dX9_goesOn_38 (fun H locs hP hD hS => ?_)
      refine lv_aload_n hx hb dX9_goesOn_41 rfl (lv_at hl 1 rfl) ?_
      refine lv_iload hx hb dX9_goesOn_42 (lv_at hl 0 rfl) ?_
      refine lv_topi (fun z_33 ez_33 => ?_)
      refine k_put hx hb hts hi9 tyX9_ok nmX9 hown hK hP hD hS 0 rfl rfl 19 (by decide) hf127 rfl (.int z_33) rfl rfl (Nat.le_of_ble_eq_true rfl) (ws' := [(h, oX9 r (upd (upd (upd M 7 0) 18 z_32) 19 z_33) L), ((r 12), .inl (cI, 3, .inl a12))]) rfl dX9_goesOn_44 (fun H locs hP hD hS => ?_)
      refine lv_aload_n hx hb dX9_goesOn_47 rfl (lv_at hl 1 rfl) ?_
      refine lv_aload_n hx hb dX9_goesOn_48 rfl (lv_at hl 1 rfl) ?_
      refine k_get hx hb hts hi9 hown hK hP 0 rfl rfl 15 (by decide) hf130 (.int (M 15)) rfl dX9_goesOn_49 ?_
      refine k_put hx hb hts hi9 tyX9_ok nmX9 hown hK hP hD hS 0 rfl rfl 20 (by decide) hf133 rfl (.int (M 15)) rfl rfl (Nat.le_of_ble_eq_true rfl) (ws' := [(h, oX9 r (upd (upd (upd (upd M 7 0) 18 z_32) 19 z_33) 20 (M 15)) L), ((r 12), .inl (cI, 3, .inl a12))]) rfl dX9_goesOn_52 (fun H locs hP hD hS => ?_)
      have hsp : sp_X9_goesOn M L a12 isTaken isBarred isLetGo = (upd (upd (upd (upd M 7 0) 18 z_32) 19 z_33) 20 (M 15)) := sq_X9_goesOn_5 M L a12 isTaken isBarred isLetGo z_32 z_33 ez_32 ez_33 c_1 c_29
      exact hret _ _ _ _ (by rw [hsp]; exact hP) hS dX9_goesOn_55

def sp_X9_slides (M : Nat → Int32) (L : Int64) (a6 : Nat → Int32) (set : Int32) (isMuted : Int32) : (Nat → Int32) :=
  (if (sp_X9_valveAt (upd (upd M 21 0) 22 0) L a6 0) = 1 then
    (if (sp_X9_valveAt (upd (upd M 21 0) 22 0) L a6 1) = 1 then
      let z_45 : Int32 := (if (M 4) ≤ (M 15) then 0 else (if ((set >>> (4 &&& 31)) &&& 3) = 3 then 0 else (if isMuted = 0 then 1 else 0)))
      let z_47 : Int32 := (if ((M 15) + 1) = (2 * (M 4)) then 0 else ((M 15) + 1))
      let z_49 : Nat → Int32 := (if z_47 = (M 4) then (if (M 7) = 2 then (upd (upd (upd (upd (upd M 7 4) 15 z_47) 16 (M 3)) 21 z_45) 22 0) else (upd (upd (upd (upd M 15 z_47) 16 (M 3)) 21 z_45) 22 0)) else (upd (upd (upd (upd M 15 z_47) 16 (M 3)) 21 z_45) 22 0))
      let z_51 : Nat → Int32 := (if (z_49 15) = 0 then (let z_51 : Int32 := (if (z_49 7) = 4 then 1 else (if (z_49 7) = 3 then 1 else (z_49 7))); (upd (upd (upd z_49 7 z_51) 16 0) 22 1)) else z_49)
      z_51
    else
      (if (M 16) ≤ 0 then
        (upd (upd M 21 0) 22 0)
      else
        let z_25 : Int32 := ((M 16) - 1)
        let z_26 : Int32 := (if (M 4) ≤ (M 15) then 0 else (if ((set >>> (4 &&& 31)) &&& 3) = 3 then 0 else (if isMuted = 0 then 1 else 0)))
        let z_28 : Int32 := (if ((M 15) + 1) = (2 * (M 4)) then 0 else ((M 15) + 1))
        let z_30 : Nat → Int32 := (if z_28 = (M 4) then (if (M 7) = 2 then (upd (upd (upd (upd (upd M 7 4) 15 z_28) 16 z_25) 21 z_26) 22 0) else (upd (upd (upd (upd M 15 z_28) 16 z_25) 21 z_26) 22 0)) else (upd (upd (upd (upd M 15 z_28) 16 z_25) 21 z_26) 22 0))
        let z_32 : Nat → Int32 := (if (z_30 15) = 0 then (let z_32 : Int32 := (if (z_30 7) = 4 then 1 else (if (z_30 7) = 3 then 1 else (z_30 7))); (upd (upd (upd z_30 7 z_32) 16 0) 22 1)) else z_30)
        z_32))
  else
    (if (M 16) ≤ 0 then
      (upd (upd M 21 0) 22 0)
    else
      let z_3 : Int32 := ((M 16) - 1)
      let z_4 : Int32 := (if (M 4) ≤ (M 15) then 0 else (if ((set >>> (4 &&& 31)) &&& 3) = 3 then 0 else (if isMuted = 0 then 1 else 0)))
      let z_6 : Int32 := (if ((M 15) + 1) = (2 * (M 4)) then 0 else ((M 15) + 1))
      let z_8 : Nat → Int32 := (if z_6 = (M 4) then (if (M 7) = 2 then (upd (upd (upd (upd (upd M 7 4) 15 z_6) 16 z_3) 21 z_4) 22 0) else (upd (upd (upd (upd M 15 z_6) 16 z_3) 21 z_4) 22 0)) else (upd (upd (upd (upd M 15 z_6) 16 z_3) 21 z_4) 22 0))
      let z_10 : Nat → Int32 := (if (z_8 15) = 0 then (let z_10 : Int32 := (if (z_8 7) = 4 then 1 else (if (z_8 7) = 3 then 1 else (z_8 7))); (upd (upd (upd z_8 7 z_10) 16 0) 22 1)) else z_8)
      z_10))
set_option maxRecDepth 100000 in
theorem sq_X9_slides_1 (M : Nat → Int32) (L : Int64) (a6 : Nat → Int32) (set : Int32) (isMuted : Int32) (z_3 : Int32) (z_4 : Int32) (z_6 : Int32) (z_8 : Nat → Int32) (z_10 : Nat → Int32) (ez_3 : z_3 = ((M 16) - 1)) (ez_4 : z_4 = (if (M 4) ≤ (M 15) then 0 else (if ((set >>> (4 &&& 31)) &&& 3) = 3 then 0 else (if isMuted = 0 then 1 else 0)))) (ez_6 : z_6 = (if ((M 15) + 1) = (2 * (M 4)) then 0 else ((M 15) + 1))) (ez_8 : z_8 = (if z_6 = (M 4) then (if (M 7) = 2 then (upd (upd (upd (upd (upd M 7 4) 15 z_6) 16 z_3) 21 z_4) 22 0) else (upd (upd (upd (upd M 15 z_6) 16 z_3) 21 z_4) 22 0)) else (upd (upd (upd (upd M 15 z_6) 16 z_3) 21 z_4) 22 0))) (ez_10 : z_10 = (if (z_8 15) = 0 then (let z_10 : Int32 := (if (z_8 7) = 4 then 1 else (if (z_8 7) = 3 then 1 else (z_8 7))); (upd (upd (upd z_8 7 z_10) 16 0) 22 1)) else z_8)) (c_1 : ¬ ((sp_X9_valveAt (upd (upd M 21 0) 22 0) L a6 0) = 1)) (c_2 : ¬ ((M 16) ≤ 0)) : sp_X9_slides M L a6 set isMuted = z_10 := by subst ez_10; subst ez_8; subst ez_6; subst ez_4; subst ez_3; simp only [sp_X9_slides, if_neg c_1, if_neg c_2]
set_option maxRecDepth 100000 in
theorem sq_X9_slides_2 (M : Nat → Int32) (L : Int64) (a6 : Nat → Int32) (set : Int32) (isMuted : Int32) (z_25 : Int32) (z_26 : Int32) (z_28 : Int32) (z_30 : Nat → Int32) (z_32 : Nat → Int32) (ez_25 : z_25 = ((M 16) - 1)) (ez_26 : z_26 = (if (M 4) ≤ (M 15) then 0 else (if ((set >>> (4 &&& 31)) &&& 3) = 3 then 0 else (if isMuted = 0 then 1 else 0)))) (ez_28 : z_28 = (if ((M 15) + 1) = (2 * (M 4)) then 0 else ((M 15) + 1))) (ez_30 : z_30 = (if z_28 = (M 4) then (if (M 7) = 2 then (upd (upd (upd (upd (upd M 7 4) 15 z_28) 16 z_25) 21 z_26) 22 0) else (upd (upd (upd (upd M 15 z_28) 16 z_25) 21 z_26) 22 0)) else (upd (upd (upd (upd M 15 z_28) 16 z_25) 21 z_26) 22 0))) (ez_32 : z_32 = (if (z_30 15) = 0 then (let z_32 : Int32 := (if (z_30 7) = 4 then 1 else (if (z_30 7) = 3 then 1 else (z_30 7))); (upd (upd (upd z_30 7 z_32) 16 0) 22 1)) else z_30)) (c_1 : (sp_X9_valveAt (upd (upd M 21 0) 22 0) L a6 0) = 1) (c_23 : ¬ ((sp_X9_valveAt (upd (upd M 21 0) 22 0) L a6 1) = 1)) (c_24 : ¬ ((M 16) ≤ 0)) : sp_X9_slides M L a6 set isMuted = z_32 := by subst ez_32; subst ez_30; subst ez_28; subst ez_26; subst ez_25; simp only [sp_X9_slides, if_pos c_1, if_neg c_23, if_neg c_24]
set_option maxRecDepth 100000 in
theorem sq_X9_slides_3 (M : Nat → Int32) (L : Int64) (a6 : Nat → Int32) (set : Int32) (isMuted : Int32) (z_45 : Int32) (z_47 : Int32) (z_49 : Nat → Int32) (z_51 : Nat → Int32) (ez_45 : z_45 = (if (M 4) ≤ (M 15) then 0 else (if ((set >>> (4 &&& 31)) &&& 3) = 3 then 0 else (if isMuted = 0 then 1 else 0)))) (ez_47 : z_47 = (if ((M 15) + 1) = (2 * (M 4)) then 0 else ((M 15) + 1))) (ez_49 : z_49 = (if z_47 = (M 4) then (if (M 7) = 2 then (upd (upd (upd (upd (upd M 7 4) 15 z_47) 16 (M 3)) 21 z_45) 22 0) else (upd (upd (upd (upd M 15 z_47) 16 (M 3)) 21 z_45) 22 0)) else (upd (upd (upd (upd M 15 z_47) 16 (M 3)) 21 z_45) 22 0))) (ez_51 : z_51 = (if (z_49 15) = 0 then (let z_51 : Int32 := (if (z_49 7) = 4 then 1 else (if (z_49 7) = 3 then 1 else (z_49 7))); (upd (upd (upd z_49 7 z_51) 16 0) 22 1)) else z_49)) (c_1 : (sp_X9_valveAt (upd (upd M 21 0) 22 0) L a6 0) = 1) (c_23 : (sp_X9_valveAt (upd (upd M 21 0) 22 0) L a6 1) = 1) : sp_X9_slides M L a6 set isMuted = z_51 := by subst ez_51; subst ez_49; subst ez_47; subst ez_45; simp only [sp_X9_slides, if_pos c_1, if_pos c_23]
set_option maxHeartbeats 4000000 in
set_option maxRecDepth 100000 in
theorem c_X9_slides (l : Launch) (D : va_G) (cI cJ cO : ClassId) (h : Nat) (r : Nat → Nat) (M : Nat → Int32) (L : Int64) (a6 : Nat → Int32) (set : Int32) (isMuted : Int32)  : MV l D (TY cI cJ cO) yX9_slides wsX9_slides (RM 1) [.ref h, .int set, .int isMuted] [(h, oX9 r M L), ((r 6), .inl (cI, 2, .inl a6))] [(h, oX9 r (sp_X9_slides M L a6 set isMuted) L), ((r 6), .inl (cI, 2, .inl a6))] := by
  refine k_entV (cc := cX9_slides) (maxL := 3) (lv := [(0, .ref h), (1, .int set), (2, .int isMuted)]) (by decide +kernel) rfl (Nat.le_of_ble_eq_true rfl) rfl ?_
  intro p e s m below meth c A Q ls hx hb hml hts hown hA hS hP hD hK hN hl hret
  have hown : s.vm.findClass RX9 = some m.cls := hown
  have hi9 : ∀ w ∈ wsX90, w ∈ wsX9_slides := fun w h => List.mem_cons_of_mem _ (List.mem_append_right _ h)
  have hf19 := hts (.fieldLink RX9 19 "PressGuardModel" "overrun" "I") (by decide +kernel)
  have hf22 := hts (.fieldLink RX9 22 "PressGuardModel" "bottom" "I") (by decide +kernel)
  have hf32 := hts (.fieldLink RX9 32 "PressGuardModel" "mode" "I") (by decide +kernel)
  have hf130 := hts (.fieldLink RX9 130 "PressGuardModel" "position" "I") (by decide +kernel)
  have hf136 := hts (.fieldLink RX9 136 "PressGuardModel" "danger" "I") (by decide +kernel)
  have hf139 := hts (.fieldLink RX9 139 "PressGuardModel" "round" "I") (by decide +kernel)
  have hf142 := hts (.fieldLink RX9 142 "PressGuardModel" "brake" "I") (by decide +kernel)
  refine lv_aload_n hx hb dX9_slides_0 rfl (lv_at hl 0 rfl) ?_
  refine lv_iconst (v := 0) hx hb dX9_slides_1 (by decide +kernel) ?_
  refine k_put hx hb hts hi9 tyX9_ok nmX9 hown hK hP hD hS 0 rfl rfl 21 (by decide) hf136 rfl (.int 0) rfl rfl (Nat.le_of_ble_eq_true rfl) (ws' := [(h, oX9 r (upd M 21 0) L), ((r 6), .inl (cI, 2, .inl a6))]) rfl dX9_slides_2 (fun H locs hP hD hS => ?_)
  refine lv_aload_n hx hb dX9_slides_5 rfl (lv_at hl 0 rfl) ?_
  refine lv_iconst (v := 0) hx hb dX9_slides_6 (by decide +kernel) ?_
  refine k_put hx hb hts hi9 tyX9_ok nmX9 hown hK hP hD hS 0 rfl rfl 22 (by decide) hf139 rfl (.int 0) rfl rfl (Nat.le_of_ble_eq_true rfl) (ws' := [(h, oX9 r (upd (upd M 21 0) 22 0) L), ((r 6), .inl (cI, 2, .inl a6))]) rfl dX9_slides_7 (fun H locs hP hD hS => ?_)
  refine lv_aload_n hx hb dX9_slides_10 rfl (lv_at hl 0 rfl) ?_
  refine lv_iconst (v := 0) hx hb dX9_slides_11 (by decide +kernel) ?_
  refine k_Vi ⟨hx, hb, hml, hown, hts⟩ (c_X9_valveAt l D cI cJ cO h r (upd (upd M 21 0) 22 0) L a6 0 (vp_in_iff.mpr (by decide +kernel))) (ci := 9) (q0 := 0) rfl rfl (cwV 1 hts gX9_slides_X9_valveAt rfl rfl rfl (by decide +kernel) ⟨Nat.le_of_ble_eq_true rfl, Nat.le_of_ble_eq_true rfl⟩) hK hN hP hD hS hA [0, 1] rfl rfl rfl (ws' := [(h, oX9 r (upd (upd M 21 0) 22 0) L), ((r 6), .inl (cI, 2, .inl a6))]) rfl rfl hl.1 rfl (Nat.le_of_ble_eq_true rfl) dX9_slides_12 ⟨Nat.le_refl _, Nat.le_refl _⟩ (fun H locs hP hD hS => ?_)
  refine lv_iconst (v := 1) hx hb dX9_slides_15 (by decide +kernel) ?_
  refine lv_icmp_ne (tgt := 39) hx hb dX9_slides_16 (by decide) (fun c_1 => ?_) (fun c_1 => ?_)
  · skip
    refine lv_aload_n hx hb dX9_slides_39 rfl (lv_at hl 0 rfl) ?_
    refine k_get hx hb hts hi9 hown hK hP 0 rfl rfl 16 (by decide) hf142 (.int (M 16)) rfl dX9_slides_40 ?_
    refine lv_if_le (tgt := 59) hx hb dX9_slides_43 (by decide) (fun c_2 => ?_) (fun c_2 => ?_)
    · skip
      have hsp : sp_X9_slides M L a6 set isMuted = (upd (upd M 21 0) 22 0) := by simp only [sp_X9_slides, if_neg c_1, if_pos c_2]
      exact hret _ _ _ _ (by rw [hsp]; exact hP) hS dX9_slides_59
    · skip
      refine lv_aload_n hx hb dX9_slides_46 rfl (lv_at hl 0 rfl) ?_
      refine lv_dup hx hb dX9_slides_47 rfl ?_
      refine k_get hx hb hts hi9 hown hK hP 0 rfl rfl 16 (by decide) hf142 (.int (M 16)) rfl dX9_slides_48 ?_
      refine lv_iconst (v := 1) hx hb dX9_slides_51 (by decide +kernel) ?_
      refine lv_isub hx hb dX9_slides_52 ?_
      refine lv_topi (fun z_3 ez_3 => ?_)
      refine k_put hx hb hts hi9 tyX9_ok nmX9 hown hK hP hD hS 0 rfl rfl 16 (by decide) hf142 rfl (.int z_3) rfl rfl (Nat.le_of_ble_eq_true rfl) (ws' := [(h, oX9 r (upd (upd (upd M 16 z_3) 21 0) 22 0) L), ((r 6), .inl (cI, 2, .inl a6))]) rfl dX9_slides_53 (fun H locs hP hD hS => ?_)
      refine lv_goto (tgt := 60) hx hb dX9_slides_56 (by decide) ?_
      refine lv_aload_n hx hb dX9_slides_60 rfl (lv_at hl 0 rfl) ?_
      refine lv_aload_n hx hb dX9_slides_61 rfl (lv_at hl 0 rfl) ?_
      refine k_get hx hb hts hi9 hown hK hP 0 rfl rfl 15 (by decide) hf130 (.int (M 15)) rfl dX9_slides_62 ?_
      refine lv_aload_n hx hb dX9_slides_65 rfl (lv_at hl 0 rfl) ?_
      refine k_get hx hb hts hi9 hown hK hP 0 rfl rfl 4 (by decide) hf22 (.int (M 4)) rfl dX9_slides_66 ?_
      have J_5 : ∀ z_4 : Int32, z_4 = (if (M 4) ≤ (M 15) then 0 else (if ((set >>> (4 &&& 31)) &&& 3) = 3 then 0 else (if isMuted = 0 then 1 else 0))) → ∀ (H : Heap) (locs : List Loc), va_P D vwCl [(h, oX9 r (upd (upd (upd M 16 z_3) 21 0) 22 0) L), ((r 6), .inl (cI, 2, .inl a6))] H → va_D A [(h, oX9 r (upd (upd (upd M 16 z_3) 21 0) 22 0) L), ((r 6), .inl (cI, 2, .inl a6))] → va_S A s.heap H locs → ∀ ls : Array Slot, lv_has ls 3 [(0, .ref h)] → W p l e (RM 1) s m ([.ref h, .int set, .int isMuted] : List Value).toArray below meth c H locs 0 0 Q (F0 m 90 ls [.int z_4, .ref h]) := by
        intro z_4 ez_4 H locs hP hD hS ls hl
        refine k_put hx hb hts hi9 tyX9_ok nmX9 hown hK hP hD hS 0 rfl rfl 21 (by decide) hf136 rfl (.int z_4) rfl rfl (Nat.le_of_ble_eq_true rfl) (ws' := [(h, oX9 r (upd (upd (upd M 16 z_3) 21 z_4) 22 0) L), ((r 6), .inl (cI, 2, .inl a6))]) rfl dX9_slides_90 (fun H locs hP hD hS => ?_)
        refine lv_aload_n hx hb dX9_slides_93 rfl (lv_at hl 0 rfl) ?_
        refine lv_aload_n hx hb dX9_slides_94 rfl (lv_at hl 0 rfl) ?_
        refine k_get hx hb hts hi9 hown hK hP 0 rfl rfl 15 (by decide) hf130 (.int (M 15)) rfl dX9_slides_95 ?_
        refine lv_iconst (v := 1) hx hb dX9_slides_98 (by decide +kernel) ?_
        refine lv_iadd hx hb dX9_slides_99 ?_
        refine lv_iconst (v := 2) hx hb dX9_slides_100 (by decide +kernel) ?_
        refine lv_aload_n hx hb dX9_slides_101 rfl (lv_at hl 0 rfl) ?_
        refine k_get hx hb hts hi9 hown hK hP 0 rfl rfl 4 (by decide) hf22 (.int (M 4)) rfl dX9_slides_102 ?_
        refine lv_imul hx hb dX9_slides_105 ?_
        have J_7 : ∀ z_6 : Int32, z_6 = (if ((M 15) + 1) = (2 * (M 4)) then 0 else ((M 15) + 1)) → ∀ (H : Heap) (locs : List Loc), va_P D vwCl [(h, oX9 r (upd (upd (upd M 16 z_3) 21 z_4) 22 0) L), ((r 6), .inl (cI, 2, .inl a6))] H → va_D A [(h, oX9 r (upd (upd (upd M 16 z_3) 21 z_4) 22 0) L), ((r 6), .inl (cI, 2, .inl a6))] → va_S A s.heap H locs → ∀ ls : Array Slot, lv_has ls 3 [(0, .ref h)] → W p l e (RM 1) s m ([.ref h, .int set, .int isMuted] : List Value).toArray below meth c H locs 0 0 Q (F0 m 119 ls [.int z_6, .ref h]) := by
          intro z_6 ez_6 H locs hP hD hS ls hl
          refine k_put hx hb hts hi9 tyX9_ok nmX9 hown hK hP hD hS 0 rfl rfl 15 (by decide) hf130 rfl (.int z_6) rfl rfl (Nat.le_of_ble_eq_true rfl) (ws' := [(h, oX9 r (upd (upd (upd (upd M 15 z_6) 16 z_3) 21 z_4) 22 0) L), ((r 6), .inl (cI, 2, .inl a6))]) rfl dX9_slides_119 (fun H locs hP hD hS => ?_)
          refine lv_aload_n hx hb dX9_slides_122 rfl (lv_at hl 0 rfl) ?_
          refine k_get hx hb hts hi9 hown hK hP 0 rfl rfl 15 (by decide) hf130 (.int z_6) rfl dX9_slides_123 ?_
          refine lv_aload_n hx hb dX9_slides_126 rfl (lv_at hl 0 rfl) ?_
          refine k_get hx hb hts hi9 hown hK hP 0 rfl rfl 4 (by decide) hf22 (.int (M 4)) rfl dX9_slides_127 ?_
          have J_9 : ∀ z_8 : Nat → Int32, z_8 = (if z_6 = (M 4) then (if (M 7) = 2 then (upd (upd (upd (upd (upd M 7 4) 15 z_6) 16 z_3) 21 z_4) 22 0) else (upd (upd (upd (upd M 15 z_6) 16 z_3) 21 z_4) 22 0)) else (upd (upd (upd (upd M 15 z_6) 16 z_3) 21 z_4) 22 0)) → ∀ (H : Heap) (locs : List Loc), va_P D vwCl [(h, oX9 r z_8 L), ((r 6), .inl (cI, 2, .inl a6))] H → va_D A [(h, oX9 r z_8 L), ((r 6), .inl (cI, 2, .inl a6))] → va_S A s.heap H locs → ∀ ls : Array Slot, lv_has ls 3 [(0, .ref h)] → W p l e (RM 1) s m ([.ref h, .int set, .int isMuted] : List Value).toArray below meth c H locs 0 0 Q (F0 m 146 ls []) := by
            intro z_8 ez_8 H locs hP hD hS ls hl
            refine lv_aload_n hx hb dX9_slides_146 rfl (lv_at hl 0 rfl) ?_
            refine k_get hx hb hts hi9 hown hK hP 0 rfl rfl 15 (by decide) hf130 (.int (z_8 15)) rfl dX9_slides_147 ?_
            have J_11 : ∀ z_10 : Nat → Int32, z_10 = (if (z_8 15) = 0 then (let z_10 : Int32 := (if (z_8 7) = 4 then 1 else (if (z_8 7) = 3 then 1 else (z_8 7))); (upd (upd (upd z_8 7 z_10) 16 0) 22 1)) else z_8) → ∀ (H : Heap) (locs : List Loc), va_P D vwCl [(h, oX9 r z_10 L), ((r 6), .inl (cI, 2, .inl a6))] H → va_D A [(h, oX9 r z_10 L), ((r 6), .inl (cI, 2, .inl a6))] → va_S A s.heap H locs → ∀ ls : Array Slot, lv_has ls 3 [] → W p l e (RM 1) s m ([.ref h, .int set, .int isMuted] : List Value).toArray below meth c H locs 0 0 Q (F0 m 191 ls []) := by
              intro z_10 ez_10 H locs hP hD hS ls hl
              have hsp : sp_X9_slides M L a6 set isMuted = z_10 := sq_X9_slides_1 M L a6 set isMuted z_3 z_4 z_6 z_8 z_10 ez_3 ez_4 ez_6 ez_8 ez_10 c_1 c_2
              exact hret _ _ _ _ (by rw [hsp]; exact hP) hS dX9_slides_191
            refine lv_if_ne (tgt := 191) hx hb dX9_slides_150 (by decide) (fun c_12 => ?_) (fun c_12 => ?_)
            · skip
              exact J_11 z_8 (by first | (simp only [if_neg c_12]; done) | rfl) _ _ hP hD hS _ (lv_sub hl [] rfl)
            · skip
              refine lv_aload_n hx hb dX9_slides_153 rfl (lv_at hl 0 rfl) ?_
              refine lv_iconst (v := 0) hx hb dX9_slides_154 (by decide +kernel) ?_
              refine k_put hx hb hts hi9 tyX9_ok nmX9 hown hK hP hD hS 0 rfl rfl 16 (by decide) hf142 rfl (.int 0) rfl rfl (Nat.le_of_ble_eq_true rfl) (ws' := [(h, oX9 r (upd z_8 16 0) L), ((r 6), .inl (cI, 2, .inl a6))]) rfl dX9_slides_155 (fun H locs hP hD hS => ?_)
              refine lv_aload_n hx hb dX9_slides_158 rfl (lv_at hl 0 rfl) ?_
              refine lv_iconst (v := 1) hx hb dX9_slides_159 (by decide +kernel) ?_
              refine k_put hx hb hts hi9 tyX9_ok nmX9 hown hK hP hD hS 0 rfl rfl 22 (by decide) hf139 rfl (.int 1) rfl rfl (Nat.le_of_ble_eq_true rfl) (ws' := [(h, oX9 r (upd (upd z_8 16 0) 22 1) L), ((r 6), .inl (cI, 2, .inl a6))]) rfl dX9_slides_160 (fun H locs hP hD hS => ?_)
              refine lv_aload_n hx hb dX9_slides_163 rfl (lv_at hl 0 rfl) ?_
              refine lv_aload_n hx hb dX9_slides_164 rfl (lv_at hl 0 rfl) ?_
              refine k_get hx hb hts hi9 hown hK hP 0 rfl rfl 7 (by decide) hf32 (.int (z_8 7)) rfl dX9_slides_165 ?_
              refine lv_iconst (v := 4) hx hb dX9_slides_168 (by decide +kernel) ?_
              have J_14 : ∀ z_13 : Int32, z_13 = (if (z_8 7) = 4 then 1 else (if (z_8 7) = 3 then 1 else (z_8 7))) → ∀ (H : Heap) (locs : List Loc), va_P D vwCl [(h, oX9 r (upd (upd z_8 16 0) 22 1) L), ((r 6), .inl (cI, 2, .inl a6))] H → va_D A [(h, oX9 r (upd (upd z_8 16 0) 22 1) L), ((r 6), .inl (cI, 2, .inl a6))] → va_S A s.heap H locs → ∀ ls : Array Slot, lv_has ls 3 [] → W p l e (RM 1) s m ([.ref h, .int set, .int isMuted] : List Value).toArray below meth c H locs 0 0 Q (F0 m 188 ls [.int z_13, .ref h]) := by
                intro z_13 ez_13 H locs hP hD hS ls hl
                refine k_put hx hb hts hi9 tyX9_ok nmX9 hown hK hP hD hS 0 rfl rfl 7 (by decide) hf32 rfl (.int z_13) rfl rfl (Nat.le_of_ble_eq_true rfl) (ws' := [(h, oX9 r (upd (upd (upd z_8 7 z_13) 16 0) 22 1) L), ((r 6), .inl (cI, 2, .inl a6))]) rfl dX9_slides_188 (fun H locs hP hD hS => ?_)
                exact J_11 (upd (upd (upd z_8 7 z_13) 16 0) 22 1) (by subst ez_13; first | (simp only [if_pos c_12]; done) | rfl) _ _ hP hD hS _ (lv_sub hl [] rfl)
              refine lv_icmp_eq (tgt := 180) hx hb dX9_slides_169 (by decide) (fun c_15 => ?_) (fun c_15 => ?_)
              · skip
                refine lv_iconst (v := 1) hx hb dX9_slides_180 (by decide +kernel) ?_
                refine lv_goto (tgt := 188) hx hb dX9_slides_181 (by decide) ?_
                exact J_14 1 (by first | (simp only [if_pos c_15]; done) | rfl) _ _ hP hD hS _ (lv_sub hl [] rfl)
              · skip
                refine lv_aload_n hx hb dX9_slides_172 rfl (lv_at hl 0 rfl) ?_
                refine k_get hx hb hts hi9 hown hK hP 0 rfl rfl 7 (by decide) hf32 (.int (z_8 7)) rfl dX9_slides_173 ?_
                refine lv_iconst (v := 3) hx hb dX9_slides_176 (by decide +kernel) ?_
                refine lv_icmp_ne (tgt := 184) hx hb dX9_slides_177 (by decide) (fun c_16 => ?_) (fun c_16 => ?_)
                · skip
                  refine lv_aload_n hx hb dX9_slides_184 rfl (lv_at hl 0 rfl) ?_
                  refine k_get hx hb hts hi9 hown hK hP 0 rfl rfl 7 (by decide) hf32 (.int (z_8 7)) rfl dX9_slides_185 ?_
                  exact J_14 (z_8 7) (by first | (simp only [if_neg c_15, if_neg c_16]; done) | rfl) _ _ hP hD hS _ (lv_sub hl [] rfl)
                · skip
                  refine lv_iconst (v := 1) hx hb dX9_slides_180 (by decide +kernel) ?_
                  refine lv_goto (tgt := 188) hx hb dX9_slides_181 (by decide) ?_
                  exact J_14 1 (by first | (simp only [if_neg c_15, if_pos c_16]; done) | rfl) _ _ hP hD hS _ (lv_sub hl [] rfl)
          refine lv_icmp_ne (tgt := 146) hx hb dX9_slides_130 (by decide) (fun c_17 => ?_) (fun c_17 => ?_)
          · skip
            exact J_9 (upd (upd (upd (upd M 15 z_6) 16 z_3) 21 z_4) 22 0) (by first | (simp only [if_neg c_17]; done) | rfl) _ _ hP hD hS _ (lv_sub hl [0] rfl)
          · skip
            refine lv_aload_n hx hb dX9_slides_133 rfl (lv_at hl 0 rfl) ?_
            refine k_get hx hb hts hi9 hown hK hP 0 rfl rfl 7 (by decide) hf32 (.int (M 7)) rfl dX9_slides_134 ?_
            refine lv_iconst (v := 2) hx hb dX9_slides_137 (by decide +kernel) ?_
            refine lv_icmp_ne (tgt := 146) hx hb dX9_slides_138 (by decide) (fun c_18 => ?_) (fun c_18 => ?_)
            · skip
              exact J_9 (upd (upd (upd (upd M 15 z_6) 16 z_3) 21 z_4) 22 0) (by first | (simp only [if_pos c_17, if_neg c_18]; done) | rfl) _ _ hP hD hS _ (lv_sub hl [0] rfl)
            · skip
              refine lv_aload_n hx hb dX9_slides_141 rfl (lv_at hl 0 rfl) ?_
              refine lv_iconst (v := 4) hx hb dX9_slides_142 (by decide +kernel) ?_
              refine k_put hx hb hts hi9 tyX9_ok nmX9 hown hK hP hD hS 0 rfl rfl 7 (by decide) hf32 rfl (.int 4) rfl rfl (Nat.le_of_ble_eq_true rfl) (ws' := [(h, oX9 r (upd (upd (upd (upd (upd M 7 4) 15 z_6) 16 z_3) 21 z_4) 22 0) L), ((r 6), .inl (cI, 2, .inl a6))]) rfl dX9_slides_143 (fun H locs hP hD hS => ?_)
              exact J_9 (upd (upd (upd (upd (upd M 7 4) 15 z_6) 16 z_3) 21 z_4) 22 0) (by first | (simp only [if_pos c_17, if_pos c_18]; done) | rfl) _ _ hP hD hS _ (lv_sub hl [0] rfl)
        refine lv_icmp_ne (tgt := 113) hx hb dX9_slides_106 (by decide) (fun c_19 => ?_) (fun c_19 => ?_)
        · skip
          refine lv_aload_n hx hb dX9_slides_113 rfl (lv_at hl 0 rfl) ?_
          refine k_get hx hb hts hi9 hown hK hP 0 rfl rfl 15 (by decide) hf130 (.int (M 15)) rfl dX9_slides_114 ?_
          refine lv_iconst (v := 1) hx hb dX9_slides_117 (by decide +kernel) ?_
          refine lv_iadd hx hb dX9_slides_118 ?_
          exact J_7 ((M 15) + 1) (by first | (simp only [if_neg c_19]; done) | rfl) _ _ hP hD hS _ (lv_sub hl [0] rfl)
        · skip
          refine lv_iconst (v := 0) hx hb dX9_slides_109 (by decide +kernel) ?_
          refine lv_goto (tgt := 119) hx hb dX9_slides_110 (by decide) ?_
          exact J_7 0 (by first | (simp only [if_pos c_19]; done) | rfl) _ _ hP hD hS _ (lv_sub hl [0] rfl)
      refine lv_icmp_ge (tgt := 89) hx hb dX9_slides_69 (by decide) (fun c_20 => ?_) (fun c_20 => ?_)
      · skip
        refine lv_iconst (v := 0) hx hb dX9_slides_89 (by decide +kernel) ?_
        exact J_5 0 (by first | (simp only [if_pos c_20]; done) | rfl) _ _ hP hD hS _ (lv_sub hl [0] rfl)
      · skip
        refine lv_iload_n hx hb dX9_slides_72 rfl (lv_at hl 1 rfl) ?_
        refine lv_iconst (v := 4) hx hb dX9_slides_73 (by decide +kernel) ?_
        refine lv_ishr hx hb dX9_slides_74 ?_
        refine lv_iconst (v := 3) hx hb dX9_slides_75 (by decide +kernel) ?_
        refine lv_iand hx hb dX9_slides_76 ?_
        refine lv_iconst (v := 3) hx hb dX9_slides_77 (by decide +kernel) ?_
        refine lv_icmp_eq (tgt := 89) hx hb dX9_slides_78 (by decide) (fun c_21 => ?_) (fun c_21 => ?_)
        · skip
          refine lv_iconst (v := 0) hx hb dX9_slides_89 (by decide +kernel) ?_
          exact J_5 0 (by first | (simp only [if_neg c_20, if_pos c_21]; done) | rfl) _ _ hP hD hS _ (lv_sub hl [0] rfl)
        · skip
          refine lv_iload_n hx hb dX9_slides_81 rfl (lv_at hl 2 rfl) ?_
          refine lv_if_ne (tgt := 89) hx hb dX9_slides_82 (by decide) (fun c_22 => ?_) (fun c_22 => ?_)
          · skip
            refine lv_iconst (v := 0) hx hb dX9_slides_89 (by decide +kernel) ?_
            exact J_5 0 (by first | (simp only [if_neg c_20, if_neg c_21, if_neg c_22]; done) | rfl) _ _ hP hD hS _ (lv_sub hl [0] rfl)
          · skip
            refine lv_iconst (v := 1) hx hb dX9_slides_85 (by decide +kernel) ?_
            refine lv_goto (tgt := 90) hx hb dX9_slides_86 (by decide) ?_
            exact J_5 1 (by first | (simp only [if_neg c_20, if_neg c_21, if_pos c_22]; done) | rfl) _ _ hP hD hS _ (lv_sub hl [0] rfl)
  · skip
    refine lv_aload_n hx hb dX9_slides_19 rfl (lv_at hl 0 rfl) ?_
    refine lv_iconst (v := 1) hx hb dX9_slides_20 (by decide +kernel) ?_
    refine k_Vi ⟨hx, hb, hml, hown, hts⟩ (c_X9_valveAt l D cI cJ cO h r (upd (upd M 21 0) 22 0) L a6 1 (vp_in_iff.mpr (by decide +kernel))) (ci := 9) (q0 := 0) rfl rfl (cwV 1 hts gX9_slides_X9_valveAt rfl rfl rfl (by decide +kernel) ⟨Nat.le_of_ble_eq_true rfl, Nat.le_of_ble_eq_true rfl⟩) hK hN hP hD hS hA [0, 1] rfl rfl rfl (ws' := [(h, oX9 r (upd (upd M 21 0) 22 0) L), ((r 6), .inl (cI, 2, .inl a6))]) rfl rfl hl.1 rfl (Nat.le_of_ble_eq_true rfl) dX9_slides_21 ⟨Nat.le_refl _, Nat.le_refl _⟩ (fun H locs hP hD hS => ?_)
    refine lv_iconst (v := 1) hx hb dX9_slides_24 (by decide +kernel) ?_
    refine lv_icmp_ne (tgt := 39) hx hb dX9_slides_25 (by decide) (fun c_23 => ?_) (fun c_23 => ?_)
    · skip
      refine lv_aload_n hx hb dX9_slides_39 rfl (lv_at hl 0 rfl) ?_
      refine k_get hx hb hts hi9 hown hK hP 0 rfl rfl 16 (by decide) hf142 (.int (M 16)) rfl dX9_slides_40 ?_
      refine lv_if_le (tgt := 59) hx hb dX9_slides_43 (by decide) (fun c_24 => ?_) (fun c_24 => ?_)
      · skip
        have hsp : sp_X9_slides M L a6 set isMuted = (upd (upd M 21 0) 22 0) := by simp only [sp_X9_slides, if_pos c_1, if_neg c_23, if_pos c_24]
        exact hret _ _ _ _ (by rw [hsp]; exact hP) hS dX9_slides_59
      · skip
        refine lv_aload_n hx hb dX9_slides_46 rfl (lv_at hl 0 rfl) ?_
        refine lv_dup hx hb dX9_slides_47 rfl ?_
        refine k_get hx hb hts hi9 hown hK hP 0 rfl rfl 16 (by decide) hf142 (.int (M 16)) rfl dX9_slides_48 ?_
        refine lv_iconst (v := 1) hx hb dX9_slides_51 (by decide +kernel) ?_
        refine lv_isub hx hb dX9_slides_52 ?_
        refine lv_topi (fun z_25 ez_25 => ?_)
        refine k_put hx hb hts hi9 tyX9_ok nmX9 hown hK hP hD hS 0 rfl rfl 16 (by decide) hf142 rfl (.int z_25) rfl rfl (Nat.le_of_ble_eq_true rfl) (ws' := [(h, oX9 r (upd (upd (upd M 16 z_25) 21 0) 22 0) L), ((r 6), .inl (cI, 2, .inl a6))]) rfl dX9_slides_53 (fun H locs hP hD hS => ?_)
        refine lv_goto (tgt := 60) hx hb dX9_slides_56 (by decide) ?_
        refine lv_aload_n hx hb dX9_slides_60 rfl (lv_at hl 0 rfl) ?_
        refine lv_aload_n hx hb dX9_slides_61 rfl (lv_at hl 0 rfl) ?_
        refine k_get hx hb hts hi9 hown hK hP 0 rfl rfl 15 (by decide) hf130 (.int (M 15)) rfl dX9_slides_62 ?_
        refine lv_aload_n hx hb dX9_slides_65 rfl (lv_at hl 0 rfl) ?_
        refine k_get hx hb hts hi9 hown hK hP 0 rfl rfl 4 (by decide) hf22 (.int (M 4)) rfl dX9_slides_66 ?_
        have J_27 : ∀ z_26 : Int32, z_26 = (if (M 4) ≤ (M 15) then 0 else (if ((set >>> (4 &&& 31)) &&& 3) = 3 then 0 else (if isMuted = 0 then 1 else 0))) → ∀ (H : Heap) (locs : List Loc), va_P D vwCl [(h, oX9 r (upd (upd (upd M 16 z_25) 21 0) 22 0) L), ((r 6), .inl (cI, 2, .inl a6))] H → va_D A [(h, oX9 r (upd (upd (upd M 16 z_25) 21 0) 22 0) L), ((r 6), .inl (cI, 2, .inl a6))] → va_S A s.heap H locs → ∀ ls : Array Slot, lv_has ls 3 [(0, .ref h)] → W p l e (RM 1) s m ([.ref h, .int set, .int isMuted] : List Value).toArray below meth c H locs 0 0 Q (F0 m 90 ls [.int z_26, .ref h]) := by
          intro z_26 ez_26 H locs hP hD hS ls hl
          refine k_put hx hb hts hi9 tyX9_ok nmX9 hown hK hP hD hS 0 rfl rfl 21 (by decide) hf136 rfl (.int z_26) rfl rfl (Nat.le_of_ble_eq_true rfl) (ws' := [(h, oX9 r (upd (upd (upd M 16 z_25) 21 z_26) 22 0) L), ((r 6), .inl (cI, 2, .inl a6))]) rfl dX9_slides_90 (fun H locs hP hD hS => ?_)
          refine lv_aload_n hx hb dX9_slides_93 rfl (lv_at hl 0 rfl) ?_
          refine lv_aload_n hx hb dX9_slides_94 rfl (lv_at hl 0 rfl) ?_
          refine k_get hx hb hts hi9 hown hK hP 0 rfl rfl 15 (by decide) hf130 (.int (M 15)) rfl dX9_slides_95 ?_
          refine lv_iconst (v := 1) hx hb dX9_slides_98 (by decide +kernel) ?_
          refine lv_iadd hx hb dX9_slides_99 ?_
          refine lv_iconst (v := 2) hx hb dX9_slides_100 (by decide +kernel) ?_
          refine lv_aload_n hx hb dX9_slides_101 rfl (lv_at hl 0 rfl) ?_
          refine k_get hx hb hts hi9 hown hK hP 0 rfl rfl 4 (by decide) hf22 (.int (M 4)) rfl dX9_slides_102 ?_
          refine lv_imul hx hb dX9_slides_105 ?_
          have J_29 : ∀ z_28 : Int32, z_28 = (if ((M 15) + 1) = (2 * (M 4)) then 0 else ((M 15) + 1)) → ∀ (H : Heap) (locs : List Loc), va_P D vwCl [(h, oX9 r (upd (upd (upd M 16 z_25) 21 z_26) 22 0) L), ((r 6), .inl (cI, 2, .inl a6))] H → va_D A [(h, oX9 r (upd (upd (upd M 16 z_25) 21 z_26) 22 0) L), ((r 6), .inl (cI, 2, .inl a6))] → va_S A s.heap H locs → ∀ ls : Array Slot, lv_has ls 3 [(0, .ref h)] → W p l e (RM 1) s m ([.ref h, .int set, .int isMuted] : List Value).toArray below meth c H locs 0 0 Q (F0 m 119 ls [.int z_28, .ref h]) := by
            intro z_28 ez_28 H locs hP hD hS ls hl
            refine k_put hx hb hts hi9 tyX9_ok nmX9 hown hK hP hD hS 0 rfl rfl 15 (by decide) hf130 rfl (.int z_28) rfl rfl (Nat.le_of_ble_eq_true rfl) (ws' := [(h, oX9 r (upd (upd (upd (upd M 15 z_28) 16 z_25) 21 z_26) 22 0) L), ((r 6), .inl (cI, 2, .inl a6))]) rfl dX9_slides_119 (fun H locs hP hD hS => ?_)
            refine lv_aload_n hx hb dX9_slides_122 rfl (lv_at hl 0 rfl) ?_
            refine k_get hx hb hts hi9 hown hK hP 0 rfl rfl 15 (by decide) hf130 (.int z_28) rfl dX9_slides_123 ?_
            refine lv_aload_n hx hb dX9_slides_126 rfl (lv_at hl 0 rfl) ?_
            refine k_get hx hb hts hi9 hown hK hP 0 rfl rfl 4 (by decide) hf22 (.int (M 4)) rfl dX9_slides_127 ?_
            have J_31 : ∀ z_30 : Nat → Int32, z_30 = (if z_28 = (M 4) then (if (M 7) = 2 then (upd (upd (upd (upd (upd M 7 4) 15 z_28) 16 z_25) 21 z_26) 22 0) else (upd (upd (upd (upd M 15 z_28) 16 z_25) 21 z_26) 22 0)) else (upd (upd (upd (upd M 15 z_28) 16 z_25) 21 z_26) 22 0)) → ∀ (H : Heap) (locs : List Loc), va_P D vwCl [(h, oX9 r z_30 L), ((r 6), .inl (cI, 2, .inl a6))] H → va_D A [(h, oX9 r z_30 L), ((r 6), .inl (cI, 2, .inl a6))] → va_S A s.heap H locs → ∀ ls : Array Slot, lv_has ls 3 [(0, .ref h)] → W p l e (RM 1) s m ([.ref h, .int set, .int isMuted] : List Value).toArray below meth c H locs 0 0 Q (F0 m 146 ls []) := by
              intro z_30 ez_30 H locs hP hD hS ls hl
              refine lv_aload_n hx hb dX9_slides_146 rfl (lv_at hl 0 rfl) ?_
              refine k_get hx hb hts hi9 hown hK hP 0 rfl rfl 15 (by decide) hf130 (.int (z_30 15)) rfl dX9_slides_147 ?_
              have J_33 : ∀ z_32 : Nat → Int32, z_32 = (if (z_30 15) = 0 then (let z_32 : Int32 := (if (z_30 7) = 4 then 1 else (if (z_30 7) = 3 then 1 else (z_30 7))); (upd (upd (upd z_30 7 z_32) 16 0) 22 1)) else z_30) → ∀ (H : Heap) (locs : List Loc), va_P D vwCl [(h, oX9 r z_32 L), ((r 6), .inl (cI, 2, .inl a6))] H → va_D A [(h, oX9 r z_32 L), ((r 6), .inl (cI, 2, .inl a6))] → va_S A s.heap H locs → ∀ ls : Array Slot, lv_has ls 3 [] → W p l e (RM 1) s m ([.ref h, .int set, .int isMuted] : List Value).toArray below meth c H locs 0 0 Q (F0 m 191 ls []) := by
                intro z_32 ez_32 H locs hP hD hS ls hl
                have hsp : sp_X9_slides M L a6 set isMuted = z_32 := sq_X9_slides_2 M L a6 set isMuted z_25 z_26 z_28 z_30 z_32 ez_25 ez_26 ez_28 ez_30 ez_32 c_1 c_23 c_24
                exact hret _ _ _ _ (by rw [hsp]; exact hP) hS dX9_slides_191
              refine lv_if_ne (tgt := 191) hx hb dX9_slides_150 (by decide) (fun c_34 => ?_) (fun c_34 => ?_)
              · skip
                exact J_33 z_30 (by first | (simp only [if_neg c_34]; done) | rfl) _ _ hP hD hS _ (lv_sub hl [] rfl)
              · skip
                refine lv_aload_n hx hb dX9_slides_153 rfl (lv_at hl 0 rfl) ?_
                refine lv_iconst (v := 0) hx hb dX9_slides_154 (by decide +kernel) ?_
                refine k_put hx hb hts hi9 tyX9_ok nmX9 hown hK hP hD hS 0 rfl rfl 16 (by decide) hf142 rfl (.int 0) rfl rfl (Nat.le_of_ble_eq_true rfl) (ws' := [(h, oX9 r (upd z_30 16 0) L), ((r 6), .inl (cI, 2, .inl a6))]) rfl dX9_slides_155 (fun H locs hP hD hS => ?_)
                refine lv_aload_n hx hb dX9_slides_158 rfl (lv_at hl 0 rfl) ?_
                refine lv_iconst (v := 1) hx hb dX9_slides_159 (by decide +kernel) ?_
                refine k_put hx hb hts hi9 tyX9_ok nmX9 hown hK hP hD hS 0 rfl rfl 22 (by decide) hf139 rfl (.int 1) rfl rfl (Nat.le_of_ble_eq_true rfl) (ws' := [(h, oX9 r (upd (upd z_30 16 0) 22 1) L), ((r 6), .inl (cI, 2, .inl a6))]) rfl dX9_slides_160 (fun H locs hP hD hS => ?_)
                refine lv_aload_n hx hb dX9_slides_163 rfl (lv_at hl 0 rfl) ?_
                refine lv_aload_n hx hb dX9_slides_164 rfl (lv_at hl 0 rfl) ?_
                refine k_get hx hb hts hi9 hown hK hP 0 rfl rfl 7 (by decide) hf32 (.int (z_30 7)) rfl dX9_slides_165 ?_
                refine lv_iconst (v := 4) hx hb dX9_slides_168 (by decide +kernel) ?_
                have J_36 : ∀ z_35 : Int32, z_35 = (if (z_30 7) = 4 then 1 else (if (z_30 7) = 3 then 1 else (z_30 7))) → ∀ (H : Heap) (locs : List Loc), va_P D vwCl [(h, oX9 r (upd (upd z_30 16 0) 22 1) L), ((r 6), .inl (cI, 2, .inl a6))] H → va_D A [(h, oX9 r (upd (upd z_30 16 0) 22 1) L), ((r 6), .inl (cI, 2, .inl a6))] → va_S A s.heap H locs → ∀ ls : Array Slot, lv_has ls 3 [] → W p l e (RM 1) s m ([.ref h, .int set, .int isMuted] : List Value).toArray below meth c H locs 0 0 Q (F0 m 188 ls [.int z_35, .ref h]) := by
                  intro z_35 ez_35 H locs hP hD hS ls hl
                  refine k_put hx hb hts hi9 tyX9_ok nmX9 hown hK hP hD hS 0 rfl rfl 7 (by decide) hf32 rfl (.int z_35) rfl rfl (Nat.le_of_ble_eq_true rfl) (ws' := [(h, oX9 r (upd (upd (upd z_30 7 z_35) 16 0) 22 1) L), ((r 6), .inl (cI, 2, .inl a6))]) rfl dX9_slides_188 (fun H locs hP hD hS => ?_)
                  exact J_33 (upd (upd (upd z_30 7 z_35) 16 0) 22 1) (by subst ez_35; first | (simp only [if_pos c_34]; done) | rfl) _ _ hP hD hS _ (lv_sub hl [] rfl)
                refine lv_icmp_eq (tgt := 180) hx hb dX9_slides_169 (by decide) (fun c_37 => ?_) (fun c_37 => ?_)
                · skip
                  refine lv_iconst (v := 1) hx hb dX9_slides_180 (by decide +kernel) ?_
                  refine lv_goto (tgt := 188) hx hb dX9_slides_181 (by decide) ?_
                  exact J_36 1 (by first | (simp only [if_pos c_37]; done) | rfl) _ _ hP hD hS _ (lv_sub hl [] rfl)
                · skip
                  refine lv_aload_n hx hb dX9_slides_172 rfl (lv_at hl 0 rfl) ?_
                  refine k_get hx hb hts hi9 hown hK hP 0 rfl rfl 7 (by decide) hf32 (.int (z_30 7)) rfl dX9_slides_173 ?_
                  refine lv_iconst (v := 3) hx hb dX9_slides_176 (by decide +kernel) ?_
                  refine lv_icmp_ne (tgt := 184) hx hb dX9_slides_177 (by decide) (fun c_38 => ?_) (fun c_38 => ?_)
                  · skip
                    refine lv_aload_n hx hb dX9_slides_184 rfl (lv_at hl 0 rfl) ?_
                    refine k_get hx hb hts hi9 hown hK hP 0 rfl rfl 7 (by decide) hf32 (.int (z_30 7)) rfl dX9_slides_185 ?_
                    exact J_36 (z_30 7) (by first | (simp only [if_neg c_37, if_neg c_38]; done) | rfl) _ _ hP hD hS _ (lv_sub hl [] rfl)
                  · skip
                    refine lv_iconst (v := 1) hx hb dX9_slides_180 (by decide +kernel) ?_
                    refine lv_goto (tgt := 188) hx hb dX9_slides_181 (by decide) ?_
                    exact J_36 1 (by first | (simp only [if_neg c_37, if_pos c_38]; done) | rfl) _ _ hP hD hS _ (lv_sub hl [] rfl)
            refine lv_icmp_ne (tgt := 146) hx hb dX9_slides_130 (by decide) (fun c_39 => ?_) (fun c_39 => ?_)
            · skip
              exact J_31 (upd (upd (upd (upd M 15 z_28) 16 z_25) 21 z_26) 22 0) (by first | (simp only [if_neg c_39]; done) | rfl) _ _ hP hD hS _ (lv_sub hl [0] rfl)
            · skip
              refine lv_aload_n hx hb dX9_slides_133 rfl (lv_at hl 0 rfl) ?_
              refine k_get hx hb hts hi9 hown hK hP 0 rfl rfl 7 (by decide) hf32 (.int (M 7)) rfl dX9_slides_134 ?_
              refine lv_iconst (v := 2) hx hb dX9_slides_137 (by decide +kernel) ?_
              refine lv_icmp_ne (tgt := 146) hx hb dX9_slides_138 (by decide) (fun c_40 => ?_) (fun c_40 => ?_)
              · skip
                exact J_31 (upd (upd (upd (upd M 15 z_28) 16 z_25) 21 z_26) 22 0) (by first | (simp only [if_pos c_39, if_neg c_40]; done) | rfl) _ _ hP hD hS _ (lv_sub hl [0] rfl)
              · skip
                refine lv_aload_n hx hb dX9_slides_141 rfl (lv_at hl 0 rfl) ?_
                refine lv_iconst (v := 4) hx hb dX9_slides_142 (by decide +kernel) ?_
                refine k_put hx hb hts hi9 tyX9_ok nmX9 hown hK hP hD hS 0 rfl rfl 7 (by decide) hf32 rfl (.int 4) rfl rfl (Nat.le_of_ble_eq_true rfl) (ws' := [(h, oX9 r (upd (upd (upd (upd (upd M 7 4) 15 z_28) 16 z_25) 21 z_26) 22 0) L), ((r 6), .inl (cI, 2, .inl a6))]) rfl dX9_slides_143 (fun H locs hP hD hS => ?_)
                exact J_31 (upd (upd (upd (upd (upd M 7 4) 15 z_28) 16 z_25) 21 z_26) 22 0) (by first | (simp only [if_pos c_39, if_pos c_40]; done) | rfl) _ _ hP hD hS _ (lv_sub hl [0] rfl)
          refine lv_icmp_ne (tgt := 113) hx hb dX9_slides_106 (by decide) (fun c_41 => ?_) (fun c_41 => ?_)
          · skip
            refine lv_aload_n hx hb dX9_slides_113 rfl (lv_at hl 0 rfl) ?_
            refine k_get hx hb hts hi9 hown hK hP 0 rfl rfl 15 (by decide) hf130 (.int (M 15)) rfl dX9_slides_114 ?_
            refine lv_iconst (v := 1) hx hb dX9_slides_117 (by decide +kernel) ?_
            refine lv_iadd hx hb dX9_slides_118 ?_
            exact J_29 ((M 15) + 1) (by first | (simp only [if_neg c_41]; done) | rfl) _ _ hP hD hS _ (lv_sub hl [0] rfl)
          · skip
            refine lv_iconst (v := 0) hx hb dX9_slides_109 (by decide +kernel) ?_
            refine lv_goto (tgt := 119) hx hb dX9_slides_110 (by decide) ?_
            exact J_29 0 (by first | (simp only [if_pos c_41]; done) | rfl) _ _ hP hD hS _ (lv_sub hl [0] rfl)
        refine lv_icmp_ge (tgt := 89) hx hb dX9_slides_69 (by decide) (fun c_42 => ?_) (fun c_42 => ?_)
        · skip
          refine lv_iconst (v := 0) hx hb dX9_slides_89 (by decide +kernel) ?_
          exact J_27 0 (by first | (simp only [if_pos c_42]; done) | rfl) _ _ hP hD hS _ (lv_sub hl [0] rfl)
        · skip
          refine lv_iload_n hx hb dX9_slides_72 rfl (lv_at hl 1 rfl) ?_
          refine lv_iconst (v := 4) hx hb dX9_slides_73 (by decide +kernel) ?_
          refine lv_ishr hx hb dX9_slides_74 ?_
          refine lv_iconst (v := 3) hx hb dX9_slides_75 (by decide +kernel) ?_
          refine lv_iand hx hb dX9_slides_76 ?_
          refine lv_iconst (v := 3) hx hb dX9_slides_77 (by decide +kernel) ?_
          refine lv_icmp_eq (tgt := 89) hx hb dX9_slides_78 (by decide) (fun c_43 => ?_) (fun c_43 => ?_)
          · skip
            refine lv_iconst (v := 0) hx hb dX9_slides_89 (by decide +kernel) ?_
            exact J_27 0 (by first | (simp only [if_neg c_42, if_pos c_43]; done) | rfl) _ _ hP hD hS _ (lv_sub hl [0] rfl)
          · skip
            refine lv_iload_n hx hb dX9_slides_81 rfl (lv_at hl 2 rfl) ?_
            refine lv_if_ne (tgt := 89) hx hb dX9_slides_82 (by decide) (fun c_44 => ?_) (fun c_44 => ?_)
            · skip
              refine lv_iconst (v := 0) hx hb dX9_slides_89 (by decide +kernel) ?_
              exact J_27 0 (by first | (simp only [if_neg c_42, if_neg c_43, if_neg c_44]; done) | rfl) _ _ hP hD hS _ (lv_sub hl [0] rfl)
            · skip
              refine lv_iconst (v := 1) hx hb dX9_slides_85 (by decide +kernel) ?_
              refine lv_goto (tgt := 90) hx hb dX9_slides_86 (by decide) ?_
              exact J_27 1 (by first | (simp only [if_neg c_42, if_neg c_43, if_pos c_44]; done) | rfl) _ _ hP hD hS _ (lv_sub hl [0] rfl)
    · skip
      refine lv_aload_n hx hb dX9_slides_28 rfl (lv_at hl 0 rfl) ?_
      refine lv_aload_n hx hb dX9_slides_29 rfl (lv_at hl 0 rfl) ?_
      refine k_get hx hb hts hi9 hown hK hP 0 rfl rfl 3 (by decide) hf19 (.int (M 3)) rfl dX9_slides_30 ?_
      refine k_put hx hb hts hi9 tyX9_ok nmX9 hown hK hP hD hS 0 rfl rfl 16 (by decide) hf142 rfl (.int (M 3)) rfl rfl (Nat.le_of_ble_eq_true rfl) (ws' := [(h, oX9 r (upd (upd (upd M 16 (M 3)) 21 0) 22 0) L), ((r 6), .inl (cI, 2, .inl a6))]) rfl dX9_slides_33 (fun H locs hP hD hS => ?_)
      refine lv_goto (tgt := 60) hx hb dX9_slides_36 (by decide) ?_
      refine lv_aload_n hx hb dX9_slides_60 rfl (lv_at hl 0 rfl) ?_
      refine lv_aload_n hx hb dX9_slides_61 rfl (lv_at hl 0 rfl) ?_
      refine k_get hx hb hts hi9 hown hK hP 0 rfl rfl 15 (by decide) hf130 (.int (M 15)) rfl dX9_slides_62 ?_
      refine lv_aload_n hx hb dX9_slides_65 rfl (lv_at hl 0 rfl) ?_
      refine k_get hx hb hts hi9 hown hK hP 0 rfl rfl 4 (by decide) hf22 (.int (M 4)) rfl dX9_slides_66 ?_
      have J_46 : ∀ z_45 : Int32, z_45 = (if (M 4) ≤ (M 15) then 0 else (if ((set >>> (4 &&& 31)) &&& 3) = 3 then 0 else (if isMuted = 0 then 1 else 0))) → ∀ (H : Heap) (locs : List Loc), va_P D vwCl [(h, oX9 r (upd (upd (upd M 16 (M 3)) 21 0) 22 0) L), ((r 6), .inl (cI, 2, .inl a6))] H → va_D A [(h, oX9 r (upd (upd (upd M 16 (M 3)) 21 0) 22 0) L), ((r 6), .inl (cI, 2, .inl a6))] → va_S A s.heap H locs → ∀ ls : Array Slot, lv_has ls 3 [(0, .ref h)] → W p l e (RM 1) s m ([.ref h, .int set, .int isMuted] : List Value).toArray below meth c H locs 0 0 Q (F0 m 90 ls [.int z_45, .ref h]) := by
        intro z_45 ez_45 H locs hP hD hS ls hl
        refine k_put hx hb hts hi9 tyX9_ok nmX9 hown hK hP hD hS 0 rfl rfl 21 (by decide) hf136 rfl (.int z_45) rfl rfl (Nat.le_of_ble_eq_true rfl) (ws' := [(h, oX9 r (upd (upd (upd M 16 (M 3)) 21 z_45) 22 0) L), ((r 6), .inl (cI, 2, .inl a6))]) rfl dX9_slides_90 (fun H locs hP hD hS => ?_)
        refine lv_aload_n hx hb dX9_slides_93 rfl (lv_at hl 0 rfl) ?_
        refine lv_aload_n hx hb dX9_slides_94 rfl (lv_at hl 0 rfl) ?_
        refine k_get hx hb hts hi9 hown hK hP 0 rfl rfl 15 (by decide) hf130 (.int (M 15)) rfl dX9_slides_95 ?_
        refine lv_iconst (v := 1) hx hb dX9_slides_98 (by decide +kernel) ?_
        refine lv_iadd hx hb dX9_slides_99 ?_
        refine lv_iconst (v := 2) hx hb dX9_slides_100 (by decide +kernel) ?_
        refine lv_aload_n hx hb dX9_slides_101 rfl (lv_at hl 0 rfl) ?_
        refine k_get hx hb hts hi9 hown hK hP 0 rfl rfl 4 (by decide) hf22 (.int (M 4)) rfl dX9_slides_102 ?_
        refine lv_imul hx hb dX9_slides_105 ?_
        have J_48 : ∀ z_47 : Int32, z_47 = (if ((M 15) + 1) = (2 * (M 4)) then 0 else ((M 15) + 1)) → ∀ (H : Heap) (locs : List Loc), va_P D vwCl [(h, oX9 r (upd (upd (upd M 16 (M 3)) 21 z_45) 22 0) L), ((r 6), .inl (cI, 2, .inl a6))] H → va_D A [(h, oX9 r (upd (upd (upd M 16 (M 3)) 21 z_45) 22 0) L), ((r 6), .inl (cI, 2, .inl a6))] → va_S A s.heap H locs → ∀ ls : Array Slot, lv_has ls 3 [(0, .ref h)] → W p l e (RM 1) s m ([.ref h, .int set, .int isMuted] : List Value).toArray below meth c H locs 0 0 Q (F0 m 119 ls [.int z_47, .ref h]) := by
          intro z_47 ez_47 H locs hP hD hS ls hl
          refine k_put hx hb hts hi9 tyX9_ok nmX9 hown hK hP hD hS 0 rfl rfl 15 (by decide) hf130 rfl (.int z_47) rfl rfl (Nat.le_of_ble_eq_true rfl) (ws' := [(h, oX9 r (upd (upd (upd (upd M 15 z_47) 16 (M 3)) 21 z_45) 22 0) L), ((r 6), .inl (cI, 2, .inl a6))]) rfl dX9_slides_119 (fun H locs hP hD hS => ?_)
          refine lv_aload_n hx hb dX9_slides_122 rfl (lv_at hl 0 rfl) ?_
          refine k_get hx hb hts hi9 hown hK hP 0 rfl rfl 15 (by decide) hf130 (.int z_47) rfl dX9_slides_123 ?_
          refine lv_aload_n hx hb dX9_slides_126 rfl (lv_at hl 0 rfl) ?_
          refine k_get hx hb hts hi9 hown hK hP 0 rfl rfl 4 (by decide) hf22 (.int (M 4)) rfl dX9_slides_127 ?_
          have J_50 : ∀ z_49 : Nat → Int32, z_49 = (if z_47 = (M 4) then (if (M 7) = 2 then (upd (upd (upd (upd (upd M 7 4) 15 z_47) 16 (M 3)) 21 z_45) 22 0) else (upd (upd (upd (upd M 15 z_47) 16 (M 3)) 21 z_45) 22 0)) else (upd (upd (upd (upd M 15 z_47) 16 (M 3)) 21 z_45) 22 0)) → ∀ (H : Heap) (locs : List Loc), va_P D vwCl [(h, oX9 r z_49 L), ((r 6), .inl (cI, 2, .inl a6))] H → va_D A [(h, oX9 r z_49 L), ((r 6), .inl (cI, 2, .inl a6))] → va_S A s.heap H locs → ∀ ls : Array Slot, lv_has ls 3 [(0, .ref h)] → W p l e (RM 1) s m ([.ref h, .int set, .int isMuted] : List Value).toArray below meth c H locs 0 0 Q (F0 m 146 ls []) := by
            intro z_49 ez_49 H locs hP hD hS ls hl
            refine lv_aload_n hx hb dX9_slides_146 rfl (lv_at hl 0 rfl) ?_
            refine k_get hx hb hts hi9 hown hK hP 0 rfl rfl 15 (by decide) hf130 (.int (z_49 15)) rfl dX9_slides_147 ?_
            have J_52 : ∀ z_51 : Nat → Int32, z_51 = (if (z_49 15) = 0 then (let z_51 : Int32 := (if (z_49 7) = 4 then 1 else (if (z_49 7) = 3 then 1 else (z_49 7))); (upd (upd (upd z_49 7 z_51) 16 0) 22 1)) else z_49) → ∀ (H : Heap) (locs : List Loc), va_P D vwCl [(h, oX9 r z_51 L), ((r 6), .inl (cI, 2, .inl a6))] H → va_D A [(h, oX9 r z_51 L), ((r 6), .inl (cI, 2, .inl a6))] → va_S A s.heap H locs → ∀ ls : Array Slot, lv_has ls 3 [] → W p l e (RM 1) s m ([.ref h, .int set, .int isMuted] : List Value).toArray below meth c H locs 0 0 Q (F0 m 191 ls []) := by
              intro z_51 ez_51 H locs hP hD hS ls hl
              have hsp : sp_X9_slides M L a6 set isMuted = z_51 := sq_X9_slides_3 M L a6 set isMuted z_45 z_47 z_49 z_51 ez_45 ez_47 ez_49 ez_51 c_1 c_23
              exact hret _ _ _ _ (by rw [hsp]; exact hP) hS dX9_slides_191
            refine lv_if_ne (tgt := 191) hx hb dX9_slides_150 (by decide) (fun c_53 => ?_) (fun c_53 => ?_)
            · skip
              exact J_52 z_49 (by first | (simp only [if_neg c_53]; done) | rfl) _ _ hP hD hS _ (lv_sub hl [] rfl)
            · skip
              refine lv_aload_n hx hb dX9_slides_153 rfl (lv_at hl 0 rfl) ?_
              refine lv_iconst (v := 0) hx hb dX9_slides_154 (by decide +kernel) ?_
              refine k_put hx hb hts hi9 tyX9_ok nmX9 hown hK hP hD hS 0 rfl rfl 16 (by decide) hf142 rfl (.int 0) rfl rfl (Nat.le_of_ble_eq_true rfl) (ws' := [(h, oX9 r (upd z_49 16 0) L), ((r 6), .inl (cI, 2, .inl a6))]) rfl dX9_slides_155 (fun H locs hP hD hS => ?_)
              refine lv_aload_n hx hb dX9_slides_158 rfl (lv_at hl 0 rfl) ?_
              refine lv_iconst (v := 1) hx hb dX9_slides_159 (by decide +kernel) ?_
              refine k_put hx hb hts hi9 tyX9_ok nmX9 hown hK hP hD hS 0 rfl rfl 22 (by decide) hf139 rfl (.int 1) rfl rfl (Nat.le_of_ble_eq_true rfl) (ws' := [(h, oX9 r (upd (upd z_49 16 0) 22 1) L), ((r 6), .inl (cI, 2, .inl a6))]) rfl dX9_slides_160 (fun H locs hP hD hS => ?_)
              refine lv_aload_n hx hb dX9_slides_163 rfl (lv_at hl 0 rfl) ?_
              refine lv_aload_n hx hb dX9_slides_164 rfl (lv_at hl 0 rfl) ?_
              refine k_get hx hb hts hi9 hown hK hP 0 rfl rfl 7 (by decide) hf32 (.int (z_49 7)) rfl dX9_slides_165 ?_
              refine lv_iconst (v := 4) hx hb dX9_slides_168 (by decide +kernel) ?_
              have J_55 : ∀ z_54 : Int32, z_54 = (if (z_49 7) = 4 then 1 else (if (z_49 7) = 3 then 1 else (z_49 7))) → ∀ (H : Heap) (locs : List Loc), va_P D vwCl [(h, oX9 r (upd (upd z_49 16 0) 22 1) L), ((r 6), .inl (cI, 2, .inl a6))] H → va_D A [(h, oX9 r (upd (upd z_49 16 0) 22 1) L), ((r 6), .inl (cI, 2, .inl a6))] → va_S A s.heap H locs → ∀ ls : Array Slot, lv_has ls 3 [] → W p l e (RM 1) s m ([.ref h, .int set, .int isMuted] : List Value).toArray below meth c H locs 0 0 Q (F0 m 188 ls [.int z_54, .ref h]) := by
                intro z_54 ez_54 H locs hP hD hS ls hl
                refine k_put hx hb hts hi9 tyX9_ok nmX9 hown hK hP hD hS 0 rfl rfl 7 (by decide) hf32 rfl (.int z_54) rfl rfl (Nat.le_of_ble_eq_true rfl) (ws' := [(h, oX9 r (upd (upd (upd z_49 7 z_54) 16 0) 22 1) L), ((r 6), .inl (cI, 2, .inl a6))]) rfl dX9_slides_188 (fun H locs hP hD hS => ?_)
                exact J_52 (upd (upd (upd z_49 7 z_54) 16 0) 22 1) (by subst ez_54; first | (simp only [if_pos c_53]; done) | rfl) _ _ hP hD hS _ (lv_sub hl [] rfl)
              refine lv_icmp_eq (tgt := 180) hx hb dX9_slides_169 (by decide) (fun c_56 => ?_) (fun c_56 => ?_)
              · skip
                refine lv_iconst (v := 1) hx hb dX9_slides_180 (by decide +kernel) ?_
                refine lv_goto (tgt := 188) hx hb dX9_slides_181 (by decide) ?_
                exact J_55 1 (by first | (simp only [if_pos c_56]; done) | rfl) _ _ hP hD hS _ (lv_sub hl [] rfl)
              · skip
                refine lv_aload_n hx hb dX9_slides_172 rfl (lv_at hl 0 rfl) ?_
                refine k_get hx hb hts hi9 hown hK hP 0 rfl rfl 7 (by decide) hf32 (.int (z_49 7)) rfl dX9_slides_173 ?_
                refine lv_iconst (v := 3) hx hb dX9_slides_176 (by decide +kernel) ?_
                refine lv_icmp_ne (tgt := 184) hx hb dX9_slides_177 (by decide) (fun c_57 => ?_) (fun c_57 => ?_)
                · skip
                  refine lv_aload_n hx hb dX9_slides_184 rfl (lv_at hl 0 rfl) ?_
                  refine k_get hx hb hts hi9 hown hK hP 0 rfl rfl 7 (by decide) hf32 (.int (z_49 7)) rfl dX9_slides_185 ?_
                  exact J_55 (z_49 7) (by first | (simp only [if_neg c_56, if_neg c_57]; done) | rfl) _ _ hP hD hS _ (lv_sub hl [] rfl)
                · skip
                  refine lv_iconst (v := 1) hx hb dX9_slides_180 (by decide +kernel) ?_
                  refine lv_goto (tgt := 188) hx hb dX9_slides_181 (by decide) ?_
                  exact J_55 1 (by first | (simp only [if_neg c_56, if_pos c_57]; done) | rfl) _ _ hP hD hS _ (lv_sub hl [] rfl)
          refine lv_icmp_ne (tgt := 146) hx hb dX9_slides_130 (by decide) (fun c_58 => ?_) (fun c_58 => ?_)
          · skip
            exact J_50 (upd (upd (upd (upd M 15 z_47) 16 (M 3)) 21 z_45) 22 0) (by first | (simp only [if_neg c_58]; done) | rfl) _ _ hP hD hS _ (lv_sub hl [0] rfl)
          · skip
            refine lv_aload_n hx hb dX9_slides_133 rfl (lv_at hl 0 rfl) ?_
            refine k_get hx hb hts hi9 hown hK hP 0 rfl rfl 7 (by decide) hf32 (.int (M 7)) rfl dX9_slides_134 ?_
            refine lv_iconst (v := 2) hx hb dX9_slides_137 (by decide +kernel) ?_
            refine lv_icmp_ne (tgt := 146) hx hb dX9_slides_138 (by decide) (fun c_59 => ?_) (fun c_59 => ?_)
            · skip
              exact J_50 (upd (upd (upd (upd M 15 z_47) 16 (M 3)) 21 z_45) 22 0) (by first | (simp only [if_pos c_58, if_neg c_59]; done) | rfl) _ _ hP hD hS _ (lv_sub hl [0] rfl)
            · skip
              refine lv_aload_n hx hb dX9_slides_141 rfl (lv_at hl 0 rfl) ?_
              refine lv_iconst (v := 4) hx hb dX9_slides_142 (by decide +kernel) ?_
              refine k_put hx hb hts hi9 tyX9_ok nmX9 hown hK hP hD hS 0 rfl rfl 7 (by decide) hf32 rfl (.int 4) rfl rfl (Nat.le_of_ble_eq_true rfl) (ws' := [(h, oX9 r (upd (upd (upd (upd (upd M 7 4) 15 z_47) 16 (M 3)) 21 z_45) 22 0) L), ((r 6), .inl (cI, 2, .inl a6))]) rfl dX9_slides_143 (fun H locs hP hD hS => ?_)
              exact J_50 (upd (upd (upd (upd (upd M 7 4) 15 z_47) 16 (M 3)) 21 z_45) 22 0) (by first | (simp only [if_pos c_58, if_pos c_59]; done) | rfl) _ _ hP hD hS _ (lv_sub hl [0] rfl)
        refine lv_icmp_ne (tgt := 113) hx hb dX9_slides_106 (by decide) (fun c_60 => ?_) (fun c_60 => ?_)
        · skip
          refine lv_aload_n hx hb dX9_slides_113 rfl (lv_at hl 0 rfl) ?_
          refine k_get hx hb hts hi9 hown hK hP 0 rfl rfl 15 (by decide) hf130 (.int (M 15)) rfl dX9_slides_114 ?_
          refine lv_iconst (v := 1) hx hb dX9_slides_117 (by decide +kernel) ?_
          refine lv_iadd hx hb dX9_slides_118 ?_
          exact J_48 ((M 15) + 1) (by first | (simp only [if_neg c_60]; done) | rfl) _ _ hP hD hS _ (lv_sub hl [0] rfl)
        · skip
          refine lv_iconst (v := 0) hx hb dX9_slides_109 (by decide +kernel) ?_
          refine lv_goto (tgt := 119) hx hb dX9_slides_110 (by decide) ?_
          exact J_48 0 (by first | (simp only [if_pos c_60]; done) | rfl) _ _ hP hD hS _ (lv_sub hl [0] rfl)
      refine lv_icmp_ge (tgt := 89) hx hb dX9_slides_69 (by decide) (fun c_61 => ?_) (fun c_61 => ?_)
      · skip
        refine lv_iconst (v := 0) hx hb dX9_slides_89 (by decide +kernel) ?_
        exact J_46 0 (by first | (simp only [if_pos c_61]; done) | rfl) _ _ hP hD hS _ (lv_sub hl [0] rfl)
      · skip
        refine lv_iload_n hx hb dX9_slides_72 rfl (lv_at hl 1 rfl) ?_
        refine lv_iconst (v := 4) hx hb dX9_slides_73 (by decide +kernel) ?_
        refine lv_ishr hx hb dX9_slides_74 ?_
        refine lv_iconst (v := 3) hx hb dX9_slides_75 (by decide +kernel) ?_
        refine lv_iand hx hb dX9_slides_76 ?_
        refine lv_iconst (v := 3) hx hb dX9_slides_77 (by decide +kernel) ?_
        refine lv_icmp_eq (tgt := 89) hx hb dX9_slides_78 (by decide) (fun c_62 => ?_) (fun c_62 => ?_)
        · skip
          refine lv_iconst (v := 0) hx hb dX9_slides_89 (by decide +kernel) ?_
          exact J_46 0 (by first | (simp only [if_neg c_61, if_pos c_62]; done) | rfl) _ _ hP hD hS _ (lv_sub hl [0] rfl)
        · skip
          refine lv_iload_n hx hb dX9_slides_81 rfl (lv_at hl 2 rfl) ?_
          refine lv_if_ne (tgt := 89) hx hb dX9_slides_82 (by decide) (fun c_63 => ?_) (fun c_63 => ?_)
          · skip
            refine lv_iconst (v := 0) hx hb dX9_slides_89 (by decide +kernel) ?_
            exact J_46 0 (by first | (simp only [if_neg c_61, if_neg c_62, if_neg c_63]; done) | rfl) _ _ hP hD hS _ (lv_sub hl [0] rfl)
          · skip
            refine lv_iconst (v := 1) hx hb dX9_slides_85 (by decide +kernel) ?_
            refine lv_goto (tgt := 90) hx hb dX9_slides_86 (by decide) ?_
            exact J_46 1 (by first | (simp only [if_neg c_61, if_neg c_62, if_pos c_63]; done) | rfl) _ _ hP hD hS _ (lv_sub hl [0] rfl)

def bd_X9_tickBy_8 (M : Nat → Int32) (L : Int64) (a5 : Nat → Int32) (set : Int32) (i_1 : Nat) (x_2 : (Nat → Int32)) : (Nat → Int32) :=
  (let z_3 : Int32 := (if (sp_X9_bit (sp_X9_seen M L a5 set) (2 * (nI i_1))) = (sp_X9_bit (sp_X9_seen M L a5 set) ((2 * (nI i_1)) + 1)) then 0 else (sp_X9_more (x_2 i_1))); (upd x_2 i_1 z_3))
def sp_X9_tickBy (M : Nat → Int32) (L : Int64) (a5 : Nat → Int32) (a6 : Nat → Int32) (a12 : Nat → Int32) (set : Int32) : (Nat → Int32) × (Nat → Int32) :=
  let x_2 : (Nat → Int32) := lp (bd_X9_tickBy_8 M L a5 set) 3 a12
  let z_4 : Int32 := (sp_X9_mutingBy (M 10) (sp_X9_bit (sp_X9_seen M L a5 set) 6) (sp_X9_bit (sp_X9_seen M L a5 set) 7))
  let z_5 : Int32 := (if z_4 = 2 then ((M 11) + 1) else (if z_4 = 3 then ((M 11) + 1) else 0))
  let z_7 : Nat → Int32 := (if z_5 ≤ (M 2) then (upd (upd M 10 z_4) 11 z_5) else (upd (upd M 10 4) 11 0))
  let z_9 : Int32 := (if (z_7 10) = 2 then 1 else (if (z_7 10) = 3 then 1 else 0))
  let z_11 : Int32 := (if (sp_X9_isOn (sp_X9_seen M L a5 set) 0) = 0 then 0 else 1)
  let z_13 : Int32 := (if (sp_X9_isOn (sp_X9_seen M L a5 set) 1) = 0 then 0 else 1)
  let z_15 : Int32 := (if (sp_X9_handsBy z_7 L (z_11 + z_13)) = 2 then (if (z_7 8) = 2 then 0 else 1) else 0)
  let z_17 : Int32 := (if (sp_X9_handsBy z_7 L (z_11 + z_13)) = 1 then (if (z_7 8) = 1 then ((z_7 9) + 1) else 1) else 0)
  let z_19 : Int32 := (sp_X9_handsBy z_7 L (z_11 + z_13))
  let z_20 : Int32 := (if (sp_X9_valveAt (upd (upd z_7 8 z_19) 9 z_17) L a6 0) = (z_7 14) then (if (sp_X9_valveAt (upd (upd z_7 8 z_19) 9 z_17) L a6 1) = (z_7 14) then 0 else (sp_X9_more (z_7 13))) else (sp_X9_more (z_7 13)))
  let z_22 : Int32 := (if (sp_X9_isOn (sp_X9_seen M L a5 set) 2) = 0 then (if z_9 = 0 then 1 else 0) else 0)
  let z_24 : Int32 := (if (z_7 17) = 1 then (if (sp_X9_bit (sp_X9_seen M L a5 set) 8) = 0 then 1 else 0) else 0)
  let M_26 : Nat → Int32 := (upd (upd (upd z_7 8 z_19) 9 z_17) 13 z_20)
  let M_27 : Nat → Int32 := (sp_X9_goesOn M_26 L x_2 z_15 z_22 z_24)
  let z_28 : Int32 := (sp_X9_bit (sp_X9_seen M L a5 set) 8)
  let z_29 : Int32 := (if (M_27 7) = 2 then 1 else (if (M_27 7) = 4 then 1 else 0))
  let M_31 : Nat → Int32 := (sp_X9_slides (upd (upd M_27 14 z_29) 17 z_28) L a6 set z_9)
  (M_31, x_2)
set_option maxRecDepth 100000 in
theorem sq_X9_tickBy_1 (M : Nat → Int32) (L : Int64) (a5 : Nat → Int32) (a6 : Nat → Int32) (a12 : Nat → Int32) (set : Int32) (x_2 : (Nat → Int32)) (z_4 : Int32) (z_5 : Int32) (z_7 : Nat → Int32) (z_9 : Int32) (z_11 : Int32) (z_13 : Int32) (z_15 : Int32) (z_17 : Int32) (z_19 : Int32) (z_20 : Int32) (z_22 : Int32) (z_24 : Int32) (M_26 : Nat → Int32) (M_27 : Nat → Int32) (z_28 : Int32) (z_29 : Int32) (M_31 : Nat → Int32) (ex_2 : x_2 = lp (bd_X9_tickBy_8 M L a5 set) 3 a12) (ez_4 : z_4 = (sp_X9_mutingBy (M 10) (sp_X9_bit (sp_X9_seen M L a5 set) 6) (sp_X9_bit (sp_X9_seen M L a5 set) 7))) (ez_5 : z_5 = (if z_4 = 2 then ((M 11) + 1) else (if z_4 = 3 then ((M 11) + 1) else 0))) (ez_7 : z_7 = (if z_5 ≤ (M 2) then (upd (upd M 10 z_4) 11 z_5) else (upd (upd M 10 4) 11 0))) (ez_9 : z_9 = (if (z_7 10) = 2 then 1 else (if (z_7 10) = 3 then 1 else 0))) (ez_11 : z_11 = (if (sp_X9_isOn (sp_X9_seen M L a5 set) 0) = 0 then 0 else 1)) (ez_13 : z_13 = (if (sp_X9_isOn (sp_X9_seen M L a5 set) 1) = 0 then 0 else 1)) (ez_15 : z_15 = (if (sp_X9_handsBy z_7 L (z_11 + z_13)) = 2 then (if (z_7 8) = 2 then 0 else 1) else 0)) (ez_17 : z_17 = (if (sp_X9_handsBy z_7 L (z_11 + z_13)) = 1 then (if (z_7 8) = 1 then ((z_7 9) + 1) else 1) else 0)) (ez_19 : z_19 = (sp_X9_handsBy z_7 L (z_11 + z_13))) (ez_20 : z_20 = (if (sp_X9_valveAt (upd (upd z_7 8 z_19) 9 z_17) L a6 0) = (z_7 14) then (if (sp_X9_valveAt (upd (upd z_7 8 z_19) 9 z_17) L a6 1) = (z_7 14) then 0 else (sp_X9_more (z_7 13))) else (sp_X9_more (z_7 13)))) (ez_22 : z_22 = (if (sp_X9_isOn (sp_X9_seen M L a5 set) 2) = 0 then (if z_9 = 0 then 1 else 0) else 0)) (ez_24 : z_24 = (if (z_7 17) = 1 then (if (sp_X9_bit (sp_X9_seen M L a5 set) 8) = 0 then 1 else 0) else 0)) (eM_26 : M_26 = (upd (upd (upd z_7 8 z_19) 9 z_17) 13 z_20)) (eM_27 : M_27 = (sp_X9_goesOn M_26 L x_2 z_15 z_22 z_24)) (ez_28 : z_28 = (sp_X9_bit (sp_X9_seen M L a5 set) 8)) (ez_29 : z_29 = (if (M_27 7) = 2 then 1 else (if (M_27 7) = 4 then 1 else 0))) (eM_31 : M_31 = (sp_X9_slides (upd (upd M_27 14 z_29) 17 z_28) L a6 set z_9)) : sp_X9_tickBy M L a5 a6 a12 set = (M_31, x_2) := by subst eM_31; subst ez_29; subst ez_28; subst eM_27; subst eM_26; subst ez_24; subst ez_22; subst ez_20; subst ez_19; subst ez_17; subst ez_15; subst ez_13; subst ez_11; subst ez_9; subst ez_7; subst ez_5; subst ez_4; subst ex_2; rfl
set_option maxHeartbeats 4000000 in
set_option maxRecDepth 100000 in
theorem c_X9_tickBy (l : Launch) (D : va_G) (cI cJ cO : ClassId) (h : Nat) (r : Nat → Nat) (M : Nat → Int32) (L : Int64) (a5 : Nat → Int32) (a6 : Nat → Int32) (a12 : Nat → Int32) (set : Int32)  : MV l D (TY cI cJ cO) yX9_tickBy wsX9_tickBy (RM 2) [.ref h, .int set] [(h, oX9 r M L), ((r 5), .inl (cI, 9, .inl a5)), ((r 6), .inl (cI, 2, .inl a6)), ((r 12), .inl (cI, 3, .inl a12))] [(h, oX9 r ((sp_X9_tickBy M L a5 a6 a12 set).1) L), ((r 5), .inl (cI, 9, .inl a5)), ((r 6), .inl (cI, 2, .inl a6)), ((r 12), .inl (cI, 3, .inl ((sp_X9_tickBy M L a5 a6 a12 set).2)))] := by
  refine k_entV (cc := cX9_tickBy) (maxL := 7) (lv := [(0, .ref h), (1, .int set)]) (by decide +kernel) rfl (Nat.le_of_ble_eq_true rfl) rfl ?_
  intro p e s m below meth c A Q ls hx hb hml hts hown hA hS hP hD hK hN hl hret
  have hown : s.vm.findClass RX9 = some m.cls := hown
  have hi9 : ∀ w ∈ wsX90, w ∈ wsX9_tickBy := fun w h => List.mem_cons_of_mem _ (List.mem_append_right _ h)
  have hf16 := hts (.fieldLink RX9 16 "PressGuardModel" "limit" "I") (by decide +kernel)
  have hf32 := hts (.fieldLink RX9 32 "PressGuardModel" "mode" "I") (by decide +kernel)
  have hf35 := hts (.fieldLink RX9 35 "PressGuardModel" "apart" "[I") (by decide +kernel)
  have hf74 := hts (.fieldLink RX9 74 "PressGuardModel" "hands" "I") (by decide +kernel)
  have hf77 := hts (.fieldLink RX9 77 "PressGuardModel" "since" "I") (by decide +kernel)
  have hf80 := hts (.fieldLink RX9 80 "PressGuardModel" "command" "I") (by decide +kernel)
  have hf83 := hts (.fieldLink RX9 83 "PressGuardModel" "unlike" "I") (by decide +kernel)
  have hf86 := hts (.fieldLink RX9 86 "PressGuardModel" "muting" "I") (by decide +kernel)
  have hf100 := hts (.fieldLink RX9 100 "PressGuardModel" "mutedFor" "I") (by decide +kernel)
  have hf113 := hts (.fieldLink RX9 113 "PressGuardModel" "wasReset" "I") (by decide +kernel)
  refine lv_aload_n hx hb dX9_tickBy_0 rfl (lv_at hl 0 rfl) ?_
  refine lv_iload_n hx hb dX9_tickBy_1 rfl (lv_at hl 1 rfl) ?_
  refine k_Vi ⟨hx, hb, hml, hown, hts⟩ (c_X9_seen l D cI cJ cO h r M L a5 set) (ci := 9) (q0 := 0) rfl rfl (cwV 1 hts gX9_tickBy_X9_seen rfl rfl rfl (by decide +kernel) ⟨Nat.le_of_ble_eq_true rfl, Nat.le_of_ble_eq_true rfl⟩) hK hN hP hD hS hA [0, 1] rfl rfl rfl (ws' := [(h, oX9 r M L), ((r 5), .inl (cI, 9, .inl a5)), ((r 6), .inl (cI, 2, .inl a6)), ((r 12), .inl (cI, 3, .inl a12))]) rfl rfl hl.1 rfl (Nat.le_of_ble_eq_true rfl) dX9_tickBy_2 ⟨Nat.le_refl _, Nat.le_refl _⟩ (fun H locs hP hD hS => ?_)
  refine lv_istore_n (lv' := [(2, .int (sp_X9_seen M L a5 set)), (0, .ref h), (1, .int set)]) hx hb dX9_tickBy_5 rfl hl (by decide) rfl (fun ls hl => ?_)
  refine lv_iconst (v := 0) hx hb dX9_tickBy_6 (by decide +kernel) ?_
  refine lv_istore_n (lv' := [(3, .int 0), (2, .int (sp_X9_seen M L a5 set)), (0, .ref h), (1, .int set)]) hx hb dX9_tickBy_7 rfl hl (by decide) rfl (fun ls hl => ?_)
  obtain ⟨fx_2, hfx_2⟩ : ∃ f : Nat → (Nat → Int32) → (Nat → Int32), f = (bd_X9_tickBy_8 M L a5 set) := ⟨_, rfl⟩
  have hB_x_2 : (3 : Int32) = nI 3 := by decide +kernel
  have hN_x_2 : 3 < 2 ^ 31 := by decide
  have Lx_2 : ∀ (nn i_1 : Nat) (x_2 : (Nat → Int32)), 3 + 1 ≤ i_1 + nn → i_1 ≤ 3 → x_2 = lp fx_2 i_1 a12 → ∀ (H : Heap) (locs : List Loc), va_P D vwCl [(h, oX9 r M L), ((r 5), .inl (cI, 9, .inl a5)), ((r 6), .inl (cI, 2, .inl a6)), ((r 12), .inl (cI, 3, .inl x_2))] H → va_D A [(h, oX9 r M L), ((r 5), .inl (cI, 9, .inl a5)), ((r 6), .inl (cI, 2, .inl a6)), ((r 12), .inl (cI, 3, .inl x_2))] → va_S A s.heap H locs → ∀ ls : Array Slot, lv_has ls 7 [(0, .ref h), (1, .int set), (2, .int (sp_X9_seen M L a5 set)), (3, .int (nI i_1))] → W p l e (RM 2) s m ([.ref h, .int set] : List Value).toArray below meth c H locs 0 0 Q (F0 m 8 ls []) := by
    intro nn_x_2
    induction nn_x_2 with
    | zero => intro i_1 x_2 h1 h2; exact absurd h1 (by omega)
    | succ nn_x_2 ih_x_2 =>
      intro i_1 x_2 hn_x_2 hi_i_1 ex_x_2 H locs hP hD hS ls hl
      refine lv_iload_n hx hb dX9_tickBy_8 rfl (lv_at hl 3 rfl) ?_
      refine lv_iconst (v := 3) hx hb dX9_tickBy_9 (by decide +kernel) ?_
      refine lv_icmp_ge (tgt := 57) hx hb dX9_tickBy_10 (by decide) (fun c_3 => ?_) (fun c_3 => ?_)
      · skip
        have hq_x_2 : i_1 = 3 := k_eq hB_x_2 c_3 hi_i_1 hN_x_2
        have ex_2 : x_2 = lp (bd_X9_tickBy_8 M L a5 set) 3 a12 := by rw [ex_x_2, hfx_2, hq_x_2]
        refine lv_aload_n hx hb dX9_tickBy_57 rfl (lv_at hl 0 rfl) ?_
        refine lv_aload_n hx hb dX9_tickBy_58 rfl (lv_at hl 0 rfl) ?_
        refine k_get hx hb hts hi9 hown hK hP 0 rfl rfl 10 (by decide) hf86 (.int (M 10)) rfl dX9_tickBy_59 ?_
        refine lv_iload_n hx hb dX9_tickBy_62 rfl (lv_at hl 2 rfl) ?_
        refine lv_bipush (v := 6) hx hb dX9_tickBy_63 (by decide +kernel) ?_
        refine k_Si ⟨hx, hb, hml, hown, hts⟩ (c_X9_bit l D cI cJ cO (sp_X9_seen M L a5 set) 6) (va_cwS 2 hts gX9_tickBy_X9_bit rfl rfl rfl (by decide +kernel) ⟨Nat.le_of_ble_eq_true rfl, Nat.le_of_ble_eq_true rfl⟩) hK hN hP hD hS hA [] rfl rfl rfl (ws' := [(h, oX9 r M L), ((r 5), .inl (cI, 9, .inl a5)), ((r 6), .inl (cI, 2, .inl a6)), ((r 12), .inl (cI, 3, .inl x_2))]) rfl rfl hl.1 rfl (Nat.le_of_ble_eq_true rfl) dX9_tickBy_65 ⟨Nat.le_refl _, Nat.le_refl _⟩ (fun H locs hP hD hS => ?_)
        refine lv_iload_n hx hb dX9_tickBy_68 rfl (lv_at hl 2 rfl) ?_
        refine lv_bipush (v := 7) hx hb dX9_tickBy_69 (by decide +kernel) ?_
        refine k_Si ⟨hx, hb, hml, hown, hts⟩ (c_X9_bit l D cI cJ cO (sp_X9_seen M L a5 set) 7) (va_cwS 2 hts gX9_tickBy_X9_bit rfl rfl rfl (by decide +kernel) ⟨Nat.le_of_ble_eq_true rfl, Nat.le_of_ble_eq_true rfl⟩) hK hN hP hD hS hA [] rfl rfl rfl (ws' := [(h, oX9 r M L), ((r 5), .inl (cI, 9, .inl a5)), ((r 6), .inl (cI, 2, .inl a6)), ((r 12), .inl (cI, 3, .inl x_2))]) rfl rfl hl.1 rfl (Nat.le_of_ble_eq_true rfl) dX9_tickBy_71 ⟨Nat.le_refl _, Nat.le_refl _⟩ (fun H locs hP hD hS => ?_)
        refine k_Si ⟨hx, hb, hml, hown, hts⟩ (c_X9_mutingBy l D cI cJ cO (M 10) (sp_X9_bit (sp_X9_seen M L a5 set) 6) (sp_X9_bit (sp_X9_seen M L a5 set) 7)) (va_cwS 3 hts gX9_tickBy_X9_mutingBy rfl rfl rfl (by decide +kernel) ⟨Nat.le_of_ble_eq_true rfl, Nat.le_of_ble_eq_true rfl⟩) hK hN hP hD hS hA [] rfl rfl rfl (ws' := [(h, oX9 r M L), ((r 5), .inl (cI, 9, .inl a5)), ((r 6), .inl (cI, 2, .inl a6)), ((r 12), .inl (cI, 3, .inl x_2))]) rfl rfl hl.1 rfl (Nat.le_of_ble_eq_true rfl) dX9_tickBy_74 ⟨Nat.le_refl _, Nat.le_refl _⟩ (fun H locs hP hD hS => ?_)
        refine lv_topi (fun z_4 ez_4 => ?_)
        refine k_put hx hb hts hi9 tyX9_ok nmX9 hown hK hP hD hS 0 rfl rfl 10 (by decide) hf86 rfl (.int z_4) rfl rfl (Nat.le_of_ble_eq_true rfl) (ws' := [(h, oX9 r (upd M 10 z_4) L), ((r 5), .inl (cI, 9, .inl a5)), ((r 6), .inl (cI, 2, .inl a6)), ((r 12), .inl (cI, 3, .inl x_2))]) rfl dX9_tickBy_77 (fun H locs hP hD hS => ?_)
        refine lv_aload_n hx hb dX9_tickBy_80 rfl (lv_at hl 0 rfl) ?_
        refine lv_aload_n hx hb dX9_tickBy_81 rfl (lv_at hl 0 rfl) ?_
        refine k_get hx hb hts hi9 hown hK hP 0 rfl rfl 10 (by decide) hf86 (.int z_4) rfl dX9_tickBy_82 ?_
        refine lv_iconst (v := 2) hx hb dX9_tickBy_85 (by decide +kernel) ?_
        have J_6 : ∀ z_5 : Int32, z_5 = (if z_4 = 2 then ((M 11) + 1) else (if z_4 = 3 then ((M 11) + 1) else 0)) → ∀ (H : Heap) (locs : List Loc), va_P D vwCl [(h, oX9 r (upd M 10 z_4) L), ((r 5), .inl (cI, 9, .inl a5)), ((r 6), .inl (cI, 2, .inl a6)), ((r 12), .inl (cI, 3, .inl x_2))] H → va_D A [(h, oX9 r (upd M 10 z_4) L), ((r 5), .inl (cI, 9, .inl a5)), ((r 6), .inl (cI, 2, .inl a6)), ((r 12), .inl (cI, 3, .inl x_2))] → va_S A s.heap H locs → ∀ ls : Array Slot, lv_has ls 7 [(0, .ref h), (1, .int set), (2, .int (sp_X9_seen M L a5 set))] → W p l e (RM 2) s m ([.ref h, .int set] : List Value).toArray below meth c H locs 0 0 Q (F0 m 107 ls [.int z_5, .ref h]) := by
          intro z_5 ez_5 H locs hP hD hS ls hl
          refine k_put hx hb hts hi9 tyX9_ok nmX9 hown hK hP hD hS 0 rfl rfl 11 (by decide) hf100 rfl (.int z_5) rfl rfl (Nat.le_of_ble_eq_true rfl) (ws' := [(h, oX9 r (upd (upd M 10 z_4) 11 z_5) L), ((r 5), .inl (cI, 9, .inl a5)), ((r 6), .inl (cI, 2, .inl a6)), ((r 12), .inl (cI, 3, .inl x_2))]) rfl dX9_tickBy_107 (fun H locs hP hD hS => ?_)
          refine lv_aload_n hx hb dX9_tickBy_110 rfl (lv_at hl 0 rfl) ?_
          refine k_get hx hb hts hi9 hown hK hP 0 rfl rfl 11 (by decide) hf100 (.int z_5) rfl dX9_tickBy_111 ?_
          refine lv_aload_n hx hb dX9_tickBy_114 rfl (lv_at hl 0 rfl) ?_
          refine k_get hx hb hts hi9 hown hK hP 0 rfl rfl 2 (by decide) hf16 (.int (M 2)) rfl dX9_tickBy_115 ?_
          have J_8 : ∀ z_7 : Nat → Int32, z_7 = (if z_5 ≤ (M 2) then (upd (upd M 10 z_4) 11 z_5) else (upd (upd M 10 4) 11 0)) → ∀ (H : Heap) (locs : List Loc), va_P D vwCl [(h, oX9 r z_7 L), ((r 5), .inl (cI, 9, .inl a5)), ((r 6), .inl (cI, 2, .inl a6)), ((r 12), .inl (cI, 3, .inl x_2))] H → va_D A [(h, oX9 r z_7 L), ((r 5), .inl (cI, 9, .inl a5)), ((r 6), .inl (cI, 2, .inl a6)), ((r 12), .inl (cI, 3, .inl x_2))] → va_S A s.heap H locs → ∀ ls : Array Slot, lv_has ls 7 [(0, .ref h), (1, .int set), (2, .int (sp_X9_seen M L a5 set))] → W p l e (RM 2) s m ([.ref h, .int set] : List Value).toArray below meth c H locs 0 0 Q (F0 m 131 ls []) := by
            intro z_7 ez_7 H locs hP hD hS ls hl
            refine lv_aload_n hx hb dX9_tickBy_131 rfl (lv_at hl 0 rfl) ?_
            refine k_get hx hb hts hi9 hown hK hP 0 rfl rfl 10 (by decide) hf86 (.int (z_7 10)) rfl dX9_tickBy_132 ?_
            refine lv_iconst (v := 2) hx hb dX9_tickBy_135 (by decide +kernel) ?_
            have J_10 : ∀ z_9 : Int32, z_9 = (if (z_7 10) = 2 then 1 else (if (z_7 10) = 3 then 1 else 0)) → ∀ (H : Heap) (locs : List Loc), va_P D vwCl [(h, oX9 r z_7 L), ((r 5), .inl (cI, 9, .inl a5)), ((r 6), .inl (cI, 2, .inl a6)), ((r 12), .inl (cI, 3, .inl x_2))] H → va_D A [(h, oX9 r z_7 L), ((r 5), .inl (cI, 9, .inl a5)), ((r 6), .inl (cI, 2, .inl a6)), ((r 12), .inl (cI, 3, .inl x_2))] → va_S A s.heap H locs → ∀ ls : Array Slot, lv_has ls 7 [(0, .ref h), (1, .int set), (2, .int (sp_X9_seen M L a5 set))] → W p l e (RM 2) s m ([.ref h, .int set] : List Value).toArray below meth c H locs 0 0 Q (F0 m 152 ls [.int z_9]) := by
              intro z_9 ez_9 H locs hP hD hS ls hl
              refine lv_istore_n (lv' := [(3, .int z_9), (0, .ref h), (1, .int set), (2, .int (sp_X9_seen M L a5 set))]) hx hb dX9_tickBy_152 rfl hl (by decide) rfl (fun ls hl => ?_)
              refine lv_aload_n hx hb dX9_tickBy_153 rfl (lv_at hl 1 rfl) ?_
              refine lv_iload_n hx hb dX9_tickBy_154 rfl (lv_at hl 3 rfl) ?_
              refine lv_iconst (v := 0) hx hb dX9_tickBy_155 (by decide +kernel) ?_
              refine k_Si ⟨hx, hb, hml, hown, hts⟩ (c_X9_isOn l D cI cJ cO (sp_X9_seen M L a5 set) 0) (va_cwS 2 hts gX9_tickBy_X9_isOn rfl rfl rfl (by decide +kernel) ⟨Nat.le_of_ble_eq_true rfl, Nat.le_of_ble_eq_true rfl⟩) hK hN hP hD hS hA [] rfl rfl rfl (ws' := [(h, oX9 r z_7 L), ((r 5), .inl (cI, 9, .inl a5)), ((r 6), .inl (cI, 2, .inl a6)), ((r 12), .inl (cI, 3, .inl x_2))]) rfl rfl hl.1 rfl (Nat.le_of_ble_eq_true rfl) dX9_tickBy_156 ⟨Nat.le_refl _, Nat.le_refl _⟩ (fun H locs hP hD hS => ?_)
              have J_12 : ∀ z_11 : Int32, z_11 = (if (sp_X9_isOn (sp_X9_seen M L a5 set) 0) = 0 then 0 else 1) → ∀ (H : Heap) (locs : List Loc), va_P D vwCl [(h, oX9 r z_7 L), ((r 5), .inl (cI, 9, .inl a5)), ((r 6), .inl (cI, 2, .inl a6)), ((r 12), .inl (cI, 3, .inl x_2))] H → va_D A [(h, oX9 r z_7 L), ((r 5), .inl (cI, 9, .inl a5)), ((r 6), .inl (cI, 2, .inl a6)), ((r 12), .inl (cI, 3, .inl x_2))] → va_S A s.heap H locs → ∀ ls : Array Slot, lv_has ls 7 [(0, .ref h), (1, .int set), (2, .int (sp_X9_seen M L a5 set)), (3, .int z_9)] → W p l e (RM 2) s m ([.ref h, .int set] : List Value).toArray below meth c H locs 0 0 Q (F0 m 167 ls [.int z_11, .ref h]) := by
                intro z_11 ez_11 H locs hP hD hS ls hl
                refine lv_iload_n hx hb dX9_tickBy_167 rfl (lv_at hl 2 rfl) ?_
                refine lv_iconst (v := 1) hx hb dX9_tickBy_168 (by decide +kernel) ?_
                refine k_Si ⟨hx, hb, hml, hown, hts⟩ (c_X9_isOn l D cI cJ cO (sp_X9_seen M L a5 set) 1) (va_cwS 2 hts gX9_tickBy_X9_isOn rfl rfl rfl (by decide +kernel) ⟨Nat.le_of_ble_eq_true rfl, Nat.le_of_ble_eq_true rfl⟩) hK hN hP hD hS hA [] rfl rfl rfl (ws' := [(h, oX9 r z_7 L), ((r 5), .inl (cI, 9, .inl a5)), ((r 6), .inl (cI, 2, .inl a6)), ((r 12), .inl (cI, 3, .inl x_2))]) rfl rfl hl.1 rfl (Nat.le_of_ble_eq_true rfl) dX9_tickBy_169 ⟨Nat.le_refl _, Nat.le_refl _⟩ (fun H locs hP hD hS => ?_)
                have J_14 : ∀ z_13 : Int32, z_13 = (if (sp_X9_isOn (sp_X9_seen M L a5 set) 1) = 0 then 0 else 1) → ∀ (H : Heap) (locs : List Loc), va_P D vwCl [(h, oX9 r z_7 L), ((r 5), .inl (cI, 9, .inl a5)), ((r 6), .inl (cI, 2, .inl a6)), ((r 12), .inl (cI, 3, .inl x_2))] H → va_D A [(h, oX9 r z_7 L), ((r 5), .inl (cI, 9, .inl a5)), ((r 6), .inl (cI, 2, .inl a6)), ((r 12), .inl (cI, 3, .inl x_2))] → va_S A s.heap H locs → ∀ ls : Array Slot, lv_has ls 7 [(0, .ref h), (1, .int set), (2, .int (sp_X9_seen M L a5 set)), (3, .int z_9)] → W p l e (RM 2) s m ([.ref h, .int set] : List Value).toArray below meth c H locs 0 0 Q (F0 m 180 ls [.int z_13, .int z_11, .ref h]) := by
                  intro z_13 ez_13 H locs hP hD hS ls hl
                  refine lv_iadd hx hb dX9_tickBy_180 ?_
                  refine k_Vi ⟨hx, hb, hml, hown, hts⟩ (c_X9_handsBy l D cI cJ cO h r z_7 L (z_11 + z_13)) (ci := 9) (q0 := 0) rfl rfl (cwV 1 hts gX9_tickBy_X9_handsBy rfl rfl rfl (by decide +kernel) ⟨Nat.le_of_ble_eq_true rfl, Nat.le_of_ble_eq_true rfl⟩) hK hN hP hD hS hA [0] rfl rfl rfl (ws' := [(h, oX9 r z_7 L), ((r 5), .inl (cI, 9, .inl a5)), ((r 6), .inl (cI, 2, .inl a6)), ((r 12), .inl (cI, 3, .inl x_2))]) rfl rfl hl.1 rfl (Nat.le_of_ble_eq_true rfl) dX9_tickBy_181 ⟨Nat.le_refl _, Nat.le_refl _⟩ (fun H locs hP hD hS => ?_)
                  refine lv_istore (lv' := [(4, .int (sp_X9_handsBy z_7 L (z_11 + z_13))), (0, .ref h), (1, .int set), (2, .int (sp_X9_seen M L a5 set)), (3, .int z_9)]) hx hb dX9_tickBy_184 hl (by decide) rfl (fun ls hl => ?_)
                  refine lv_iload hx hb dX9_tickBy_186 (lv_at hl 0 rfl) ?_
                  refine lv_iconst (v := 2) hx hb dX9_tickBy_188 (by decide +kernel) ?_
                  have J_16 : ∀ z_15 : Int32, z_15 = (if (sp_X9_handsBy z_7 L (z_11 + z_13)) = 2 then (if (z_7 8) = 2 then 0 else 1) else 0) → ∀ (H : Heap) (locs : List Loc), va_P D vwCl [(h, oX9 r z_7 L), ((r 5), .inl (cI, 9, .inl a5)), ((r 6), .inl (cI, 2, .inl a6)), ((r 12), .inl (cI, 3, .inl x_2))] H → va_D A [(h, oX9 r z_7 L), ((r 5), .inl (cI, 9, .inl a5)), ((r 6), .inl (cI, 2, .inl a6)), ((r 12), .inl (cI, 3, .inl x_2))] → va_S A s.heap H locs → ∀ ls : Array Slot, lv_has ls 7 [(0, .ref h), (1, .int set), (2, .int (sp_X9_seen M L a5 set)), (3, .int z_9), (4, .int (sp_X9_handsBy z_7 L (z_11 + z_13)))] → W p l e (RM 2) s m ([.ref h, .int set] : List Value).toArray below meth c H locs 0 0 Q (F0 m 205 ls [.int z_15]) := by
                    intro z_15 ez_15 H locs hP hD hS ls hl
                    refine lv_istore (lv' := [(5, .int z_15), (0, .ref h), (1, .int set), (2, .int (sp_X9_seen M L a5 set)), (3, .int z_9), (4, .int (sp_X9_handsBy z_7 L (z_11 + z_13)))]) hx hb dX9_tickBy_205 hl (by decide) rfl (fun ls hl => ?_)
                    refine lv_aload_n hx hb dX9_tickBy_207 rfl (lv_at hl 1 rfl) ?_
                    refine lv_iload hx hb dX9_tickBy_208 (lv_at hl 5 rfl) ?_
                    refine lv_iconst (v := 1) hx hb dX9_tickBy_210 (by decide +kernel) ?_
                    have J_18 : ∀ z_17 : Int32, z_17 = (if (sp_X9_handsBy z_7 L (z_11 + z_13)) = 1 then (if (z_7 8) = 1 then ((z_7 9) + 1) else 1) else 0) → ∀ (H : Heap) (locs : List Loc), va_P D vwCl [(h, oX9 r z_7 L), ((r 5), .inl (cI, 9, .inl a5)), ((r 6), .inl (cI, 2, .inl a6)), ((r 12), .inl (cI, 3, .inl x_2))] H → va_D A [(h, oX9 r z_7 L), ((r 5), .inl (cI, 9, .inl a5)), ((r 6), .inl (cI, 2, .inl a6)), ((r 12), .inl (cI, 3, .inl x_2))] → va_S A s.heap H locs → ∀ ls : Array Slot, lv_has ls 7 [(0, .ref h), (1, .int set), (2, .int (sp_X9_seen M L a5 set)), (3, .int z_9), (4, .int (sp_X9_handsBy z_7 L (z_11 + z_13))), (5, .int z_15)] → W p l e (RM 2) s m ([.ref h, .int set] : List Value).toArray below meth c H locs 0 0 Q (F0 m 236 ls [.int z_17, .ref h]) := by
                      intro z_17 ez_17 H locs hP hD hS ls hl
                      refine k_put hx hb hts hi9 tyX9_ok nmX9 hown hK hP hD hS 0 rfl rfl 9 (by decide) hf77 rfl (.int z_17) rfl rfl (Nat.le_of_ble_eq_true rfl) (ws' := [(h, oX9 r (upd z_7 9 z_17) L), ((r 5), .inl (cI, 9, .inl a5)), ((r 6), .inl (cI, 2, .inl a6)), ((r 12), .inl (cI, 3, .inl x_2))]) rfl dX9_tickBy_236 (fun H locs hP hD hS => ?_)
                      refine lv_aload_n hx hb dX9_tickBy_239 rfl (lv_at hl 0 rfl) ?_
                      refine lv_iload hx hb dX9_tickBy_240 (lv_at hl 4 rfl) ?_
                      refine lv_topi (fun z_19 ez_19 => ?_)
                      refine k_put hx hb hts hi9 tyX9_ok nmX9 hown hK hP hD hS 0 rfl rfl 8 (by decide) hf74 rfl (.int z_19) rfl rfl (Nat.le_of_ble_eq_true rfl) (ws' := [(h, oX9 r (upd (upd z_7 8 z_19) 9 z_17) L), ((r 5), .inl (cI, 9, .inl a5)), ((r 6), .inl (cI, 2, .inl a6)), ((r 12), .inl (cI, 3, .inl x_2))]) rfl dX9_tickBy_242 (fun H locs hP hD hS => ?_)
                      refine lv_aload_n hx hb dX9_tickBy_245 rfl (lv_at hl 0 rfl) ?_
                      refine lv_aload_n hx hb dX9_tickBy_246 rfl (lv_at hl 0 rfl) ?_
                      refine lv_iconst (v := 0) hx hb dX9_tickBy_247 (by decide +kernel) ?_
                      refine k_Vi ⟨hx, hb, hml, hown, hts⟩ (c_X9_valveAt l D cI cJ cO h r (upd (upd z_7 8 z_19) 9 z_17) L a6 0 (vp_in_iff.mpr (by decide +kernel))) (ci := 9) (q0 := 0) rfl rfl (cwV 1 hts gX9_tickBy_X9_valveAt rfl rfl rfl (by decide +kernel) ⟨Nat.le_of_ble_eq_true rfl, Nat.le_of_ble_eq_true rfl⟩) hK hN hP hD hS hA [0, 2] rfl rfl rfl (ws' := [(h, oX9 r (upd (upd z_7 8 z_19) 9 z_17) L), ((r 5), .inl (cI, 9, .inl a5)), ((r 6), .inl (cI, 2, .inl a6)), ((r 12), .inl (cI, 3, .inl x_2))]) rfl rfl hl.1 rfl (Nat.le_of_ble_eq_true rfl) dX9_tickBy_248 ⟨Nat.le_refl _, Nat.le_refl _⟩ (fun H locs hP hD hS => ?_)
                      refine lv_aload_n hx hb dX9_tickBy_251 rfl (lv_at hl 0 rfl) ?_
                      refine k_get hx hb hts hi9 hown hK hP 0 rfl rfl 14 (by decide) hf80 (.int (z_7 14)) rfl dX9_tickBy_252 ?_
                      have J_21 : ∀ z_20 : Int32, z_20 = (if (sp_X9_valveAt (upd (upd z_7 8 z_19) 9 z_17) L a6 0) = (z_7 14) then (if (sp_X9_valveAt (upd (upd z_7 8 z_19) 9 z_17) L a6 1) = (z_7 14) then 0 else (sp_X9_more (z_7 13))) else (sp_X9_more (z_7 13))) → ∀ (H : Heap) (locs : List Loc), va_P D vwCl [(h, oX9 r (upd (upd z_7 8 z_19) 9 z_17) L), ((r 5), .inl (cI, 9, .inl a5)), ((r 6), .inl (cI, 2, .inl a6)), ((r 12), .inl (cI, 3, .inl x_2))] H → va_D A [(h, oX9 r (upd (upd z_7 8 z_19) 9 z_17) L), ((r 5), .inl (cI, 9, .inl a5)), ((r 6), .inl (cI, 2, .inl a6)), ((r 12), .inl (cI, 3, .inl x_2))] → va_S A s.heap H locs → ∀ ls : Array Slot, lv_has ls 7 [(0, .ref h), (1, .int set), (2, .int (sp_X9_seen M L a5 set)), (3, .int z_9), (5, .int z_15)] → W p l e (RM 2) s m ([.ref h, .int set] : List Value).toArray below meth c H locs 0 0 Q (F0 m 281 ls [.int z_20, .ref h]) := by
                        intro z_20 ez_20 H locs hP hD hS ls hl
                        refine k_put hx hb hts hi9 tyX9_ok nmX9 hown hK hP hD hS 0 rfl rfl 13 (by decide) hf83 rfl (.int z_20) rfl rfl (Nat.le_of_ble_eq_true rfl) (ws' := [(h, oX9 r (upd (upd (upd z_7 8 z_19) 9 z_17) 13 z_20) L), ((r 5), .inl (cI, 9, .inl a5)), ((r 6), .inl (cI, 2, .inl a6)), ((r 12), .inl (cI, 3, .inl x_2))]) rfl dX9_tickBy_281 (fun H locs hP hD hS => ?_)
                        refine lv_iload_n hx hb dX9_tickBy_284 rfl (lv_at hl 2 rfl) ?_
                        refine lv_iconst (v := 2) hx hb dX9_tickBy_285 (by decide +kernel) ?_
                        refine k_Si ⟨hx, hb, hml, hown, hts⟩ (c_X9_isOn l D cI cJ cO (sp_X9_seen M L a5 set) 2) (va_cwS 2 hts gX9_tickBy_X9_isOn rfl rfl rfl (by decide +kernel) ⟨Nat.le_of_ble_eq_true rfl, Nat.le_of_ble_eq_true rfl⟩) hK hN hP hD hS hA [] rfl rfl rfl (ws' := [(h, oX9 r (upd (upd (upd z_7 8 z_19) 9 z_17) 13 z_20) L), ((r 5), .inl (cI, 9, .inl a5)), ((r 6), .inl (cI, 2, .inl a6)), ((r 12), .inl (cI, 3, .inl x_2))]) rfl rfl hl.1 rfl (Nat.le_of_ble_eq_true rfl) dX9_tickBy_286 ⟨Nat.le_refl _, Nat.le_refl _⟩ (fun H locs hP hD hS => ?_)
                        have J_23 : ∀ z_22 : Int32, z_22 = (if (sp_X9_isOn (sp_X9_seen M L a5 set) 2) = 0 then (if z_9 = 0 then 1 else 0) else 0) → ∀ (H : Heap) (locs : List Loc), va_P D vwCl [(h, oX9 r (upd (upd (upd z_7 8 z_19) 9 z_17) 13 z_20) L), ((r 5), .inl (cI, 9, .inl a5)), ((r 6), .inl (cI, 2, .inl a6)), ((r 12), .inl (cI, 3, .inl x_2))] H → va_D A [(h, oX9 r (upd (upd (upd z_7 8 z_19) 9 z_17) 13 z_20) L), ((r 5), .inl (cI, 9, .inl a5)), ((r 6), .inl (cI, 2, .inl a6)), ((r 12), .inl (cI, 3, .inl x_2))] → va_S A s.heap H locs → ∀ ls : Array Slot, lv_has ls 7 [(0, .ref h), (1, .int set), (2, .int (sp_X9_seen M L a5 set)), (3, .int z_9), (5, .int z_15)] → W p l e (RM 2) s m ([.ref h, .int set] : List Value).toArray below meth c H locs 0 0 Q (F0 m 301 ls [.int z_22]) := by
                          intro z_22 ez_22 H locs hP hD hS ls hl
                          refine lv_istore (lv' := [(6, .int z_22), (0, .ref h), (1, .int set), (2, .int (sp_X9_seen M L a5 set)), (3, .int z_9), (5, .int z_15)]) hx hb dX9_tickBy_301 hl (by decide) rfl (fun ls hl => ?_)
                          refine lv_aload_n hx hb dX9_tickBy_303 rfl (lv_at hl 1 rfl) ?_
                          refine lv_iload hx hb dX9_tickBy_304 (lv_at hl 5 rfl) ?_
                          refine lv_iload hx hb dX9_tickBy_306 (lv_at hl 0 rfl) ?_
                          refine lv_aload_n hx hb dX9_tickBy_308 rfl (lv_at hl 1 rfl) ?_
                          refine k_get hx hb hts hi9 hown hK hP 0 rfl rfl 17 (by decide) hf113 (.int (z_7 17)) rfl dX9_tickBy_309 ?_
                          refine lv_iconst (v := 1) hx hb dX9_tickBy_312 (by decide +kernel) ?_
                          have J_25 : ∀ z_24 : Int32, z_24 = (if (z_7 17) = 1 then (if (sp_X9_bit (sp_X9_seen M L a5 set) 8) = 0 then 1 else 0) else 0) → ∀ (H : Heap) (locs : List Loc), va_P D vwCl [(h, oX9 r (upd (upd (upd z_7 8 z_19) 9 z_17) 13 z_20) L), ((r 5), .inl (cI, 9, .inl a5)), ((r 6), .inl (cI, 2, .inl a6)), ((r 12), .inl (cI, 3, .inl x_2))] H → va_D A [(h, oX9 r (upd (upd (upd z_7 8 z_19) 9 z_17) 13 z_20) L), ((r 5), .inl (cI, 9, .inl a5)), ((r 6), .inl (cI, 2, .inl a6)), ((r 12), .inl (cI, 3, .inl x_2))] → va_S A s.heap H locs → ∀ ls : Array Slot, lv_has ls 7 [(0, .ref h), (1, .int set), (2, .int (sp_X9_seen M L a5 set)), (3, .int z_9)] → W p l e (RM 2) s m ([.ref h, .int set] : List Value).toArray below meth c H locs 0 0 Q (F0 m 330 ls [.int z_24, .int z_22, .int z_15, .ref h]) := by
                            intro z_24 ez_24 H locs hP hD hS ls hl
                            obtain ⟨M_26, eM_26⟩ : ∃ q : Nat → Int32, q = (upd (upd (upd z_7 8 z_19) 9 z_17) 13 z_20) := ⟨_, rfl⟩
                            rw [← eM_26] at hP hD
                            obtain ⟨M_27, eM_27⟩ : ∃ q : Nat → Int32, q = (sp_X9_goesOn M_26 L x_2 z_15 z_22 z_24) := ⟨_, rfl⟩
                            refine k_Vv ⟨hx, hb, hml, hown, hts⟩ (c_X9_goesOn l D cI cJ cO h r M_26 L x_2 z_15 z_22 z_24) (ci := 9) (q0 := 0) rfl rfl (cwV 3 hts gX9_tickBy_X9_goesOn rfl rfl rfl (by decide +kernel) ⟨Nat.le_of_ble_eq_true rfl, Nat.le_of_ble_eq_true rfl⟩) hK hN hP hD hS hA [0, 3] rfl rfl rfl (ws' := [(h, oX9 r M_27 L), ((r 5), .inl (cI, 9, .inl a5)), ((r 6), .inl (cI, 2, .inl a6)), ((r 12), .inl (cI, 3, .inl x_2))]) (by rw [eM_27]; rfl) rfl hl.1 rfl (Nat.le_of_ble_eq_true rfl) dX9_tickBy_330 ⟨Nat.le_refl _, Nat.le_refl _⟩ (fun H locs hP hD hS => ?_)
                            refine lv_aload_n hx hb dX9_tickBy_333 rfl (lv_at hl 0 rfl) ?_
                            refine lv_iload_n hx hb dX9_tickBy_334 rfl (lv_at hl 2 rfl) ?_
                            refine lv_bipush (v := 8) hx hb dX9_tickBy_335 (by decide +kernel) ?_
                            refine k_Si ⟨hx, hb, hml, hown, hts⟩ (c_X9_bit l D cI cJ cO (sp_X9_seen M L a5 set) 8) (va_cwS 2 hts gX9_tickBy_X9_bit rfl rfl rfl (by decide +kernel) ⟨Nat.le_of_ble_eq_true rfl, Nat.le_of_ble_eq_true rfl⟩) hK hN hP hD hS hA [] rfl rfl rfl (ws' := [(h, oX9 r M_27 L), ((r 5), .inl (cI, 9, .inl a5)), ((r 6), .inl (cI, 2, .inl a6)), ((r 12), .inl (cI, 3, .inl x_2))]) rfl rfl hl.1 rfl (Nat.le_of_ble_eq_true rfl) dX9_tickBy_337 ⟨Nat.le_refl _, Nat.le_refl _⟩ (fun H locs hP hD hS => ?_)
                            refine lv_topi (fun z_28 ez_28 => ?_)
                            refine k_put hx hb hts hi9 tyX9_ok nmX9 hown hK hP hD hS 0 rfl rfl 17 (by decide) hf113 rfl (.int z_28) rfl rfl (Nat.le_of_ble_eq_true rfl) (ws' := [(h, oX9 r (upd M_27 17 z_28) L), ((r 5), .inl (cI, 9, .inl a5)), ((r 6), .inl (cI, 2, .inl a6)), ((r 12), .inl (cI, 3, .inl x_2))]) rfl dX9_tickBy_340 (fun H locs hP hD hS => ?_)
                            refine lv_aload_n hx hb dX9_tickBy_343 rfl (lv_at hl 0 rfl) ?_
                            refine lv_aload_n hx hb dX9_tickBy_344 rfl (lv_at hl 0 rfl) ?_
                            refine k_get hx hb hts hi9 hown hK hP 0 rfl rfl 7 (by decide) hf32 (.int (M_27 7)) rfl dX9_tickBy_345 ?_
                            refine lv_iconst (v := 2) hx hb dX9_tickBy_348 (by decide +kernel) ?_
                            have J_30 : ∀ z_29 : Int32, z_29 = (if (M_27 7) = 2 then 1 else (if (M_27 7) = 4 then 1 else 0)) → ∀ (H : Heap) (locs : List Loc), va_P D vwCl [(h, oX9 r (upd M_27 17 z_28) L), ((r 5), .inl (cI, 9, .inl a5)), ((r 6), .inl (cI, 2, .inl a6)), ((r 12), .inl (cI, 3, .inl x_2))] H → va_D A [(h, oX9 r (upd M_27 17 z_28) L), ((r 5), .inl (cI, 9, .inl a5)), ((r 6), .inl (cI, 2, .inl a6)), ((r 12), .inl (cI, 3, .inl x_2))] → va_S A s.heap H locs → ∀ ls : Array Slot, lv_has ls 7 [(0, .ref h), (1, .int set), (3, .int z_9)] → W p l e (RM 2) s m ([.ref h, .int set] : List Value).toArray below meth c H locs 0 0 Q (F0 m 365 ls [.int z_29, .ref h]) := by
                              intro z_29 ez_29 H locs hP hD hS ls hl
                              refine k_put hx hb hts hi9 tyX9_ok nmX9 hown hK hP hD hS 0 rfl rfl 14 (by decide) hf80 rfl (.int z_29) rfl rfl (Nat.le_of_ble_eq_true rfl) (ws' := [(h, oX9 r (upd (upd M_27 14 z_29) 17 z_28) L), ((r 5), .inl (cI, 9, .inl a5)), ((r 6), .inl (cI, 2, .inl a6)), ((r 12), .inl (cI, 3, .inl x_2))]) rfl dX9_tickBy_365 (fun H locs hP hD hS => ?_)
                              refine lv_aload_n hx hb dX9_tickBy_368 rfl (lv_at hl 0 rfl) ?_
                              refine lv_iload_n hx hb dX9_tickBy_369 rfl (lv_at hl 1 rfl) ?_
                              refine lv_iload_n hx hb dX9_tickBy_370 rfl (lv_at hl 2 rfl) ?_
                              obtain ⟨M_31, eM_31⟩ : ∃ q : Nat → Int32, q = (sp_X9_slides (upd (upd M_27 14 z_29) 17 z_28) L a6 set z_9) := ⟨_, rfl⟩
                              refine k_Vv ⟨hx, hb, hml, hown, hts⟩ (c_X9_slides l D cI cJ cO h r (upd (upd M_27 14 z_29) 17 z_28) L a6 set z_9) (ci := 9) (q0 := 0) rfl rfl (cwV 2 hts gX9_tickBy_X9_slides rfl rfl rfl (by decide +kernel) ⟨Nat.le_of_ble_eq_true rfl, Nat.le_of_ble_eq_true rfl⟩) hK hN hP hD hS hA [0, 2] rfl rfl rfl (ws' := [(h, oX9 r M_31 L), ((r 5), .inl (cI, 9, .inl a5)), ((r 6), .inl (cI, 2, .inl a6)), ((r 12), .inl (cI, 3, .inl x_2))]) (by rw [eM_31]; rfl) rfl hl.1 rfl (Nat.le_of_ble_eq_true rfl) dX9_tickBy_371 ⟨Nat.le_refl _, Nat.le_refl _⟩ (fun H locs hP hD hS => ?_)
                              have hsp : sp_X9_tickBy M L a5 a6 a12 set = (M_31, x_2) := sq_X9_tickBy_1 M L a5 a6 a12 set x_2 z_4 z_5 z_7 z_9 z_11 z_13 z_15 z_17 z_19 z_20 z_22 z_24 M_26 M_27 z_28 z_29 M_31 ex_2 ez_4 ez_5 ez_7 ez_9 ez_11 ez_13 ez_15 ez_17 ez_19 ez_20 ez_22 ez_24 eM_26 eM_27 ez_28 ez_29 eM_31
                              exact hret _ _ _ _ (by rw [hsp]; exact hP) hS dX9_tickBy_374
                            refine lv_icmp_eq (tgt := 360) hx hb dX9_tickBy_349 (by decide) (fun c_32 => ?_) (fun c_32 => ?_)
                            · skip
                              refine lv_iconst (v := 1) hx hb dX9_tickBy_360 (by decide +kernel) ?_
                              refine lv_goto (tgt := 365) hx hb dX9_tickBy_361 (by decide) ?_
                              exact J_30 1 (by first | (simp only [if_pos c_32]; done) | rfl) _ _ hP hD hS _ (lv_sub hl [0, 1, 3] rfl)
                            · skip
                              refine lv_aload_n hx hb dX9_tickBy_352 rfl (lv_at hl 0 rfl) ?_
                              refine k_get hx hb hts hi9 hown hK hP 0 rfl rfl 7 (by decide) hf32 (.int (M_27 7)) rfl dX9_tickBy_353 ?_
                              refine lv_iconst (v := 4) hx hb dX9_tickBy_356 (by decide +kernel) ?_
                              refine lv_icmp_ne (tgt := 364) hx hb dX9_tickBy_357 (by decide) (fun c_33 => ?_) (fun c_33 => ?_)
                              · skip
                                refine lv_iconst (v := 0) hx hb dX9_tickBy_364 (by decide +kernel) ?_
                                exact J_30 0 (by first | (simp only [if_neg c_32, if_neg c_33]; done) | rfl) _ _ hP hD hS _ (lv_sub hl [0, 1, 3] rfl)
                              · skip
                                refine lv_iconst (v := 1) hx hb dX9_tickBy_360 (by decide +kernel) ?_
                                refine lv_goto (tgt := 365) hx hb dX9_tickBy_361 (by decide) ?_
                                exact J_30 1 (by first | (simp only [if_neg c_32, if_pos c_33]; done) | rfl) _ _ hP hD hS _ (lv_sub hl [0, 1, 3] rfl)
                          refine lv_icmp_ne (tgt := 329) hx hb dX9_tickBy_313 (by decide) (fun c_34 => ?_) (fun c_34 => ?_)
                          · skip
                            refine lv_iconst (v := 0) hx hb dX9_tickBy_329 (by decide +kernel) ?_
                            exact J_25 0 (by first | (simp only [if_neg c_34]; done) | rfl) _ _ hP hD hS _ (lv_sub hl [1, 2, 3, 4] rfl)
                          · skip
                            refine lv_iload_n hx hb dX9_tickBy_316 rfl (lv_at hl 3 rfl) ?_
                            refine lv_bipush (v := 8) hx hb dX9_tickBy_317 (by decide +kernel) ?_
                            refine k_Si ⟨hx, hb, hml, hown, hts⟩ (c_X9_bit l D cI cJ cO (sp_X9_seen M L a5 set) 8) (va_cwS 2 hts gX9_tickBy_X9_bit rfl rfl rfl (by decide +kernel) ⟨Nat.le_of_ble_eq_true rfl, Nat.le_of_ble_eq_true rfl⟩) hK hN hP hD hS hA [] rfl rfl rfl (ws' := [(h, oX9 r (upd (upd (upd z_7 8 z_19) 9 z_17) 13 z_20) L), ((r 5), .inl (cI, 9, .inl a5)), ((r 6), .inl (cI, 2, .inl a6)), ((r 12), .inl (cI, 3, .inl x_2))]) rfl rfl hl.1 rfl (Nat.le_of_ble_eq_true rfl) dX9_tickBy_319 ⟨Nat.le_refl _, Nat.le_refl _⟩ (fun H locs hP hD hS => ?_)
                            refine lv_if_ne (tgt := 329) hx hb dX9_tickBy_322 (by decide) (fun c_35 => ?_) (fun c_35 => ?_)
                            · skip
                              refine lv_iconst (v := 0) hx hb dX9_tickBy_329 (by decide +kernel) ?_
                              exact J_25 0 (by first | (simp only [if_pos c_34, if_neg c_35]; done) | rfl) _ _ hP hD hS _ (lv_sub hl [1, 2, 3, 4] rfl)
                            · skip
                              refine lv_iconst (v := 1) hx hb dX9_tickBy_325 (by decide +kernel) ?_
                              refine lv_goto (tgt := 330) hx hb dX9_tickBy_326 (by decide) ?_
                              exact J_25 1 (by first | (simp only [if_pos c_34, if_pos c_35]; done) | rfl) _ _ hP hD hS _ (lv_sub hl [1, 2, 3, 4] rfl)
                        refine lv_if_ne (tgt := 300) hx hb dX9_tickBy_289 (by decide) (fun c_36 => ?_) (fun c_36 => ?_)
                        · skip
                          refine lv_iconst (v := 0) hx hb dX9_tickBy_300 (by decide +kernel) ?_
                          exact J_23 0 (by first | (simp only [if_neg c_36]; done) | rfl) _ _ hP hD hS _ (lv_sub hl [0, 1, 2, 3, 4] rfl)
                        · skip
                          refine lv_iload_n hx hb dX9_tickBy_292 rfl (lv_at hl 3 rfl) ?_
                          refine lv_if_ne (tgt := 300) hx hb dX9_tickBy_293 (by decide) (fun c_37 => ?_) (fun c_37 => ?_)
                          · skip
                            refine lv_iconst (v := 0) hx hb dX9_tickBy_300 (by decide +kernel) ?_
                            exact J_23 0 (by first | (simp only [if_pos c_36, if_neg c_37]; done) | rfl) _ _ hP hD hS _ (lv_sub hl [0, 1, 2, 3, 4] rfl)
                          · skip
                            refine lv_iconst (v := 1) hx hb dX9_tickBy_296 (by decide +kernel) ?_
                            refine lv_goto (tgt := 301) hx hb dX9_tickBy_297 (by decide) ?_
                            exact J_23 1 (by first | (simp only [if_pos c_36, if_pos c_37]; done) | rfl) _ _ hP hD hS _ (lv_sub hl [0, 1, 2, 3, 4] rfl)
                      refine lv_icmp_ne (tgt := 270) hx hb dX9_tickBy_255 (by decide) (fun c_38 => ?_) (fun c_38 => ?_)
                      · skip
                        refine lv_aload_n hx hb dX9_tickBy_270 rfl (lv_at hl 0 rfl) ?_
                        refine k_get hx hb hts hi9 hown hK hP 0 rfl rfl 13 (by decide) hf83 (.int (z_7 13)) rfl dX9_tickBy_271 ?_
                        refine k_Si ⟨hx, hb, hml, hown, hts⟩ (c_X9_more l D cI cJ cO (z_7 13)) (va_cwS 1 hts gX9_tickBy_X9_more rfl rfl rfl (by decide +kernel) ⟨Nat.le_of_ble_eq_true rfl, Nat.le_of_ble_eq_true rfl⟩) hK hN hP hD hS hA [] rfl rfl rfl (ws' := [(h, oX9 r (upd (upd z_7 8 z_19) 9 z_17) L), ((r 5), .inl (cI, 9, .inl a5)), ((r 6), .inl (cI, 2, .inl a6)), ((r 12), .inl (cI, 3, .inl x_2))]) rfl rfl hl.1 rfl (Nat.le_of_ble_eq_true rfl) dX9_tickBy_274 ⟨Nat.le_refl _, Nat.le_refl _⟩ (fun H locs hP hD hS => ?_)
                        refine lv_goto (tgt := 281) hx hb dX9_tickBy_277 (by decide) ?_
                        exact J_21 (sp_X9_more (z_7 13)) (by first | (simp only [if_neg c_38]; done) | rfl) _ _ hP hD hS _ (lv_sub hl [0, 1, 2, 3, 5] rfl)
                      · skip
                        refine lv_aload_n hx hb dX9_tickBy_258 rfl (lv_at hl 0 rfl) ?_
                        refine lv_iconst (v := 1) hx hb dX9_tickBy_259 (by decide +kernel) ?_
                        refine k_Vi ⟨hx, hb, hml, hown, hts⟩ (c_X9_valveAt l D cI cJ cO h r (upd (upd z_7 8 z_19) 9 z_17) L a6 1 (vp_in_iff.mpr (by decide +kernel))) (ci := 9) (q0 := 0) rfl rfl (cwV 1 hts gX9_tickBy_X9_valveAt rfl rfl rfl (by decide +kernel) ⟨Nat.le_of_ble_eq_true rfl, Nat.le_of_ble_eq_true rfl⟩) hK hN hP hD hS hA [0, 2] rfl rfl rfl (ws' := [(h, oX9 r (upd (upd z_7 8 z_19) 9 z_17) L), ((r 5), .inl (cI, 9, .inl a5)), ((r 6), .inl (cI, 2, .inl a6)), ((r 12), .inl (cI, 3, .inl x_2))]) rfl rfl hl.1 rfl (Nat.le_of_ble_eq_true rfl) dX9_tickBy_260 ⟨Nat.le_refl _, Nat.le_refl _⟩ (fun H locs hP hD hS => ?_)
                        refine lv_aload_n hx hb dX9_tickBy_263 rfl (lv_at hl 0 rfl) ?_
                        refine k_get hx hb hts hi9 hown hK hP 0 rfl rfl 14 (by decide) hf80 (.int (z_7 14)) rfl dX9_tickBy_264 ?_
                        refine lv_icmp_eq (tgt := 280) hx hb dX9_tickBy_267 (by decide) (fun c_39 => ?_) (fun c_39 => ?_)
                        · skip
                          refine lv_iconst (v := 0) hx hb dX9_tickBy_280 (by decide +kernel) ?_
                          exact J_21 0 (by first | (simp only [if_pos c_38, if_pos c_39]; done) | rfl) _ _ hP hD hS _ (lv_sub hl [0, 1, 2, 3, 5] rfl)
                        · skip
                          refine lv_aload_n hx hb dX9_tickBy_270 rfl (lv_at hl 0 rfl) ?_
                          refine k_get hx hb hts hi9 hown hK hP 0 rfl rfl 13 (by decide) hf83 (.int (z_7 13)) rfl dX9_tickBy_271 ?_
                          refine k_Si ⟨hx, hb, hml, hown, hts⟩ (c_X9_more l D cI cJ cO (z_7 13)) (va_cwS 1 hts gX9_tickBy_X9_more rfl rfl rfl (by decide +kernel) ⟨Nat.le_of_ble_eq_true rfl, Nat.le_of_ble_eq_true rfl⟩) hK hN hP hD hS hA [] rfl rfl rfl (ws' := [(h, oX9 r (upd (upd z_7 8 z_19) 9 z_17) L), ((r 5), .inl (cI, 9, .inl a5)), ((r 6), .inl (cI, 2, .inl a6)), ((r 12), .inl (cI, 3, .inl x_2))]) rfl rfl hl.1 rfl (Nat.le_of_ble_eq_true rfl) dX9_tickBy_274 ⟨Nat.le_refl _, Nat.le_refl _⟩ (fun H locs hP hD hS => ?_)
                          refine lv_goto (tgt := 281) hx hb dX9_tickBy_277 (by decide) ?_
                          exact J_21 (sp_X9_more (z_7 13)) (by first | (simp only [if_pos c_38, if_neg c_39]; done) | rfl) _ _ hP hD hS _ (lv_sub hl [0, 1, 2, 3, 5] rfl)
                    refine lv_icmp_ne (tgt := 235) hx hb dX9_tickBy_211 (by decide) (fun c_40 => ?_) (fun c_40 => ?_)
                    · skip
                      refine lv_iconst (v := 0) hx hb dX9_tickBy_235 (by decide +kernel) ?_
                      exact J_18 0 (by first | (simp only [if_neg c_40]; done) | rfl) _ _ hP hD hS _ (lv_sub hl [1, 2, 3, 4, 5, 0] rfl)
                    · skip
                      refine lv_aload_n hx hb dX9_tickBy_214 rfl (lv_at hl 1 rfl) ?_
                      refine k_get hx hb hts hi9 hown hK hP 0 rfl rfl 8 (by decide) hf74 (.int (z_7 8)) rfl dX9_tickBy_215 ?_
                      refine lv_iconst (v := 1) hx hb dX9_tickBy_218 (by decide +kernel) ?_
                      refine lv_icmp_ne (tgt := 231) hx hb dX9_tickBy_219 (by decide) (fun c_41 => ?_) (fun c_41 => ?_)
                      · skip
                        refine lv_iconst (v := 1) hx hb dX9_tickBy_231 (by decide +kernel) ?_
                        refine lv_goto (tgt := 236) hx hb dX9_tickBy_232 (by decide) ?_
                        exact J_18 1 (by first | (simp only [if_pos c_40, if_neg c_41]; done) | rfl) _ _ hP hD hS _ (lv_sub hl [1, 2, 3, 4, 5, 0] rfl)
                      · skip
                        refine lv_aload_n hx hb dX9_tickBy_222 rfl (lv_at hl 1 rfl) ?_
                        refine k_get hx hb hts hi9 hown hK hP 0 rfl rfl 9 (by decide) hf77 (.int (z_7 9)) rfl dX9_tickBy_223 ?_
                        refine lv_iconst (v := 1) hx hb dX9_tickBy_226 (by decide +kernel) ?_
                        refine lv_iadd hx hb dX9_tickBy_227 ?_
                        refine lv_goto (tgt := 236) hx hb dX9_tickBy_228 (by decide) ?_
                        exact J_18 ((z_7 9) + 1) (by first | (simp only [if_pos c_40, if_pos c_41]; done) | rfl) _ _ hP hD hS _ (lv_sub hl [1, 2, 3, 4, 5, 0] rfl)
                  refine lv_icmp_ne (tgt := 204) hx hb dX9_tickBy_189 (by decide) (fun c_42 => ?_) (fun c_42 => ?_)
                  · skip
                    refine lv_iconst (v := 0) hx hb dX9_tickBy_204 (by decide +kernel) ?_
                    exact J_16 0 (by first | (simp only [if_neg c_42]; done) | rfl) _ _ hP hD hS _ (lv_sub hl [1, 2, 3, 4, 0] rfl)
                  · skip
                    refine lv_aload_n hx hb dX9_tickBy_192 rfl (lv_at hl 1 rfl) ?_
                    refine k_get hx hb hts hi9 hown hK hP 0 rfl rfl 8 (by decide) hf74 (.int (z_7 8)) rfl dX9_tickBy_193 ?_
                    refine lv_iconst (v := 2) hx hb dX9_tickBy_196 (by decide +kernel) ?_
                    refine lv_icmp_eq (tgt := 204) hx hb dX9_tickBy_197 (by decide) (fun c_43 => ?_) (fun c_43 => ?_)
                    · skip
                      refine lv_iconst (v := 0) hx hb dX9_tickBy_204 (by decide +kernel) ?_
                      exact J_16 0 (by first | (simp only [if_pos c_42, if_pos c_43]; done) | rfl) _ _ hP hD hS _ (lv_sub hl [1, 2, 3, 4, 0] rfl)
                    · skip
                      refine lv_iconst (v := 1) hx hb dX9_tickBy_200 (by decide +kernel) ?_
                      refine lv_goto (tgt := 205) hx hb dX9_tickBy_201 (by decide) ?_
                      exact J_16 1 (by first | (simp only [if_pos c_42, if_neg c_43]; done) | rfl) _ _ hP hD hS _ (lv_sub hl [1, 2, 3, 4, 0] rfl)
                refine lv_if_eq (tgt := 179) hx hb dX9_tickBy_172 (by decide) (fun c_44 => ?_) (fun c_44 => ?_)
                · skip
                  refine lv_iconst (v := 0) hx hb dX9_tickBy_179 (by decide +kernel) ?_
                  exact J_14 0 (by first | (simp only [if_pos c_44]; done) | rfl) _ _ hP hD hS _ (lv_sub hl [0, 1, 2, 3] rfl)
                · skip
                  refine lv_iconst (v := 1) hx hb dX9_tickBy_175 (by decide +kernel) ?_
                  refine lv_goto (tgt := 180) hx hb dX9_tickBy_176 (by decide) ?_
                  exact J_14 1 (by first | (simp only [if_neg c_44]; done) | rfl) _ _ hP hD hS _ (lv_sub hl [0, 1, 2, 3] rfl)
              refine lv_if_eq (tgt := 166) hx hb dX9_tickBy_159 (by decide) (fun c_45 => ?_) (fun c_45 => ?_)
              · skip
                refine lv_iconst (v := 0) hx hb dX9_tickBy_166 (by decide +kernel) ?_
                exact J_12 0 (by first | (simp only [if_pos c_45]; done) | rfl) _ _ hP hD hS _ (lv_sub hl [1, 2, 3, 0] rfl)
              · skip
                refine lv_iconst (v := 1) hx hb dX9_tickBy_162 (by decide +kernel) ?_
                refine lv_goto (tgt := 167) hx hb dX9_tickBy_163 (by decide) ?_
                exact J_12 1 (by first | (simp only [if_neg c_45]; done) | rfl) _ _ hP hD hS _ (lv_sub hl [1, 2, 3, 0] rfl)
            refine lv_icmp_eq (tgt := 147) hx hb dX9_tickBy_136 (by decide) (fun c_46 => ?_) (fun c_46 => ?_)
            · skip
              refine lv_iconst (v := 1) hx hb dX9_tickBy_147 (by decide +kernel) ?_
              refine lv_goto (tgt := 152) hx hb dX9_tickBy_148 (by decide) ?_
              exact J_10 1 (by first | (simp only [if_pos c_46]; done) | rfl) _ _ hP hD hS _ (lv_sub hl [0, 1, 2] rfl)
            · skip
              refine lv_aload_n hx hb dX9_tickBy_139 rfl (lv_at hl 0 rfl) ?_
              refine k_get hx hb hts hi9 hown hK hP 0 rfl rfl 10 (by decide) hf86 (.int (z_7 10)) rfl dX9_tickBy_140 ?_
              refine lv_iconst (v := 3) hx hb dX9_tickBy_143 (by decide +kernel) ?_
              refine lv_icmp_ne (tgt := 151) hx hb dX9_tickBy_144 (by decide) (fun c_47 => ?_) (fun c_47 => ?_)
              · skip
                refine lv_iconst (v := 0) hx hb dX9_tickBy_151 (by decide +kernel) ?_
                exact J_10 0 (by first | (simp only [if_neg c_46, if_neg c_47]; done) | rfl) _ _ hP hD hS _ (lv_sub hl [0, 1, 2] rfl)
              · skip
                refine lv_iconst (v := 1) hx hb dX9_tickBy_147 (by decide +kernel) ?_
                refine lv_goto (tgt := 152) hx hb dX9_tickBy_148 (by decide) ?_
                exact J_10 1 (by first | (simp only [if_neg c_46, if_pos c_47]; done) | rfl) _ _ hP hD hS _ (lv_sub hl [0, 1, 2] rfl)
          refine lv_icmp_le (tgt := 131) hx hb dX9_tickBy_118 (by decide) (fun c_48 => ?_) (fun c_48 => ?_)
          · skip
            exact J_8 (upd (upd M 10 z_4) 11 z_5) (by first | (simp only [if_pos c_48]; done) | rfl) _ _ hP hD hS _ (lv_sub hl [0, 1, 2] rfl)
          · skip
            refine lv_aload_n hx hb dX9_tickBy_121 rfl (lv_at hl 0 rfl) ?_
            refine lv_iconst (v := 4) hx hb dX9_tickBy_122 (by decide +kernel) ?_
            refine k_put hx hb hts hi9 tyX9_ok nmX9 hown hK hP hD hS 0 rfl rfl 10 (by decide) hf86 rfl (.int 4) rfl rfl (Nat.le_of_ble_eq_true rfl) (ws' := [(h, oX9 r (upd (upd M 10 4) 11 z_5) L), ((r 5), .inl (cI, 9, .inl a5)), ((r 6), .inl (cI, 2, .inl a6)), ((r 12), .inl (cI, 3, .inl x_2))]) rfl dX9_tickBy_123 (fun H locs hP hD hS => ?_)
            refine lv_aload_n hx hb dX9_tickBy_126 rfl (lv_at hl 0 rfl) ?_
            refine lv_iconst (v := 0) hx hb dX9_tickBy_127 (by decide +kernel) ?_
            refine k_put hx hb hts hi9 tyX9_ok nmX9 hown hK hP hD hS 0 rfl rfl 11 (by decide) hf100 rfl (.int 0) rfl rfl (Nat.le_of_ble_eq_true rfl) (ws' := [(h, oX9 r (upd (upd M 10 4) 11 0) L), ((r 5), .inl (cI, 9, .inl a5)), ((r 6), .inl (cI, 2, .inl a6)), ((r 12), .inl (cI, 3, .inl x_2))]) rfl dX9_tickBy_128 (fun H locs hP hD hS => ?_)
            exact J_8 (upd (upd M 10 4) 11 0) (by first | (simp only [if_neg c_48]; done) | rfl) _ _ hP hD hS _ (lv_sub hl [0, 1, 2] rfl)
        refine lv_icmp_eq (tgt := 97) hx hb dX9_tickBy_86 (by decide) (fun c_49 => ?_) (fun c_49 => ?_)
        · skip
          refine lv_aload_n hx hb dX9_tickBy_97 rfl (lv_at hl 0 rfl) ?_
          refine k_get hx hb hts hi9 hown hK hP 0 rfl rfl 11 (by decide) hf100 (.int (M 11)) rfl dX9_tickBy_98 ?_
          refine lv_iconst (v := 1) hx hb dX9_tickBy_101 (by decide +kernel) ?_
          refine lv_iadd hx hb dX9_tickBy_102 ?_
          refine lv_goto (tgt := 107) hx hb dX9_tickBy_103 (by decide) ?_
          exact J_6 ((M 11) + 1) (by first | (simp only [if_pos c_49]; done) | rfl) _ _ hP hD hS _ (lv_sub hl [0, 1, 2] rfl)
        · skip
          refine lv_aload_n hx hb dX9_tickBy_89 rfl (lv_at hl 0 rfl) ?_
          refine k_get hx hb hts hi9 hown hK hP 0 rfl rfl 10 (by decide) hf86 (.int z_4) rfl dX9_tickBy_90 ?_
          refine lv_iconst (v := 3) hx hb dX9_tickBy_93 (by decide +kernel) ?_
          refine lv_icmp_ne (tgt := 106) hx hb dX9_tickBy_94 (by decide) (fun c_50 => ?_) (fun c_50 => ?_)
          · skip
            refine lv_iconst (v := 0) hx hb dX9_tickBy_106 (by decide +kernel) ?_
            exact J_6 0 (by first | (simp only [if_neg c_49, if_neg c_50]; done) | rfl) _ _ hP hD hS _ (lv_sub hl [0, 1, 2] rfl)
          · skip
            refine lv_aload_n hx hb dX9_tickBy_97 rfl (lv_at hl 0 rfl) ?_
            refine k_get hx hb hts hi9 hown hK hP 0 rfl rfl 11 (by decide) hf100 (.int (M 11)) rfl dX9_tickBy_98 ?_
            refine lv_iconst (v := 1) hx hb dX9_tickBy_101 (by decide +kernel) ?_
            refine lv_iadd hx hb dX9_tickBy_102 ?_
            refine lv_goto (tgt := 107) hx hb dX9_tickBy_103 (by decide) ?_
            exact J_6 ((M 11) + 1) (by first | (simp only [if_neg c_49, if_pos c_50]; done) | rfl) _ _ hP hD hS _ (lv_sub hl [0, 1, 2] rfl)
      · skip
        have hlt_i_1 : i_1 < 3 := k_lt hB_x_2 c_3 hi_i_1 hN_x_2
        refine lv_aload_n hx hb dX9_tickBy_13 rfl (lv_at hl 0 rfl) ?_
        refine k_get hx hb hts hi9 hown hK hP 0 rfl rfl 12 (by decide) hf35 (.ref (r 12)) rfl dX9_tickBy_14 ?_
        refine lv_iload_n hx hb dX9_tickBy_17 rfl (lv_at hl 3 rfl) ?_
        refine lv_iload_n hx hb dX9_tickBy_18 rfl (lv_at hl 2 rfl) ?_
        refine lv_iconst (v := 2) hx hb dX9_tickBy_19 (by decide +kernel) ?_
        refine lv_iload_n hx hb dX9_tickBy_20 rfl (lv_at hl 3 rfl) ?_
        refine lv_imul hx hb dX9_tickBy_21 ?_
        refine k_Si ⟨hx, hb, hml, hown, hts⟩ (c_X9_bit l D cI cJ cO (sp_X9_seen M L a5 set) (2 * (nI i_1))) (va_cwS 2 hts gX9_tickBy_X9_bit rfl rfl rfl (by decide +kernel) ⟨Nat.le_of_ble_eq_true rfl, Nat.le_of_ble_eq_true rfl⟩) hK hN hP hD hS hA [] rfl rfl rfl (ws' := [(h, oX9 r M L), ((r 5), .inl (cI, 9, .inl a5)), ((r 6), .inl (cI, 2, .inl a6)), ((r 12), .inl (cI, 3, .inl x_2))]) rfl rfl hl.1 rfl (Nat.le_of_ble_eq_true rfl) dX9_tickBy_22 ⟨Nat.le_refl _, Nat.le_refl _⟩ (fun H locs hP hD hS => ?_)
        refine lv_iload_n hx hb dX9_tickBy_25 rfl (lv_at hl 2 rfl) ?_
        refine lv_iconst (v := 2) hx hb dX9_tickBy_26 (by decide +kernel) ?_
        refine lv_iload_n hx hb dX9_tickBy_27 rfl (lv_at hl 3 rfl) ?_
        refine lv_imul hx hb dX9_tickBy_28 ?_
        refine lv_iconst (v := 1) hx hb dX9_tickBy_29 (by decide +kernel) ?_
        refine lv_iadd hx hb dX9_tickBy_30 ?_
        refine k_Si ⟨hx, hb, hml, hown, hts⟩ (c_X9_bit l D cI cJ cO (sp_X9_seen M L a5 set) ((2 * (nI i_1)) + 1)) (va_cwS 2 hts gX9_tickBy_X9_bit rfl rfl rfl (by decide +kernel) ⟨Nat.le_of_ble_eq_true rfl, Nat.le_of_ble_eq_true rfl⟩) hK hN hP hD hS hA [] rfl rfl rfl (ws' := [(h, oX9 r M L), ((r 5), .inl (cI, 9, .inl a5)), ((r 6), .inl (cI, 2, .inl a6)), ((r 12), .inl (cI, 3, .inl x_2))]) rfl rfl hl.1 rfl (Nat.le_of_ble_eq_true rfl) dX9_tickBy_31 ⟨Nat.le_refl _, Nat.le_refl _⟩ (fun H locs hP hD hS => ?_)
        have J_52 : ∀ z_51 : Int32, z_51 = (if (sp_X9_bit (sp_X9_seen M L a5 set) (2 * (nI i_1))) = (sp_X9_bit (sp_X9_seen M L a5 set) ((2 * (nI i_1)) + 1)) then 0 else (sp_X9_more (x_2 i_1))) → ∀ (H : Heap) (locs : List Loc), va_P D vwCl [(h, oX9 r M L), ((r 5), .inl (cI, 9, .inl a5)), ((r 6), .inl (cI, 2, .inl a6)), ((r 12), .inl (cI, 3, .inl x_2))] H → va_D A [(h, oX9 r M L), ((r 5), .inl (cI, 9, .inl a5)), ((r 6), .inl (cI, 2, .inl a6)), ((r 12), .inl (cI, 3, .inl x_2))] → va_S A s.heap H locs → ∀ ls : Array Slot, lv_has ls 7 [(0, .ref h), (1, .int set), (2, .int (sp_X9_seen M L a5 set)), (3, .int (nI i_1))] → W p l e (RM 2) s m ([.ref h, .int set] : List Value).toArray below meth c H locs 0 0 Q (F0 m 50 ls [.int z_51, .int (nI i_1), .ref (r 12)]) := by
          intro z_51 ez_51 H locs hP hD hS ls hl
          refine k_iast hx hb hK hP hD hS 3 0 rfl rfl i_1 (nI_clamp (by omega)) (vp_in_nI (by omega) (by omega)) (ws' := [(h, oX9 r M L), ((r 5), .inl (cI, 9, .inl a5)), ((r 6), .inl (cI, 2, .inl a6)), ((r 12), .inl (cI, 3, .inl (upd x_2 i_1 z_51)))]) rfl dX9_tickBy_50 (fun H locs hP hD hS => ?_)
          refine lv_iinc (v := (nI (i_1 + 1))) (lv' := [(3, .int (nI (i_1 + 1))), (0, .ref h), (1, .int set), (2, .int (sp_X9_seen M L a5 set))]) hx hb dX9_tickBy_51 hl (k := 3) rfl (nI_1 i_1) (by decide) rfl (fun ls hl => ?_)
          refine lv_goto (tgt := 8) hx hb dX9_tickBy_54 (by decide) ?_
          exact ih_x_2 (i_1 + 1) (upd x_2 i_1 z_51) (by omega) (by omega) (by subst ez_51; rw [show lp fx_2 (i_1 + 1) a12 = fx_2 i_1 (lp fx_2 i_1 a12) from rfl, ← ex_x_2, hfx_2]; try (first | (rfl; done) | rfl)) _ _ hP hD hS _ (lv_sub hl [1, 2, 3, 0] rfl)
        refine lv_icmp_eq (tgt := 49) hx hb dX9_tickBy_34 (by decide) (fun c_53 => ?_) (fun c_53 => ?_)
        · skip
          refine lv_iconst (v := 0) hx hb dX9_tickBy_49 (by decide +kernel) ?_
          exact J_52 0 (by first | (simp only [if_pos c_53]; done) | rfl) _ _ hP hD hS _ (lv_sub hl [0, 1, 2, 3] rfl)
        · skip
          refine lv_aload_n hx hb dX9_tickBy_37 rfl (lv_at hl 0 rfl) ?_
          refine k_get hx hb hts hi9 hown hK hP 0 rfl rfl 12 (by decide) hf35 (.ref (r 12)) rfl dX9_tickBy_38 ?_
          refine lv_iload_n hx hb dX9_tickBy_41 rfl (lv_at hl 3 rfl) ?_
          refine k_iald hx hb hK hP 3 0 rfl rfl i_1 (nI_clamp (by omega)) (vp_in_nI (by omega) (by omega)) dX9_tickBy_42 ?_
          refine k_Si ⟨hx, hb, hml, hown, hts⟩ (c_X9_more l D cI cJ cO (x_2 i_1)) (va_cwS 1 hts gX9_tickBy_X9_more rfl rfl rfl (by decide +kernel) ⟨Nat.le_of_ble_eq_true rfl, Nat.le_of_ble_eq_true rfl⟩) hK hN hP hD hS hA [] rfl rfl rfl (ws' := [(h, oX9 r M L), ((r 5), .inl (cI, 9, .inl a5)), ((r 6), .inl (cI, 2, .inl a6)), ((r 12), .inl (cI, 3, .inl x_2))]) rfl rfl hl.1 rfl (Nat.le_of_ble_eq_true rfl) dX9_tickBy_43 ⟨Nat.le_refl _, Nat.le_refl _⟩ (fun H locs hP hD hS => ?_)
          refine lv_goto (tgt := 50) hx hb dX9_tickBy_46 (by decide) ?_
          exact J_52 (sp_X9_more (x_2 i_1)) (by first | (simp only [if_neg c_53]; done) | rfl) _ _ hP hD hS _ (lv_sub hl [0, 1, 2, 3] rfl)
  exact Lx_2 (3 + 1) 0 a12 (by omega) (Nat.zero_le _) rfl _ _ hP hD hS _ (lv_sub hl [2, 3, 1, 0] rfl)
