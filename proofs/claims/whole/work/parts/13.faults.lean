def sp_X0_valveIs (stuckAt : Int32) (command : Int32) : Int32 :=
  let z_1 : Int32 := (if stuckAt = 2 then command else stuckAt)
  z_1
set_option maxRecDepth 100000 in
theorem sq_X0_valveIs_1 (stuckAt : Int32) (command : Int32) (z_1 : Int32) (ez_1 : z_1 = (if stuckAt = 2 then command else stuckAt)) : sp_X0_valveIs stuckAt command = z_1 := by subst ez_1; rfl
set_option maxHeartbeats 4000000 in
set_option maxRecDepth 100000 in
theorem c_X0_valveIs (l : Launch) (D : va_G) (cI cJ cO : ClassId) (stuckAt : Int32) (command : Int32)  : MI l D (TY cI cJ cO) yX0_valveIs wsX0_valveIs (RM 0) [.int stuckAt, .int command] [] (sp_X0_valveIs stuckAt command) [] := by
  refine k_entI (cc := cX0_valveIs) (maxL := 2) (lv := [(0, .int stuckAt), (1, .int command)]) (by decide +kernel) rfl (Nat.le_of_ble_eq_true rfl) rfl ?_
  intro p e s m below meth c A Q ls hx hb hml hts hown hA hS hP hD hK hN hl hret
  have hown : s.vm.findClass RX0 = some m.cls := hown
  refine lv_iload_n hx hb dX0_valveIs_0 rfl (lv_at hl 0 rfl) ?_
  refine lv_iconst (v := 2) hx hb dX0_valveIs_1 (by decide +kernel) ?_
  have J_2 : ∀ z_1 : Int32, z_1 = (if stuckAt = 2 then command else stuckAt) → ∀ (H : Heap) (locs : List Loc), va_P D vwCl [] H → va_D A [] → va_S A s.heap H locs → ∀ ls : Array Slot, lv_has ls 2 [] → W p l e (RM 0) s m ([.int stuckAt, .int command] : List Value).toArray below meth c H locs 0 0 Q (F0 m 10 ls [.int z_1]) := by
    intro z_1 ez_1 H locs hP hD hS ls hl
    have hsp : sp_X0_valveIs stuckAt command = z_1 := sq_X0_valveIs_1 stuckAt command z_1 ez_1
    exact hret _ _ _ _ _ (by rw [hsp]) rfl hP hS dX0_valveIs_10
  refine lv_icmp_ne (tgt := 9) hx hb dX0_valveIs_2 (by decide) (fun c_3 => ?_) (fun c_3 => ?_)
  · skip
    refine lv_iload_n hx hb dX0_valveIs_9 rfl (lv_at hl 0 rfl) ?_
    exact J_2 stuckAt (by first | (simp only [if_neg c_3]; done) | rfl) _ _ hP hD hS _ (lv_sub hl [] rfl)
  · skip
    refine lv_iload_n hx hb dX0_valveIs_5 rfl (lv_at hl 1 rfl) ?_
    refine lv_goto (tgt := 10) hx hb dX0_valveIs_6 (by decide) ?_
    exact J_2 command (by first | (simp only [if_pos c_3]; done) | rfl) _ _ hP hD hS _ (lv_sub hl [] rfl)

def sp_X0_clear (F : Nat → Int32) : (Nat → Int32) :=
  (upd (upd (upd (upd F 0 0) 1 0) 2 2) 3 2)
set_option maxHeartbeats 4000000 in
set_option maxRecDepth 100000 in
theorem c_X0_clear (l : Launch) (D : va_G) (cI cJ cO : ClassId) (h : Nat) (F : Nat → Int32)  : MV l D (TY cI cJ cO) yX0_clear wsX0_clear (RM 0) [.ref h] [(h, oX0 F)] [(h, oX0 (sp_X0_clear F))] := by
  refine k_entV (cc := cX0_clear) (maxL := 1) (lv := [(0, .ref h)]) (by decide +kernel) rfl (Nat.le_of_ble_eq_true rfl) rfl ?_
  intro p e s m below meth c A Q ls hx hb hml hts hown hA hS hP hD hK hN hl hret
  have hown : s.vm.findClass RX0 = some m.cls := hown
  have hi0 : ∀ w ∈ wsX00, w ∈ wsX0_clear := fun w h => List.mem_cons_of_mem _ (List.mem_append_right _ h)
  have hf9 := hts (.fieldLink RX0 9 "PressGuard$Faults" "stuckOff" "I") (by decide +kernel)
  have hf15 := hts (.fieldLink RX0 15 "PressGuard$Faults" "stuckOn" "I") (by decide +kernel)
  have hf18 := hts (.fieldLink RX0 18 "PressGuard$Faults" "firstValve" "I") (by decide +kernel)
  have hf21 := hts (.fieldLink RX0 21 "PressGuard$Faults" "secondValve" "I") (by decide +kernel)
  refine lv_aload_n hx hb dX0_clear_0 rfl (lv_at hl 0 rfl) ?_
  refine lv_iconst (v := 0) hx hb dX0_clear_1 (by decide +kernel) ?_
  refine k_put hx hb hts hi0 tyX0_ok nmX0 hown hK hP hD hS 0 rfl rfl 0 (by decide) hf9 rfl (.int 0) rfl rfl (Nat.le_of_ble_eq_true rfl) (ws' := [(h, oX0 (upd F 0 0))]) rfl dX0_clear_2 (fun H locs hP hD hS => ?_)
  refine lv_aload_n hx hb dX0_clear_5 rfl (lv_at hl 0 rfl) ?_
  refine lv_iconst (v := 0) hx hb dX0_clear_6 (by decide +kernel) ?_
  refine k_put hx hb hts hi0 tyX0_ok nmX0 hown hK hP hD hS 0 rfl rfl 1 (by decide) hf15 rfl (.int 0) rfl rfl (Nat.le_of_ble_eq_true rfl) (ws' := [(h, oX0 (upd (upd F 0 0) 1 0))]) rfl dX0_clear_7 (fun H locs hP hD hS => ?_)
  refine lv_aload_n hx hb dX0_clear_10 rfl (lv_at hl 0 rfl) ?_
  refine lv_iconst (v := 2) hx hb dX0_clear_11 (by decide +kernel) ?_
  refine k_put hx hb hts hi0 tyX0_ok nmX0 hown hK hP hD hS 0 rfl rfl 2 (by decide) hf18 rfl (.int 2) rfl rfl (Nat.le_of_ble_eq_true rfl) (ws' := [(h, oX0 (upd (upd (upd F 0 0) 1 0) 2 2))]) rfl dX0_clear_12 (fun H locs hP hD hS => ?_)
  refine lv_aload_n hx hb dX0_clear_15 rfl (lv_at hl 0 rfl) ?_
  refine lv_iconst (v := 2) hx hb dX0_clear_16 (by decide +kernel) ?_
  refine k_put hx hb hts hi0 tyX0_ok nmX0 hown hK hP hD hS 0 rfl rfl 3 (by decide) hf21 rfl (.int 2) rfl rfl (Nat.le_of_ble_eq_true rfl) (ws' := [(h, oX0 (upd (upd (upd (upd F 0 0) 1 0) 2 2) 3 2))]) rfl dX0_clear_17 (fun H locs hP hD hS => ?_)
  have hsp : sp_X0_clear F = (upd (upd (upd (upd F 0 0) 1 0) 2 2) 3 2) := rfl
  exact hret _ _ _ _ (by rw [hsp]; exact hP) hS dX0_clear_20

def sp_X0_inputStuckAt (F : Nat → Int32) (input : Int32) : Int32 :=
  (if (sp_X8_bit (F 1) input) = 1 then
    1
  else
    let z_2 : Int32 := (if (sp_X8_bit (F 0) input) = 1 then 0 else 2)
    z_2)
set_option maxRecDepth 100000 in
theorem sq_X0_inputStuckAt_1 (F : Nat → Int32) (input : Int32) (z_2 : Int32) (ez_2 : z_2 = (if (sp_X8_bit (F 0) input) = 1 then 0 else 2)) (c_1 : ¬ ((sp_X8_bit (F 1) input) = 1)) : sp_X0_inputStuckAt F input = z_2 := by subst ez_2; simp only [sp_X0_inputStuckAt, if_neg c_1]
set_option maxHeartbeats 4000000 in
set_option maxRecDepth 100000 in
theorem c_X0_inputStuckAt (l : Launch) (D : va_G) (cI cJ cO : ClassId) (h : Nat) (F : Nat → Int32) (input : Int32)  : MI l D (TY cI cJ cO) yX0_inputStuckAt wsX0_inputStuckAt (RM 1) [.ref h, .int input] [(h, oX0 F)] (sp_X0_inputStuckAt F input) [(h, oX0 F)] := by
  refine k_entI (cc := cX0_inputStuckAt) (maxL := 2) (lv := [(0, .ref h), (1, .int input)]) (by decide +kernel) rfl (Nat.le_of_ble_eq_true rfl) rfl ?_
  intro p e s m below meth c A Q ls hx hb hml hts hown hA hS hP hD hK hN hl hret
  have hown : s.vm.findClass RX0 = some m.cls := hown
  have hi0 : ∀ w ∈ wsX00, w ∈ wsX0_inputStuckAt := fun w h => List.mem_cons_of_mem _ (List.mem_append_right _ h)
  have hf9 := hts (.fieldLink RX0 9 "PressGuard$Faults" "stuckOff" "I") (by decide +kernel)
  have hf15 := hts (.fieldLink RX0 15 "PressGuard$Faults" "stuckOn" "I") (by decide +kernel)
  refine lv_aload_n hx hb dX0_inputStuckAt_0 rfl (lv_at hl 0 rfl) ?_
  refine k_get hx hb hts hi0 hown hK hP 0 rfl rfl 1 (by decide) hf15 (.int (F 1)) rfl dX0_inputStuckAt_1 ?_
  refine lv_iload_n hx hb dX0_inputStuckAt_4 rfl (lv_at hl 1 rfl) ?_
  refine k_SNi ⟨hx, hb, hml, hown, hts⟩ (c_X8_bit l D cI cJ cO (F 1) input) (va_cnB 2 hts gX0_inputStuckAt_X8_bit_n24 rfl rfl rfl (hN.1 6 _ rfl) (hts (.initialized RX8) (by decide +kernel)) (by decide +kernel) ⟨Nat.le_of_ble_eq_true rfl, Nat.le_of_ble_eq_true rfl⟩) (hts (.static yX8_bit) (by decide +kernel)) hK hN hP hD hS hA [] rfl rfl rfl (ws' := [(h, oX0 F)]) rfl rfl hl.1 rfl (Nat.le_of_ble_eq_true rfl) dX0_inputStuckAt_5 ⟨Nat.le_refl _, Nat.le_refl _⟩ (fun H locs hP hD hS => ?_)
  refine lv_iconst (v := 1) hx hb dX0_inputStuckAt_8 (by decide +kernel) ?_
  refine lv_icmp_ne (tgt := 14) hx hb dX0_inputStuckAt_9 (by decide) (fun c_1 => ?_) (fun c_1 => ?_)
  · skip
    refine lv_aload_n hx hb dX0_inputStuckAt_14 rfl (lv_at hl 0 rfl) ?_
    refine k_get hx hb hts hi0 hown hK hP 0 rfl rfl 0 (by decide) hf9 (.int (F 0)) rfl dX0_inputStuckAt_15 ?_
    refine lv_iload_n hx hb dX0_inputStuckAt_18 rfl (lv_at hl 1 rfl) ?_
    refine k_SNi ⟨hx, hb, hml, hown, hts⟩ (c_X8_bit l D cI cJ cO (F 0) input) (va_cnB 2 hts gX0_inputStuckAt_X8_bit_n24 rfl rfl rfl (hN.1 6 _ rfl) (hts (.initialized RX8) (by decide +kernel)) (by decide +kernel) ⟨Nat.le_of_ble_eq_true rfl, Nat.le_of_ble_eq_true rfl⟩) (hts (.static yX8_bit) (by decide +kernel)) hK hN hP hD hS hA [] rfl rfl rfl (ws' := [(h, oX0 F)]) rfl rfl hl.1 rfl (Nat.le_of_ble_eq_true rfl) dX0_inputStuckAt_19 ⟨Nat.le_refl _, Nat.le_refl _⟩ (fun H locs hP hD hS => ?_)
    refine lv_iconst (v := 1) hx hb dX0_inputStuckAt_22 (by decide +kernel) ?_
    have J_3 : ∀ z_2 : Int32, z_2 = (if (sp_X8_bit (F 0) input) = 1 then 0 else 2) → ∀ (H : Heap) (locs : List Loc), va_P D vwCl [(h, oX0 F)] H → va_D A [(h, oX0 F)] → va_S A s.heap H locs → ∀ ls : Array Slot, lv_has ls 2 [] → W p l e (RM 1) s m ([.ref h, .int input] : List Value).toArray below meth c H locs 0 0 Q (F0 m 31 ls [.int z_2]) := by
      intro z_2 ez_2 H locs hP hD hS ls hl
      have hsp : sp_X0_inputStuckAt F input = z_2 := sq_X0_inputStuckAt_1 F input z_2 ez_2 c_1
      exact hret _ _ _ _ _ (by rw [hsp]) rfl hP hS dX0_inputStuckAt_31
    refine lv_icmp_ne (tgt := 30) hx hb dX0_inputStuckAt_23 (by decide) (fun c_4 => ?_) (fun c_4 => ?_)
    · skip
      refine lv_iconst (v := 2) hx hb dX0_inputStuckAt_30 (by decide +kernel) ?_
      exact J_3 2 (by first | (simp only [if_neg c_4]; done) | rfl) _ _ hP hD hS _ (lv_sub hl [] rfl)
    · skip
      refine lv_iconst (v := 0) hx hb dX0_inputStuckAt_26 (by decide +kernel) ?_
      refine lv_goto (tgt := 31) hx hb dX0_inputStuckAt_27 (by decide) ?_
      exact J_3 0 (by first | (simp only [if_pos c_4]; done) | rfl) _ _ hP hD hS _ (lv_sub hl [] rfl)
  · skip
    refine lv_iconst (v := 1) hx hb dX0_inputStuckAt_12 (by decide +kernel) ?_
    have hsp : sp_X0_inputStuckAt F input = 1 := by simp only [sp_X0_inputStuckAt, if_pos c_1]
    exact hret _ _ _ _ _ (by rw [hsp]) rfl hP hS dX0_inputStuckAt_13

def sp_X0_setInput (F : Nat → Int32) (input : Int32) (v : Int32) : (Nat → Int32) :=
  let z_1 : Int32 := (if v = 0 then ((F 0) ||| (1 <<< (input &&& 31))) else ((F 0) &&& ((1 <<< (input &&& 31)) ^^^ (-1))))
  let z_3 : Int32 := (if v = 1 then ((F 1) ||| (1 <<< (input &&& 31))) else ((F 1) &&& ((1 <<< (input &&& 31)) ^^^ (-1))))
  (upd (upd F 0 z_1) 1 z_3)
set_option maxRecDepth 100000 in
theorem sq_X0_setInput_1 (F : Nat → Int32) (input : Int32) (v : Int32) (z_1 : Int32) (z_3 : Int32) (ez_1 : z_1 = (if v = 0 then ((F 0) ||| (1 <<< (input &&& 31))) else ((F 0) &&& ((1 <<< (input &&& 31)) ^^^ (-1))))) (ez_3 : z_3 = (if v = 1 then ((F 1) ||| (1 <<< (input &&& 31))) else ((F 1) &&& ((1 <<< (input &&& 31)) ^^^ (-1))))) : sp_X0_setInput F input v = (upd (upd F 0 z_1) 1 z_3) := by subst ez_3; subst ez_1; rfl
set_option maxHeartbeats 4000000 in
set_option maxRecDepth 100000 in
theorem c_X0_setInput (l : Launch) (D : va_G) (cI cJ cO : ClassId) (h : Nat) (F : Nat → Int32) (input : Int32) (v : Int32)  : MV l D (TY cI cJ cO) yX0_setInput wsX0_setInput (RM 0) [.ref h, .int input, .int v] [(h, oX0 F)] [(h, oX0 (sp_X0_setInput F input v))] := by
  refine k_entV (cc := cX0_setInput) (maxL := 4) (lv := [(0, .ref h), (1, .int input), (2, .int v)]) (by decide +kernel) rfl (Nat.le_of_ble_eq_true rfl) rfl ?_
  intro p e s m below meth c A Q ls hx hb hml hts hown hA hS hP hD hK hN hl hret
  have hown : s.vm.findClass RX0 = some m.cls := hown
  have hi0 : ∀ w ∈ wsX00, w ∈ wsX0_setInput := fun w h => List.mem_cons_of_mem _ (List.mem_append_right _ h)
  have hf9 := hts (.fieldLink RX0 9 "PressGuard$Faults" "stuckOff" "I") (by decide +kernel)
  have hf15 := hts (.fieldLink RX0 15 "PressGuard$Faults" "stuckOn" "I") (by decide +kernel)
  refine lv_iconst (v := 1) hx hb dX0_setInput_0 (by decide +kernel) ?_
  refine lv_iload_n hx hb dX0_setInput_1 rfl (lv_at hl 1 rfl) ?_
  refine lv_ishl hx hb dX0_setInput_2 ?_
  refine lv_istore_n (lv' := [(3, .int (1 <<< (input &&& 31))), (0, .ref h), (1, .int input), (2, .int v)]) hx hb dX0_setInput_3 rfl hl (by decide) rfl (fun ls hl => ?_)
  refine lv_aload_n hx hb dX0_setInput_4 rfl (lv_at hl 1 rfl) ?_
  refine lv_iload_n hx hb dX0_setInput_5 rfl (lv_at hl 3 rfl) ?_
  have J_2 : ∀ z_1 : Int32, z_1 = (if v = 0 then ((F 0) ||| (1 <<< (input &&& 31))) else ((F 0) &&& ((1 <<< (input &&& 31)) ^^^ (-1)))) → ∀ (H : Heap) (locs : List Loc), va_P D vwCl [(h, oX0 F)] H → va_D A [(h, oX0 F)] → va_S A s.heap H locs → ∀ ls : Array Slot, lv_has ls 4 [(0, .ref h), (2, .int v), (3, .int (1 <<< (input &&& 31)))] → W p l e (RM 0) s m ([.ref h, .int input, .int v] : List Value).toArray below meth c H locs 0 0 Q (F0 m 26 ls [.int z_1, .ref h]) := by
    intro z_1 ez_1 H locs hP hD hS ls hl
    refine k_put hx hb hts hi0 tyX0_ok nmX0 hown hK hP hD hS 0 rfl rfl 0 (by decide) hf9 rfl (.int z_1) rfl rfl (Nat.le_of_ble_eq_true rfl) (ws' := [(h, oX0 (upd F 0 z_1))]) rfl dX0_setInput_26 (fun H locs hP hD hS => ?_)
    refine lv_aload_n hx hb dX0_setInput_29 rfl (lv_at hl 0 rfl) ?_
    refine lv_iload_n hx hb dX0_setInput_30 rfl (lv_at hl 1 rfl) ?_
    refine lv_iconst (v := 1) hx hb dX0_setInput_31 (by decide +kernel) ?_
    have J_4 : ∀ z_3 : Int32, z_3 = (if v = 1 then ((F 1) ||| (1 <<< (input &&& 31))) else ((F 1) &&& ((1 <<< (input &&& 31)) ^^^ (-1)))) → ∀ (H : Heap) (locs : List Loc), va_P D vwCl [(h, oX0 (upd F 0 z_1))] H → va_D A [(h, oX0 (upd F 0 z_1))] → va_S A s.heap H locs → ∀ ls : Array Slot, lv_has ls 4 [] → W p l e (RM 0) s m ([.ref h, .int input, .int v] : List Value).toArray below meth c H locs 0 0 Q (F0 m 52 ls [.int z_3, .ref h]) := by
      intro z_3 ez_3 H locs hP hD hS ls hl
      refine k_put hx hb hts hi0 tyX0_ok nmX0 hown hK hP hD hS 0 rfl rfl 1 (by decide) hf15 rfl (.int z_3) rfl rfl (Nat.le_of_ble_eq_true rfl) (ws' := [(h, oX0 (upd (upd F 0 z_1) 1 z_3))]) rfl dX0_setInput_52 (fun H locs hP hD hS => ?_)
      have hsp : sp_X0_setInput F input v = (upd (upd F 0 z_1) 1 z_3) := sq_X0_setInput_1 F input v z_1 z_3 ez_1 ez_3
      exact hret _ _ _ _ (by rw [hsp]; exact hP) hS dX0_setInput_55
    refine lv_icmp_ne (tgt := 44) hx hb dX0_setInput_32 (by decide) (fun c_5 => ?_) (fun c_5 => ?_)
    · skip
      refine lv_aload_n hx hb dX0_setInput_44 rfl (lv_at hl 0 rfl) ?_
      refine k_get hx hb hts hi0 hown hK hP 0 rfl rfl 1 (by decide) hf15 (.int (F 1)) rfl dX0_setInput_45 ?_
      refine lv_iload_n hx hb dX0_setInput_48 rfl (lv_at hl 2 rfl) ?_
      refine lv_iconst (v := (-1)) hx hb dX0_setInput_49 (by decide +kernel) ?_
      refine lv_ixor hx hb dX0_setInput_50 ?_
      refine lv_iand hx hb dX0_setInput_51 ?_
      exact J_4 ((F 1) &&& ((1 <<< (input &&& 31)) ^^^ (-1))) (by first | (simp only [if_neg c_5]; done) | rfl) _ _ hP hD hS _ (lv_sub hl [] rfl)
    · skip
      refine lv_aload_n hx hb dX0_setInput_35 rfl (lv_at hl 0 rfl) ?_
      refine k_get hx hb hts hi0 hown hK hP 0 rfl rfl 1 (by decide) hf15 (.int (F 1)) rfl dX0_setInput_36 ?_
      refine lv_iload_n hx hb dX0_setInput_39 rfl (lv_at hl 2 rfl) ?_
      refine lv_ior hx hb dX0_setInput_40 ?_
      refine lv_goto (tgt := 52) hx hb dX0_setInput_41 (by decide) ?_
      exact J_4 ((F 1) ||| (1 <<< (input &&& 31))) (by first | (simp only [if_pos c_5]; done) | rfl) _ _ hP hD hS _ (lv_sub hl [] rfl)
  refine lv_if_ne (tgt := 18) hx hb dX0_setInput_6 (by decide) (fun c_6 => ?_) (fun c_6 => ?_)
  · skip
    refine lv_aload_n hx hb dX0_setInput_18 rfl (lv_at hl 1 rfl) ?_
    refine k_get hx hb hts hi0 hown hK hP 0 rfl rfl 0 (by decide) hf9 (.int (F 0)) rfl dX0_setInput_19 ?_
    refine lv_iload_n hx hb dX0_setInput_22 rfl (lv_at hl 0 rfl) ?_
    refine lv_iconst (v := (-1)) hx hb dX0_setInput_23 (by decide +kernel) ?_
    refine lv_ixor hx hb dX0_setInput_24 ?_
    refine lv_iand hx hb dX0_setInput_25 ?_
    exact J_2 ((F 0) &&& ((1 <<< (input &&& 31)) ^^^ (-1))) (by first | (simp only [if_neg c_6]; done) | rfl) _ _ hP hD hS _ (lv_sub hl [1, 3, 0] rfl)
  · skip
    refine lv_aload_n hx hb dX0_setInput_9 rfl (lv_at hl 1 rfl) ?_
    refine k_get hx hb hts hi0 hown hK hP 0 rfl rfl 0 (by decide) hf9 (.int (F 0)) rfl dX0_setInput_10 ?_
    refine lv_iload_n hx hb dX0_setInput_13 rfl (lv_at hl 0 rfl) ?_
    refine lv_ior hx hb dX0_setInput_14 ?_
    refine lv_goto (tgt := 26) hx hb dX0_setInput_15 (by decide) ?_
    exact J_2 ((F 0) ||| (1 <<< (input &&& 31))) (by first | (simp only [if_pos c_6]; done) | rfl) _ _ hP hD hS _ (lv_sub hl [1, 3, 0] rfl)

def sp_X0_valveStuckAt (F : Nat → Int32) (k : Int32) : Int32 :=
  let z_1 : Int32 := (if k = 0 then (F 2) else (F 3))
  z_1
set_option maxRecDepth 100000 in
theorem sq_X0_valveStuckAt_1 (F : Nat → Int32) (k : Int32) (z_1 : Int32) (ez_1 : z_1 = (if k = 0 then (F 2) else (F 3))) : sp_X0_valveStuckAt F k = z_1 := by subst ez_1; rfl
set_option maxHeartbeats 4000000 in
set_option maxRecDepth 100000 in
theorem c_X0_valveStuckAt (l : Launch) (D : va_G) (cI cJ cO : ClassId) (h : Nat) (F : Nat → Int32) (k : Int32)  : MI l D (TY cI cJ cO) yX0_valveStuckAt wsX0_valveStuckAt (RM 0) [.ref h, .int k] [(h, oX0 F)] (sp_X0_valveStuckAt F k) [(h, oX0 F)] := by
  refine k_entI (cc := cX0_valveStuckAt) (maxL := 2) (lv := [(0, .ref h), (1, .int k)]) (by decide +kernel) rfl (Nat.le_of_ble_eq_true rfl) rfl ?_
  intro p e s m below meth c A Q ls hx hb hml hts hown hA hS hP hD hK hN hl hret
  have hown : s.vm.findClass RX0 = some m.cls := hown
  have hi0 : ∀ w ∈ wsX00, w ∈ wsX0_valveStuckAt := fun w h => List.mem_cons_of_mem _ (List.mem_append_right _ h)
  have hf18 := hts (.fieldLink RX0 18 "PressGuard$Faults" "firstValve" "I") (by decide +kernel)
  have hf21 := hts (.fieldLink RX0 21 "PressGuard$Faults" "secondValve" "I") (by decide +kernel)
  refine lv_iload_n hx hb dX0_valveStuckAt_0 rfl (lv_at hl 1 rfl) ?_
  have J_2 : ∀ z_1 : Int32, z_1 = (if k = 0 then (F 2) else (F 3)) → ∀ (H : Heap) (locs : List Loc), va_P D vwCl [(h, oX0 F)] H → va_D A [(h, oX0 F)] → va_S A s.heap H locs → ∀ ls : Array Slot, lv_has ls 2 [] → W p l e (RM 0) s m ([.ref h, .int k] : List Value).toArray below meth c H locs 0 0 Q (F0 m 15 ls [.int z_1]) := by
    intro z_1 ez_1 H locs hP hD hS ls hl
    have hsp : sp_X0_valveStuckAt F k = z_1 := sq_X0_valveStuckAt_1 F k z_1 ez_1
    exact hret _ _ _ _ _ (by rw [hsp]) rfl hP hS dX0_valveStuckAt_15
  refine lv_if_ne (tgt := 11) hx hb dX0_valveStuckAt_1 (by decide) (fun c_3 => ?_) (fun c_3 => ?_)
  · skip
    refine lv_aload_n hx hb dX0_valveStuckAt_11 rfl (lv_at hl 0 rfl) ?_
    refine k_get hx hb hts hi0 hown hK hP 0 rfl rfl 3 (by decide) hf21 (.int (F 3)) rfl dX0_valveStuckAt_12 ?_
    exact J_2 (F 3) (by first | (simp only [if_neg c_3]; done) | rfl) _ _ hP hD hS _ (lv_sub hl [] rfl)
  · skip
    refine lv_aload_n hx hb dX0_valveStuckAt_4 rfl (lv_at hl 0 rfl) ?_
    refine k_get hx hb hts hi0 hown hK hP 0 rfl rfl 2 (by decide) hf18 (.int (F 2)) rfl dX0_valveStuckAt_5 ?_
    refine lv_goto (tgt := 15) hx hb dX0_valveStuckAt_8 (by decide) ?_
    exact J_2 (F 2) (by first | (simp only [if_pos c_3]; done) | rfl) _ _ hP hD hS _ (lv_sub hl [] rfl)

def sp_X0_setValve (F : Nat → Int32) (k : Int32) (v : Int32) : (Nat → Int32) :=
  let z_1 : Nat → Int32 := (if k = 0 then (upd F 2 v) else (upd F 3 v))
  z_1
set_option maxRecDepth 100000 in
theorem sq_X0_setValve_1 (F : Nat → Int32) (k : Int32) (v : Int32) (z_1 : Nat → Int32) (ez_1 : z_1 = (if k = 0 then (upd F 2 v) else (upd F 3 v))) : sp_X0_setValve F k v = z_1 := by subst ez_1; rfl
set_option maxHeartbeats 4000000 in
set_option maxRecDepth 100000 in
theorem c_X0_setValve (l : Launch) (D : va_G) (cI cJ cO : ClassId) (h : Nat) (F : Nat → Int32) (k : Int32) (v : Int32)  : MV l D (TY cI cJ cO) yX0_setValve wsX0_setValve (RM 0) [.ref h, .int k, .int v] [(h, oX0 F)] [(h, oX0 (sp_X0_setValve F k v))] := by
  refine k_entV (cc := cX0_setValve) (maxL := 3) (lv := [(0, .ref h), (1, .int k), (2, .int v)]) (by decide +kernel) rfl (Nat.le_of_ble_eq_true rfl) rfl ?_
  intro p e s m below meth c A Q ls hx hb hml hts hown hA hS hP hD hK hN hl hret
  have hown : s.vm.findClass RX0 = some m.cls := hown
  have hi0 : ∀ w ∈ wsX00, w ∈ wsX0_setValve := fun w h => List.mem_cons_of_mem _ (List.mem_append_right _ h)
  have hf18 := hts (.fieldLink RX0 18 "PressGuard$Faults" "firstValve" "I") (by decide +kernel)
  have hf21 := hts (.fieldLink RX0 21 "PressGuard$Faults" "secondValve" "I") (by decide +kernel)
  refine lv_iload_n hx hb dX0_setValve_0 rfl (lv_at hl 1 rfl) ?_
  have J_2 : ∀ z_1 : Nat → Int32, z_1 = (if k = 0 then (upd F 2 v) else (upd F 3 v)) → ∀ (H : Heap) (locs : List Loc), va_P D vwCl [(h, oX0 z_1)] H → va_D A [(h, oX0 z_1)] → va_S A s.heap H locs → ∀ ls : Array Slot, lv_has ls 3 [] → W p l e (RM 0) s m ([.ref h, .int k, .int v] : List Value).toArray below meth c H locs 0 0 Q (F0 m 17 ls []) := by
    intro z_1 ez_1 H locs hP hD hS ls hl
    have hsp : sp_X0_setValve F k v = z_1 := sq_X0_setValve_1 F k v z_1 ez_1
    exact hret _ _ _ _ (by rw [hsp]; exact hP) hS dX0_setValve_17
  refine lv_if_ne (tgt := 12) hx hb dX0_setValve_1 (by decide) (fun c_3 => ?_) (fun c_3 => ?_)
  · skip
    refine lv_aload_n hx hb dX0_setValve_12 rfl (lv_at hl 0 rfl) ?_
    refine lv_iload_n hx hb dX0_setValve_13 rfl (lv_at hl 2 rfl) ?_
    refine k_put hx hb hts hi0 tyX0_ok nmX0 hown hK hP hD hS 0 rfl rfl 3 (by decide) hf21 rfl (.int v) rfl rfl (Nat.le_of_ble_eq_true rfl) (ws' := [(h, oX0 (upd F 3 v))]) rfl dX0_setValve_14 (fun H locs hP hD hS => ?_)
    exact J_2 (upd F 3 v) (by first | (simp only [if_neg c_3]; done) | rfl) _ _ hP hD hS _ (lv_sub hl [] rfl)
  · skip
    refine lv_aload_n hx hb dX0_setValve_4 rfl (lv_at hl 0 rfl) ?_
    refine lv_iload_n hx hb dX0_setValve_5 rfl (lv_at hl 2 rfl) ?_
    refine k_put hx hb hts hi0 tyX0_ok nmX0 hown hK hP hD hS 0 rfl rfl 2 (by decide) hf18 rfl (.int v) rfl rfl (Nat.le_of_ble_eq_true rfl) (ws' := [(h, oX0 (upd F 2 v))]) rfl dX0_setValve_6 (fun H locs hP hD hS => ?_)
    refine lv_goto (tgt := 17) hx hb dX0_setValve_9 (by decide) ?_
    exact J_2 (upd F 2 v) (by first | (simp only [if_pos c_3]; done) | rfl) _ _ hP hD hS _ (lv_sub hl [] rfl)

def sp_X0_valvesStuck (F : Nat → Int32) : Int32 :=
  let z_1 : Int32 := (if (F 2) = 2 then 0 else 1)
  let z_3 : Int32 := (if (F 3) = 2 then 0 else 1)
  (z_1 + z_3)
set_option maxRecDepth 100000 in
theorem sq_X0_valvesStuck_1 (F : Nat → Int32) (z_1 : Int32) (z_3 : Int32) (ez_1 : z_1 = (if (F 2) = 2 then 0 else 1)) (ez_3 : z_3 = (if (F 3) = 2 then 0 else 1)) : sp_X0_valvesStuck F = (z_1 + z_3) := by subst ez_3; subst ez_1; rfl
set_option maxHeartbeats 4000000 in
set_option maxRecDepth 100000 in
theorem c_X0_valvesStuck (l : Launch) (D : va_G) (cI cJ cO : ClassId) (h : Nat) (F : Nat → Int32)  : MI l D (TY cI cJ cO) yX0_valvesStuck wsX0_valvesStuck (RM 0) [.ref h] [(h, oX0 F)] (sp_X0_valvesStuck F) [(h, oX0 F)] := by
  refine k_entI (cc := cX0_valvesStuck) (maxL := 1) (lv := [(0, .ref h)]) (by decide +kernel) rfl (Nat.le_of_ble_eq_true rfl) rfl ?_
  intro p e s m below meth c A Q ls hx hb hml hts hown hA hS hP hD hK hN hl hret
  have hown : s.vm.findClass RX0 = some m.cls := hown
  have hi0 : ∀ w ∈ wsX00, w ∈ wsX0_valvesStuck := fun w h => List.mem_cons_of_mem _ (List.mem_append_right _ h)
  have hf18 := hts (.fieldLink RX0 18 "PressGuard$Faults" "firstValve" "I") (by decide +kernel)
  have hf21 := hts (.fieldLink RX0 21 "PressGuard$Faults" "secondValve" "I") (by decide +kernel)
  refine lv_aload_n hx hb dX0_valvesStuck_0 rfl (lv_at hl 0 rfl) ?_
  refine k_get hx hb hts hi0 hown hK hP 0 rfl rfl 2 (by decide) hf18 (.int (F 2)) rfl dX0_valvesStuck_1 ?_
  refine lv_iconst (v := 2) hx hb dX0_valvesStuck_4 (by decide +kernel) ?_
  have J_2 : ∀ z_1 : Int32, z_1 = (if (F 2) = 2 then 0 else 1) → ∀ (H : Heap) (locs : List Loc), va_P D vwCl [(h, oX0 F)] H → va_D A [(h, oX0 F)] → va_S A s.heap H locs → ∀ ls : Array Slot, lv_has ls 1 [(0, .ref h)] → W p l e (RM 0) s m ([.ref h] : List Value).toArray below meth c H locs 0 0 Q (F0 m 13 ls [.int z_1]) := by
    intro z_1 ez_1 H locs hP hD hS ls hl
    refine lv_aload_n hx hb dX0_valvesStuck_13 rfl (lv_at hl 0 rfl) ?_
    refine k_get hx hb hts hi0 hown hK hP 0 rfl rfl 3 (by decide) hf21 (.int (F 3)) rfl dX0_valvesStuck_14 ?_
    refine lv_iconst (v := 2) hx hb dX0_valvesStuck_17 (by decide +kernel) ?_
    have J_4 : ∀ z_3 : Int32, z_3 = (if (F 3) = 2 then 0 else 1) → ∀ (H : Heap) (locs : List Loc), va_P D vwCl [(h, oX0 F)] H → va_D A [(h, oX0 F)] → va_S A s.heap H locs → ∀ ls : Array Slot, lv_has ls 1 [] → W p l e (RM 0) s m ([.ref h] : List Value).toArray below meth c H locs 0 0 Q (F0 m 26 ls [.int z_3, .int z_1]) := by
      intro z_3 ez_3 H locs hP hD hS ls hl
      refine lv_iadd hx hb dX0_valvesStuck_26 ?_
      have hsp : sp_X0_valvesStuck F = (z_1 + z_3) := sq_X0_valvesStuck_1 F z_1 z_3 ez_1 ez_3
      exact hret _ _ _ _ _ (by rw [hsp]) rfl hP hS dX0_valvesStuck_27
    refine lv_icmp_ne (tgt := 25) hx hb dX0_valvesStuck_18 (by decide) (fun c_5 => ?_) (fun c_5 => ?_)
    · skip
      refine lv_iconst (v := 1) hx hb dX0_valvesStuck_25 (by decide +kernel) ?_
      exact J_4 1 (by first | (simp only [if_neg c_5]; done) | rfl) _ _ hP hD hS _ (lv_sub hl [] rfl)
    · skip
      refine lv_iconst (v := 0) hx hb dX0_valvesStuck_21 (by decide +kernel) ?_
      refine lv_goto (tgt := 26) hx hb dX0_valvesStuck_22 (by decide) ?_
      exact J_4 0 (by first | (simp only [if_pos c_5]; done) | rfl) _ _ hP hD hS _ (lv_sub hl [] rfl)
  refine lv_icmp_ne (tgt := 12) hx hb dX0_valvesStuck_5 (by decide) (fun c_6 => ?_) (fun c_6 => ?_)
  · skip
    refine lv_iconst (v := 1) hx hb dX0_valvesStuck_12 (by decide +kernel) ?_
    exact J_2 1 (by first | (simp only [if_neg c_6]; done) | rfl) _ _ hP hD hS _ (lv_sub hl [0] rfl)
  · skip
    refine lv_iconst (v := 0) hx hb dX0_valvesStuck_8 (by decide +kernel) ?_
    refine lv_goto (tgt := 13) hx hb dX0_valvesStuck_9 (by decide) ?_
    exact J_2 0 (by first | (simp only [if_pos c_6]; done) | rfl) _ _ hP hD hS _ (lv_sub hl [0] rfl)

def sp_X0_seenOf (F : Nat → Int32) (told : Int32) : Int32 :=
  ((told ||| (F 1)) &&& ((F 0) ^^^ (-1)))
set_option maxHeartbeats 4000000 in
set_option maxRecDepth 100000 in
theorem c_X0_seenOf (l : Launch) (D : va_G) (cI cJ cO : ClassId) (h : Nat) (F : Nat → Int32) (told : Int32)  : MI l D (TY cI cJ cO) yX0_seenOf wsX0_seenOf (RM 0) [.ref h, .int told] [(h, oX0 F)] (sp_X0_seenOf F told) [(h, oX0 F)] := by
  refine k_entI (cc := cX0_seenOf) (maxL := 2) (lv := [(0, .ref h), (1, .int told)]) (by decide +kernel) rfl (Nat.le_of_ble_eq_true rfl) rfl ?_
  intro p e s m below meth c A Q ls hx hb hml hts hown hA hS hP hD hK hN hl hret
  have hown : s.vm.findClass RX0 = some m.cls := hown
  have hi0 : ∀ w ∈ wsX00, w ∈ wsX0_seenOf := fun w h => List.mem_cons_of_mem _ (List.mem_append_right _ h)
  have hf9 := hts (.fieldLink RX0 9 "PressGuard$Faults" "stuckOff" "I") (by decide +kernel)
  have hf15 := hts (.fieldLink RX0 15 "PressGuard$Faults" "stuckOn" "I") (by decide +kernel)
  refine lv_iload_n hx hb dX0_seenOf_0 rfl (lv_at hl 1 rfl) ?_
  refine lv_aload_n hx hb dX0_seenOf_1 rfl (lv_at hl 0 rfl) ?_
  refine k_get hx hb hts hi0 hown hK hP 0 rfl rfl 1 (by decide) hf15 (.int (F 1)) rfl dX0_seenOf_2 ?_
  refine lv_ior hx hb dX0_seenOf_5 ?_
  refine lv_aload_n hx hb dX0_seenOf_6 rfl (lv_at hl 0 rfl) ?_
  refine k_get hx hb hts hi0 hown hK hP 0 rfl rfl 0 (by decide) hf9 (.int (F 0)) rfl dX0_seenOf_7 ?_
  refine lv_iconst (v := (-1)) hx hb dX0_seenOf_10 (by decide +kernel) ?_
  refine lv_ixor hx hb dX0_seenOf_11 ?_
  refine lv_iand hx hb dX0_seenOf_12 ?_
  have hsp : sp_X0_seenOf F told = ((told ||| (F 1)) &&& ((F 0) ^^^ (-1))) := rfl
  exact hret _ _ _ _ _ (by rw [hsp]) rfl hP hS dX0_seenOf_13

def sp_X0_valvesObey (F : Nat → Int32) (command : Int32) : Int32 :=
  let z_1 : Int32 := (if (sp_X0_valveIs (F 2) command) = command then (if (sp_X0_valveIs (F 3) command) = command then 1 else 0) else 0)
  z_1
set_option maxRecDepth 100000 in
theorem sq_X0_valvesObey_1 (F : Nat → Int32) (command : Int32) (z_1 : Int32) (ez_1 : z_1 = (if (sp_X0_valveIs (F 2) command) = command then (if (sp_X0_valveIs (F 3) command) = command then 1 else 0) else 0)) : sp_X0_valvesObey F command = z_1 := by subst ez_1; rfl
set_option maxHeartbeats 4000000 in
set_option maxRecDepth 100000 in
theorem c_X0_valvesObey (l : Launch) (D : va_G) (cI cJ cO : ClassId) (h : Nat) (F : Nat → Int32) (command : Int32)  : MI l D (TY cI cJ cO) yX0_valvesObey wsX0_valvesObey (RM 1) [.ref h, .int command] [(h, oX0 F)] (sp_X0_valvesObey F command) [(h, oX0 F)] := by
  refine k_entI (cc := cX0_valvesObey) (maxL := 2) (lv := [(0, .ref h), (1, .int command)]) (by decide +kernel) rfl (Nat.le_of_ble_eq_true rfl) rfl ?_
  intro p e s m below meth c A Q ls hx hb hml hts hown hA hS hP hD hK hN hl hret
  have hown : s.vm.findClass RX0 = some m.cls := hown
  have hi0 : ∀ w ∈ wsX00, w ∈ wsX0_valvesObey := fun w h => List.mem_cons_of_mem _ (List.mem_append_right _ h)
  have hf18 := hts (.fieldLink RX0 18 "PressGuard$Faults" "firstValve" "I") (by decide +kernel)
  have hf21 := hts (.fieldLink RX0 21 "PressGuard$Faults" "secondValve" "I") (by decide +kernel)
  refine lv_aload_n hx hb dX0_valvesObey_0 rfl (lv_at hl 0 rfl) ?_
  refine k_get hx hb hts hi0 hown hK hP 0 rfl rfl 2 (by decide) hf18 (.int (F 2)) rfl dX0_valvesObey_1 ?_
  refine lv_iload_n hx hb dX0_valvesObey_4 rfl (lv_at hl 1 rfl) ?_
  refine k_Si ⟨hx, hb, hml, hown, hts⟩ (c_X0_valveIs l D cI cJ cO (F 2) command) (va_cwS 2 hts gX0_valvesObey_X0_valveIs rfl rfl rfl (by decide +kernel) ⟨Nat.le_of_ble_eq_true rfl, Nat.le_of_ble_eq_true rfl⟩) hK hN hP hD hS hA [] rfl rfl rfl (ws' := [(h, oX0 F)]) rfl rfl hl.1 rfl (Nat.le_of_ble_eq_true rfl) dX0_valvesObey_5 ⟨Nat.le_refl _, Nat.le_refl _⟩ (fun H locs hP hD hS => ?_)
  refine lv_iload_n hx hb dX0_valvesObey_8 rfl (lv_at hl 1 rfl) ?_
  have J_2 : ∀ z_1 : Int32, z_1 = (if (sp_X0_valveIs (F 2) command) = command then (if (sp_X0_valveIs (F 3) command) = command then 1 else 0) else 0) → ∀ (H : Heap) (locs : List Loc), va_P D vwCl [(h, oX0 F)] H → va_D A [(h, oX0 F)] → va_S A s.heap H locs → ∀ ls : Array Slot, lv_has ls 2 [] → W p l e (RM 1) s m ([.ref h, .int command] : List Value).toArray below meth c H locs 0 0 Q (F0 m 29 ls [.int z_1]) := by
    intro z_1 ez_1 H locs hP hD hS ls hl
    have hsp : sp_X0_valvesObey F command = z_1 := sq_X0_valvesObey_1 F command z_1 ez_1
    exact hret _ _ _ _ _ (by rw [hsp]) (by subst ez_1; (repeat' split) <;> rfl) hP hS dX0_valvesObey_29
  refine lv_icmp_ne (tgt := 28) hx hb dX0_valvesObey_9 (by decide) (fun c_3 => ?_) (fun c_3 => ?_)
  · skip
    refine lv_iconst (v := 0) hx hb dX0_valvesObey_28 (by decide +kernel) ?_
    exact J_2 0 (by first | (simp only [if_neg c_3]; done) | rfl) _ _ hP hD hS _ (lv_sub hl [] rfl)
  · skip
    refine lv_aload_n hx hb dX0_valvesObey_12 rfl (lv_at hl 0 rfl) ?_
    refine k_get hx hb hts hi0 hown hK hP 0 rfl rfl 3 (by decide) hf21 (.int (F 3)) rfl dX0_valvesObey_13 ?_
    refine lv_iload_n hx hb dX0_valvesObey_16 rfl (lv_at hl 1 rfl) ?_
    refine k_Si ⟨hx, hb, hml, hown, hts⟩ (c_X0_valveIs l D cI cJ cO (F 3) command) (va_cwS 2 hts gX0_valvesObey_X0_valveIs rfl rfl rfl (by decide +kernel) ⟨Nat.le_of_ble_eq_true rfl, Nat.le_of_ble_eq_true rfl⟩) hK hN hP hD hS hA [] rfl rfl rfl (ws' := [(h, oX0 F)]) rfl rfl hl.1 rfl (Nat.le_of_ble_eq_true rfl) dX0_valvesObey_17 ⟨Nat.le_refl _, Nat.le_refl _⟩ (fun H locs hP hD hS => ?_)
    refine lv_iload_n hx hb dX0_valvesObey_20 rfl (lv_at hl 1 rfl) ?_
    refine lv_icmp_ne (tgt := 28) hx hb dX0_valvesObey_21 (by decide) (fun c_4 => ?_) (fun c_4 => ?_)
    · skip
      refine lv_iconst (v := 0) hx hb dX0_valvesObey_28 (by decide +kernel) ?_
      exact J_2 0 (by first | (simp only [if_pos c_3, if_neg c_4]; done) | rfl) _ _ hP hD hS _ (lv_sub hl [] rfl)
    · skip
      refine lv_iconst (v := 1) hx hb dX0_valvesObey_24 (by decide +kernel) ?_
      refine lv_goto (tgt := 29) hx hb dX0_valvesObey_25 (by decide) ?_
      exact J_2 1 (by first | (simp only [if_pos c_3, if_pos c_4]; done) | rfl) _ _ hP hD hS _ (lv_sub hl [] rfl)

def sp_X0_bothOpen (F : Nat → Int32) (command : Int32) : Int32 :=
  let z_1 : Int32 := (if (sp_X0_valveIs (F 2) command) = 1 then (if (sp_X0_valveIs (F 3) command) = 1 then 1 else 0) else 0)
  z_1
set_option maxRecDepth 100000 in
theorem sq_X0_bothOpen_1 (F : Nat → Int32) (command : Int32) (z_1 : Int32) (ez_1 : z_1 = (if (sp_X0_valveIs (F 2) command) = 1 then (if (sp_X0_valveIs (F 3) command) = 1 then 1 else 0) else 0)) : sp_X0_bothOpen F command = z_1 := by subst ez_1; rfl
set_option maxHeartbeats 4000000 in
set_option maxRecDepth 100000 in
theorem c_X0_bothOpen (l : Launch) (D : va_G) (cI cJ cO : ClassId) (h : Nat) (F : Nat → Int32) (command : Int32)  : MI l D (TY cI cJ cO) yX0_bothOpen wsX0_bothOpen (RM 1) [.ref h, .int command] [(h, oX0 F)] (sp_X0_bothOpen F command) [(h, oX0 F)] := by
  refine k_entI (cc := cX0_bothOpen) (maxL := 2) (lv := [(0, .ref h), (1, .int command)]) (by decide +kernel) rfl (Nat.le_of_ble_eq_true rfl) rfl ?_
  intro p e s m below meth c A Q ls hx hb hml hts hown hA hS hP hD hK hN hl hret
  have hown : s.vm.findClass RX0 = some m.cls := hown
  have hi0 : ∀ w ∈ wsX00, w ∈ wsX0_bothOpen := fun w h => List.mem_cons_of_mem _ (List.mem_append_right _ h)
  have hf18 := hts (.fieldLink RX0 18 "PressGuard$Faults" "firstValve" "I") (by decide +kernel)
  have hf21 := hts (.fieldLink RX0 21 "PressGuard$Faults" "secondValve" "I") (by decide +kernel)
  refine lv_aload_n hx hb dX0_bothOpen_0 rfl (lv_at hl 0 rfl) ?_
  refine k_get hx hb hts hi0 hown hK hP 0 rfl rfl 2 (by decide) hf18 (.int (F 2)) rfl dX0_bothOpen_1 ?_
  refine lv_iload_n hx hb dX0_bothOpen_4 rfl (lv_at hl 1 rfl) ?_
  refine k_Si ⟨hx, hb, hml, hown, hts⟩ (c_X0_valveIs l D cI cJ cO (F 2) command) (va_cwS 2 hts gX0_bothOpen_X0_valveIs rfl rfl rfl (by decide +kernel) ⟨Nat.le_of_ble_eq_true rfl, Nat.le_of_ble_eq_true rfl⟩) hK hN hP hD hS hA [] rfl rfl rfl (ws' := [(h, oX0 F)]) rfl rfl hl.1 rfl (Nat.le_of_ble_eq_true rfl) dX0_bothOpen_5 ⟨Nat.le_refl _, Nat.le_refl _⟩ (fun H locs hP hD hS => ?_)
  refine lv_iconst (v := 1) hx hb dX0_bothOpen_8 (by decide +kernel) ?_
  have J_2 : ∀ z_1 : Int32, z_1 = (if (sp_X0_valveIs (F 2) command) = 1 then (if (sp_X0_valveIs (F 3) command) = 1 then 1 else 0) else 0) → ∀ (H : Heap) (locs : List Loc), va_P D vwCl [(h, oX0 F)] H → va_D A [(h, oX0 F)] → va_S A s.heap H locs → ∀ ls : Array Slot, lv_has ls 2 [] → W p l e (RM 1) s m ([.ref h, .int command] : List Value).toArray below meth c H locs 0 0 Q (F0 m 29 ls [.int z_1]) := by
    intro z_1 ez_1 H locs hP hD hS ls hl
    have hsp : sp_X0_bothOpen F command = z_1 := sq_X0_bothOpen_1 F command z_1 ez_1
    exact hret _ _ _ _ _ (by rw [hsp]) (by subst ez_1; (repeat' split) <;> rfl) hP hS dX0_bothOpen_29
  refine lv_icmp_ne (tgt := 28) hx hb dX0_bothOpen_9 (by decide) (fun c_3 => ?_) (fun c_3 => ?_)
  · skip
    refine lv_iconst (v := 0) hx hb dX0_bothOpen_28 (by decide +kernel) ?_
    exact J_2 0 (by first | (simp only [if_neg c_3]; done) | rfl) _ _ hP hD hS _ (lv_sub hl [] rfl)
  · skip
    refine lv_aload_n hx hb dX0_bothOpen_12 rfl (lv_at hl 0 rfl) ?_
    refine k_get hx hb hts hi0 hown hK hP 0 rfl rfl 3 (by decide) hf21 (.int (F 3)) rfl dX0_bothOpen_13 ?_
    refine lv_iload_n hx hb dX0_bothOpen_16 rfl (lv_at hl 1 rfl) ?_
    refine k_Si ⟨hx, hb, hml, hown, hts⟩ (c_X0_valveIs l D cI cJ cO (F 3) command) (va_cwS 2 hts gX0_bothOpen_X0_valveIs rfl rfl rfl (by decide +kernel) ⟨Nat.le_of_ble_eq_true rfl, Nat.le_of_ble_eq_true rfl⟩) hK hN hP hD hS hA [] rfl rfl rfl (ws' := [(h, oX0 F)]) rfl rfl hl.1 rfl (Nat.le_of_ble_eq_true rfl) dX0_bothOpen_17 ⟨Nat.le_refl _, Nat.le_refl _⟩ (fun H locs hP hD hS => ?_)
    refine lv_iconst (v := 1) hx hb dX0_bothOpen_20 (by decide +kernel) ?_
    refine lv_icmp_ne (tgt := 28) hx hb dX0_bothOpen_21 (by decide) (fun c_4 => ?_) (fun c_4 => ?_)
    · skip
      refine lv_iconst (v := 0) hx hb dX0_bothOpen_28 (by decide +kernel) ?_
      exact J_2 0 (by first | (simp only [if_pos c_3, if_neg c_4]; done) | rfl) _ _ hP hD hS _ (lv_sub hl [] rfl)
    · skip
      refine lv_iconst (v := 1) hx hb dX0_bothOpen_24 (by decide +kernel) ?_
      refine lv_goto (tgt := 29) hx hb dX0_bothOpen_25 (by decide) ?_
      exact J_2 1 (by first | (simp only [if_pos c_3, if_pos c_4]; done) | rfl) _ _ hP hD hS _ (lv_sub hl [] rfl)

def sp_X5_become (S : Nat → Int32) (p0 : Int32) (p1 : Int32) (p2 : Int32) (p3 : Int32) (p4 : Int32) : (Nat → Int32) :=
  (upd (upd (upd (upd (upd S 0 p0) 1 p1) 2 p2) 3 p3) 4 p4)
set_option maxHeartbeats 4000000 in
set_option maxRecDepth 100000 in
theorem c_X5_become (l : Launch) (D : va_G) (cI cJ cO : ClassId) (h : Nat) (S : Nat → Int32) (p0 : Int32) (p1 : Int32) (p2 : Int32) (p3 : Int32) (p4 : Int32)  : MV l D (TY cI cJ cO) yX5_become wsX5_become (RM 0) [.ref h, .int p0, .int p1, .int p2, .int p3, .int p4] [(h, oX5 S)] [(h, oX5 (sp_X5_become S p0 p1 p2 p3 p4))] := by
  refine k_entV (cc := cX5_become) (maxL := 6) (lv := [(0, .ref h), (1, .int p0), (2, .int p1), (3, .int p2), (4, .int p3), (5, .int p4)]) (by decide +kernel) rfl (Nat.le_of_ble_eq_true rfl) rfl ?_
  intro p e s m below meth c A Q ls hx hb hml hts hown hA hS hP hD hK hN hl hret
  have hown : s.vm.findClass RX5 = some m.cls := hown
  have hi5 : ∀ w ∈ wsX50, w ∈ wsX5_become := fun w h => List.mem_cons_of_mem _ (List.mem_append_right _ h)
  have hf9 := hts (.fieldLink RX5 9 "PressGuard$Settings" "patience" "I") (by decide +kernel)
  have hf15 := hts (.fieldLink RX5 15 "PressGuard$Settings" "span" "I") (by decide +kernel)
  have hf18 := hts (.fieldLink RX5 18 "PressGuard$Settings" "limit" "I") (by decide +kernel)
  have hf21 := hts (.fieldLink RX5 21 "PressGuard$Settings" "overrun" "I") (by decide +kernel)
  have hf24 := hts (.fieldLink RX5 24 "PressGuard$Settings" "bottom" "I") (by decide +kernel)
  refine lv_aload_n hx hb dX5_become_0 rfl (lv_at hl 0 rfl) ?_
  refine lv_iload_n hx hb dX5_become_1 rfl (lv_at hl 1 rfl) ?_
  refine k_put hx hb hts hi5 tyX5_ok nmX5 hown hK hP hD hS 0 rfl rfl 0 (by decide) hf9 rfl (.int p0) rfl rfl (Nat.le_of_ble_eq_true rfl) (ws' := [(h, oX5 (upd S 0 p0))]) rfl dX5_become_2 (fun H locs hP hD hS => ?_)
  refine lv_aload_n hx hb dX5_become_5 rfl (lv_at hl 0 rfl) ?_
  refine lv_iload_n hx hb dX5_become_6 rfl (lv_at hl 2 rfl) ?_
  refine k_put hx hb hts hi5 tyX5_ok nmX5 hown hK hP hD hS 0 rfl rfl 1 (by decide) hf15 rfl (.int p1) rfl rfl (Nat.le_of_ble_eq_true rfl) (ws' := [(h, oX5 (upd (upd S 0 p0) 1 p1))]) rfl dX5_become_7 (fun H locs hP hD hS => ?_)
  refine lv_aload_n hx hb dX5_become_10 rfl (lv_at hl 0 rfl) ?_
  refine lv_iload_n hx hb dX5_become_11 rfl (lv_at hl 3 rfl) ?_
  refine k_put hx hb hts hi5 tyX5_ok nmX5 hown hK hP hD hS 0 rfl rfl 2 (by decide) hf18 rfl (.int p2) rfl rfl (Nat.le_of_ble_eq_true rfl) (ws' := [(h, oX5 (upd (upd (upd S 0 p0) 1 p1) 2 p2))]) rfl dX5_become_12 (fun H locs hP hD hS => ?_)
  refine lv_aload_n hx hb dX5_become_15 rfl (lv_at hl 0 rfl) ?_
  refine lv_iload hx hb dX5_become_16 (lv_at hl 4 rfl) ?_
  refine k_put hx hb hts hi5 tyX5_ok nmX5 hown hK hP hD hS 0 rfl rfl 3 (by decide) hf21 rfl (.int p3) rfl rfl (Nat.le_of_ble_eq_true rfl) (ws' := [(h, oX5 (upd (upd (upd (upd S 0 p0) 1 p1) 2 p2) 3 p3))]) rfl dX5_become_18 (fun H locs hP hD hS => ?_)
  refine lv_aload_n hx hb dX5_become_21 rfl (lv_at hl 0 rfl) ?_
  refine lv_iload hx hb dX5_become_22 (lv_at hl 5 rfl) ?_
  refine k_put hx hb hts hi5 tyX5_ok nmX5 hown hK hP hD hS 0 rfl rfl 4 (by decide) hf24 rfl (.int p4) rfl rfl (Nat.le_of_ble_eq_true rfl) (ws' := [(h, oX5 (upd (upd (upd (upd (upd S 0 p0) 1 p1) 2 p2) 3 p3) 4 p4))]) rfl dX5_become_24 (fun H locs hP hD hS => ?_)
  have hsp : sp_X5_become S p0 p1 p2 p3 p4 = (upd (upd (upd (upd (upd S 0 p0) 1 p1) 2 p2) 3 p3) 4 p4) := rfl
  exact hret _ _ _ _ (by rw [hsp]; exact hP) hS dX5_become_27

def sp_X5_part (S : Nat → Int32) (what : Int32) : Int32 :=
  (if what = 0 then
    (S 0)
  else
    (if what = 1 then
      (S 1)
    else
      (if what = 2 then
        (S 2)
      else
        (if what = 3 then
          (S 3)
        else
          (if what = 4 then
            (S 4)
          else
            (-2))))))
set_option maxHeartbeats 4000000 in
set_option maxRecDepth 100000 in
theorem c_X5_part (l : Launch) (D : va_G) (cI cJ cO : ClassId) (h : Nat) (S : Nat → Int32) (what : Int32)  : MI l D (TY cI cJ cO) yX5_part wsX5_part (RM 0) [.ref h, .int what] [(h, oX5 S)] (sp_X5_part S what) [(h, oX5 S)] := by
  refine k_entI (cc := cX5_part) (maxL := 2) (lv := [(0, .ref h), (1, .int what)]) (by decide +kernel) rfl (Nat.le_of_ble_eq_true rfl) rfl ?_
  intro p e s m below meth c A Q ls hx hb hml hts hown hA hS hP hD hK hN hl hret
  have hown : s.vm.findClass RX5 = some m.cls := hown
  have hi5 : ∀ w ∈ wsX50, w ∈ wsX5_part := fun w h => List.mem_cons_of_mem _ (List.mem_append_right _ h)
  have hf9 := hts (.fieldLink RX5 9 "PressGuard$Settings" "patience" "I") (by decide +kernel)
  have hf15 := hts (.fieldLink RX5 15 "PressGuard$Settings" "span" "I") (by decide +kernel)
  have hf18 := hts (.fieldLink RX5 18 "PressGuard$Settings" "limit" "I") (by decide +kernel)
  have hf21 := hts (.fieldLink RX5 21 "PressGuard$Settings" "overrun" "I") (by decide +kernel)
  have hf24 := hts (.fieldLink RX5 24 "PressGuard$Settings" "bottom" "I") (by decide +kernel)
  refine lv_iload_n hx hb dX5_part_0 rfl (lv_at hl 1 rfl) ?_
  by_cases c_1 : what = 0
  · refine lv_tableIn (off := 35) (tgt := 36) hx hb dX5_part_1 (by rw [c_1]; decide) (by rw [c_1]; decide) (by rw [c_1]; rfl) (by decide) ?_
    refine lv_aload_n hx hb dX5_part_36 rfl (lv_at hl 0 rfl) ?_
    refine k_get hx hb hts hi5 hown hK hP 0 rfl rfl 0 (by decide) hf9 (.int (S 0)) rfl dX5_part_37 ?_
    have hsp : sp_X5_part S what = (S 0) := by simp only [sp_X5_part, if_pos c_1]
    exact hret _ _ _ _ _ (by rw [hsp]) rfl hP hS dX5_part_40
  by_cases c_2 : what = 1
  · refine lv_tableIn (off := 40) (tgt := 41) hx hb dX5_part_1 (by rw [c_2]; decide) (by rw [c_2]; decide) (by rw [c_2]; rfl) (by decide) ?_
    refine lv_aload_n hx hb dX5_part_41 rfl (lv_at hl 0 rfl) ?_
    refine k_get hx hb hts hi5 hown hK hP 0 rfl rfl 1 (by decide) hf15 (.int (S 1)) rfl dX5_part_42 ?_
    have hsp : sp_X5_part S what = (S 1) := by simp only [sp_X5_part, if_neg c_1, if_pos c_2]
    exact hret _ _ _ _ _ (by rw [hsp]) rfl hP hS dX5_part_45
  by_cases c_3 : what = 2
  · refine lv_tableIn (off := 45) (tgt := 46) hx hb dX5_part_1 (by rw [c_3]; decide) (by rw [c_3]; decide) (by rw [c_3]; rfl) (by decide) ?_
    refine lv_aload_n hx hb dX5_part_46 rfl (lv_at hl 0 rfl) ?_
    refine k_get hx hb hts hi5 hown hK hP 0 rfl rfl 2 (by decide) hf18 (.int (S 2)) rfl dX5_part_47 ?_
    have hsp : sp_X5_part S what = (S 2) := by simp only [sp_X5_part, if_neg c_1, if_neg c_2, if_pos c_3]
    exact hret _ _ _ _ _ (by rw [hsp]) rfl hP hS dX5_part_50
  by_cases c_4 : what = 3
  · refine lv_tableIn (off := 50) (tgt := 51) hx hb dX5_part_1 (by rw [c_4]; decide) (by rw [c_4]; decide) (by rw [c_4]; rfl) (by decide) ?_
    refine lv_aload_n hx hb dX5_part_51 rfl (lv_at hl 0 rfl) ?_
    refine k_get hx hb hts hi5 hown hK hP 0 rfl rfl 3 (by decide) hf21 (.int (S 3)) rfl dX5_part_52 ?_
    have hsp : sp_X5_part S what = (S 3) := by simp only [sp_X5_part, if_neg c_1, if_neg c_2, if_neg c_3, if_pos c_4]
    exact hret _ _ _ _ _ (by rw [hsp]) rfl hP hS dX5_part_55
  by_cases c_5 : what = 4
  · refine lv_tableIn (off := 55) (tgt := 56) hx hb dX5_part_1 (by rw [c_5]; decide) (by rw [c_5]; decide) (by rw [c_5]; rfl) (by decide) ?_
    refine lv_aload_n hx hb dX5_part_56 rfl (lv_at hl 0 rfl) ?_
    refine k_get hx hb hts hi5 hown hK hP 0 rfl rfl 4 (by decide) hf24 (.int (S 4)) rfl dX5_part_57 ?_
    have hsp : sp_X5_part S what = (S 4) := by simp only [sp_X5_part, if_neg c_1, if_neg c_2, if_neg c_3, if_neg c_4, if_pos c_5]
    exact hret _ _ _ _ _ (by rw [hsp]) rfl hP hS dX5_part_60
  refine lv_tableOut (tgt := 61) hx hb dX5_part_1 (by have q0 := lv_neT c_1 (show (0 : Int32).toInt = 0 by decide +kernel); have q1 := lv_neT c_2 (show (1 : Int32).toInt = 1 by decide +kernel); have q2 := lv_neT c_3 (show (2 : Int32).toInt = 2 by decide +kernel); have q3 := lv_neT c_4 (show (3 : Int32).toInt = 3 by decide +kernel); have q4 := lv_neT c_5 (show (4 : Int32).toInt = 4 by decide +kernel); omega) (by decide) ?_
  refine lv_bipush (v := (-2)) hx hb dX5_part_61 (by decide +kernel) ?_
  have hsp : sp_X5_part S what = (-2) := by simp only [sp_X5_part, if_neg c_1, if_neg c_2, if_neg c_3, if_neg c_4, if_neg c_5]
  exact hret _ _ _ _ _ (by rw [hsp]) rfl hP hS dX5_part_63
