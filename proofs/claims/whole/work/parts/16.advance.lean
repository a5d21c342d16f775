def sp_X2_advance (P : Nat → Int32) (S : Nat → Int32) (F : Nat → Int32) (told : Int32) : (Nat → Int32) :=
  let z_1 : Int32 := (sp_X2_apartThen (P 7) (sp_X0_seenOf F told) 0)
  let z_2 : Int32 := (sp_X2_apartThen (P 8) (sp_X0_seenOf F told) 2)
  let z_3 : Int32 := (sp_X2_apartThen (P 9) (sp_X0_seenOf F told) 4)
  let P_4 : Nat → Int32 := (sp_X2_moveMuting (upd (upd (upd P 7 z_1) 8 z_2) 9 z_3) S (sp_X0_seenOf F told))
  let P_5 : Nat → Int32 := (sp_X2_moveHands P_4 S (sp_X0_seenOf F told))
  let z_6 : Int32 := (if (P_5 3) = 2 then (if (P_4 3) = 2 then 0 else 1) else 0)
  let z_8 : Int32 := (if (sp_X0_valvesObey F (P_5 11)) = 0 then (sp_X2_oneMore (P_5 10)) else 0)
  let z_10 : Int32 := (if (sp_X8_pairCount (sp_X0_seenOf F told) 4) = 2 then 0 else (if (sp_X2_isMuted (upd P_5 10 z_8)) = 0 then 1 else 0))
  let P_12 : Nat → Int32 := (sp_X2_changeMode (upd P_5 10 z_8) S (sp_X0_seenOf F told) z_6 z_10)
  let z_13 : Int32 := (if (P_12 2) = 2 then 1 else (if (P_12 2) = 4 then 1 else 0))
  let P_15 : Nat → Int32 := (sp_X2_moveSlide (upd P_12 11 z_13) S F told)
  let z_16 : Int32 := (sp_X8_bit (sp_X0_seenOf F told) 8)
  (upd P_15 14 z_16)
set_option maxRecDepth 100000 in
theorem sq_X2_advance_1 (P : Nat → Int32) (S : Nat → Int32) (F : Nat → Int32) (told : Int32) (z_1 : Int32) (z_2 : Int32) (z_3 : Int32) (P_4 : Nat → Int32) (P_5 : Nat → Int32) (z_6 : Int32) (z_8 : Int32) (z_10 : Int32) (P_12 : Nat → Int32) (z_13 : Int32) (P_15 : Nat → Int32) (z_16 : Int32) (ez_1 : z_1 = (sp_X2_apartThen (P 7) (sp_X0_seenOf F told) 0)) (ez_2 : z_2 = (sp_X2_apartThen (P 8) (sp_X0_seenOf F told) 2)) (ez_3 : z_3 = (sp_X2_apartThen (P 9) (sp_X0_seenOf F told) 4)) (eP_4 : P_4 = (sp_X2_moveMuting (upd (upd (upd P 7 z_1) 8 z_2) 9 z_3) S (sp_X0_seenOf F told))) (eP_5 : P_5 = (sp_X2_moveHands P_4 S (sp_X0_seenOf F told))) (ez_6 : z_6 = (if (P_5 3) = 2 then (if (P_4 3) = 2 then 0 else 1) else 0)) (ez_8 : z_8 = (if (sp_X0_valvesObey F (P_5 11)) = 0 then (sp_X2_oneMore (P_5 10)) else 0)) (ez_10 : z_10 = (if (sp_X8_pairCount (sp_X0_seenOf F told) 4) = 2 then 0 else (if (sp_X2_isMuted (upd P_5 10 z_8)) = 0 then 1 else 0))) (eP_12 : P_12 = (sp_X2_changeMode (upd P_5 10 z_8) S (sp_X0_seenOf F told) z_6 z_10)) (ez_13 : z_13 = (if (P_12 2) = 2 then 1 else (if (P_12 2) = 4 then 1 else 0))) (eP_15 : P_15 = (sp_X2_moveSlide (upd P_12 11 z_13) S F told)) (ez_16 : z_16 = (sp_X8_bit (sp_X0_seenOf F told) 8)) : sp_X2_advance P S F told = (upd P_15 14 z_16) := by subst ez_16; subst eP_15; subst ez_13; subst eP_12; subst ez_10; subst ez_8; subst ez_6; subst eP_5; subst eP_4; subst ez_3; subst ez_2; subst ez_1; rfl
set_option maxHeartbeats 4000000 in
set_option maxRecDepth 100000 in
theorem c_X2_advance (l : Launch) (D : va_G) (cI cJ cO : ClassId) (h : Nat) (b0 : Nat) (b1 : Nat) (P : Nat → Int32) (S : Nat → Int32) (F : Nat → Int32) (told : Int32)  : MV l D (TY cI cJ cO) yX2_advance wsX2_advance (RM 3) [.ref h, .int told] [(h, oX2 b0 b1 P), (b0, oX5 S), (b1, oX0 F)] [(h, oX2 b0 b1 (sp_X2_advance P S F told)), (b0, oX5 S), (b1, oX0 F)] := by
  refine k_entV (cc := cX2_advance) (maxL := 6) (lv := [(0, .ref h), (1, .int told)]) (by decide +kernel) rfl (Nat.le_of_ble_eq_true rfl) rfl ?_
  intro p e s m below meth c A Q ls hx hb hml hts hown hA hS hP hD hK hN hl hret
  have hown : s.vm.findClass RX2 = some m.cls := hown
  have hi2 : ∀ w ∈ wsX20, w ∈ wsX2_advance := fun w h => List.mem_cons_of_mem _ (List.mem_append_left _ (List.mem_append_left _ (List.mem_append_right _ h)))
  have hf9 := hts (.fieldLink RX2 9 "PressGuard$Press" "mode" "I") (by decide +kernel)
  have hf15 := hts (.fieldLink RX2 15 "PressGuard$Press" "hands" "I") (by decide +kernel)
  have hf27 := hts (.fieldLink RX2 27 "PressGuard$Press" "leftApart" "I") (by decide +kernel)
  have hf30 := hts (.fieldLink RX2 30 "PressGuard$Press" "rightApart" "I") (by decide +kernel)
  have hf33 := hts (.fieldLink RX2 33 "PressGuard$Press" "curtainApart" "I") (by decide +kernel)
  have hf36 := hts (.fieldLink RX2 36 "PressGuard$Press" "unlike" "I") (by decide +kernel)
  have hf39 := hts (.fieldLink RX2 39 "PressGuard$Press" "command" "I") (by decide +kernel)
  have hf48 := hts (.fieldLink RX2 48 "PressGuard$Press" "resetSeen" "I") (by decide +kernel)
  have hf64 := hts (.fieldLink RX2 64 "PressGuard$Press" "faults" "LPressGuard$Faults;") (by decide +kernel)
  refine lv_aload_n hx hb dX2_advance_0 rfl (lv_at hl 0 rfl) ?_
  refine k_get hx hb hts hi2 hown hK hP 0 rfl rfl 1 (by decide) hf64 (.ref b1) rfl dX2_advance_1 ?_
  refine lv_iload_n hx hb dX2_advance_4 rfl (lv_at hl 1 rfl) ?_
  refine k_Vi ⟨hx, hb, hml, hown, hts⟩ (c_X0_seenOf l D cI cJ cO b1 F told) (ci := 0) (q0 := 2) rfl rfl (cwV 1 hts gX2_advance_X0_seenOf rfl rfl rfl (by decide +kernel) ⟨Nat.le_of_ble_eq_true rfl, Nat.le_of_ble_eq_true rfl⟩) hK hN hP hD hS hA [2] rfl rfl rfl (ws' := [(h, oX2 b0 b1 P), (b0, oX5 S), (b1, oX0 F)]) rfl rfl hl.1 rfl (Nat.le_of_ble_eq_true rfl) dX2_advance_5 ⟨Nat.le_refl _, Nat.le_refl _⟩ (fun H locs hP hD hS => ?_)
  refine lv_istore_n (lv' := [(2, .int (sp_X0_seenOf F told)), (0, .ref h), (1, .int told)]) hx hb dX2_advance_8 rfl hl (by decide) rfl (fun ls hl => ?_)
  refine lv_aload_n hx hb dX2_advance_9 rfl (lv_at hl 1 rfl) ?_
  refine lv_aload_n hx hb dX2_advance_10 rfl (lv_at hl 1 rfl) ?_
  refine k_get hx hb hts hi2 hown hK hP 0 rfl rfl 7 (by decide) hf27 (.int (P 7)) rfl dX2_advance_11 ?_
  refine lv_iload_n hx hb dX2_advance_14 rfl (lv_at hl 0 rfl) ?_
  refine lv_iconst (v := 0) hx hb dX2_advance_15 (by decide +kernel) ?_
  refine k_Si ⟨hx, hb, hml, hown, hts⟩ (c_X2_apartThen l D cI cJ cO (P 7) (sp_X0_seenOf F told) 0) (va_cwS 3 hts gX2_advance_X2_apartThen rfl rfl rfl (by decide +kernel) ⟨Nat.le_of_ble_eq_true rfl, Nat.le_of_ble_eq_true rfl⟩) hK hN hP hD hS hA [] rfl rfl rfl (ws' := [(h, oX2 b0 b1 P), (b0, oX5 S), (b1, oX0 F)]) rfl rfl hl.1 rfl (Nat.le_of_ble_eq_true rfl) dX2_advance_16 ⟨Nat.le_refl _, Nat.le_refl _⟩ (fun H locs hP hD hS => ?_)
  refine lv_topi (fun z_1 ez_1 => ?_)
  refine k_put hx hb hts hi2 tyX2_ok nmX2 hown hK hP hD hS 0 rfl rfl 7 (by decide) hf27 rfl (.int z_1) rfl rfl (Nat.le_of_ble_eq_true rfl) (ws' := [(h, oX2 b0 b1 (upd P 7 z_1)), (b0, oX5 S), (b1, oX0 F)]) rfl dX2_advance_19 (fun H locs hP hD hS => ?_)
  refine lv_aload_n hx hb dX2_advance_22 rfl (lv_at hl 1 rfl) ?_
  refine lv_aload_n hx hb dX2_advance_23 rfl (lv_at hl 1 rfl) ?_
  refine k_get hx hb hts hi2 hown hK hP 0 rfl rfl 8 (by decide) hf30 (.int (P 8)) rfl dX2_advance_24 ?_
  refine lv_iload_n hx hb dX2_advance_27 rfl (lv_at hl 0 rfl) ?_
  refine lv_iconst (v := 2) hx hb dX2_advance_28 (by decide +kernel) ?_
  refine k_Si ⟨hx, hb, hml, hown, hts⟩ (c_X2_apartThen l D cI cJ cO (P 8) (sp_X0_seenOf F told) 2) (va_cwS 3 hts gX2_advance_X2_apartThen rfl rfl rfl (by decide +kernel) ⟨Nat.le_of_ble_eq_true rfl, Nat.le_of_ble_eq_true rfl⟩) hK hN hP hD hS hA [] rfl rfl rfl (ws' := [(h, oX2 b0 b1 (upd P 7 z_1)), (b0, oX5 S), (b1, oX0 F)]) rfl rfl hl.1 rfl (Nat.le_of_ble_eq_true rfl) dX2_advance_29 ⟨Nat.le_refl _, Nat.le_refl _⟩ (fun H locs hP hD hS => ?_)
  refine lv_topi (fun z_2 ez_2 => ?_)
  refine k_put hx hb hts hi2 tyX2_ok nmX2 hown hK hP hD hS 0 rfl rfl 8 (by decide) hf30 rfl (.int z_2) rfl rfl (Nat.le_of_ble_eq_true rfl) (ws' := [(h, oX2 b0 b1 (upd (upd P 7 z_1) 8 z_2)), (b0, oX5 S), (b1, oX0 F)]) rfl dX2_advance_32 (fun H locs hP hD hS => ?_)
  refine lv_aload_n hx hb dX2_advance_35 rfl (lv_at hl 1 rfl) ?_
  refine lv_aload_n hx hb dX2_advance_36 rfl (lv_at hl 1 rfl) ?_
  refine k_get hx hb hts hi2 hown hK hP 0 rfl rfl 9 (by decide) hf33 (.int (P 9)) rfl dX2_advance_37 ?_
  refine lv_iload_n hx hb dX2_advance_40 rfl (lv_at hl 0 rfl) ?_
  refine lv_iconst (v := 4) hx hb dX2_advance_41 (by decide +kernel) ?_
  refine k_Si ⟨hx, hb, hml, hown, hts⟩ (c_X2_apartThen l D cI cJ cO (P 9) (sp_X0_seenOf F told) 4) (va_cwS 3 hts gX2_advance_X2_apartThen rfl rfl rfl (by decide +kernel) ⟨Nat.le_of_ble_eq_true rfl, Nat.le_of_ble_eq_true rfl⟩) hK hN hP hD hS hA [] rfl rfl rfl (ws' := [(h, oX2 b0 b1 (upd (upd P 7 z_1) 8 z_2)), (b0, oX5 S), (b1, oX0 F)]) rfl rfl hl.1 rfl (Nat.le_of_ble_eq_true rfl) dX2_advance_42 ⟨Nat.le_refl _, Nat.le_refl _⟩ (fun H locs hP hD hS => ?_)
  refine lv_topi (fun z_3 ez_3 => ?_)
  refine k_put hx hb hts hi2 tyX2_ok nmX2 hown hK hP hD hS 0 rfl rfl 9 (by decide) hf33 rfl (.int z_3) rfl rfl (Nat.le_of_ble_eq_true rfl) (ws' := [(h, oX2 b0 b1 (upd (upd (upd P 7 z_1) 8 z_2) 9 z_3)), (b0, oX5 S), (b1, oX0 F)]) rfl dX2_advance_45 (fun H locs hP hD hS => ?_)
  refine lv_aload_n hx hb dX2_advance_48 rfl (lv_at hl 1 rfl) ?_
  refine lv_iload_n hx hb dX2_advance_49 rfl (lv_at hl 0 rfl) ?_
  obtain ⟨P_4, eP_4⟩ : ∃ q : Nat → Int32, q = (sp_X2_moveMuting (upd (upd (upd P 7 z_1) 8 z_2) 9 z_3) S (sp_X0_seenOf F told)) := ⟨_, rfl⟩
  refine k_Vv ⟨hx, hb, hml, hown, hts⟩ (c_X2_moveMuting l D cI cJ cO h b0 b1 (upd (upd (upd P 7 z_1) 8 z_2) 9 z_3) S (sp_X0_seenOf F told)) (ci := 2) (q0 := 0) rfl rfl (cwV 1 hts gX2_advance_X2_moveMuting rfl rfl rfl (by decide +kernel) ⟨Nat.le_of_ble_eq_true rfl, Nat.le_of_ble_eq_true rfl⟩) hK hN hP hD hS hA [0, 1] rfl rfl rfl (ws' := [(h, oX2 b0 b1 P_4), (b0, oX5 S), (b1, oX0 F)]) (by rw [eP_4]; rfl) rfl hl.1 rfl (Nat.le_of_ble_eq_true rfl) dX2_advance_50 ⟨Nat.le_refl _, Nat.le_refl _⟩ (fun H locs hP hD hS => ?_)
  refine lv_aload_n hx hb dX2_advance_53 rfl (lv_at hl 1 rfl) ?_
  refine k_get hx hb hts hi2 hown hK hP 0 rfl rfl 3 (by decide) hf15 (.int (P_4 3)) rfl dX2_advance_54 ?_
  refine lv_istore_n (lv' := [(3, .int (P_4 3)), (2, .int (sp_X0_seenOf F told)), (0, .ref h), (1, .int told)]) hx hb dX2_advance_57 rfl hl (by decide) rfl (fun ls hl => ?_)
  refine lv_aload_n hx hb dX2_advance_58 rfl (lv_at hl 2 rfl) ?_
  refine lv_iload_n hx hb dX2_advance_59 rfl (lv_at hl 1 rfl) ?_
  obtain ⟨P_5, eP_5⟩ : ∃ q : Nat → Int32, q = (sp_X2_moveHands P_4 S (sp_X0_seenOf F told)) := ⟨_, rfl⟩
  refine k_Vv ⟨hx, hb, hml, hown, hts⟩ (c_X2_moveHands l D cI cJ cO h b0 b1 P_4 S (sp_X0_seenOf F told)) (ci := 2) (q0 := 0) rfl rfl (cwV 1 hts gX2_advance_X2_moveHands rfl rfl rfl (by decide +kernel) ⟨Nat.le_of_ble_eq_true rfl, Nat.le_of_ble_eq_true rfl⟩) hK hN hP hD hS hA [0, 1] rfl rfl rfl (ws' := [(h, oX2 b0 b1 P_5), (b0, oX5 S), (b1, oX0 F)]) (by rw [eP_5]; rfl) rfl hl.1 rfl (Nat.le_of_ble_eq_true rfl) dX2_advance_60 ⟨Nat.le_refl _, Nat.le_refl _⟩ (fun H locs hP hD hS => ?_)
  refine lv_aload_n hx hb dX2_advance_63 rfl (lv_at hl 2 rfl) ?_
  refine k_get hx hb hts hi2 hown hK hP 0 rfl rfl 3 (by decide) hf15 (.int (P_5 3)) rfl dX2_advance_64 ?_
  refine lv_iconst (v := 2) hx hb dX2_advance_67 (by decide +kernel) ?_
  have J_7 : ∀ z_6 : Int32, z_6 = (if (P_5 3) = 2 then (if (P_4 3) = 2 then 0 else 1) else 0) → ∀ (H : Heap) (locs : List Loc), va_P D vwCl [(h, oX2 b0 b1 P_5), (b0, oX5 S), (b1, oX0 F)] H → va_D A [(h, oX2 b0 b1 P_5), (b0, oX5 S), (b1, oX0 F)] → va_S A s.heap H locs → ∀ ls : Array Slot, lv_has ls 6 [(0, .ref h), (1, .int told), (2, .int (sp_X0_seenOf F told))] → W p l e (RM 3) s m ([.ref h, .int told] : List Value).toArray below meth c H locs 0 0 Q (F0 m 81 ls [.int z_6]) := by
    intro z_6 ez_6 H locs hP hD hS ls hl
    refine lv_istore (lv' := [(4, .int z_6), (0, .ref h), (1, .int told), (2, .int (sp_X0_seenOf F told))]) hx hb dX2_advance_81 hl (by decide) rfl (fun ls hl => ?_)
    refine lv_aload_n hx hb dX2_advance_83 rfl (lv_at hl 1 rfl) ?_
    refine lv_aload_n hx hb dX2_advance_84 rfl (lv_at hl 1 rfl) ?_
    refine k_get hx hb hts hi2 hown hK hP 0 rfl rfl 1 (by decide) hf64 (.ref b1) rfl dX2_advance_85 ?_
    refine lv_aload_n hx hb dX2_advance_88 rfl (lv_at hl 1 rfl) ?_
    refine k_get hx hb hts hi2 hown hK hP 0 rfl rfl 11 (by decide) hf39 (.int (P_5 11)) rfl dX2_advance_89 ?_
    refine k_Vi ⟨hx, hb, hml, hown, hts⟩ (c_X0_valvesObey l D cI cJ cO b1 F (P_5 11)) (ci := 0) (q0 := 2) rfl rfl (cwV 1 hts gX2_advance_X0_valvesObey rfl rfl rfl (by decide +kernel) ⟨Nat.le_of_ble_eq_true rfl, Nat.le_of_ble_eq_true rfl⟩) hK hN hP hD hS hA [2] rfl rfl rfl (ws' := [(h, oX2 b0 b1 P_5), (b0, oX5 S), (b1, oX0 F)]) rfl rfl hl.1 rfl (Nat.le_of_ble_eq_true rfl) dX2_advance_92 ⟨Nat.le_refl _, Nat.le_refl _⟩ (fun H locs hP hD hS => ?_)
    have J_9 : ∀ z_8 : Int32, z_8 = (if (sp_X0_valvesObey F (P_5 11)) = 0 then (sp_X2_oneMore (P_5 10)) else 0) → ∀ (H : Heap) (locs : List Loc), va_P D vwCl [(h, oX2 b0 b1 P_5), (b0, oX5 S), (b1, oX0 F)] H → va_D A [(h, oX2 b0 b1 P_5), (b0, oX5 S), (b1, oX0 F)] → va_S A s.heap H locs → ∀ ls : Array Slot, lv_has ls 6 [(0, .ref h), (1, .int told), (2, .int (sp_X0_seenOf F told)), (4, .int z_6)] → W p l e (RM 3) s m ([.ref h, .int told] : List Value).toArray below meth c H locs 0 0 Q (F0 m 109 ls [.int z_8, .ref h]) := by
      intro z_8 ez_8 H locs hP hD hS ls hl
      refine k_put hx hb hts hi2 tyX2_ok nmX2 hown hK hP hD hS 0 rfl rfl 10 (by decide) hf36 rfl (.int z_8) rfl rfl (Nat.le_of_ble_eq_true rfl) (ws' := [(h, oX2 b0 b1 (upd P_5 10 z_8)), (b0, oX5 S), (b1, oX0 F)]) rfl dX2_advance_109 (fun H locs hP hD hS => ?_)
      refine lv_iload_n hx hb dX2_advance_112 rfl (lv_at hl 2 rfl) ?_
      refine lv_iconst (v := 4) hx hb dX2_advance_113 (by decide +kernel) ?_
      refine k_SNi ⟨hx, hb, hml, hown, hts⟩ (c_X8_pairCount l D cI cJ cO (sp_X0_seenOf F told) 4) (va_cnB 2 hts gX2_advance_X8_pairCount_n104 rfl rfl rfl (hN.1 4 _ rfl) (hts (.initialized RX8) (by decide +kernel)) (by decide +kernel) ⟨Nat.le_of_ble_eq_true rfl, Nat.le_of_ble_eq_true rfl⟩) (hts (.static yX8_pairCount) (by decide +kernel)) hK hN hP hD hS hA [] rfl rfl rfl (ws' := [(h, oX2 b0 b1 (upd P_5 10 z_8)), (b0, oX5 S), (b1, oX0 F)]) rfl rfl hl.1 rfl (Nat.le_of_ble_eq_true rfl) dX2_advance_114 ⟨Nat.le_refl _, Nat.le_refl _⟩ (fun H locs hP hD hS => ?_)
      refine lv_iconst (v := 2) hx hb dX2_advance_117 (by decide +kernel) ?_
      have J_11 : ∀ z_10 : Int32, z_10 = (if (sp_X8_pairCount (sp_X0_seenOf F told) 4) = 2 then 0 else (if (sp_X2_isMuted (upd P_5 10 z_8)) = 0 then 1 else 0)) → ∀ (H : Heap) (locs : List Loc), va_P D vwCl [(h, oX2 b0 b1 (upd P_5 10 z_8)), (b0, oX5 S), (b1, oX0 F)] H → va_D A [(h, oX2 b0 b1 (upd P_5 10 z_8)), (b0, oX5 S), (b1, oX0 F)] → va_S A s.heap H locs → ∀ ls : Array Slot, lv_has ls 6 [(0, .ref h), (1, .int told), (2, .int (sp_X0_seenOf F told)), (4, .int z_6)] → W p l e (RM 3) s m ([.ref h, .int told] : List Value).toArray below meth c H locs 0 0 Q (F0 m 133 ls [.int z_10]) := by
        intro z_10 ez_10 H locs hP hD hS ls hl
        refine lv_istore (lv' := [(5, .int z_10), (0, .ref h), (1, .int told), (2, .int (sp_X0_seenOf F told)), (4, .int z_6)]) hx hb dX2_advance_133 hl (by decide) rfl (fun ls hl => ?_)
        refine lv_aload_n hx hb dX2_advance_135 rfl (lv_at hl 1 rfl) ?_
        refine lv_iload_n hx hb dX2_advance_136 rfl (lv_at hl 3 rfl) ?_
        refine lv_iload hx hb dX2_advance_137 (lv_at hl 4 rfl) ?_
        refine lv_iload hx hb dX2_advance_139 (lv_at hl 0 rfl) ?_
        obtain ⟨P_12, eP_12⟩ : ∃ q : Nat → Int32, q = (sp_X2_changeMode (upd P_5 10 z_8) S (sp_X0_seenOf F told) z_6 z_10) := ⟨_, rfl⟩
        refine k_Vv ⟨hx, hb, hml, hown, hts⟩ (c_X2_changeMode l D cI cJ cO h b0 b1 (upd P_5 10 z_8) S (sp_X0_seenOf F told) z_6 z_10) (ci := 2) (q0 := 0) rfl rfl (cwV 3 hts gX2_advance_X2_changeMode rfl rfl rfl (by decide +kernel) ⟨Nat.le_of_ble_eq_true rfl, Nat.le_of_ble_eq_true rfl⟩) hK hN hP hD hS hA [0, 1] rfl rfl rfl (ws' := [(h, oX2 b0 b1 P_12), (b0, oX5 S), (b1, oX0 F)]) (by rw [eP_12]; rfl) rfl hl.1 rfl (Nat.le_of_ble_eq_true rfl) dX2_advance_141 ⟨Nat.le_refl _, Nat.le_refl _⟩ (fun H locs hP hD hS => ?_)
        refine lv_aload_n hx hb dX2_advance_144 rfl (lv_at hl 1 rfl) ?_
        refine lv_aload_n hx hb dX2_advance_145 rfl (lv_at hl 1 rfl) ?_
        refine k_get hx hb hts hi2 hown hK hP 0 rfl rfl 2 (by decide) hf9 (.int (P_12 2)) rfl dX2_advance_146 ?_
        refine lv_iconst (v := 2) hx hb dX2_advance_149 (by decide +kernel) ?_
        have J_14 : ∀ z_13 : Int32, z_13 = (if (P_12 2) = 2 then 1 else (if (P_12 2) = 4 then 1 else 0)) → ∀ (H : Heap) (locs : List Loc), va_P D vwCl [(h, oX2 b0 b1 P_12), (b0, oX5 S), (b1, oX0 F)] H → va_D A [(h, oX2 b0 b1 P_12), (b0, oX5 S), (b1, oX0 F)] → va_S A s.heap H locs → ∀ ls : Array Slot, lv_has ls 6 [(0, .ref h), (1, .int told), (2, .int (sp_X0_seenOf F told))] → W p l e (RM 3) s m ([.ref h, .int told] : List Value).toArray below meth c H locs 0 0 Q (F0 m 166 ls [.int z_13, .ref h]) := by
          intro z_13 ez_13 H locs hP hD hS ls hl
          refine k_put hx hb hts hi2 tyX2_ok nmX2 hown hK hP hD hS 0 rfl rfl 11 (by decide) hf39 rfl (.int z_13) rfl rfl (Nat.le_of_ble_eq_true rfl) (ws' := [(h, oX2 b0 b1 (upd P_12 11 z_13)), (b0, oX5 S), (b1, oX0 F)]) rfl dX2_advance_166 (fun H locs hP hD hS => ?_)
          refine lv_aload_n hx hb dX2_advance_169 rfl (lv_at hl 0 rfl) ?_
          refine lv_iload_n hx hb dX2_advance_170 rfl (lv_at hl 1 rfl) ?_
          obtain ⟨P_15, eP_15⟩ : ∃ q : Nat → Int32, q = (sp_X2_moveSlide (upd P_12 11 z_13) S F told) := ⟨_, rfl⟩
          refine k_Vv ⟨hx, hb, hml, hown, hts⟩ (c_X2_moveSlide l D cI cJ cO h b0 b1 (upd P_12 11 z_13) S F told) (ci := 2) (q0 := 0) rfl rfl (cwV 1 hts gX2_advance_X2_moveSlide rfl rfl rfl (by decide +kernel) ⟨Nat.le_of_ble_eq_true rfl, Nat.le_of_ble_eq_true rfl⟩) hK hN hP hD hS hA [0, 1, 2] rfl rfl rfl (ws' := [(h, oX2 b0 b1 P_15), (b0, oX5 S), (b1, oX0 F)]) (by rw [eP_15]; rfl) rfl hl.1 rfl (Nat.le_of_ble_eq_true rfl) dX2_advance_171 ⟨Nat.le_refl _, Nat.le_refl _⟩ (fun H locs hP hD hS => ?_)
          refine lv_aload_n hx hb dX2_advance_174 rfl (lv_at hl 0 rfl) ?_
          refine lv_iload_n hx hb dX2_advance_175 rfl (lv_at hl 2 rfl) ?_
          refine lv_bipush (v := 8) hx hb dX2_advance_176 (by decide +kernel) ?_
          refine k_SNi ⟨hx, hb, hml, hown, hts⟩ (c_X8_bit l D cI cJ cO (sp_X0_seenOf F told) 8) (va_cnB 2 hts gX2_advance_X8_bit_n119 rfl rfl rfl (hN.1 3 _ rfl) (hts (.initialized RX8) (by decide +kernel)) (by decide +kernel) ⟨Nat.le_of_ble_eq_true rfl, Nat.le_of_ble_eq_true rfl⟩) (hts (.static yX8_bit) (by decide +kernel)) hK hN hP hD hS hA [] rfl rfl rfl (ws' := [(h, oX2 b0 b1 P_15), (b0, oX5 S), (b1, oX0 F)]) rfl rfl hl.1 rfl (Nat.le_of_ble_eq_true rfl) dX2_advance_178 ⟨Nat.le_refl _, Nat.le_refl _⟩ (fun H locs hP hD hS => ?_)
          refine lv_topi (fun z_16 ez_16 => ?_)
          refine k_put hx hb hts hi2 tyX2_ok nmX2 hown hK hP hD hS 0 rfl rfl 14 (by decide) hf48 rfl (.int z_16) rfl rfl (Nat.le_of_ble_eq_true rfl) (ws' := [(h, oX2 b0 b1 (upd P_15 14 z_16)), (b0, oX5 S), (b1, oX0 F)]) rfl dX2_advance_181 (fun H locs hP hD hS => ?_)
          have hsp : sp_X2_advance P S F told = (upd P_15 14 z_16) := sq_X2_advance_1 P S F told z_1 z_2 z_3 P_4 P_5 z_6 z_8 z_10 P_12 z_13 P_15 z_16 ez_1 ez_2 ez_3 eP_4 eP_5 ez_6 ez_8 ez_10 eP_12 ez_13 eP_15 ez_16
          exact hret _ _ _ _ (by rw [hsp]; exact hP) hS dX2_advance_184
        refine lv_icmp_eq (tgt := 161) hx hb dX2_advance_150 (by decide) (fun c_17 => ?_) (fun c_17 => ?_)
        · skip
          refine lv_iconst (v := 1) hx hb dX2_advance_161 (by decide +kernel) ?_
          refine lv_goto (tgt := 166) hx hb dX2_advance_162 (by decide) ?_
          exact J_14 1 (by first | (simp only [if_pos c_17]; done) | rfl) _ _ hP hD hS _ (lv_sub hl [1, 2, 3] rfl)
        · skip
          refine lv_aload_n hx hb dX2_advance_153 rfl (lv_at hl 1 rfl) ?_
          refine k_get hx hb hts hi2 hown hK hP 0 rfl rfl 2 (by decide) hf9 (.int (P_12 2)) rfl dX2_advance_154 ?_
          refine lv_iconst (v := 4) hx hb dX2_advance_157 (by decide +kernel) ?_
          refine lv_icmp_ne (tgt := 165) hx hb dX2_advance_158 (by decide) (fun c_18 => ?_) (fun c_18 => ?_)
          · skip
            refine lv_iconst (v := 0) hx hb dX2_advance_165 (by decide +kernel) ?_
            exact J_14 0 (by first | (simp only [if_neg c_17, if_neg c_18]; done) | rfl) _ _ hP hD hS _ (lv_sub hl [1, 2, 3] rfl)
          · skip
            refine lv_iconst (v := 1) hx hb dX2_advance_161 (by decide +kernel) ?_
            refine lv_goto (tgt := 166) hx hb dX2_advance_162 (by decide) ?_
            exact J_14 1 (by first | (simp only [if_neg c_17, if_pos c_18]; done) | rfl) _ _ hP hD hS _ (lv_sub hl [1, 2, 3] rfl)
      refine lv_icmp_eq (tgt := 132) hx hb dX2_advance_118 (by decide) (fun c_19 => ?_) (fun c_19 => ?_)
      · skip
        refine lv_iconst (v := 0) hx hb dX2_advance_132 (by decide +kernel) ?_
        exact J_11 0 (by first | (simp only [if_pos c_19]; done) | rfl) _ _ hP hD hS _ (lv_sub hl [0, 1, 2, 3] rfl)
      · skip
        refine lv_aload_n hx hb dX2_advance_121 rfl (lv_at hl 0 rfl) ?_
        refine k_Vi ⟨hx, hb, hml, hown, hts⟩ (c_X2_isMuted l D cI cJ cO h b0 b1 (upd P_5 10 z_8)) (ci := 2) (q0 := 0) rfl rfl (cwV 0 hts gX2_advance_X2_isMuted rfl rfl rfl (by decide +kernel) ⟨Nat.le_of_ble_eq_true rfl, Nat.le_of_ble_eq_true rfl⟩) hK hN hP hD hS hA [0] rfl rfl rfl (ws' := [(h, oX2 b0 b1 (upd P_5 10 z_8)), (b0, oX5 S), (b1, oX0 F)]) rfl rfl hl.1 rfl (Nat.le_of_ble_eq_true rfl) dX2_advance_122 ⟨Nat.le_refl _, Nat.le_refl _⟩ (fun H locs hP hD hS => ?_)
        refine lv_if_ne (tgt := 132) hx hb dX2_advance_125 (by decide) (fun c_20 => ?_) (fun c_20 => ?_)
        · skip
          refine lv_iconst (v := 0) hx hb dX2_advance_132 (by decide +kernel) ?_
          exact J_11 0 (by first | (simp only [if_neg c_19, if_neg c_20]; done) | rfl) _ _ hP hD hS _ (lv_sub hl [0, 1, 2, 3] rfl)
        · skip
          refine lv_iconst (v := 1) hx hb dX2_advance_128 (by decide +kernel) ?_
          refine lv_goto (tgt := 133) hx hb dX2_advance_129 (by decide) ?_
          exact J_11 1 (by first | (simp only [if_neg c_19, if_pos c_20]; done) | rfl) _ _ hP hD hS _ (lv_sub hl [0, 1, 2, 3] rfl)
    refine lv_if_eq (tgt := 102) hx hb dX2_advance_95 (by decide) (fun c_21 => ?_) (fun c_21 => ?_)
    · skip
      refine lv_aload_n hx hb dX2_advance_102 rfl (lv_at hl 1 rfl) ?_
      refine k_get hx hb hts hi2 hown hK hP 0 rfl rfl 10 (by decide) hf36 (.int (P_5 10)) rfl dX2_advance_103 ?_
      refine k_Si ⟨hx, hb, hml, hown, hts⟩ (c_X2_oneMore l D cI cJ cO (P_5 10)) (va_cwS 1 hts gX2_advance_X2_oneMore rfl rfl rfl (by decide +kernel) ⟨Nat.le_of_ble_eq_true rfl, Nat.le_of_ble_eq_true rfl⟩) hK hN hP hD hS hA [] rfl rfl rfl (ws' := [(h, oX2 b0 b1 P_5), (b0, oX5 S), (b1, oX0 F)]) rfl rfl hl.1 rfl (Nat.le_of_ble_eq_true rfl) dX2_advance_106 ⟨Nat.le_refl _, Nat.le_refl _⟩ (fun H locs hP hD hS => ?_)
      exact J_9 (sp_X2_oneMore (P_5 10)) (by first | (simp only [if_pos c_21]; done) | rfl) _ _ hP hD hS _ (lv_sub hl [1, 2, 3, 0] rfl)
    · skip
      refine lv_iconst (v := 0) hx hb dX2_advance_98 (by decide +kernel) ?_
      refine lv_goto (tgt := 109) hx hb dX2_advance_99 (by decide) ?_
      exact J_9 0 (by first | (simp only [if_neg c_21]; done) | rfl) _ _ hP hD hS _ (lv_sub hl [1, 2, 3, 0] rfl)
  refine lv_icmp_ne (tgt := 80) hx hb dX2_advance_68 (by decide) (fun c_22 => ?_) (fun c_22 => ?_)
  · skip
    refine lv_iconst (v := 0) hx hb dX2_advance_80 (by decide +kernel) ?_
    exact J_7 0 (by first | (simp only [if_neg c_22]; done) | rfl) _ _ hP hD hS _ (lv_sub hl [2, 3, 1] rfl)
  · skip
    refine lv_iload_n hx hb dX2_advance_71 rfl (lv_at hl 0 rfl) ?_
    refine lv_iconst (v := 2) hx hb dX2_advance_72 (by decide +kernel) ?_
    refine lv_icmp_eq (tgt := 80) hx hb dX2_advance_73 (by decide) (fun c_23 => ?_) (fun c_23 => ?_)
    · skip
      refine lv_iconst (v := 0) hx hb dX2_advance_80 (by decide +kernel) ?_
      exact J_7 0 (by first | (simp only [if_pos c_22, if_pos c_23]; done) | rfl) _ _ hP hD hS _ (lv_sub hl [2, 3, 1] rfl)
    · skip
      refine lv_iconst (v := 1) hx hb dX2_advance_76 (by decide +kernel) ?_
      refine lv_goto (tgt := 81) hx hb dX2_advance_77 (by decide) ?_
      exact J_7 1 (by first | (simp only [if_pos c_22, if_neg c_23]; done) | rfl) _ _ hP hD hS _ (lv_sub hl [2, 3, 1] rfl)
