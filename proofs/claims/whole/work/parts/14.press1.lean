def sp_X2_oneMore (count : Int32) : Int32 :=
  (if 9 < (count + 1) then 9 else (count + 1))
set_option maxHeartbeats 4000000 in
set_option maxRecDepth 100000 in
theorem c_X2_oneMore (l : Launch) (D : va_G) (cI cJ cO : ClassId) (count : Int32)  : MI l D (TY cI cJ cO) yX2_oneMore wsX2_oneMore (RM 0) [.int count] [] (sp_X2_oneMore count) [] := by
  refine k_entI (cc := cX2_oneMore) (maxL := 1) (lv := [(0, .int count)]) (by decide +kernel) rfl (Nat.le_of_ble_eq_true rfl) rfl ?_
  intro p e s m below meth c A Q ls hx hb hml hts hown hA hS hP hD hK hN hl hret
  have hown : s.vm.findClass RX2 = some m.cls := hown
  refine lv_iload_n hx hb dX2_oneMore_0 rfl (lv_at hl 0 rfl) ?_
  refine lv_iconst (v := 1) hx hb dX2_oneMore_1 (by decide +kernel) ?_
  refine lv_iadd hx hb dX2_oneMore_2 ?_
  refine lv_bipush (v := 9) hx hb dX2_oneMore_3 (by decide +kernel) ?_
  refine va_mmin hx hb (hml.trans hl.1.symm) hown (hts (.methodLink RX2 122 Lib.Math.min.name) (by decide +kernel)) (hts (.static Lib.Math.min.name) (by decide +kernel)) (hts (.initialized "java/lang/Math") (by decide +kernel)) (hts (.code Lib.Math.min.name Lib.Math.min.code 2 (some .int)) (by decide +kernel)) (Nat.le_of_ble_eq_true rfl) (Nat.le_of_ble_eq_true rfl) (Nat.le_refl _) (Nat.le_refl _) dX2_oneMore_5 ?_
  have hsp : sp_X2_oneMore count = (if 9 < (count + 1) then 9 else (count + 1)) := rfl
  exact hret _ _ _ _ _ (by rw [hsp]) rfl hP hS dX2_oneMore_8

def sp_X2_apartThen (apart : Int32) (seen : Int32) (a : Int32) : Int32 :=
  let z_1 : Int32 := (if (sp_X8_pairCount seen a) = 1 then (sp_X2_oneMore apart) else 0)
  z_1
set_option maxRecDepth 100000 in
theorem sq_X2_apartThen_1 (apart : Int32) (seen : Int32) (a : Int32) (z_1 : Int32) (ez_1 : z_1 = (if (sp_X8_pairCount seen a) = 1 then (sp_X2_oneMore apart) else 0)) : sp_X2_apartThen apart seen a = z_1 := by subst ez_1; rfl
set_option maxHeartbeats 4000000 in
set_option maxRecDepth 100000 in
theorem c_X2_apartThen (l : Launch) (D : va_G) (cI cJ cO : ClassId) (apart : Int32) (seen : Int32) (a : Int32)  : MI l D (TY cI cJ cO) yX2_apartThen wsX2_apartThen (RM 2) [.int apart, .int seen, .int a] [] (sp_X2_apartThen apart seen a) [] := by
  refine k_entI (cc := cX2_apartThen) (maxL := 3) (lv := [(0, .int apart), (1, .int seen), (2, .int a)]) (by decide +kernel) rfl (Nat.le_of_ble_eq_true rfl) rfl ?_
  intro p e s m below meth c A Q ls hx hb hml hts hown hA hS hP hD hK hN hl hret
  have hown : s.vm.findClass RX2 = some m.cls := hown
  refine lv_iload_n hx hb dX2_apartThen_0 rfl (lv_at hl 1 rfl) ?_
  refine lv_iload_n hx hb dX2_apartThen_1 rfl (lv_at hl 2 rfl) ?_
  refine k_SNi ⟨hx, hb, hml, hown, hts⟩ (c_X8_pairCount l D cI cJ cO seen a) (va_cnB 2 hts gX2_apartThen_X8_pairCount_n104 rfl rfl rfl (hN.1 4 _ rfl) (hts (.initialized RX8) (by decide +kernel)) (by decide +kernel) ⟨Nat.le_of_ble_eq_true rfl, Nat.le_of_ble_eq_true rfl⟩) (hts (.static yX8_pairCount) (by decide +kernel)) hK hN hP hD hS hA [] rfl rfl rfl (ws' := []) rfl rfl hl.1 rfl (Nat.le_of_ble_eq_true rfl) dX2_apartThen_2 ⟨Nat.le_refl _, Nat.le_refl _⟩ (fun H locs hP hD hS => ?_)
  refine lv_iconst (v := 1) hx hb dX2_apartThen_5 (by decide +kernel) ?_
  have J_2 : ∀ z_1 : Int32, z_1 = (if (sp_X8_pairCount seen a) = 1 then (sp_X2_oneMore apart) else 0) → ∀ (H : Heap) (locs : List Loc), va_P D vwCl [] H → va_D A [] → va_S A s.heap H locs → ∀ ls : Array Slot, lv_has ls 3 [] → W p l e (RM 2) s m ([.int apart, .int seen, .int a] : List Value).toArray below meth c H locs 0 0 Q (F0 m 17 ls [.int z_1]) := by
    intro z_1 ez_1 H locs hP hD hS ls hl
    have hsp : sp_X2_apartThen apart seen a = z_1 := sq_X2_apartThen_1 apart seen a z_1 ez_1
    exact hret _ _ _ _ _ (by rw [hsp]) rfl hP hS dX2_apartThen_17
  refine lv_icmp_ne (tgt := 16) hx hb dX2_apartThen_6 (by decide) (fun c_3 => ?_) (fun c_3 => ?_)
  · skip
    refine lv_iconst (v := 0) hx hb dX2_apartThen_16 (by decide +kernel) ?_
    exact J_2 0 (by first | (simp only [if_neg c_3]; done) | rfl) _ _ hP hD hS _ (lv_sub hl [] rfl)
  · skip
    refine lv_iload_n hx hb dX2_apartThen_9 rfl (lv_at hl 0 rfl) ?_
    refine k_Si ⟨hx, hb, hml, hown, hts⟩ (c_X2_oneMore l D cI cJ cO apart) (va_cwS 1 hts gX2_apartThen_X2_oneMore rfl rfl rfl (by decide +kernel) ⟨Nat.le_of_ble_eq_true rfl, Nat.le_of_ble_eq_true rfl⟩) hK hN hP hD hS hA [] rfl rfl rfl (ws' := []) rfl rfl hl.1 rfl (Nat.le_of_ble_eq_true rfl) dX2_apartThen_10 ⟨Nat.le_refl _, Nat.le_refl _⟩ (fun H locs hP hD hS => ?_)
    refine lv_goto (tgt := 17) hx hb dX2_apartThen_13 (by decide) ?_
    exact J_2 (sp_X2_oneMore apart) (by first | (simp only [if_pos c_3]; done) | rfl) _ _ hP hD hS _ (lv_sub hl [] rfl)

def sp_X2_begin (P : Nat → Int32) : (Nat → Int32) :=
  (upd (upd (upd (upd (upd (upd (upd (upd (upd (upd (upd (upd (upd (upd (upd (upd P 2 1) 3 0) 4 0) 5 0) 6 0) 7 0) 8 0) 9 0) 10 0) 11 0) 12 0) 13 0) 14 0) 15 0) 16 0) 17 0)
set_option maxHeartbeats 4000000 in
set_option maxRecDepth 100000 in
theorem c_X2_begin (l : Launch) (D : va_G) (cI cJ cO : ClassId) (h : Nat) (b0 : Nat) (b1 : Nat) (P : Nat → Int32)  : MV l D (TY cI cJ cO) yX2_begin wsX2_begin (RM 0) [.ref h] [(h, oX2 b0 b1 P)] [(h, oX2 b0 b1 (sp_X2_begin P))] := by
  refine k_entV (cc := cX2_begin) (maxL := 1) (lv := [(0, .ref h)]) (by decide +kernel) rfl (Nat.le_of_ble_eq_true rfl) rfl ?_
  intro p e s m below meth c A Q ls hx hb hml hts hown hA hS hP hD hK hN hl hret
  have hown : s.vm.findClass RX2 = some m.cls := hown
  have hi2 : ∀ w ∈ wsX20, w ∈ wsX2_begin := fun w h => List.mem_cons_of_mem _ (List.mem_append_right _ h)
  have hf9 := hts (.fieldLink RX2 9 "PressGuard$Press" "mode" "I") (by decide +kernel)
  have hf15 := hts (.fieldLink RX2 15 "PressGuard$Press" "hands" "I") (by decide +kernel)
  have hf18 := hts (.fieldLink RX2 18 "PressGuard$Press" "since" "I") (by decide +kernel)
  have hf21 := hts (.fieldLink RX2 21 "PressGuard$Press" "muting" "I") (by decide +kernel)
  have hf24 := hts (.fieldLink RX2 24 "PressGuard$Press" "mutedFor" "I") (by decide +kernel)
  have hf27 := hts (.fieldLink RX2 27 "PressGuard$Press" "leftApart" "I") (by decide +kernel)
  have hf30 := hts (.fieldLink RX2 30 "PressGuard$Press" "rightApart" "I") (by decide +kernel)
  have hf33 := hts (.fieldLink RX2 33 "PressGuard$Press" "curtainApart" "I") (by decide +kernel)
  have hf36 := hts (.fieldLink RX2 36 "PressGuard$Press" "unlike" "I") (by decide +kernel)
  have hf39 := hts (.fieldLink RX2 39 "PressGuard$Press" "command" "I") (by decide +kernel)
  have hf42 := hts (.fieldLink RX2 42 "PressGuard$Press" "position" "I") (by decide +kernel)
  have hf45 := hts (.fieldLink RX2 45 "PressGuard$Press" "brake" "I") (by decide +kernel)
  have hf48 := hts (.fieldLink RX2 48 "PressGuard$Press" "resetSeen" "I") (by decide +kernel)
  have hf51 := hts (.fieldLink RX2 51 "PressGuard$Press" "lockedBy" "I") (by decide +kernel)
  have hf54 := hts (.fieldLink RX2 54 "PressGuard$Press" "dangers" "I") (by decide +kernel)
  have hf57 := hts (.fieldLink RX2 57 "PressGuard$Press" "rounds" "I") (by decide +kernel)
  refine lv_aload_n hx hb dX2_begin_0 rfl (lv_at hl 0 rfl) ?_
  refine lv_iconst (v := 1) hx hb dX2_begin_1 (by decide +kernel) ?_
  refine k_put hx hb hts hi2 tyX2_ok nmX2 hown hK hP hD hS 0 rfl rfl 2 (by decide) hf9 rfl (.int 1) rfl rfl (Nat.le_of_ble_eq_true rfl) (ws' := [(h, oX2 b0 b1 (upd P 2 1))]) rfl dX2_begin_2 (fun H locs hP hD hS => ?_)
  refine lv_aload_n hx hb dX2_begin_5 rfl (lv_at hl 0 rfl) ?_
  refine lv_iconst (v := 0) hx hb dX2_begin_6 (by decide +kernel) ?_
  refine k_put hx hb hts hi2 tyX2_ok nmX2 hown hK hP hD hS 0 rfl rfl 3 (by decide) hf15 rfl (.int 0) rfl rfl (Nat.le_of_ble_eq_true rfl) (ws' := [(h, oX2 b0 b1 (upd (upd P 2 1) 3 0))]) rfl dX2_begin_7 (fun H locs hP hD hS => ?_)
  refine lv_aload_n hx hb dX2_begin_10 rfl (lv_at hl 0 rfl) ?_
  refine lv_iconst (v := 0) hx hb dX2_begin_11 (by decide +kernel) ?_
  refine k_put hx hb hts hi2 tyX2_ok nmX2 hown hK hP hD hS 0 rfl rfl 4 (by decide) hf18 rfl (.int 0) rfl rfl (Nat.le_of_ble_eq_true rfl) (ws' := [(h, oX2 b0 b1 (upd (upd (upd P 2 1) 3 0) 4 0))]) rfl dX2_begin_12 (fun H locs hP hD hS => ?_)
  refine lv_aload_n hx hb dX2_begin_15 rfl (lv_at hl 0 rfl) ?_
  refine lv_iconst (v := 0) hx hb dX2_begin_16 (by decide +kernel) ?_
  refine k_put hx hb hts hi2 tyX2_ok nmX2 hown hK hP hD hS 0 rfl rfl 5 (by decide) hf21 rfl (.int 0) rfl rfl (Nat.le_of_ble_eq_true rfl) (ws' := [(h, oX2 b0 b1 (upd (upd (upd (upd P 2 1) 3 0) 4 0) 5 0))]) rfl dX2_begin_17 (fun H locs hP hD hS => ?_)
  refine lv_aload_n hx hb dX2_begin_20 rfl (lv_at hl 0 rfl) ?_
  refine lv_iconst (v := 0) hx hb dX2_begin_21 (by decide +kernel) ?_
  refine k_put hx hb hts hi2 tyX2_ok nmX2 hown hK hP hD hS 0 rfl rfl 6 (by decide) hf24 rfl (.int 0) rfl rfl (Nat.le_of_ble_eq_true rfl) (ws' := [(h, oX2 b0 b1 (upd (upd (upd (upd (upd P 2 1) 3 0) 4 0) 5 0) 6 0))]) rfl dX2_begin_22 (fun H locs hP hD hS => ?_)
  refine lv_aload_n hx hb dX2_begin_25 rfl (lv_at hl 0 rfl) ?_
  refine lv_iconst (v := 0) hx hb dX2_begin_26 (by decide +kernel) ?_
  refine k_put hx hb hts hi2 tyX2_ok nmX2 hown hK hP hD hS 0 rfl rfl 7 (by decide) hf27 rfl (.int 0) rfl rfl (Nat.le_of_ble_eq_true rfl) (ws' := [(h, oX2 b0 b1 (upd (upd (upd (upd (upd (upd P 2 1) 3 0) 4 0) 5 0) 6 0) 7 0))]) rfl dX2_begin_27 (fun H locs hP hD hS => ?_)
  refine lv_aload_n hx hb dX2_begin_30 rfl (lv_at hl 0 rfl) ?_
  refine lv_iconst (v := 0) hx hb dX2_begin_31 (by decide +kernel) ?_
  refine k_put hx hb hts hi2 tyX2_ok nmX2 hown hK hP hD hS 0 rfl rfl 8 (by decide) hf30 rfl (.int 0) rfl rfl (Nat.le_of_ble_eq_true rfl) (ws' := [(h, oX2 b0 b1 (upd (upd (upd (upd (upd (upd (upd P 2 1) 3 0) 4 0) 5 0) 6 0) 7 0) 8 0))]) rfl dX2_begin_32 (fun H locs hP hD hS => ?_)
  refine lv_aload_n hx hb dX2_begin_35 rfl (lv_at hl 0 rfl) ?_
  refine lv_iconst (v := 0) hx hb dX2_begin_36 (by decide +kernel) ?_
  refine k_put hx hb hts hi2 tyX2_ok nmX2 hown hK hP hD hS 0 rfl rfl 9 (by decide) hf33 rfl (.int 0) rfl rfl (Nat.le_of_ble_eq_true rfl) (ws' := [(h, oX2 b0 b1 (upd (upd (upd (upd (upd (upd (upd (upd P 2 1) 3 0) 4 0) 5 0) 6 0) 7 0) 8 0) 9 0))]) rfl dX2_begin_37 (fun H locs hP hD hS => ?_)
  refine lv_aload_n hx hb dX2_begin_40 rfl (lv_at hl 0 rfl) ?_
  refine lv_iconst (v := 0) hx hb dX2_begin_41 (by decide +kernel) ?_
  refine k_put hx hb hts hi2 tyX2_ok nmX2 hown hK hP hD hS 0 rfl rfl 10 (by decide) hf36 rfl (.int 0) rfl rfl (Nat.le_of_ble_eq_true rfl) (ws' := [(h, oX2 b0 b1 (upd (upd (upd (upd (upd (upd (upd (upd (upd P 2 1) 3 0) 4 0) 5 0) 6 0) 7 0) 8 0) 9 0) 10 0))]) rfl dX2_begin_42 (fun H locs hP hD hS => ?_)
  refine lv_aload_n hx hb dX2_begin_45 rfl (lv_at hl 0 rfl) ?_
  refine lv_iconst (v := 0) hx hb dX2_begin_46 (by decide +kernel) ?_
  refine k_put hx hb hts hi2 tyX2_ok nmX2 hown hK hP hD hS 0 rfl rfl 11 (by decide) hf39 rfl (.int 0) rfl rfl (Nat.le_of_ble_eq_true rfl) (ws' := [(h, oX2 b0 b1 (upd (upd (upd (upd (upd (upd (upd (upd (upd (upd P 2 1) 3 0) 4 0) 5 0) 6 0) 7 0) 8 0) 9 0) 10 0) 11 0))]) rfl dX2_begin_47 (fun H locs hP hD hS => ?_)
  refine lv_aload_n hx hb dX2_begin_50 rfl (lv_at hl 0 rfl) ?_
  refine lv_iconst (v := 0) hx hb dX2_begin_51 (by decide +kernel) ?_
  refine k_put hx hb hts hi2 tyX2_ok nmX2 hown hK hP hD hS 0 rfl rfl 12 (by decide) hf42 rfl (.int 0) rfl rfl (Nat.le_of_ble_eq_true rfl) (ws' := [(h, oX2 b0 b1 (upd (upd (upd (upd (upd (upd (upd (upd (upd (upd (upd P 2 1) 3 0) 4 0) 5 0) 6 0) 7 0) 8 0) 9 0) 10 0) 11 0) 12 0))]) rfl dX2_begin_52 (fun H locs hP hD hS => ?_)
  refine lv_aload_n hx hb dX2_begin_55 rfl (lv_at hl 0 rfl) ?_
  refine lv_iconst (v := 0) hx hb dX2_begin_56 (by decide +kernel) ?_
  refine k_put hx hb hts hi2 tyX2_ok nmX2 hown hK hP hD hS 0 rfl rfl 13 (by decide) hf45 rfl (.int 0) rfl rfl (Nat.le_of_ble_eq_true rfl) (ws' := [(h, oX2 b0 b1 (upd (upd (upd (upd (upd (upd (upd (upd (upd (upd (upd (upd P 2 1) 3 0) 4 0) 5 0) 6 0) 7 0) 8 0) 9 0) 10 0) 11 0) 12 0) 13 0))]) rfl dX2_begin_57 (fun H locs hP hD hS => ?_)
  refine lv_aload_n hx hb dX2_begin_60 rfl (lv_at hl 0 rfl) ?_
  refine lv_iconst (v := 0) hx hb dX2_begin_61 (by decide +kernel) ?_
  refine k_put hx hb hts hi2 tyX2_ok nmX2 hown hK hP hD hS 0 rfl rfl 14 (by decide) hf48 rfl (.int 0) rfl rfl (Nat.le_of_ble_eq_true rfl) (ws' := [(h, oX2 b0 b1 (upd (upd (upd (upd (upd (upd (upd (upd (upd (upd (upd (upd (upd P 2 1) 3 0) 4 0) 5 0) 6 0) 7 0) 8 0) 9 0) 10 0) 11 0) 12 0) 13 0) 14 0))]) rfl dX2_begin_62 (fun H locs hP hD hS => ?_)
  refine lv_aload_n hx hb dX2_begin_65 rfl (lv_at hl 0 rfl) ?_
  refine lv_iconst (v := 0) hx hb dX2_begin_66 (by decide +kernel) ?_
  refine k_put hx hb hts hi2 tyX2_ok nmX2 hown hK hP hD hS 0 rfl rfl 15 (by decide) hf51 rfl (.int 0) rfl rfl (Nat.le_of_ble_eq_true rfl) (ws' := [(h, oX2 b0 b1 (upd (upd (upd (upd (upd (upd (upd (upd (upd (upd (upd (upd (upd (upd P 2 1) 3 0) 4 0) 5 0) 6 0) 7 0) 8 0) 9 0) 10 0) 11 0) 12 0) 13 0) 14 0) 15 0))]) rfl dX2_begin_67 (fun H locs hP hD hS => ?_)
  refine lv_aload_n hx hb dX2_begin_70 rfl (lv_at hl 0 rfl) ?_
  refine lv_iconst (v := 0) hx hb dX2_begin_71 (by decide +kernel) ?_
  refine k_put hx hb hts hi2 tyX2_ok nmX2 hown hK hP hD hS 0 rfl rfl 16 (by decide) hf54 rfl (.int 0) rfl rfl (Nat.le_of_ble_eq_true rfl) (ws' := [(h, oX2 b0 b1 (upd (upd (upd (upd (upd (upd (upd (upd (upd (upd (upd (upd (upd (upd (upd P 2 1) 3 0) 4 0) 5 0) 6 0) 7 0) 8 0) 9 0) 10 0) 11 0) 12 0) 13 0) 14 0) 15 0) 16 0))]) rfl dX2_begin_72 (fun H locs hP hD hS => ?_)
  refine lv_aload_n hx hb dX2_begin_75 rfl (lv_at hl 0 rfl) ?_
  refine lv_iconst (v := 0) hx hb dX2_begin_76 (by decide +kernel) ?_
  refine k_put hx hb hts hi2 tyX2_ok nmX2 hown hK hP hD hS 0 rfl rfl 17 (by decide) hf57 rfl (.int 0) rfl rfl (Nat.le_of_ble_eq_true rfl) (ws' := [(h, oX2 b0 b1 (upd (upd (upd (upd (upd (upd (upd (upd (upd (upd (upd (upd (upd (upd (upd (upd P 2 1) 3 0) 4 0) 5 0) 6 0) 7 0) 8 0) 9 0) 10 0) 11 0) 12 0) 13 0) 14 0) 15 0) 16 0) 17 0))]) rfl dX2_begin_77 (fun H locs hP hD hS => ?_)
  have hsp : sp_X2_begin P = (upd (upd (upd (upd (upd (upd (upd (upd (upd (upd (upd (upd (upd (upd (upd (upd P 2 1) 3 0) 4 0) 5 0) 6 0) 7 0) 8 0) 9 0) 10 0) 11 0) 12 0) 13 0) 14 0) 15 0) 16 0) 17 0) := rfl
  exact hret _ _ _ _ (by rw [hsp]; exact hP) hS dX2_begin_80

def sp_X2_copyFrom (P : Nat → Int32) (O : Nat → Int32) : (Nat → Int32) :=
  (upd (upd (upd (upd (upd (upd (upd (upd (upd (upd (upd (upd (upd (upd (upd (upd P 2 (O 2)) 3 (O 3)) 4 (O 4)) 5 (O 5)) 6 (O 6)) 7 (O 7)) 8 (O 8)) 9 (O 9)) 10 (O 10)) 11 (O 11)) 12 (O 12)) 13 (O 13)) 14 (O 14)) 15 (O 15)) 16 (O 16)) 17 (O 17))
set_option maxHeartbeats 4000000 in
set_option maxRecDepth 100000 in
theorem c_X2_copyFrom (l : Launch) (D : va_G) (cI cJ cO : ClassId) (h : Nat) (o : Nat) (b0 : Nat) (b1 : Nat) (P : Nat → Int32) (O : Nat → Int32)  : MV l D (TY cI cJ cO) yX2_copyFrom wsX2_copyFrom (RM 0) [.ref h, .ref o] [(h, oX2 b0 b1 P), (o, oX2 b0 b1 O)] [(h, oX2 b0 b1 (sp_X2_copyFrom P O)), (o, oX2 b0 b1 O)] := by
  refine k_entV (cc := cX2_copyFrom) (maxL := 2) (lv := [(0, .ref h), (1, .ref o)]) (by decide +kernel) rfl (Nat.le_of_ble_eq_true rfl) rfl ?_
  intro p e s m below meth c A Q ls hx hb hml hts hown hA hS hP hD hK hN hl hret
  have hown : s.vm.findClass RX2 = some m.cls := hown
  have hi2 : ∀ w ∈ wsX20, w ∈ wsX2_copyFrom := fun w h => List.mem_cons_of_mem _ (List.mem_append_right _ h)
  have hf9 := hts (.fieldLink RX2 9 "PressGuard$Press" "mode" "I") (by decide +kernel)
  have hf15 := hts (.fieldLink RX2 15 "PressGuard$Press" "hands" "I") (by decide +kernel)
  have hf18 := hts (.fieldLink RX2 18 "PressGuard$Press" "since" "I") (by decide +kernel)
  have hf21 := hts (.fieldLink RX2 21 "PressGuard$Press" "muting" "I") (by decide +kernel)
  have hf24 := hts (.fieldLink RX2 24 "PressGuard$Press" "mutedFor" "I") (by decide +kernel)
  have hf27 := hts (.fieldLink RX2 27 "PressGuard$Press" "leftApart" "I") (by decide +kernel)
  have hf30 := hts (.fieldLink RX2 30 "PressGuard$Press" "rightApart" "I") (by decide +kernel)
  have hf33 := hts (.fieldLink RX2 33 "PressGuard$Press" "curtainApart" "I") (by decide +kernel)
  have hf36 := hts (.fieldLink RX2 36 "PressGuard$Press" "unlike" "I") (by decide +kernel)
  have hf39 := hts (.fieldLink RX2 39 "PressGuard$Press" "command" "I") (by decide +kernel)
  have hf42 := hts (.fieldLink RX2 42 "PressGuard$Press" "position" "I") (by decide +kernel)
  have hf45 := hts (.fieldLink RX2 45 "PressGuard$Press" "brake" "I") (by decide +kernel)
  have hf48 := hts (.fieldLink RX2 48 "PressGuard$Press" "resetSeen" "I") (by decide +kernel)
  have hf51 := hts (.fieldLink RX2 51 "PressGuard$Press" "lockedBy" "I") (by decide +kernel)
  have hf54 := hts (.fieldLink RX2 54 "PressGuard$Press" "dangers" "I") (by decide +kernel)
  have hf57 := hts (.fieldLink RX2 57 "PressGuard$Press" "rounds" "I") (by decide +kernel)
  refine lv_aload_n hx hb dX2_copyFrom_0 rfl (lv_at hl 0 rfl) ?_
  refine lv_aload_n hx hb dX2_copyFrom_1 rfl (lv_at hl 1 rfl) ?_
  refine k_get hx hb hts hi2 hown hK hP 1 rfl rfl 2 (by decide) hf9 (.int (O 2)) rfl dX2_copyFrom_2 ?_
  refine k_put hx hb hts hi2 tyX2_ok nmX2 hown hK hP hD hS 0 rfl rfl 2 (by decide) hf9 rfl (.int (O 2)) rfl rfl (Nat.le_of_ble_eq_true rfl) (ws' := [(h, oX2 b0 b1 (upd P 2 (O 2))), (o, oX2 b0 b1 O)]) rfl dX2_copyFrom_5 (fun H locs hP hD hS => ?_)
  refine lv_aload_n hx hb dX2_copyFrom_8 rfl (lv_at hl 0 rfl) ?_
  refine lv_aload_n hx hb dX2_copyFrom_9 rfl (lv_at hl 1 rfl) ?_
  refine k_get hx hb hts hi2 hown hK hP 1 rfl rfl 3 (by decide) hf15 (.int (O 3)) rfl dX2_copyFrom_10 ?_
  refine k_put hx hb hts hi2 tyX2_ok nmX2 hown hK hP hD hS 0 rfl rfl 3 (by decide) hf15 rfl (.int (O 3)) rfl rfl (Nat.le_of_ble_eq_true rfl) (ws' := [(h, oX2 b0 b1 (upd (upd P 2 (O 2)) 3 (O 3))), (o, oX2 b0 b1 O)]) rfl dX2_copyFrom_13 (fun H locs hP hD hS => ?_)
  refine lv_aload_n hx hb dX2_copyFrom_16 rfl (lv_at hl 0 rfl) ?_
  refine lv_aload_n hx hb dX2_copyFrom_17 rfl (lv_at hl 1 rfl) ?_
  refine k_get hx hb hts hi2 hown hK hP 1 rfl rfl 4 (by decide) hf18 (.int (O 4)) rfl dX2_copyFrom_18 ?_
  refine k_put hx hb hts hi2 tyX2_ok nmX2 hown hK hP hD hS 0 rfl rfl 4 (by decide) hf18 rfl (.int (O 4)) rfl rfl (Nat.le_of_ble_eq_true rfl) (ws' := [(h, oX2 b0 b1 (upd (upd (upd P 2 (O 2)) 3 (O 3)) 4 (O 4))), (o, oX2 b0 b1 O)]) rfl dX2_copyFrom_21 (fun H locs hP hD hS => ?_)
  refine lv_aload_n hx hb dX2_copyFrom_24 rfl (lv_at hl 0 rfl) ?_
  refine lv_aload_n hx hb dX2_copyFrom_25 rfl (lv_at hl 1 rfl) ?_
  refine k_get hx hb hts hi2 hown hK hP 1 rfl rfl 5 (by decide) hf21 (.int (O 5)) rfl dX2_copyFrom_26 ?_
  refine k_put hx hb hts hi2 tyX2_ok nmX2 hown hK hP hD hS 0 rfl rfl 5 (by decide) hf21 rfl (.int (O 5)) rfl rfl (Nat.le_of_ble_eq_true rfl) (ws' := [(h, oX2 b0 b1 (upd (upd (upd (upd P 2 (O 2)) 3 (O 3)) 4 (O 4)) 5 (O 5))), (o, oX2 b0 b1 O)]) rfl dX2_copyFrom_29 (fun H locs hP hD hS => ?_)
  refine lv_aload_n hx hb dX2_copyFrom_32 rfl (lv_at hl 0 rfl) ?_
  refine lv_aload_n hx hb dX2_copyFrom_33 rfl (lv_at hl 1 rfl) ?_
  refine k_get hx hb hts hi2 hown hK hP 1 rfl rfl 6 (by decide) hf24 (.int (O 6)) rfl dX2_copyFrom_34 ?_
  refine k_put hx hb hts hi2 tyX2_ok nmX2 hown hK hP hD hS 0 rfl rfl 6 (by decide) hf24 rfl (.int (O 6)) rfl rfl (Nat.le_of_ble_eq_true rfl) (ws' := [(h, oX2 b0 b1 (upd (upd (upd (upd (upd P 2 (O 2)) 3 (O 3)) 4 (O 4)) 5 (O 5)) 6 (O 6))), (o, oX2 b0 b1 O)]) rfl dX2_copyFrom_37 (fun H locs hP hD hS => ?_)
  refine lv_aload_n hx hb dX2_copyFrom_40 rfl (lv_at hl 0 rfl) ?_
  refine lv_aload_n hx hb dX2_copyFrom_41 rfl (lv_at hl 1 rfl) ?_
  refine k_get hx hb hts hi2 hown hK hP 1 rfl rfl 7 (by decide) hf27 (.int (O 7)) rfl dX2_copyFrom_42 ?_
  refine k_put hx hb hts hi2 tyX2_ok nmX2 hown hK hP hD hS 0 rfl rfl 7 (by decide) hf27 rfl (.int (O 7)) rfl rfl (Nat.le_of_ble_eq_true rfl) (ws' := [(h, oX2 b0 b1 (upd (upd (upd (upd (upd (upd P 2 (O 2)) 3 (O 3)) 4 (O 4)) 5 (O 5)) 6 (O 6)) 7 (O 7))), (o, oX2 b0 b1 O)]) rfl dX2_copyFrom_45 (fun H locs hP hD hS => ?_)
  refine lv_aload_n hx hb dX2_copyFrom_48 rfl (lv_at hl 0 rfl) ?_
  refine lv_aload_n hx hb dX2_copyFrom_49 rfl (lv_at hl 1 rfl) ?_
  refine k_get hx hb hts hi2 hown hK hP 1 rfl rfl 8 (by decide) hf30 (.int (O 8)) rfl dX2_copyFrom_50 ?_
  refine k_put hx hb hts hi2 tyX2_ok nmX2 hown hK hP hD hS 0 rfl rfl 8 (by decide) hf30 rfl (.int (O 8)) rfl rfl (Nat.le_of_ble_eq_true rfl) (ws' := [(h, oX2 b0 b1 (upd (upd (upd (upd (upd (upd (upd P 2 (O 2)) 3 (O 3)) 4 (O 4)) 5 (O 5)) 6 (O 6)) 7 (O 7)) 8 (O 8))), (o, oX2 b0 b1 O)]) rfl dX2_copyFrom_53 (fun H locs hP hD hS => ?_)
  refine lv_aload_n hx hb dX2_copyFrom_56 rfl (lv_at hl 0 rfl) ?_
  refine lv_aload_n hx hb dX2_copyFrom_57 rfl (lv_at hl 1 rfl) ?_
  refine k_get hx hb hts hi2 hown hK hP 1 rfl rfl 9 (by decide) hf33 (.int (O 9)) rfl dX2_copyFrom_58 ?_
  refine k_put hx hb hts hi2 tyX2_ok nmX2 hown hK hP hD hS 0 rfl rfl 9 (by decide) hf33 rfl (.int (O 9)) rfl rfl (Nat.le_of_ble_eq_true rfl) (ws' := [(h, oX2 b0 b1 (upd (upd (upd (upd (upd (upd (upd (upd P 2 (O 2)) 3 (O 3)) 4 (O 4)) 5 (O 5)) 6 (O 6)) 7 (O 7)) 8 (O 8)) 9 (O 9))), (o, oX2 b0 b1 O)]) rfl dX2_copyFrom_61 (fun H locs hP hD hS => ?_)
  refine lv_aload_n hx hb dX2_copyFrom_64 rfl (lv_at hl 0 rfl) ?_
  refine lv_aload_n hx hb dX2_copyFrom_65 rfl (lv_at hl 1 rfl) ?_
  refine k_get hx hb hts hi2 hown hK hP 1 rfl rfl 10 (by decide) hf36 (.int (O 10)) rfl dX2_copyFrom_66 ?_
  refine k_put hx hb hts hi2 tyX2_ok nmX2 hown hK hP hD hS 0 rfl rfl 10 (by decide) hf36 rfl (.int (O 10)) rfl rfl (Nat.le_of_ble_eq_true rfl) (ws' := [(h, oX2 b0 b1 (upd (upd (upd (upd (upd (upd (upd (upd (upd P 2 (O 2)) 3 (O 3)) 4 (O 4)) 5 (O 5)) 6 (O 6)) 7 (O 7)) 8 (O 8)) 9 (O 9)) 10 (O 10))), (o, oX2 b0 b1 O)]) rfl dX2_copyFrom_69 (fun H locs hP hD hS => ?_)
  refine lv_aload_n hx hb dX2_copyFrom_72 rfl (lv_at hl 0 rfl) ?_
  refine lv_aload_n hx hb dX2_copyFrom_73 rfl (lv_at hl 1 rfl) ?_
  refine k_get hx hb hts hi2 hown hK hP 1 rfl rfl 11 (by decide) hf39 (.int (O 11)) rfl dX2_copyFrom_74 ?_
  refine k_put hx hb hts hi2 tyX2_ok nmX2 hown hK hP hD hS 0 rfl rfl 11 (by decide) hf39 rfl (.int (O 11)) rfl rfl (Nat.le_of_ble_eq_true rfl) (ws' := [(h, oX2 b0 b1 (upd (upd (upd (upd (upd (upd (upd (upd (upd (upd P 2 (O 2)) 3 (O 3)) 4 (O 4)) 5 (O 5)) 6 (O 6)) 7 (O 7)) 8 (O 8)) 9 (O 9)) 10 (O 10)) 11 (O 11))), (o, oX2 b0 b1 O)]) rfl dX2_copyFrom_77 (fun H locs hP hD hS => ?_)
  refine lv_aload_n hx hb dX2_copyFrom_80 rfl (lv_at hl 0 rfl) ?_
  refine lv_aload_n hx hb dX2_copyFrom_81 rfl (lv_at hl 1 rfl) ?_
  refine k_get hx hb hts hi2 hown hK hP 1 rfl rfl 12 (by decide) hf42 (.int (O 12)) rfl dX2_copyFrom_82 ?_
  refine k_put hx hb hts hi2 tyX2_ok nmX2 hown hK hP hD hS 0 rfl rfl 12 (by decide) hf42 rfl (.int (O 12)) rfl rfl (Nat.le_of_ble_eq_true rfl) (ws' := [(h, oX2 b0 b1 (upd (upd (upd (upd (upd (upd (upd (upd (upd (upd (upd P 2 (O 2)) 3 (O 3)) 4 (O 4)) 5 (O 5)) 6 (O 6)) 7 (O 7)) 8 (O 8)) 9 (O 9)) 10 (O 10)) 11 (O 11)) 12 (O 12))), (o, oX2 b0 b1 O)]) rfl dX2_copyFrom_85 (fun H locs hP hD hS => ?_)
  refine lv_aload_n hx hb dX2_copyFrom_88 rfl (lv_at hl 0 rfl) ?_
  refine lv_aload_n hx hb dX2_copyFrom_89 rfl (lv_at hl 1 rfl) ?_
  refine k_get hx hb hts hi2 hown hK hP 1 rfl rfl 13 (by decide) hf45 (.int (O 13)) rfl dX2_copyFrom_90 ?_
  refine k_put hx hb hts hi2 tyX2_ok nmX2 hown hK hP hD hS 0 rfl rfl 13 (by decide) hf45 rfl (.int (O 13)) rfl rfl (Nat.le_of_ble_eq_true rfl) (ws' := [(h, oX2 b0 b1 (upd (upd (upd (upd (upd (upd (upd (upd (upd (upd (upd (upd P 2 (O 2)) 3 (O 3)) 4 (O 4)) 5 (O 5)) 6 (O 6)) 7 (O 7)) 8 (O 8)) 9 (O 9)) 10 (O 10)) 11 (O 11)) 12 (O 12)) 13 (O 13))), (o, oX2 b0 b1 O)]) rfl dX2_copyFrom_93 (fun H locs hP hD hS => ?_)
  refine lv_aload_n hx hb dX2_copyFrom_96 rfl (lv_at hl 0 rfl) ?_
  refine lv_aload_n hx hb dX2_copyFrom_97 rfl (lv_at hl 1 rfl) ?_
  refine k_get hx hb hts hi2 hown hK hP 1 rfl rfl 14 (by decide) hf48 (.int (O 14)) rfl dX2_copyFrom_98 ?_
  refine k_put hx hb hts hi2 tyX2_ok nmX2 hown hK hP hD hS 0 rfl rfl 14 (by decide) hf48 rfl (.int (O 14)) rfl rfl (Nat.le_of_ble_eq_true rfl) (ws' := [(h, oX2 b0 b1 (upd (upd (upd (upd (upd (upd (upd (upd (upd (upd (upd (upd (upd P 2 (O 2)) 3 (O 3)) 4 (O 4)) 5 (O 5)) 6 (O 6)) 7 (O 7)) 8 (O 8)) 9 (O 9)) 10 (O 10)) 11 (O 11)) 12 (O 12)) 13 (O 13)) 14 (O 14))), (o, oX2 b0 b1 O)]) rfl dX2_copyFrom_101 (fun H locs hP hD hS => ?_)
  refine lv_aload_n hx hb dX2_copyFrom_104 rfl (lv_at hl 0 rfl) ?_
  refine lv_aload_n hx hb dX2_copyFrom_105 rfl (lv_at hl 1 rfl) ?_
  refine k_get hx hb hts hi2 hown hK hP 1 rfl rfl 15 (by decide) hf51 (.int (O 15)) rfl dX2_copyFrom_106 ?_
  refine k_put hx hb hts hi2 tyX2_ok nmX2 hown hK hP hD hS 0 rfl rfl 15 (by decide) hf51 rfl (.int (O 15)) rfl rfl (Nat.le_of_ble_eq_true rfl) (ws' := [(h, oX2 b0 b1 (upd (upd (upd (upd (upd (upd (upd (upd (upd (upd (upd (upd (upd (upd P 2 (O 2)) 3 (O 3)) 4 (O 4)) 5 (O 5)) 6 (O 6)) 7 (O 7)) 8 (O 8)) 9 (O 9)) 10 (O 10)) 11 (O 11)) 12 (O 12)) 13 (O 13)) 14 (O 14)) 15 (O 15))), (o, oX2 b0 b1 O)]) rfl dX2_copyFrom_109 (fun H locs hP hD hS => ?_)
  refine lv_aload_n hx hb dX2_copyFrom_112 rfl (lv_at hl 0 rfl) ?_
  refine lv_aload_n hx hb dX2_copyFrom_113 rfl (lv_at hl 1 rfl) ?_
  refine k_get hx hb hts hi2 hown hK hP 1 rfl rfl 16 (by decide) hf54 (.int (O 16)) rfl dX2_copyFrom_114 ?_
  refine k_put hx hb hts hi2 tyX2_ok nmX2 hown hK hP hD hS 0 rfl rfl 16 (by decide) hf54 rfl (.int (O 16)) rfl rfl (Nat.le_of_ble_eq_true rfl) (ws' := [(h, oX2 b0 b1 (upd (upd (upd (upd (upd (upd (upd (upd (upd (upd (upd (upd (upd (upd (upd P 2 (O 2)) 3 (O 3)) 4 (O 4)) 5 (O 5)) 6 (O 6)) 7 (O 7)) 8 (O 8)) 9 (O 9)) 10 (O 10)) 11 (O 11)) 12 (O 12)) 13 (O 13)) 14 (O 14)) 15 (O 15)) 16 (O 16))), (o, oX2 b0 b1 O)]) rfl dX2_copyFrom_117 (fun H locs hP hD hS => ?_)
  refine lv_aload_n hx hb dX2_copyFrom_120 rfl (lv_at hl 0 rfl) ?_
  refine lv_aload_n hx hb dX2_copyFrom_121 rfl (lv_at hl 1 rfl) ?_
  refine k_get hx hb hts hi2 hown hK hP 1 rfl rfl 17 (by decide) hf57 (.int (O 17)) rfl dX2_copyFrom_122 ?_
  refine k_put hx hb hts hi2 tyX2_ok nmX2 hown hK hP hD hS 0 rfl rfl 17 (by decide) hf57 rfl (.int (O 17)) rfl rfl (Nat.le_of_ble_eq_true rfl) (ws' := [(h, oX2 b0 b1 (upd (upd (upd (upd (upd (upd (upd (upd (upd (upd (upd (upd (upd (upd (upd (upd P 2 (O 2)) 3 (O 3)) 4 (O 4)) 5 (O 5)) 6 (O 6)) 7 (O 7)) 8 (O 8)) 9 (O 9)) 10 (O 10)) 11 (O 11)) 12 (O 12)) 13 (O 13)) 14 (O 14)) 15 (O 15)) 16 (O 16)) 17 (O 17))), (o, oX2 b0 b1 O)]) rfl dX2_copyFrom_125 (fun H locs hP hD hS => ?_)
  have hsp : sp_X2_copyFrom P O = (upd (upd (upd (upd (upd (upd (upd (upd (upd (upd (upd (upd (upd (upd (upd (upd P 2 (O 2)) 3 (O 3)) 4 (O 4)) 5 (O 5)) 6 (O 6)) 7 (O 7)) 8 (O 8)) 9 (O 9)) 10 (O 10)) 11 (O 11)) 12 (O 12)) 13 (O 13)) 14 (O 14)) 15 (O 15)) 16 (O 16)) 17 (O 17)) := rfl
  exact hret _ _ _ _ (by rw [hsp]; exact hP) hS dX2_copyFrom_128

def sp_X2_part (P : Nat → Int32) (what : Int32) : Int32 :=
  (if what = 0 then
    (P 2)
  else
    (if what = 1 then
      (P 3)
    else
      (if what = 2 then
        (P 4)
      else
        (if what = 3 then
          (P 5)
        else
          (if what = 4 then
            (P 6)
          else
            (if what = 5 then
              (P 7)
            else
              (if what = 6 then
                (P 8)
              else
                (if what = 7 then
                  (P 9)
                else
                  (if what = 8 then
                    (P 10)
                  else
                    (if what = 9 then
                      (P 11)
                    else
                      (if what = 10 then
                        (P 12)
                      else
                        (if what = 11 then
                          (P 13)
                        else
                          (if what = 12 then
                            (P 14)
                          else
                            (if what = 13 then
                              let z_15 : Int32 := (if (P 2) = 0 then (P 15) else (-9))
                              z_15
                            else
                              (-2)))))))))))))))
set_option maxRecDepth 100000 in
theorem sq_X2_part_1 (P : Nat → Int32) (what : Int32) (z_15 : Int32) (ez_15 : z_15 = (if (P 2) = 0 then (P 15) else (-9))) (c_1 : ¬ (what = 0)) (c_2 : ¬ (what = 1)) (c_3 : ¬ (what = 2)) (c_4 : ¬ (what = 3)) (c_5 : ¬ (what = 4)) (c_6 : ¬ (what = 5)) (c_7 : ¬ (what = 6)) (c_8 : ¬ (what = 7)) (c_9 : ¬ (what = 8)) (c_10 : ¬ (what = 9)) (c_11 : ¬ (what = 10)) (c_12 : ¬ (what = 11)) (c_13 : ¬ (what = 12)) (c_14 : what = 13) : sp_X2_part P what = z_15 := by subst ez_15; simp only [sp_X2_part, if_neg c_1, if_neg c_2, if_neg c_3, if_neg c_4, if_neg c_5, if_neg c_6, if_neg c_7, if_neg c_8, if_neg c_9, if_neg c_10, if_neg c_11, if_neg c_12, if_neg c_13, if_pos c_14]
set_option maxHeartbeats 4000000 in
set_option maxRecDepth 100000 in
theorem c_X2_part (l : Launch) (D : va_G) (cI cJ cO : ClassId) (h : Nat) (b0 : Nat) (b1 : Nat) (P : Nat → Int32) (what : Int32)  : MI l D (TY cI cJ cO) yX2_part wsX2_part (RM 0) [.ref h, .int what] [(h, oX2 b0 b1 P)] (sp_X2_part P what) [(h, oX2 b0 b1 P)] := by
  refine k_entI (cc := cX2_part) (maxL := 2) (lv := [(0, .ref h), (1, .int what)]) (by decide +kernel) rfl (Nat.le_of_ble_eq_true rfl) rfl ?_
  intro p e s m below meth c A Q ls hx hb hml hts hown hA hS hP hD hK hN hl hret
  have hown : s.vm.findClass RX2 = some m.cls := hown
  have hi2 : ∀ w ∈ wsX20, w ∈ wsX2_part := fun w h => List.mem_cons_of_mem _ (List.mem_append_right _ h)
  have hf9 := hts (.fieldLink RX2 9 "PressGuard$Press" "mode" "I") (by decide +kernel)
  have hf15 := hts (.fieldLink RX2 15 "PressGuard$Press" "hands" "I") (by decide +kernel)
  have hf18 := hts (.fieldLink RX2 18 "PressGuard$Press" "since" "I") (by decide +kernel)
  have hf21 := hts (.fieldLink RX2 21 "PressGuard$Press" "muting" "I") (by decide +kernel)
  have hf24 := hts (.fieldLink RX2 24 "PressGuard$Press" "mutedFor" "I") (by decide +kernel)
  have hf27 := hts (.fieldLink RX2 27 "PressGuard$Press" "leftApart" "I") (by decide +kernel)
  have hf30 := hts (.fieldLink RX2 30 "PressGuard$Press" "rightApart" "I") (by decide +kernel)
  have hf33 := hts (.fieldLink RX2 33 "PressGuard$Press" "curtainApart" "I") (by decide +kernel)
  have hf36 := hts (.fieldLink RX2 36 "PressGuard$Press" "unlike" "I") (by decide +kernel)
  have hf39 := hts (.fieldLink RX2 39 "PressGuard$Press" "command" "I") (by decide +kernel)
  have hf42 := hts (.fieldLink RX2 42 "PressGuard$Press" "position" "I") (by decide +kernel)
  have hf45 := hts (.fieldLink RX2 45 "PressGuard$Press" "brake" "I") (by decide +kernel)
  have hf48 := hts (.fieldLink RX2 48 "PressGuard$Press" "resetSeen" "I") (by decide +kernel)
  have hf51 := hts (.fieldLink RX2 51 "PressGuard$Press" "lockedBy" "I") (by decide +kernel)
  refine lv_iload_n hx hb dX2_part_0 rfl (lv_at hl 1 rfl) ?_
  by_cases c_1 : what = 0
  · refine lv_tableIn (off := 71) (tgt := 72) hx hb dX2_part_1 (by rw [c_1]; decide) (by rw [c_1]; decide) (by rw [c_1]; rfl) (by decide) ?_
    refine lv_aload_n hx hb dX2_part_72 rfl (lv_at hl 0 rfl) ?_
    refine k_get hx hb hts hi2 hown hK hP 0 rfl rfl 2 (by decide) hf9 (.int (P 2)) rfl dX2_part_73 ?_
    have hsp : sp_X2_part P what = (P 2) := by simp only [sp_X2_part, if_pos c_1]
    exact hret _ _ _ _ _ (by rw [hsp]) rfl hP hS dX2_part_76
  by_cases c_2 : what = 1
  · refine lv_tableIn (off := 76) (tgt := 77) hx hb dX2_part_1 (by rw [c_2]; decide) (by rw [c_2]; decide) (by rw [c_2]; rfl) (by decide) ?_
    refine lv_aload_n hx hb dX2_part_77 rfl (lv_at hl 0 rfl) ?_
    refine k_get hx hb hts hi2 hown hK hP 0 rfl rfl 3 (by decide) hf15 (.int (P 3)) rfl dX2_part_78 ?_
    have hsp : sp_X2_part P what = (P 3) := by simp only [sp_X2_part, if_neg c_1, if_pos c_2]
    exact hret _ _ _ _ _ (by rw [hsp]) rfl hP hS dX2_part_81
  by_cases c_3 : what = 2
  · refine lv_tableIn (off := 81) (tgt := 82) hx hb dX2_part_1 (by rw [c_3]; decide) (by rw [c_3]; decide) (by rw [c_3]; rfl) (by decide) ?_
    refine lv_aload_n hx hb dX2_part_82 rfl (lv_at hl 0 rfl) ?_
    refine k_get hx hb hts hi2 hown hK hP 0 rfl rfl 4 (by decide) hf18 (.int (P 4)) rfl dX2_part_83 ?_
    have hsp : sp_X2_part P what = (P 4) := by simp only [sp_X2_part, if_neg c_1, if_neg c_2, if_pos c_3]
    exact hret _ _ _ _ _ (by rw [hsp]) rfl hP hS dX2_part_86
  by_cases c_4 : what = 3
  · refine lv_tableIn (off := 86) (tgt := 87) hx hb dX2_part_1 (by rw [c_4]; decide) (by rw [c_4]; decide) (by rw [c_4]; rfl) (by decide) ?_
    refine lv_aload_n hx hb dX2_part_87 rfl (lv_at hl 0 rfl) ?_
    refine k_get hx hb hts hi2 hown hK hP 0 rfl rfl 5 (by decide) hf21 (.int (P 5)) rfl dX2_part_88 ?_
    have hsp : sp_X2_part P what = (P 5) := by simp only [sp_X2_part, if_neg c_1, if_neg c_2, if_neg c_3, if_pos c_4]
    exact hret _ _ _ _ _ (by rw [hsp]) rfl hP hS dX2_part_91
  by_cases c_5 : what = 4
  · refine lv_tableIn (off := 91) (tgt := 92) hx hb dX2_part_1 (by rw [c_5]; decide) (by rw [c_5]; decide) (by rw [c_5]; rfl) (by decide) ?_
    refine lv_aload_n hx hb dX2_part_92 rfl (lv_at hl 0 rfl) ?_
    refine k_get hx hb hts hi2 hown hK hP 0 rfl rfl 6 (by decide) hf24 (.int (P 6)) rfl dX2_part_93 ?_
    have hsp : sp_X2_part P what = (P 6) := by simp only [sp_X2_part, if_neg c_1, if_neg c_2, if_neg c_3, if_neg c_4, if_pos c_5]
    exact hret _ _ _ _ _ (by rw [hsp]) rfl hP hS dX2_part_96
  by_cases c_6 : what = 5
  · refine lv_tableIn (off := 96) (tgt := 97) hx hb dX2_part_1 (by rw [c_6]; decide) (by rw [c_6]; decide) (by rw [c_6]; rfl) (by decide) ?_
    refine lv_aload_n hx hb dX2_part_97 rfl (lv_at hl 0 rfl) ?_
    refine k_get hx hb hts hi2 hown hK hP 0 rfl rfl 7 (by decide) hf27 (.int (P 7)) rfl dX2_part_98 ?_
    have hsp : sp_X2_part P what = (P 7) := by simp only [sp_X2_part, if_neg c_1, if_neg c_2, if_neg c_3, if_neg c_4, if_neg c_5, if_pos c_6]
    exact hret _ _ _ _ _ (by rw [hsp]) rfl hP hS dX2_part_101
  by_cases c_7 : what = 6
  · refine lv_tableIn (off := 101) (tgt := 102) hx hb dX2_part_1 (by rw [c_7]; decide) (by rw [c_7]; decide) (by rw [c_7]; rfl) (by decide) ?_
    refine lv_aload_n hx hb dX2_part_102 rfl (lv_at hl 0 rfl) ?_
    refine k_get hx hb hts hi2 hown hK hP 0 rfl rfl 8 (by decide) hf30 (.int (P 8)) rfl dX2_part_103 ?_
    have hsp : sp_X2_part P what = (P 8) := by simp only [sp_X2_part, if_neg c_1, if_neg c_2, if_neg c_3, if_neg c_4, if_neg c_5, if_neg c_6, if_pos c_7]
    exact hret _ _ _ _ _ (by rw [hsp]) rfl hP hS dX2_part_106
  by_cases c_8 : what = 7
  · refine lv_tableIn (off := 106) (tgt := 107) hx hb dX2_part_1 (by rw [c_8]; decide) (by rw [c_8]; decide) (by rw [c_8]; rfl) (by decide) ?_
    refine lv_aload_n hx hb dX2_part_107 rfl (lv_at hl 0 rfl) ?_
    refine k_get hx hb hts hi2 hown hK hP 0 rfl rfl 9 (by decide) hf33 (.int (P 9)) rfl dX2_part_108 ?_
    have hsp : sp_X2_part P what = (P 9) := by simp only [sp_X2_part, if_neg c_1, if_neg c_2, if_neg c_3, if_neg c_4, if_neg c_5, if_neg c_6, if_neg c_7, if_pos c_8]
    exact hret _ _ _ _ _ (by rw [hsp]) rfl hP hS dX2_part_111
  by_cases c_9 : what = 8
  · refine lv_tableIn (off := 111) (tgt := 112) hx hb dX2_part_1 (by rw [c_9]; decide) (by rw [c_9]; decide) (by rw [c_9]; rfl) (by decide) ?_
    refine lv_aload_n hx hb dX2_part_112 rfl (lv_at hl 0 rfl) ?_
    refine k_get hx hb hts hi2 hown hK hP 0 rfl rfl 10 (by decide) hf36 (.int (P 10)) rfl dX2_part_113 ?_
    have hsp : sp_X2_part P what = (P 10) := by simp only [sp_X2_part, if_neg c_1, if_neg c_2, if_neg c_3, if_neg c_4, if_neg c_5, if_neg c_6, if_neg c_7, if_neg c_8, if_pos c_9]
    exact hret _ _ _ _ _ (by rw [hsp]) rfl hP hS dX2_part_116
  by_cases c_10 : what = 9
  · refine lv_tableIn (off := 116) (tgt := 117) hx hb dX2_part_1 (by rw [c_10]; decide) (by rw [c_10]; decide) (by rw [c_10]; rfl) (by decide) ?_
    refine lv_aload_n hx hb dX2_part_117 rfl (lv_at hl 0 rfl) ?_
    refine k_get hx hb hts hi2 hown hK hP 0 rfl rfl 11 (by decide) hf39 (.int (P 11)) rfl dX2_part_118 ?_
    have hsp : sp_X2_part P what = (P 11) := by simp only [sp_X2_part, if_neg c_1, if_neg c_2, if_neg c_3, if_neg c_4, if_neg c_5, if_neg c_6, if_neg c_7, if_neg c_8, if_neg c_9, if_pos c_10]
    exact hret _ _ _ _ _ (by rw [hsp]) rfl hP hS dX2_part_121
  by_cases c_11 : what = 10
  · refine lv_tableIn (off := 121) (tgt := 122) hx hb dX2_part_1 (by rw [c_11]; decide) (by rw [c_11]; decide) (by rw [c_11]; rfl) (by decide) ?_
    refine lv_aload_n hx hb dX2_part_122 rfl (lv_at hl 0 rfl) ?_
    refine k_get hx hb hts hi2 hown hK hP 0 rfl rfl 12 (by decide) hf42 (.int (P 12)) rfl dX2_part_123 ?_
    have hsp : sp_X2_part P what = (P 12) := by simp only [sp_X2_part, if_neg c_1, if_neg c_2, if_neg c_3, if_neg c_4, if_neg c_5, if_neg c_6, if_neg c_7, if_neg c_8, if_neg c_9, if_neg c_10, if_pos c_11]
    exact hret _ _ _ _ _ (by rw [hsp]) rfl hP hS dX2_part_126
  by_cases c_12 : what = 11
  · refine lv_tableIn (off := 126) (tgt := 127) hx hb dX2_part_1 (by rw [c_12]; decide) (by rw [c_12]; decide) (by rw [c_12]; rfl) (by decide) ?_
    refine lv_aload_n hx hb dX2_part_127 rfl (lv_at hl 0 rfl) ?_
    refine k_get hx hb hts hi2 hown hK hP 0 rfl rfl 13 (by decide) hf45 (.int (P 13)) rfl dX2_part_128 ?_
    have hsp : sp_X2_part P what = (P 13) := by simp only [sp_X2_part, if_neg c_1, if_neg c_2, if_neg c_3, if_neg c_4, if_neg c_5, if_neg c_6, if_neg c_7, if_neg c_8, if_neg c_9, if_neg c_10, if_neg c_11, if_pos c_12]
    exact hret _ _ _ _ _ (by rw [hsp]) rfl hP hS dX2_part_131
  by_cases c_13 : what = 12
  · refine lv_tableIn (off := 131) (tgt := 132) hx hb dX2_part_1 (by rw [c_13]; decide) (by rw [c_13]; decide) (by rw [c_13]; rfl) (by decide) ?_
    refine lv_aload_n hx hb dX2_part_132 rfl (lv_at hl 0 rfl) ?_
    refine k_get hx hb hts hi2 hown hK hP 0 rfl rfl 14 (by decide) hf48 (.int (P 14)) rfl dX2_part_133 ?_
    have hsp : sp_X2_part P what = (P 14) := by simp only [sp_X2_part, if_neg c_1, if_neg c_2, if_neg c_3, if_neg c_4, if_neg c_5, if_neg c_6, if_neg c_7, if_neg c_8, if_neg c_9, if_neg c_10, if_neg c_11, if_neg c_12, if_pos c_13]
    exact hret _ _ _ _ _ (by rw [hsp]) rfl hP hS dX2_part_136
  by_cases c_14 : what = 13
  · refine lv_tableIn (off := 136) (tgt := 137) hx hb dX2_part_1 (by rw [c_14]; decide) (by rw [c_14]; decide) (by rw [c_14]; rfl) (by decide) ?_
    refine lv_aload_n hx hb dX2_part_137 rfl (lv_at hl 0 rfl) ?_
    refine k_get hx hb hts hi2 hown hK hP 0 rfl rfl 2 (by decide) hf9 (.int (P 2)) rfl dX2_part_138 ?_
    have J_16 : ∀ z_15 : Int32, z_15 = (if (P 2) = 0 then (P 15) else (-9)) → ∀ (H : Heap) (locs : List Loc), va_P D vwCl [(h, oX2 b0 b1 P)] H → va_D A [(h, oX2 b0 b1 P)] → va_S A s.heap H locs → ∀ ls : Array Slot, lv_has ls 2 [] → W p l e (RM 0) s m ([.ref h, .int what] : List Value).toArray below meth c H locs 0 0 Q (F0 m 153 ls [.int z_15]) := by
      intro z_15 ez_15 H locs hP hD hS ls hl
      have hsp : sp_X2_part P what = z_15 := sq_X2_part_1 P what z_15 ez_15 c_1 c_2 c_3 c_4 c_5 c_6 c_7 c_8 c_9 c_10 c_11 c_12 c_13 c_14
      exact hret _ _ _ _ _ (by rw [hsp]) rfl hP hS dX2_part_153
    refine lv_if_ne (tgt := 151) hx hb dX2_part_141 (by decide) (fun c_17 => ?_) (fun c_17 => ?_)
    · skip
      refine lv_bipush (v := (-9)) hx hb dX2_part_151 (by decide +kernel) ?_
      exact J_16 (-9) (by first | (simp only [if_neg c_17]; done) | rfl) _ _ hP hD hS _ (lv_sub hl [] rfl)
    · skip
      refine lv_aload_n hx hb dX2_part_144 rfl (lv_at hl 0 rfl) ?_
      refine k_get hx hb hts hi2 hown hK hP 0 rfl rfl 15 (by decide) hf51 (.int (P 15)) rfl dX2_part_145 ?_
      refine lv_goto (tgt := 153) hx hb dX2_part_148 (by decide) ?_
      exact J_16 (P 15) (by first | (simp only [if_pos c_17]; done) | rfl) _ _ hP hD hS _ (lv_sub hl [] rfl)
  refine lv_tableOut (tgt := 154) hx hb dX2_part_1 (by have q0 := lv_neT c_1 (show (0 : Int32).toInt = 0 by decide +kernel); have q1 := lv_neT c_2 (show (1 : Int32).toInt = 1 by decide +kernel); have q2 := lv_neT c_3 (show (2 : Int32).toInt = 2 by decide +kernel); have q3 := lv_neT c_4 (show (3 : Int32).toInt = 3 by decide +kernel); have q4 := lv_neT c_5 (show (4 : Int32).toInt = 4 by decide +kernel); have q5 := lv_neT c_6 (show (5 : Int32).toInt = 5 by decide +kernel); have q6 := lv_neT c_7 (show (6 : Int32).toInt = 6 by decide +kernel); have q7 := lv_neT c_8 (show (7 : Int32).toInt = 7 by decide +kernel); have q8 := lv_neT c_9 (show (8 : Int32).toInt = 8 by decide +kernel); have q9 := lv_neT c_10 (show (9 : Int32).toInt = 9 by decide +kernel); have q10 := lv_neT c_11 (show (10 : Int32).toInt = 10 by decide +kernel); have q11 := lv_neT c_12 (show (11 : Int32).toInt = 11 by decide +kernel); have q12 := lv_neT c_13 (show (12 : Int32).toInt = 12 by decide +kernel); have q13 := lv_neT c_14 (show (13 : Int32).toInt = 13 by decide +kernel); omega) (by decide) ?_
  refine lv_bipush (v := (-2)) hx hb dX2_part_154 (by decide +kernel) ?_
  have hsp : sp_X2_part P what = (-2) := by simp only [sp_X2_part, if_neg c_1, if_neg c_2, if_neg c_3, if_neg c_4, if_neg c_5, if_neg c_6, if_neg c_7, if_neg c_8, if_neg c_9, if_neg c_10, if_neg c_11, if_neg c_12, if_neg c_13, if_neg c_14]
  exact hret _ _ _ _ _ (by rw [hsp]) rfl hP hS dX2_part_156

def sp_X2_stateNumber (P : Nat → Int32) : Int64 :=
  let z_1 : Int64 := ((1 * 5) + (((P 2) : Int32).toInt64))
  let z_2 : Int64 := ((z_1 * 4) + (((P 3) : Int32).toInt64))
  let z_3 : Int64 := ((z_2 * 10) + (((P 4) : Int32).toInt64))
  let z_4 : Int64 := ((z_3 * 5) + (((P 5) : Int32).toInt64))
  let z_5 : Int64 := ((z_4 * 31) + (((P 6) : Int32).toInt64))
  let z_6 : Int64 := ((z_5 * 10) + (((P 7) : Int32).toInt64))
  let z_7 : Int64 := ((z_6 * 10) + (((P 8) : Int32).toInt64))
  let z_8 : Int64 := ((z_7 * 10) + (((P 9) : Int32).toInt64))
  let z_9 : Int64 := ((z_8 * 10) + (((P 10) : Int32).toInt64))
  let z_10 : Int64 := ((z_9 * 2) + (((P 11) : Int32).toInt64))
  let z_11 : Int64 := ((z_10 * 18) + (((P 12) : Int32).toInt64))
  let z_12 : Int64 := ((z_11 * 4) + (((P 13) : Int32).toInt64))
  ((z_12 * 2) + (((P 14) : Int32).toInt64))
set_option maxRecDepth 100000 in
theorem sq_X2_stateNumber_1 (P : Nat → Int32) (z_1 : Int64) (z_2 : Int64) (z_3 : Int64) (z_4 : Int64) (z_5 : Int64) (z_6 : Int64) (z_7 : Int64) (z_8 : Int64) (z_9 : Int64) (z_10 : Int64) (z_11 : Int64) (z_12 : Int64) (ez_1 : z_1 = ((1 * 5) + (((P 2) : Int32).toInt64))) (ez_2 : z_2 = ((z_1 * 4) + (((P 3) : Int32).toInt64))) (ez_3 : z_3 = ((z_2 * 10) + (((P 4) : Int32).toInt64))) (ez_4 : z_4 = ((z_3 * 5) + (((P 5) : Int32).toInt64))) (ez_5 : z_5 = ((z_4 * 31) + (((P 6) : Int32).toInt64))) (ez_6 : z_6 = ((z_5 * 10) + (((P 7) : Int32).toInt64))) (ez_7 : z_7 = ((z_6 * 10) + (((P 8) : Int32).toInt64))) (ez_8 : z_8 = ((z_7 * 10) + (((P 9) : Int32).toInt64))) (ez_9 : z_9 = ((z_8 * 10) + (((P 10) : Int32).toInt64))) (ez_10 : z_10 = ((z_9 * 2) + (((P 11) : Int32).toInt64))) (ez_11 : z_11 = ((z_10 * 18) + (((P 12) : Int32).toInt64))) (ez_12 : z_12 = ((z_11 * 4) + (((P 13) : Int32).toInt64))) : sp_X2_stateNumber P = ((z_12 * 2) + (((P 14) : Int32).toInt64)) := by subst ez_12; subst ez_11; subst ez_10; subst ez_9; subst ez_8; subst ez_7; subst ez_6; subst ez_5; subst ez_4; subst ez_3; subst ez_2; subst ez_1; rfl
set_option maxHeartbeats 4000000 in
set_option maxRecDepth 100000 in
theorem c_X2_stateNumber (l : Launch) (D : va_G) (cI cJ cO : ClassId) (h : Nat) (b0 : Nat) (b1 : Nat) (P : Nat → Int32)  : ML l D (TY cI cJ cO) yX2_stateNumber wsX2_stateNumber (RM 0) [.ref h] [(h, oX2 b0 b1 P)] (sp_X2_stateNumber P) [(h, oX2 b0 b1 P)] := by
  refine k_entL (cc := cX2_stateNumber) (maxL := 3) (lv := [(0, .ref h)]) (by decide +kernel) rfl (Nat.le_of_ble_eq_true rfl) rfl ?_
  intro p e s m below meth c A Q ls hx hb hml hts hown hA hS hP hD hK hN hl hret
  have hown : s.vm.findClass RX2 = some m.cls := hown
  have hi2 : ∀ w ∈ wsX20, w ∈ wsX2_stateNumber := fun w h => List.mem_cons_of_mem _ (List.mem_append_right _ h)
  have hf9 := hts (.fieldLink RX2 9 "PressGuard$Press" "mode" "I") (by decide +kernel)
  have hf15 := hts (.fieldLink RX2 15 "PressGuard$Press" "hands" "I") (by decide +kernel)
  have hf18 := hts (.fieldLink RX2 18 "PressGuard$Press" "since" "I") (by decide +kernel)
  have hf21 := hts (.fieldLink RX2 21 "PressGuard$Press" "muting" "I") (by decide +kernel)
  have hf24 := hts (.fieldLink RX2 24 "PressGuard$Press" "mutedFor" "I") (by decide +kernel)
  have hf27 := hts (.fieldLink RX2 27 "PressGuard$Press" "leftApart" "I") (by decide +kernel)
  have hf30 := hts (.fieldLink RX2 30 "PressGuard$Press" "rightApart" "I") (by decide +kernel)
  have hf33 := hts (.fieldLink RX2 33 "PressGuard$Press" "curtainApart" "I") (by decide +kernel)
  have hf36 := hts (.fieldLink RX2 36 "PressGuard$Press" "unlike" "I") (by decide +kernel)
  have hf39 := hts (.fieldLink RX2 39 "PressGuard$Press" "command" "I") (by decide +kernel)
  have hf42 := hts (.fieldLink RX2 42 "PressGuard$Press" "position" "I") (by decide +kernel)
  have hf45 := hts (.fieldLink RX2 45 "PressGuard$Press" "brake" "I") (by decide +kernel)
  have hf48 := hts (.fieldLink RX2 48 "PressGuard$Press" "resetSeen" "I") (by decide +kernel)
  refine lv_lconst (v := 1) hx hb dX2_stateNumber_0 (by decide +kernel) ?_
  refine lv_lstore_n (lv' := [(1, .long 1), (0, .ref h)]) hx hb dX2_stateNumber_1 rfl hl (by decide) rfl (fun ls hl => ?_)
  refine lv_lload_n hx hb dX2_stateNumber_2 rfl (lv_at hl 0 rfl) ?_
  refine lv_ldc2 hx hb hown (hts (.constantLong RX2 68 (5)) (by decide +kernel)) dX2_stateNumber_3 ?_
  refine lv_lmul hx hb dX2_stateNumber_6 ?_
  refine lv_aload_n hx hb dX2_stateNumber_7 rfl (lv_at hl 1 rfl) ?_
  refine k_get hx hb hts hi2 hown hK hP 0 rfl rfl 2 (by decide) hf9 (.int (P 2)) rfl dX2_stateNumber_8 ?_
  refine lv_i2l (v := ((P 2) : Int32).toInt64) hx hb dX2_stateNumber_11 rfl ?_
  refine lv_ladd hx hb dX2_stateNumber_12 ?_
  refine lv_topl (fun z_1 ez_1 => ?_)
  refine lv_lstore_n (lv' := [(1, .long z_1), (0, .ref h)]) hx hb dX2_stateNumber_13 rfl hl (by decide) rfl (fun ls hl => ?_)
  refine lv_lload_n hx hb dX2_stateNumber_14 rfl (lv_at hl 0 rfl) ?_
  refine lv_ldc2 hx hb hown (hts (.constantLong RX2 70 (4)) (by decide +kernel)) dX2_stateNumber_15 ?_
  refine lv_lmul hx hb dX2_stateNumber_18 ?_
  refine lv_aload_n hx hb dX2_stateNumber_19 rfl (lv_at hl 1 rfl) ?_
  refine k_get hx hb hts hi2 hown hK hP 0 rfl rfl 3 (by decide) hf15 (.int (P 3)) rfl dX2_stateNumber_20 ?_
  refine lv_i2l (v := ((P 3) : Int32).toInt64) hx hb dX2_stateNumber_23 rfl ?_
  refine lv_ladd hx hb dX2_stateNumber_24 ?_
  refine lv_topl (fun z_2 ez_2 => ?_)
  refine lv_lstore_n (lv' := [(1, .long z_2), (0, .ref h)]) hx hb dX2_stateNumber_25 rfl hl (by decide) rfl (fun ls hl => ?_)
  refine lv_lload_n hx hb dX2_stateNumber_26 rfl (lv_at hl 0 rfl) ?_
  refine lv_ldc2 hx hb hown (hts (.constantLong RX2 72 (10)) (by decide +kernel)) dX2_stateNumber_27 ?_
  refine lv_lmul hx hb dX2_stateNumber_30 ?_
  refine lv_aload_n hx hb dX2_stateNumber_31 rfl (lv_at hl 1 rfl) ?_
  refine k_get hx hb hts hi2 hown hK hP 0 rfl rfl 4 (by decide) hf18 (.int (P 4)) rfl dX2_stateNumber_32 ?_
  refine lv_i2l (v := ((P 4) : Int32).toInt64) hx hb dX2_stateNumber_35 rfl ?_
  refine lv_ladd hx hb dX2_stateNumber_36 ?_
  refine lv_topl (fun z_3 ez_3 => ?_)
  refine lv_lstore_n (lv' := [(1, .long z_3), (0, .ref h)]) hx hb dX2_stateNumber_37 rfl hl (by decide) rfl (fun ls hl => ?_)
  refine lv_lload_n hx hb dX2_stateNumber_38 rfl (lv_at hl 0 rfl) ?_
  refine lv_ldc2 hx hb hown (hts (.constantLong RX2 68 (5)) (by decide +kernel)) dX2_stateNumber_39 ?_
  refine lv_lmul hx hb dX2_stateNumber_42 ?_
  refine lv_aload_n hx hb dX2_stateNumber_43 rfl (lv_at hl 1 rfl) ?_
  refine k_get hx hb hts hi2 hown hK hP 0 rfl rfl 5 (by decide) hf21 (.int (P 5)) rfl dX2_stateNumber_44 ?_
  refine lv_i2l (v := ((P 5) : Int32).toInt64) hx hb dX2_stateNumber_47 rfl ?_
  refine lv_ladd hx hb dX2_stateNumber_48 ?_
  refine lv_topl (fun z_4 ez_4 => ?_)
  refine lv_lstore_n (lv' := [(1, .long z_4), (0, .ref h)]) hx hb dX2_stateNumber_49 rfl hl (by decide) rfl (fun ls hl => ?_)
  refine lv_lload_n hx hb dX2_stateNumber_50 rfl (lv_at hl 0 rfl) ?_
  refine lv_ldc2 hx hb hown (hts (.constantLong RX2 74 (31)) (by decide +kernel)) dX2_stateNumber_51 ?_
  refine lv_lmul hx hb dX2_stateNumber_54 ?_
  refine lv_aload_n hx hb dX2_stateNumber_55 rfl (lv_at hl 1 rfl) ?_
  refine k_get hx hb hts hi2 hown hK hP 0 rfl rfl 6 (by decide) hf24 (.int (P 6)) rfl dX2_stateNumber_56 ?_
  refine lv_i2l (v := ((P 6) : Int32).toInt64) hx hb dX2_stateNumber_59 rfl ?_
  refine lv_ladd hx hb dX2_stateNumber_60 ?_
  refine lv_topl (fun z_5 ez_5 => ?_)
  refine lv_lstore_n (lv' := [(1, .long z_5), (0, .ref h)]) hx hb dX2_stateNumber_61 rfl hl (by decide) rfl (fun ls hl => ?_)
  refine lv_lload_n hx hb dX2_stateNumber_62 rfl (lv_at hl 0 rfl) ?_
  refine lv_ldc2 hx hb hown (hts (.constantLong RX2 72 (10)) (by decide +kernel)) dX2_stateNumber_63 ?_
  refine lv_lmul hx hb dX2_stateNumber_66 ?_
  refine lv_aload_n hx hb dX2_stateNumber_67 rfl (lv_at hl 1 rfl) ?_
  refine k_get hx hb hts hi2 hown hK hP 0 rfl rfl 7 (by decide) hf27 (.int (P 7)) rfl dX2_stateNumber_68 ?_
  refine lv_i2l (v := ((P 7) : Int32).toInt64) hx hb dX2_stateNumber_71 rfl ?_
  refine lv_ladd hx hb dX2_stateNumber_72 ?_
  refine lv_topl (fun z_6 ez_6 => ?_)
  refine lv_lstore_n (lv' := [(1, .long z_6), (0, .ref h)]) hx hb dX2_stateNumber_73 rfl hl (by decide) rfl (fun ls hl => ?_)
  refine lv_lload_n hx hb dX2_stateNumber_74 rfl (lv_at hl 0 rfl) ?_
  refine lv_ldc2 hx hb hown (hts (.constantLong RX2 72 (10)) (by decide +kernel)) dX2_stateNumber_75 ?_
  refine lv_lmul hx hb dX2_stateNumber_78 ?_
  refine lv_aload_n hx hb dX2_stateNumber_79 rfl (lv_at hl 1 rfl) ?_
  refine k_get hx hb hts hi2 hown hK hP 0 rfl rfl 8 (by decide) hf30 (.int (P 8)) rfl dX2_stateNumber_80 ?_
  refine lv_i2l (v := ((P 8) : Int32).toInt64) hx hb dX2_stateNumber_83 rfl ?_
  refine lv_ladd hx hb dX2_stateNumber_84 ?_
  refine lv_topl (fun z_7 ez_7 => ?_)
  refine lv_lstore_n (lv' := [(1, .long z_7), (0, .ref h)]) hx hb dX2_stateNumber_85 rfl hl (by decide) rfl (fun ls hl => ?_)
  refine lv_lload_n hx hb dX2_stateNumber_86 rfl (lv_at hl 0 rfl) ?_
  refine lv_ldc2 hx hb hown (hts (.constantLong RX2 72 (10)) (by decide +kernel)) dX2_stateNumber_87 ?_
  refine lv_lmul hx hb dX2_stateNumber_90 ?_
  refine lv_aload_n hx hb dX2_stateNumber_91 rfl (lv_at hl 1 rfl) ?_
  refine k_get hx hb hts hi2 hown hK hP 0 rfl rfl 9 (by decide) hf33 (.int (P 9)) rfl dX2_stateNumber_92 ?_
  refine lv_i2l (v := ((P 9) : Int32).toInt64) hx hb dX2_stateNumber_95 rfl ?_
  refine lv_ladd hx hb dX2_stateNumber_96 ?_
  refine lv_topl (fun z_8 ez_8 => ?_)
  refine lv_lstore_n (lv' := [(1, .long z_8), (0, .ref h)]) hx hb dX2_stateNumber_97 rfl hl (by decide) rfl (fun ls hl => ?_)
  refine lv_lload_n hx hb dX2_stateNumber_98 rfl (lv_at hl 0 rfl) ?_
  refine lv_ldc2 hx hb hown (hts (.constantLong RX2 72 (10)) (by decide +kernel)) dX2_stateNumber_99 ?_
  refine lv_lmul hx hb dX2_stateNumber_102 ?_
  refine lv_aload_n hx hb dX2_stateNumber_103 rfl (lv_at hl 1 rfl) ?_
  refine k_get hx hb hts hi2 hown hK hP 0 rfl rfl 10 (by decide) hf36 (.int (P 10)) rfl dX2_stateNumber_104 ?_
  refine lv_i2l (v := ((P 10) : Int32).toInt64) hx hb dX2_stateNumber_107 rfl ?_
  refine lv_ladd hx hb dX2_stateNumber_108 ?_
  refine lv_topl (fun z_9 ez_9 => ?_)
  refine lv_lstore_n (lv' := [(1, .long z_9), (0, .ref h)]) hx hb dX2_stateNumber_109 rfl hl (by decide) rfl (fun ls hl => ?_)
  refine lv_lload_n hx hb dX2_stateNumber_110 rfl (lv_at hl 0 rfl) ?_
  refine lv_ldc2 hx hb hown (hts (.constantLong RX2 76 (2)) (by decide +kernel)) dX2_stateNumber_111 ?_
  refine lv_lmul hx hb dX2_stateNumber_114 ?_
  refine lv_aload_n hx hb dX2_stateNumber_115 rfl (lv_at hl 1 rfl) ?_
  refine k_get hx hb hts hi2 hown hK hP 0 rfl rfl 11 (by decide) hf39 (.int (P 11)) rfl dX2_stateNumber_116 ?_
  refine lv_i2l (v := ((P 11) : Int32).toInt64) hx hb dX2_stateNumber_119 rfl ?_
  refine lv_ladd hx hb dX2_stateNumber_120 ?_
  refine lv_topl (fun z_10 ez_10 => ?_)
  refine lv_lstore_n (lv' := [(1, .long z_10), (0, .ref h)]) hx hb dX2_stateNumber_121 rfl hl (by decide) rfl (fun ls hl => ?_)
  refine lv_lload_n hx hb dX2_stateNumber_122 rfl (lv_at hl 0 rfl) ?_
  refine lv_ldc2 hx hb hown (hts (.constantLong RX2 78 (18)) (by decide +kernel)) dX2_stateNumber_123 ?_
  refine lv_lmul hx hb dX2_stateNumber_126 ?_
  refine lv_aload_n hx hb dX2_stateNumber_127 rfl (lv_at hl 1 rfl) ?_
  refine k_get hx hb hts hi2 hown hK hP 0 rfl rfl 12 (by decide) hf42 (.int (P 12)) rfl dX2_stateNumber_128 ?_
  refine lv_i2l (v := ((P 12) : Int32).toInt64) hx hb dX2_stateNumber_131 rfl ?_
  refine lv_ladd hx hb dX2_stateNumber_132 ?_
  refine lv_topl (fun z_11 ez_11 => ?_)
  refine lv_lstore_n (lv' := [(1, .long z_11), (0, .ref h)]) hx hb dX2_stateNumber_133 rfl hl (by decide) rfl (fun ls hl => ?_)
  refine lv_lload_n hx hb dX2_stateNumber_134 rfl (lv_at hl 0 rfl) ?_
  refine lv_ldc2 hx hb hown (hts (.constantLong RX2 70 (4)) (by decide +kernel)) dX2_stateNumber_135 ?_
  refine lv_lmul hx hb dX2_stateNumber_138 ?_
  refine lv_aload_n hx hb dX2_stateNumber_139 rfl (lv_at hl 1 rfl) ?_
  refine k_get hx hb hts hi2 hown hK hP 0 rfl rfl 13 (by decide) hf45 (.int (P 13)) rfl dX2_stateNumber_140 ?_
  refine lv_i2l (v := ((P 13) : Int32).toInt64) hx hb dX2_stateNumber_143 rfl ?_
  refine lv_ladd hx hb dX2_stateNumber_144 ?_
  refine lv_topl (fun z_12 ez_12 => ?_)
  refine lv_lstore_n (lv' := [(1, .long z_12), (0, .ref h)]) hx hb dX2_stateNumber_145 rfl hl (by decide) rfl (fun ls hl => ?_)
  refine lv_lload_n hx hb dX2_stateNumber_146 rfl (lv_at hl 0 rfl) ?_
  refine lv_ldc2 hx hb hown (hts (.constantLong RX2 76 (2)) (by decide +kernel)) dX2_stateNumber_147 ?_
  refine lv_lmul hx hb dX2_stateNumber_150 ?_
  refine lv_aload_n hx hb dX2_stateNumber_151 rfl (lv_at hl 1 rfl) ?_
  refine k_get hx hb hts hi2 hown hK hP 0 rfl rfl 14 (by decide) hf48 (.int (P 14)) rfl dX2_stateNumber_152 ?_
  refine lv_i2l (v := ((P 14) : Int32).toInt64) hx hb dX2_stateNumber_155 rfl ?_
  refine lv_ladd hx hb dX2_stateNumber_156 ?_
  have hsp : sp_X2_stateNumber P = ((z_12 * 2) + (((P 14) : Int32).toInt64)) := sq_X2_stateNumber_1 P z_1 z_2 z_3 z_4 z_5 z_6 z_7 z_8 z_9 z_10 z_11 z_12 ez_1 ez_2 ez_3 ez_4 ez_5 ez_6 ez_7 ez_8 ez_9 ez_10 ez_11 ez_12
  exact hret _ _ _ _ _ (by rw [hsp]) hP hS dX2_stateNumber_157

def sp_X2_isMuted (P : Nat → Int32) : Int32 :=
  let z_1 : Int32 := (if (P 5) = 2 then 1 else (if (P 5) = 3 then 1 else 0))
  z_1
set_option maxRecDepth 100000 in
theorem sq_X2_isMuted_1 (P : Nat → Int32) (z_1 : Int32) (ez_1 : z_1 = (if (P 5) = 2 then 1 else (if (P 5) = 3 then 1 else 0))) : sp_X2_isMuted P = z_1 := by subst ez_1; rfl
set_option maxHeartbeats 4000000 in
set_option maxRecDepth 100000 in
theorem c_X2_isMuted (l : Launch) (D : va_G) (cI cJ cO : ClassId) (h : Nat) (b0 : Nat) (b1 : Nat) (P : Nat → Int32)  : MI l D (TY cI cJ cO) yX2_isMuted wsX2_isMuted (RM 0) [.ref h] [(h, oX2 b0 b1 P)] (sp_X2_isMuted P) [(h, oX2 b0 b1 P)] := by
  refine k_entI (cc := cX2_isMuted) (maxL := 1) (lv := [(0, .ref h)]) (by decide +kernel) rfl (Nat.le_of_ble_eq_true rfl) rfl ?_
  intro p e s m below meth c A Q ls hx hb hml hts hown hA hS hP hD hK hN hl hret
  have hown : s.vm.findClass RX2 = some m.cls := hown
  have hi2 : ∀ w ∈ wsX20, w ∈ wsX2_isMuted := fun w h => List.mem_cons_of_mem _ (List.mem_append_right _ h)
  have hf21 := hts (.fieldLink RX2 21 "PressGuard$Press" "muting" "I") (by decide +kernel)
  refine lv_aload_n hx hb dX2_isMuted_0 rfl (lv_at hl 0 rfl) ?_
  refine k_get hx hb hts hi2 hown hK hP 0 rfl rfl 5 (by decide) hf21 (.int (P 5)) rfl dX2_isMuted_1 ?_
  refine lv_iconst (v := 2) hx hb dX2_isMuted_4 (by decide +kernel) ?_
  have J_2 : ∀ z_1 : Int32, z_1 = (if (P 5) = 2 then 1 else (if (P 5) = 3 then 1 else 0)) → ∀ (H : Heap) (locs : List Loc), va_P D vwCl [(h, oX2 b0 b1 P)] H → va_D A [(h, oX2 b0 b1 P)] → va_S A s.heap H locs → ∀ ls : Array Slot, lv_has ls 1 [] → W p l e (RM 0) s m ([.ref h] : List Value).toArray below meth c H locs 0 0 Q (F0 m 21 ls [.int z_1]) := by
    intro z_1 ez_1 H locs hP hD hS ls hl
    have hsp : sp_X2_isMuted P = z_1 := sq_X2_isMuted_1 P z_1 ez_1
    exact hret _ _ _ _ _ (by rw [hsp]) (by subst ez_1; (repeat' split) <;> rfl) hP hS dX2_isMuted_21
  refine lv_icmp_eq (tgt := 16) hx hb dX2_isMuted_5 (by decide) (fun c_3 => ?_) (fun c_3 => ?_)
  · skip
    refine lv_iconst (v := 1) hx hb dX2_isMuted_16 (by decide +kernel) ?_
    refine lv_goto (tgt := 21) hx hb dX2_isMuted_17 (by decide) ?_
    exact J_2 1 (by first | (simp only [if_pos c_3]; done) | rfl) _ _ hP hD hS _ (lv_sub hl [] rfl)
  · skip
    refine lv_aload_n hx hb dX2_isMuted_8 rfl (lv_at hl 0 rfl) ?_
    refine k_get hx hb hts hi2 hown hK hP 0 rfl rfl 5 (by decide) hf21 (.int (P 5)) rfl dX2_isMuted_9 ?_
    refine lv_iconst (v := 3) hx hb dX2_isMuted_12 (by decide +kernel) ?_
    refine lv_icmp_ne (tgt := 20) hx hb dX2_isMuted_13 (by decide) (fun c_4 => ?_) (fun c_4 => ?_)
    · skip
      refine lv_iconst (v := 0) hx hb dX2_isMuted_20 (by decide +kernel) ?_
      exact J_2 0 (by first | (simp only [if_neg c_3, if_neg c_4]; done) | rfl) _ _ hP hD hS _ (lv_sub hl [] rfl)
    · skip
      refine lv_iconst (v := 1) hx hb dX2_isMuted_16 (by decide +kernel) ?_
      refine lv_goto (tgt := 21) hx hb dX2_isMuted_17 (by decide) ?_
      exact J_2 1 (by first | (simp only [if_neg c_3, if_pos c_4]; done) | rfl) _ _ hP hD hS _ (lv_sub hl [] rfl)

def sp_X2_mutingThen (P : Nat → Int32) (first : Int32) (second : Int32) : Int32 :=
  (if first = 0 then
    (if second = 0 then
      let z_3 : Int32 := (if (P 5) = 2 then 4 else 0)
      z_3
    else
      let z_6 : Int32 := (if (sp_X2_isMuted P) = 0 then 4 else 3)
      z_6)
  else
    (if second = 0 then
      let z_10 : Int32 := (if (P 5) = 3 then 4 else (if (P 5) = 4 then 4 else 1))
      z_10
    else
      let z_14 : Int32 := (if (P 5) = 0 then 4 else (if (P 5) = 4 then 4 else 2))
      z_14))
set_option maxRecDepth 100000 in
theorem sq_X2_mutingThen_1 (P : Nat → Int32) (first : Int32) (second : Int32) (z_3 : Int32) (ez_3 : z_3 = (if (P 5) = 2 then 4 else 0)) (c_1 : first = 0) (c_2 : second = 0) : sp_X2_mutingThen P first second = z_3 := by subst ez_3; simp only [sp_X2_mutingThen, if_pos c_1, if_pos c_2]
set_option maxRecDepth 100000 in
theorem sq_X2_mutingThen_2 (P : Nat → Int32) (first : Int32) (second : Int32) (z_6 : Int32) (ez_6 : z_6 = (if (sp_X2_isMuted P) = 0 then 4 else 3)) (c_1 : first = 0) (c_2 : ¬ (second = 0)) : sp_X2_mutingThen P first second = z_6 := by subst ez_6; simp only [sp_X2_mutingThen, if_pos c_1, if_neg c_2]
set_option maxRecDepth 100000 in
theorem sq_X2_mutingThen_3 (P : Nat → Int32) (first : Int32) (second : Int32) (z_10 : Int32) (ez_10 : z_10 = (if (P 5) = 3 then 4 else (if (P 5) = 4 then 4 else 1))) (c_1 : ¬ (first = 0)) (c_9 : second = 0) : sp_X2_mutingThen P first second = z_10 := by subst ez_10; simp only [sp_X2_mutingThen, if_neg c_1, if_pos c_9]
set_option maxRecDepth 100000 in
theorem sq_X2_mutingThen_4 (P : Nat → Int32) (first : Int32) (second : Int32) (z_14 : Int32) (ez_14 : z_14 = (if (P 5) = 0 then 4 else (if (P 5) = 4 then 4 else 2))) (c_1 : ¬ (first = 0)) (c_9 : ¬ (second = 0)) : sp_X2_mutingThen P first second = z_14 := by subst ez_14; simp only [sp_X2_mutingThen, if_neg c_1, if_neg c_9]
set_option maxHeartbeats 4000000 in
set_option maxRecDepth 100000 in
theorem c_X2_mutingThen (l : Launch) (D : va_G) (cI cJ cO : ClassId) (h : Nat) (b0 : Nat) (b1 : Nat) (P : Nat → Int32) (first : Int32) (second : Int32)  : MI l D (TY cI cJ cO) yX2_mutingThen wsX2_mutingThen (RM 1) [.ref h, .int first, .int second] [(h, oX2 b0 b1 P)] (sp_X2_mutingThen P first second) [(h, oX2 b0 b1 P)] := by
  refine k_entI (cc := cX2_mutingThen) (maxL := 3) (lv := [(0, .ref h), (1, .int first), (2, .int second)]) (by decide +kernel) rfl (Nat.le_of_ble_eq_true rfl) rfl ?_
  intro p e s m below meth c A Q ls hx hb hml hts hown hA hS hP hD hK hN hl hret
  have hown : s.vm.findClass RX2 = some m.cls := hown
  have hi2 : ∀ w ∈ wsX20, w ∈ wsX2_mutingThen := fun w h => List.mem_cons_of_mem _ (List.mem_append_right _ h)
  have hf21 := hts (.fieldLink RX2 21 "PressGuard$Press" "muting" "I") (by decide +kernel)
  refine lv_iload_n hx hb dX2_mutingThen_0 rfl (lv_at hl 1 rfl) ?_
  refine lv_if_eq (tgt := 29) hx hb dX2_mutingThen_1 (by decide) (fun c_1 => ?_) (fun c_1 => ?_)
  · skip
    refine lv_iload_n hx hb dX2_mutingThen_29 rfl (lv_at hl 1 rfl) ?_
    refine lv_if_eq (tgt := 55) hx hb dX2_mutingThen_30 (by decide) (fun _ => ?_) (fun q => absurd c_1 q)
    refine lv_iload_n hx hb dX2_mutingThen_55 rfl (lv_at hl 2 rfl) ?_
    refine lv_if_eq (tgt := 72) hx hb dX2_mutingThen_56 (by decide) (fun c_2 => ?_) (fun c_2 => ?_)
    · skip
      refine lv_aload_n hx hb dX2_mutingThen_72 rfl (lv_at hl 0 rfl) ?_
      refine k_get hx hb hts hi2 hown hK hP 0 rfl rfl 5 (by decide) hf21 (.int (P 5)) rfl dX2_mutingThen_73 ?_
      refine lv_iconst (v := 2) hx hb dX2_mutingThen_76 (by decide +kernel) ?_
      have J_4 : ∀ z_3 : Int32, z_3 = (if (P 5) = 2 then 4 else 0) → ∀ (H : Heap) (locs : List Loc), va_P D vwCl [(h, oX2 b0 b1 P)] H → va_D A [(h, oX2 b0 b1 P)] → va_S A s.heap H locs → ∀ ls : Array Slot, lv_has ls 3 [] → W p l e (RM 1) s m ([.ref h, .int first, .int second] : List Value).toArray below meth c H locs 0 0 Q (F0 m 85 ls [.int z_3]) := by
        intro z_3 ez_3 H locs hP hD hS ls hl
        have hsp : sp_X2_mutingThen P first second = z_3 := sq_X2_mutingThen_1 P first second z_3 ez_3 c_1 c_2
        exact hret _ _ _ _ _ (by rw [hsp]) rfl hP hS dX2_mutingThen_85
      refine lv_icmp_ne (tgt := 84) hx hb dX2_mutingThen_77 (by decide) (fun c_5 => ?_) (fun c_5 => ?_)
      · skip
        refine lv_iconst (v := 0) hx hb dX2_mutingThen_84 (by decide +kernel) ?_
        exact J_4 0 (by first | (simp only [if_neg c_5]; done) | rfl) _ _ hP hD hS _ (lv_sub hl [] rfl)
      · skip
        refine lv_iconst (v := 4) hx hb dX2_mutingThen_80 (by decide +kernel) ?_
        refine lv_goto (tgt := 85) hx hb dX2_mutingThen_81 (by decide) ?_
        exact J_4 4 (by first | (simp only [if_pos c_5]; done) | rfl) _ _ hP hD hS _ (lv_sub hl [] rfl)
    · skip
      refine lv_aload_n hx hb dX2_mutingThen_59 rfl (lv_at hl 0 rfl) ?_
      refine k_Vi ⟨hx, hb, hml, hown, hts⟩ (c_X2_isMuted l D cI cJ cO h b0 b1 P) (ci := 2) (q0 := 0) rfl rfl (cwV 0 hts gX2_mutingThen_X2_isMuted rfl rfl rfl (by decide +kernel) ⟨Nat.le_of_ble_eq_true rfl, Nat.le_of_ble_eq_true rfl⟩) hK hN hP hD hS hA [0] rfl rfl rfl (ws' := [(h, oX2 b0 b1 P)]) rfl rfl hl.1 rfl (Nat.le_of_ble_eq_true rfl) dX2_mutingThen_60 ⟨Nat.le_refl _, Nat.le_refl _⟩ (fun H locs hP hD hS => ?_)
      have J_7 : ∀ z_6 : Int32, z_6 = (if (sp_X2_isMuted P) = 0 then 4 else 3) → ∀ (H : Heap) (locs : List Loc), va_P D vwCl [(h, oX2 b0 b1 P)] H → va_D A [(h, oX2 b0 b1 P)] → va_S A s.heap H locs → ∀ ls : Array Slot, lv_has ls 3 [] → W p l e (RM 1) s m ([.ref h, .int first, .int second] : List Value).toArray below meth c H locs 0 0 Q (F0 m 71 ls [.int z_6]) := by
        intro z_6 ez_6 H locs hP hD hS ls hl
        have hsp : sp_X2_mutingThen P first second = z_6 := sq_X2_mutingThen_2 P first second z_6 ez_6 c_1 c_2
        exact hret _ _ _ _ _ (by rw [hsp]) rfl hP hS dX2_mutingThen_71
      refine lv_if_eq (tgt := 70) hx hb dX2_mutingThen_63 (by decide) (fun c_8 => ?_) (fun c_8 => ?_)
      · skip
        refine lv_iconst (v := 4) hx hb dX2_mutingThen_70 (by decide +kernel) ?_
        exact J_7 4 (by first | (simp only [if_pos c_8]; done) | rfl) _ _ hP hD hS _ (lv_sub hl [] rfl)
      · skip
        refine lv_iconst (v := 3) hx hb dX2_mutingThen_66 (by decide +kernel) ?_
        refine lv_goto (tgt := 71) hx hb dX2_mutingThen_67 (by decide) ?_
        exact J_7 3 (by first | (simp only [if_neg c_8]; done) | rfl) _ _ hP hD hS _ (lv_sub hl [] rfl)
  · skip
    refine lv_iload_n hx hb dX2_mutingThen_4 rfl (lv_at hl 2 rfl) ?_
    refine lv_if_eq (tgt := 29) hx hb dX2_mutingThen_5 (by decide) (fun c_9 => ?_) (fun c_9 => ?_)
    · skip
      refine lv_iload_n hx hb dX2_mutingThen_29 rfl (lv_at hl 1 rfl) ?_
      refine lv_if_eq (tgt := 55) hx hb dX2_mutingThen_30 (by decide) (fun q => absurd q c_1) (fun _ => ?_)
      refine lv_aload_n hx hb dX2_mutingThen_33 rfl (lv_at hl 0 rfl) ?_
      refine k_get hx hb hts hi2 hown hK hP 0 rfl rfl 5 (by decide) hf21 (.int (P 5)) rfl dX2_mutingThen_34 ?_
      refine lv_iconst (v := 3) hx hb dX2_mutingThen_37 (by decide +kernel) ?_
      have J_11 : ∀ z_10 : Int32, z_10 = (if (P 5) = 3 then 4 else (if (P 5) = 4 then 4 else 1)) → ∀ (H : Heap) (locs : List Loc), va_P D vwCl [(h, oX2 b0 b1 P)] H → va_D A [(h, oX2 b0 b1 P)] → va_S A s.heap H locs → ∀ ls : Array Slot, lv_has ls 3 [] → W p l e (RM 1) s m ([.ref h, .int first, .int second] : List Value).toArray below meth c H locs 0 0 Q (F0 m 54 ls [.int z_10]) := by
        intro z_10 ez_10 H locs hP hD hS ls hl
        have hsp : sp_X2_mutingThen P first second = z_10 := sq_X2_mutingThen_3 P first second z_10 ez_10 c_1 c_9
        exact hret _ _ _ _ _ (by rw [hsp]) rfl hP hS dX2_mutingThen_54
      refine lv_icmp_eq (tgt := 49) hx hb dX2_mutingThen_38 (by decide) (fun c_12 => ?_) (fun c_12 => ?_)
      · skip
        refine lv_iconst (v := 4) hx hb dX2_mutingThen_49 (by decide +kernel) ?_
        refine lv_goto (tgt := 54) hx hb dX2_mutingThen_50 (by decide) ?_
        exact J_11 4 (by first | (simp only [if_pos c_12]; done) | rfl) _ _ hP hD hS _ (lv_sub hl [] rfl)
      · skip
        refine lv_aload_n hx hb dX2_mutingThen_41 rfl (lv_at hl 0 rfl) ?_
        refine k_get hx hb hts hi2 hown hK hP 0 rfl rfl 5 (by decide) hf21 (.int (P 5)) rfl dX2_mutingThen_42 ?_
        refine lv_iconst (v := 4) hx hb dX2_mutingThen_45 (by decide +kernel) ?_
        refine lv_icmp_ne (tgt := 53) hx hb dX2_mutingThen_46 (by decide) (fun c_13 => ?_) (fun c_13 => ?_)
        · skip
          refine lv_iconst (v := 1) hx hb dX2_mutingThen_53 (by decide +kernel) ?_
          exact J_11 1 (by first | (simp only [if_neg c_12, if_neg c_13]; done) | rfl) _ _ hP hD hS _ (lv_sub hl [] rfl)
        · skip
          refine lv_iconst (v := 4) hx hb dX2_mutingThen_49 (by decide +kernel) ?_
          refine lv_goto (tgt := 54) hx hb dX2_mutingThen_50 (by decide) ?_
          exact J_11 4 (by first | (simp only [if_neg c_12, if_pos c_13]; done) | rfl) _ _ hP hD hS _ (lv_sub hl [] rfl)
    · skip
      refine lv_aload_n hx hb dX2_mutingThen_8 rfl (lv_at hl 0 rfl) ?_
      refine k_get hx hb hts hi2 hown hK hP 0 rfl rfl 5 (by decide) hf21 (.int (P 5)) rfl dX2_mutingThen_9 ?_
      have J_15 : ∀ z_14 : Int32, z_14 = (if (P 5) = 0 then 4 else (if (P 5) = 4 then 4 else 2)) → ∀ (H : Heap) (locs : List Loc), va_P D vwCl [(h, oX2 b0 b1 P)] H → va_D A [(h, oX2 b0 b1 P)] → va_S A s.heap H locs → ∀ ls : Array Slot, lv_has ls 3 [] → W p l e (RM 1) s m ([.ref h, .int first, .int second] : List Value).toArray below meth c H locs 0 0 Q (F0 m 28 ls [.int z_14]) := by
        intro z_14 ez_14 H locs hP hD hS ls hl
        have hsp : sp_X2_mutingThen P first second = z_14 := sq_X2_mutingThen_4 P first second z_14 ez_14 c_1 c_9
        exact hret _ _ _ _ _ (by rw [hsp]) rfl hP hS dX2_mutingThen_28
      refine lv_if_eq (tgt := 23) hx hb dX2_mutingThen_12 (by decide) (fun c_16 => ?_) (fun c_16 => ?_)
      · skip
        refine lv_iconst (v := 4) hx hb dX2_mutingThen_23 (by decide +kernel) ?_
        refine lv_goto (tgt := 28) hx hb dX2_mutingThen_24 (by decide) ?_
        exact J_15 4 (by first | (simp only [if_pos c_16]; done) | rfl) _ _ hP hD hS _ (lv_sub hl [] rfl)
      · skip
        refine lv_aload_n hx hb dX2_mutingThen_15 rfl (lv_at hl 0 rfl) ?_
        refine k_get hx hb hts hi2 hown hK hP 0 rfl rfl 5 (by decide) hf21 (.int (P 5)) rfl dX2_mutingThen_16 ?_
        refine lv_iconst (v := 4) hx hb dX2_mutingThen_19 (by decide +kernel) ?_
        refine lv_icmp_ne (tgt := 27) hx hb dX2_mutingThen_20 (by decide) (fun c_17 => ?_) (fun c_17 => ?_)
        · skip
          refine lv_iconst (v := 2) hx hb dX2_mutingThen_27 (by decide +kernel) ?_
          exact J_15 2 (by first | (simp only [if_neg c_16, if_neg c_17]; done) | rfl) _ _ hP hD hS _ (lv_sub hl [] rfl)
        · skip
          refine lv_iconst (v := 4) hx hb dX2_mutingThen_23 (by decide +kernel) ?_
          refine lv_goto (tgt := 28) hx hb dX2_mutingThen_24 (by decide) ?_
          exact J_15 4 (by first | (simp only [if_neg c_16, if_pos c_17]; done) | rfl) _ _ hP hD hS _ (lv_sub hl [] rfl)

def sp_X2_moveMuting (P : Nat → Int32) (S : Nat → Int32) (seen : Int32) : (Nat → Int32) :=
  let z_1 : Int32 := (if (sp_X8_bit seen 6) = 1 then 1 else 0)
  let z_3 : Int32 := (if (sp_X8_bit seen 7) = 1 then 1 else 0)
  let z_5 : Int32 := (sp_X2_mutingThen P z_1 z_3)
  let z_6 : Int32 := (if (sp_X2_isMuted (upd P 5 z_5)) = 0 then 0 else ((P 6) + 1))
  let z_8 : Nat → Int32 := (if z_6 ≤ (S 2) then (upd (upd P 5 z_5) 6 z_6) else (upd (upd P 5 4) 6 0))
  z_8
set_option maxRecDepth 100000 in
theorem sq_X2_moveMuting_1 (P : Nat → Int32) (S : Nat → Int32) (seen : Int32) (z_1 : Int32) (z_3 : Int32) (z_5 : Int32) (z_6 : Int32) (z_8 : Nat → Int32) (ez_1 : z_1 = (if (sp_X8_bit seen 6) = 1 then 1 else 0)) (ez_3 : z_3 = (if (sp_X8_bit seen 7) = 1 then 1 else 0)) (ez_5 : z_5 = (sp_X2_mutingThen P z_1 z_3)) (ez_6 : z_6 = (if (sp_X2_isMuted (upd P 5 z_5)) = 0 then 0 else ((P 6) + 1))) (ez_8 : z_8 = (if z_6 ≤ (S 2) then (upd (upd P 5 z_5) 6 z_6) else (upd (upd P 5 4) 6 0))) : sp_X2_moveMuting P S seen = z_8 := by subst ez_8; subst ez_6; subst ez_5; subst ez_3; subst ez_1; rfl
set_option maxHeartbeats 4000000 in
set_option maxRecDepth 100000 in
theorem c_X2_moveMuting (l : Launch) (D : va_G) (cI cJ cO : ClassId) (h : Nat) (b0 : Nat) (b1 : Nat) (P : Nat → Int32) (S : Nat → Int32) (seen : Int32)  : MV l D (TY cI cJ cO) yX2_moveMuting wsX2_moveMuting (RM 2) [.ref h, .int seen] [(h, oX2 b0 b1 P), (b0, oX5 S)] [(h, oX2 b0 b1 (sp_X2_moveMuting P S seen)), (b0, oX5 S)] := by
  refine k_entV (cc := cX2_moveMuting) (maxL := 2) (lv := [(0, .ref h), (1, .int seen)]) (by decide +kernel) rfl (Nat.le_of_ble_eq_true rfl) rfl ?_
  intro p e s m below meth c A Q ls hx hb hml hts hown hA hS hP hD hK hN hl hret
  have hown : s.vm.findClass RX2 = some m.cls := hown
  have hi2 : ∀ w ∈ wsX20, w ∈ wsX2_moveMuting := fun w h => List.mem_cons_of_mem _ (List.mem_append_left _ (List.mem_append_right _ h))
  have hi5 : ∀ w ∈ wsX50, w ∈ wsX2_moveMuting := fun w h => List.mem_cons_of_mem _ (List.mem_append_right _ h)
  have hf21 := hts (.fieldLink RX2 21 "PressGuard$Press" "muting" "I") (by decide +kernel)
  have hf24 := hts (.fieldLink RX2 24 "PressGuard$Press" "mutedFor" "I") (by decide +kernel)
  have hf60 := hts (.fieldLink RX2 60 "PressGuard$Press" "settings" "LPressGuard$Settings;") (by decide +kernel)
  have hf131 := hts (.fieldLink RX2 131 "PressGuard$Settings" "limit" "I") (by decide +kernel)
  refine lv_aload_n hx hb dX2_moveMuting_0 rfl (lv_at hl 0 rfl) ?_
  refine lv_aload_n hx hb dX2_moveMuting_1 rfl (lv_at hl 0 rfl) ?_
  refine lv_iload_n hx hb dX2_moveMuting_2 rfl (lv_at hl 1 rfl) ?_
  refine lv_bipush (v := 6) hx hb dX2_moveMuting_3 (by decide +kernel) ?_
  refine k_SNi ⟨hx, hb, hml, hown, hts⟩ (c_X8_bit l D cI cJ cO seen 6) (va_cnB 2 hts gX2_moveMuting_X8_bit_n119 rfl rfl rfl (hN.1 3 _ rfl) (hts (.initialized RX8) (by decide +kernel)) (by decide +kernel) ⟨Nat.le_of_ble_eq_true rfl, Nat.le_of_ble_eq_true rfl⟩) (hts (.static yX8_bit) (by decide +kernel)) hK hN hP hD hS hA [] rfl rfl rfl (ws' := [(h, oX2 b0 b1 P), (b0, oX5 S)]) rfl rfl hl.1 rfl (Nat.le_of_ble_eq_true rfl) dX2_moveMuting_5 ⟨Nat.le_refl _, Nat.le_refl _⟩ (fun H locs hP hD hS => ?_)
  refine lv_iconst (v := 1) hx hb dX2_moveMuting_8 (by decide +kernel) ?_
  have J_2 : ∀ z_1 : Int32, z_1 = (if (sp_X8_bit seen 6) = 1 then 1 else 0) → ∀ (H : Heap) (locs : List Loc), va_P D vwCl [(h, oX2 b0 b1 P), (b0, oX5 S)] H → va_D A [(h, oX2 b0 b1 P), (b0, oX5 S)] → va_S A s.heap H locs → ∀ ls : Array Slot, lv_has ls 2 [(0, .ref h), (1, .int seen)] → W p l e (RM 2) s m ([.ref h, .int seen] : List Value).toArray below meth c H locs 0 0 Q (F0 m 17 ls [.int z_1, .ref h, .ref h]) := by
    intro z_1 ez_1 H locs hP hD hS ls hl
    refine lv_iload_n hx hb dX2_moveMuting_17 rfl (lv_at hl 1 rfl) ?_
    refine lv_bipush (v := 7) hx hb dX2_moveMuting_18 (by decide +kernel) ?_
    refine k_SNi ⟨hx, hb, hml, hown, hts⟩ (c_X8_bit l D cI cJ cO seen 7) (va_cnB 2 hts gX2_moveMuting_X8_bit_n119 rfl rfl rfl (hN.1 3 _ rfl) (hts (.initialized RX8) (by decide +kernel)) (by decide +kernel) ⟨Nat.le_of_ble_eq_true rfl, Nat.le_of_ble_eq_true rfl⟩) (hts (.static yX8_bit) (by decide +kernel)) hK hN hP hD hS hA [] rfl rfl rfl (ws' := [(h, oX2 b0 b1 P), (b0, oX5 S)]) rfl rfl hl.1 rfl (Nat.le_of_ble_eq_true rfl) dX2_moveMuting_20 ⟨Nat.le_refl _, Nat.le_refl _⟩ (fun H locs hP hD hS => ?_)
    refine lv_iconst (v := 1) hx hb dX2_moveMuting_23 (by decide +kernel) ?_
    have J_4 : ∀ z_3 : Int32, z_3 = (if (sp_X8_bit seen 7) = 1 then 1 else 0) → ∀ (H : Heap) (locs : List Loc), va_P D vwCl [(h, oX2 b0 b1 P), (b0, oX5 S)] H → va_D A [(h, oX2 b0 b1 P), (b0, oX5 S)] → va_S A s.heap H locs → ∀ ls : Array Slot, lv_has ls 2 [(0, .ref h)] → W p l e (RM 2) s m ([.ref h, .int seen] : List Value).toArray below meth c H locs 0 0 Q (F0 m 32 ls [.int z_3, .int z_1, .ref h, .ref h]) := by
      intro z_3 ez_3 H locs hP hD hS ls hl
      refine k_Vi ⟨hx, hb, hml, hown, hts⟩ (c_X2_mutingThen l D cI cJ cO h b0 b1 P z_1 z_3) (ci := 2) (q0 := 0) rfl rfl (cwV 2 hts gX2_moveMuting_X2_mutingThen rfl rfl rfl (by decide +kernel) ⟨Nat.le_of_ble_eq_true rfl, Nat.le_of_ble_eq_true rfl⟩) hK hN hP hD hS hA [0] rfl rfl rfl (ws' := [(h, oX2 b0 b1 P), (b0, oX5 S)]) rfl rfl hl.1 rfl (Nat.le_of_ble_eq_true rfl) dX2_moveMuting_32 ⟨Nat.le_refl _, Nat.le_refl _⟩ (fun H locs hP hD hS => ?_)
      refine lv_topi (fun z_5 ez_5 => ?_)
      refine k_put hx hb hts hi2 tyX2_ok nmX2 hown hK hP hD hS 0 rfl rfl 5 (by decide) hf21 rfl (.int z_5) rfl rfl (Nat.le_of_ble_eq_true rfl) (ws' := [(h, oX2 b0 b1 (upd P 5 z_5)), (b0, oX5 S)]) rfl dX2_moveMuting_35 (fun H locs hP hD hS => ?_)
      refine lv_aload_n hx hb dX2_moveMuting_38 rfl (lv_at hl 0 rfl) ?_
      refine lv_aload_n hx hb dX2_moveMuting_39 rfl (lv_at hl 0 rfl) ?_
      refine k_Vi ⟨hx, hb, hml, hown, hts⟩ (c_X2_isMuted l D cI cJ cO h b0 b1 (upd P 5 z_5)) (ci := 2) (q0 := 0) rfl rfl (cwV 0 hts gX2_moveMuting_X2_isMuted rfl rfl rfl (by decide +kernel) ⟨Nat.le_of_ble_eq_true rfl, Nat.le_of_ble_eq_true rfl⟩) hK hN hP hD hS hA [0] rfl rfl rfl (ws' := [(h, oX2 b0 b1 (upd P 5 z_5)), (b0, oX5 S)]) rfl rfl hl.1 rfl (Nat.le_of_ble_eq_true rfl) dX2_moveMuting_40 ⟨Nat.le_refl _, Nat.le_refl _⟩ (fun H locs hP hD hS => ?_)
      have J_7 : ∀ z_6 : Int32, z_6 = (if (sp_X2_isMuted (upd P 5 z_5)) = 0 then 0 else ((P 6) + 1)) → ∀ (H : Heap) (locs : List Loc), va_P D vwCl [(h, oX2 b0 b1 (upd P 5 z_5)), (b0, oX5 S)] H → va_D A [(h, oX2 b0 b1 (upd P 5 z_5)), (b0, oX5 S)] → va_S A s.heap H locs → ∀ ls : Array Slot, lv_has ls 2 [(0, .ref h)] → W p l e (RM 2) s m ([.ref h, .int seen] : List Value).toArray below meth c H locs 0 0 Q (F0 m 56 ls [.int z_6, .ref h]) := by
        intro z_6 ez_6 H locs hP hD hS ls hl
        refine k_put hx hb hts hi2 tyX2_ok nmX2 hown hK hP hD hS 0 rfl rfl 6 (by decide) hf24 rfl (.int z_6) rfl rfl (Nat.le_of_ble_eq_true rfl) (ws' := [(h, oX2 b0 b1 (upd (upd P 5 z_5) 6 z_6)), (b0, oX5 S)]) rfl dX2_moveMuting_56 (fun H locs hP hD hS => ?_)
        refine lv_aload_n hx hb dX2_moveMuting_59 rfl (lv_at hl 0 rfl) ?_
        refine k_get hx hb hts hi2 hown hK hP 0 rfl rfl 6 (by decide) hf24 (.int z_6) rfl dX2_moveMuting_60 ?_
        refine lv_aload_n hx hb dX2_moveMuting_63 rfl (lv_at hl 0 rfl) ?_
        refine k_get hx hb hts hi2 hown hK hP 0 rfl rfl 0 (by decide) hf60 (.ref b0) rfl dX2_moveMuting_64 ?_
        refine k_get hx hb hts hi5 hown hK hP 1 rfl rfl 2 (by decide) hf131 (.int (S 2)) rfl dX2_moveMuting_67 ?_
        have J_9 : ∀ z_8 : Nat → Int32, z_8 = (if z_6 ≤ (S 2) then (upd (upd P 5 z_5) 6 z_6) else (upd (upd P 5 4) 6 0)) → ∀ (H : Heap) (locs : List Loc), va_P D vwCl [(h, oX2 b0 b1 z_8), (b0, oX5 S)] H → va_D A [(h, oX2 b0 b1 z_8), (b0, oX5 S)] → va_S A s.heap H locs → ∀ ls : Array Slot, lv_has ls 2 [] → W p l e (RM 2) s m ([.ref h, .int seen] : List Value).toArray below meth c H locs 0 0 Q (F0 m 83 ls []) := by
          intro z_8 ez_8 H locs hP hD hS ls hl
          have hsp : sp_X2_moveMuting P S seen = z_8 := sq_X2_moveMuting_1 P S seen z_1 z_3 z_5 z_6 z_8 ez_1 ez_3 ez_5 ez_6 ez_8
          exact hret _ _ _ _ (by rw [hsp]; exact hP) hS dX2_moveMuting_83
        refine lv_icmp_le (tgt := 83) hx hb dX2_moveMuting_70 (by decide) (fun c_10 => ?_) (fun c_10 => ?_)
        · skip
          exact J_9 (upd (upd P 5 z_5) 6 z_6) (by first | (simp only [if_pos c_10]; done) | rfl) _ _ hP hD hS _ (lv_sub hl [] rfl)
        · skip
          refine lv_aload_n hx hb dX2_moveMuting_73 rfl (lv_at hl 0 rfl) ?_
          refine lv_iconst (v := 4) hx hb dX2_moveMuting_74 (by decide +kernel) ?_
          refine k_put hx hb hts hi2 tyX2_ok nmX2 hown hK hP hD hS 0 rfl rfl 5 (by decide) hf21 rfl (.int 4) rfl rfl (Nat.le_of_ble_eq_true rfl) (ws' := [(h, oX2 b0 b1 (upd (upd P 5 4) 6 z_6)), (b0, oX5 S)]) rfl dX2_moveMuting_75 (fun H locs hP hD hS => ?_)
          refine lv_aload_n hx hb dX2_moveMuting_78 rfl (lv_at hl 0 rfl) ?_
          refine lv_iconst (v := 0) hx hb dX2_moveMuting_79 (by decide +kernel) ?_
          refine k_put hx hb hts hi2 tyX2_ok nmX2 hown hK hP hD hS 0 rfl rfl 6 (by decide) hf24 rfl (.int 0) rfl rfl (Nat.le_of_ble_eq_true rfl) (ws' := [(h, oX2 b0 b1 (upd (upd P 5 4) 6 0)), (b0, oX5 S)]) rfl dX2_moveMuting_80 (fun H locs hP hD hS => ?_)
          exact J_9 (upd (upd P 5 4) 6 0) (by first | (simp only [if_neg c_10]; done) | rfl) _ _ hP hD hS _ (lv_sub hl [] rfl)
      refine lv_if_eq (tgt := 55) hx hb dX2_moveMuting_43 (by decide) (fun c_11 => ?_) (fun c_11 => ?_)
      · skip
        refine lv_iconst (v := 0) hx hb dX2_moveMuting_55 (by decide +kernel) ?_
        exact J_7 0 (by first | (simp only [if_pos c_11]; done) | rfl) _ _ hP hD hS _ (lv_sub hl [0] rfl)
      · skip
        refine lv_aload_n hx hb dX2_moveMuting_46 rfl (lv_at hl 0 rfl) ?_
        refine k_get hx hb hts hi2 hown hK hP 0 rfl rfl 6 (by decide) hf24 (.int (P 6)) rfl dX2_moveMuting_47 ?_
        refine lv_iconst (v := 1) hx hb dX2_moveMuting_50 (by decide +kernel) ?_
        refine lv_iadd hx hb dX2_moveMuting_51 ?_
        refine lv_goto (tgt := 56) hx hb dX2_moveMuting_52 (by decide) ?_
        exact J_7 ((P 6) + 1) (by first | (simp only [if_neg c_11]; done) | rfl) _ _ hP hD hS _ (lv_sub hl [0] rfl)
    refine lv_icmp_ne (tgt := 31) hx hb dX2_moveMuting_24 (by decide) (fun c_12 => ?_) (fun c_12 => ?_)
    · skip
      refine lv_iconst (v := 0) hx hb dX2_moveMuting_31 (by decide +kernel) ?_
      exact J_4 0 (by first | (simp only [if_neg c_12]; done) | rfl) _ _ hP hD hS _ (lv_sub hl [0] rfl)
    · skip
      refine lv_iconst (v := 1) hx hb dX2_moveMuting_27 (by decide +kernel) ?_
      refine lv_goto (tgt := 32) hx hb dX2_moveMuting_28 (by decide) ?_
      exact J_4 1 (by first | (simp only [if_pos c_12]; done) | rfl) _ _ hP hD hS _ (lv_sub hl [0] rfl)
  refine lv_icmp_ne (tgt := 16) hx hb dX2_moveMuting_9 (by decide) (fun c_13 => ?_) (fun c_13 => ?_)
  · skip
    refine lv_iconst (v := 0) hx hb dX2_moveMuting_16 (by decide +kernel) ?_
    exact J_2 0 (by first | (simp only [if_neg c_13]; done) | rfl) _ _ hP hD hS _ (lv_sub hl [0, 1] rfl)
  · skip
    refine lv_iconst (v := 1) hx hb dX2_moveMuting_12 (by decide +kernel) ?_
    refine lv_goto (tgt := 17) hx hb dX2_moveMuting_13 (by decide) ?_
    exact J_2 1 (by first | (simp only [if_pos c_13]; done) | rfl) _ _ hP hD hS _ (lv_sub hl [0, 1] rfl)

def sp_X2_handsThen (P : Nat → Int32) (S : Nat → Int32) (on : Int32) (sinceThen : Int32) : Int32 :=
  (if on = 0 then
    0
  else
    (if (P 3) = 3 then
      3
    else
      (if on = 2 then
        2
      else
        let z_4 : Int32 := (if (P 3) = 2 then 3 else (if sinceThen ≤ (S 1) then 1 else 3))
        z_4)))
set_option maxRecDepth 100000 in
theorem sq_X2_handsThen_1 (P : Nat → Int32) (S : Nat → Int32) (on : Int32) (sinceThen : Int32) (z_4 : Int32) (ez_4 : z_4 = (if (P 3) = 2 then 3 else (if sinceThen ≤ (S 1) then 1 else 3))) (c_1 : ¬ (on = 0)) (c_2 : ¬ ((P 3) = 3)) (c_3 : ¬ (on = 2)) : sp_X2_handsThen P S on sinceThen = z_4 := by subst ez_4; simp only [sp_X2_handsThen, if_neg c_1, if_neg c_2, if_neg c_3]
set_option maxHeartbeats 4000000 in
set_option maxRecDepth 100000 in
theorem c_X2_handsThen (l : Launch) (D : va_G) (cI cJ cO : ClassId) (h : Nat) (b0 : Nat) (b1 : Nat) (P : Nat → Int32) (S : Nat → Int32) (on : Int32) (sinceThen : Int32)  : MI l D (TY cI cJ cO) yX2_handsThen wsX2_handsThen (RM 0) [.ref h, .int on, .int sinceThen] [(h, oX2 b0 b1 P), (b0, oX5 S)] (sp_X2_handsThen P S on sinceThen) [(h, oX2 b0 b1 P), (b0, oX5 S)] := by
  refine k_entI (cc := cX2_handsThen) (maxL := 3) (lv := [(0, .ref h), (1, .int on), (2, .int sinceThen)]) (by decide +kernel) rfl (Nat.le_of_ble_eq_true rfl) rfl ?_
  intro p e s m below meth c A Q ls hx hb hml hts hown hA hS hP hD hK hN hl hret
  have hown : s.vm.findClass RX2 = some m.cls := hown
  have hi2 : ∀ w ∈ wsX20, w ∈ wsX2_handsThen := fun w h => List.mem_cons_of_mem _ (List.mem_append_left _ (List.mem_append_right _ h))
  have hi5 : ∀ w ∈ wsX50, w ∈ wsX2_handsThen := fun w h => List.mem_cons_of_mem _ (List.mem_append_right _ h)
  have hf15 := hts (.fieldLink RX2 15 "PressGuard$Press" "hands" "I") (by decide +kernel)
  have hf60 := hts (.fieldLink RX2 60 "PressGuard$Press" "settings" "LPressGuard$Settings;") (by decide +kernel)
  have hf139 := hts (.fieldLink RX2 139 "PressGuard$Settings" "span" "I") (by decide +kernel)
  refine lv_iload_n hx hb dX2_handsThen_0 rfl (lv_at hl 1 rfl) ?_
  refine lv_if_ne (tgt := 6) hx hb dX2_handsThen_1 (by decide) (fun c_1 => ?_) (fun c_1 => ?_)
  · skip
    refine lv_aload_n hx hb dX2_handsThen_6 rfl (lv_at hl 0 rfl) ?_
    refine k_get hx hb hts hi2 hown hK hP 0 rfl rfl 3 (by decide) hf15 (.int (P 3)) rfl dX2_handsThen_7 ?_
    refine lv_iconst (v := 3) hx hb dX2_handsThen_10 (by decide +kernel) ?_
    refine lv_icmp_ne (tgt := 16) hx hb dX2_handsThen_11 (by decide) (fun c_2 => ?_) (fun c_2 => ?_)
    · skip
      refine lv_iload_n hx hb dX2_handsThen_16 rfl (lv_at hl 1 rfl) ?_
      refine lv_iconst (v := 2) hx hb dX2_handsThen_17 (by decide +kernel) ?_
      refine lv_icmp_ne (tgt := 23) hx hb dX2_handsThen_18 (by decide) (fun c_3 => ?_) (fun c_3 => ?_)
      · skip
        refine lv_aload_n hx hb dX2_handsThen_23 rfl (lv_at hl 0 rfl) ?_
        refine k_get hx hb hts hi2 hown hK hP 0 rfl rfl 3 (by decide) hf15 (.int (P 3)) rfl dX2_handsThen_24 ?_
        refine lv_iconst (v := 2) hx hb dX2_handsThen_27 (by decide +kernel) ?_
        have J_5 : ∀ z_4 : Int32, z_4 = (if (P 3) = 2 then 3 else (if sinceThen ≤ (S 1) then 1 else 3)) → ∀ (H : Heap) (locs : List Loc), va_P D vwCl [(h, oX2 b0 b1 P), (b0, oX5 S)] H → va_D A [(h, oX2 b0 b1 P), (b0, oX5 S)] → va_S A s.heap H locs → ∀ ls : Array Slot, lv_has ls 3 [] → W p l e (RM 0) s m ([.ref h, .int on, .int sinceThen] : List Value).toArray below meth c H locs 0 0 Q (F0 m 47 ls [.int z_4]) := by
          intro z_4 ez_4 H locs hP hD hS ls hl
          have hsp : sp_X2_handsThen P S on sinceThen = z_4 := sq_X2_handsThen_1 P S on sinceThen z_4 ez_4 c_1 c_2 c_3
          exact hret _ _ _ _ _ (by rw [hsp]) rfl hP hS dX2_handsThen_47
        refine lv_icmp_eq (tgt := 42) hx hb dX2_handsThen_28 (by decide) (fun c_6 => ?_) (fun c_6 => ?_)
        · skip
          refine lv_iconst (v := 3) hx hb dX2_handsThen_42 (by decide +kernel) ?_
          refine lv_goto (tgt := 47) hx hb dX2_handsThen_43 (by decide) ?_
          exact J_5 3 (by first | (simp only [if_pos c_6]; done) | rfl) _ _ hP hD hS _ (lv_sub hl [] rfl)
        · skip
          refine lv_iload_n hx hb dX2_handsThen_31 rfl (lv_at hl 2 rfl) ?_
          refine lv_aload_n hx hb dX2_handsThen_32 rfl (lv_at hl 0 rfl) ?_
          refine k_get hx hb hts hi2 hown hK hP 0 rfl rfl 0 (by decide) hf60 (.ref b0) rfl dX2_handsThen_33 ?_
          refine k_get hx hb hts hi5 hown hK hP 1 rfl rfl 1 (by decide) hf139 (.int (S 1)) rfl dX2_handsThen_36 ?_
          refine lv_icmp_le (tgt := 46) hx hb dX2_handsThen_39 (by decide) (fun c_7 => ?_) (fun c_7 => ?_)
          · skip
            refine lv_iconst (v := 1) hx hb dX2_handsThen_46 (by decide +kernel) ?_
            exact J_5 1 (by first | (simp only [if_neg c_6, if_pos c_7]; done) | rfl) _ _ hP hD hS _ (lv_sub hl [] rfl)
          · skip
            refine lv_iconst (v := 3) hx hb dX2_handsThen_42 (by decide +kernel) ?_
            refine lv_goto (tgt := 47) hx hb dX2_handsThen_43 (by decide) ?_
            exact J_5 3 (by first | (simp only [if_neg c_6, if_neg c_7]; done) | rfl) _ _ hP hD hS _ (lv_sub hl [] rfl)
      · skip
        refine lv_iconst (v := 2) hx hb dX2_handsThen_21 (by decide +kernel) ?_
        have hsp : sp_X2_handsThen P S on sinceThen = 2 := by simp only [sp_X2_handsThen, if_neg c_1, if_neg c_2, if_pos c_3]
        exact hret _ _ _ _ _ (by rw [hsp]) rfl hP hS dX2_handsThen_22
    · skip
      refine lv_iconst (v := 3) hx hb dX2_handsThen_14 (by decide +kernel) ?_
      have hsp : sp_X2_handsThen P S on sinceThen = 3 := by simp only [sp_X2_handsThen, if_neg c_1, if_pos c_2]
      exact hret _ _ _ _ _ (by rw [hsp]) rfl hP hS dX2_handsThen_15
  · skip
    refine lv_iconst (v := 0) hx hb dX2_handsThen_4 (by decide +kernel) ?_
    have hsp : sp_X2_handsThen P S on sinceThen = 0 := by simp only [sp_X2_handsThen, if_pos c_1]
    exact hret _ _ _ _ _ (by rw [hsp]) rfl hP hS dX2_handsThen_5

def sp_X2_moveHands (P : Nat → Int32) (S : Nat → Int32) (seen : Int32) : (Nat → Int32) :=
  let z_1 : Int32 := (((sp_X8_pairCount seen 0) / 2) + ((sp_X8_pairCount seen 2) / 2))
  let z_2 : Int32 := (if (P 3) = 1 then ((P 4) + 1) else 1)
  let z_4 : Int32 := (sp_X2_handsThen P S z_1 z_2)
  let z_5 : Int32 := (if z_4 = 1 then z_2 else 0)
  (upd (upd P 3 z_4) 4 z_5)
set_option maxRecDepth 100000 in
theorem sq_X2_moveHands_1 (P : Nat → Int32) (S : Nat → Int32) (seen : Int32) (z_1 : Int32) (z_2 : Int32) (z_4 : Int32) (z_5 : Int32) (ez_1 : z_1 = (((sp_X8_pairCount seen 0) / 2) + ((sp_X8_pairCount seen 2) / 2))) (ez_2 : z_2 = (if (P 3) = 1 then ((P 4) + 1) else 1)) (ez_4 : z_4 = (sp_X2_handsThen P S z_1 z_2)) (ez_5 : z_5 = (if z_4 = 1 then z_2 else 0)) : sp_X2_moveHands P S seen = (upd (upd P 3 z_4) 4 z_5) := by subst ez_5; subst ez_4; subst ez_2; subst ez_1; rfl
set_option maxHeartbeats 4000000 in
set_option maxRecDepth 100000 in
theorem c_X2_moveHands (l : Launch) (D : va_G) (cI cJ cO : ClassId) (h : Nat) (b0 : Nat) (b1 : Nat) (P : Nat → Int32) (S : Nat → Int32) (seen : Int32)  : MV l D (TY cI cJ cO) yX2_moveHands wsX2_moveHands (RM 2) [.ref h, .int seen] [(h, oX2 b0 b1 P), (b0, oX5 S)] [(h, oX2 b0 b1 (sp_X2_moveHands P S seen)), (b0, oX5 S)] := by
  refine k_entV (cc := cX2_moveHands) (maxL := 4) (lv := [(0, .ref h), (1, .int seen)]) (by decide +kernel) rfl (Nat.le_of_ble_eq_true rfl) rfl ?_
  intro p e s m below meth c A Q ls hx hb hml hts hown hA hS hP hD hK hN hl hret
  have hown : s.vm.findClass RX2 = some m.cls := hown
  have hi2 : ∀ w ∈ wsX20, w ∈ wsX2_moveHands := fun w h => List.mem_cons_of_mem _ (List.mem_append_left _ (List.mem_append_right _ h))
  have hf15 := hts (.fieldLink RX2 15 "PressGuard$Press" "hands" "I") (by decide +kernel)
  have hf18 := hts (.fieldLink RX2 18 "PressGuard$Press" "since" "I") (by decide +kernel)
  refine lv_iload_n hx hb dX2_moveHands_0 rfl (lv_at hl 1 rfl) ?_
  refine lv_iconst (v := 0) hx hb dX2_moveHands_1 (by decide +kernel) ?_
  refine k_SNi ⟨hx, hb, hml, hown, hts⟩ (c_X8_pairCount l D cI cJ cO seen 0) (va_cnB 2 hts gX2_moveHands_X8_pairCount_n104 rfl rfl rfl (hN.1 4 _ rfl) (hts (.initialized RX8) (by decide +kernel)) (by decide +kernel) ⟨Nat.le_of_ble_eq_true rfl, Nat.le_of_ble_eq_true rfl⟩) (hts (.static yX8_pairCount) (by decide +kernel)) hK hN hP hD hS hA [] rfl rfl rfl (ws' := [(h, oX2 b0 b1 P), (b0, oX5 S)]) rfl rfl hl.1 rfl (Nat.le_of_ble_eq_true rfl) dX2_moveHands_2 ⟨Nat.le_refl _, Nat.le_refl _⟩ (fun H locs hP hD hS => ?_)
  refine lv_iconst (v := 2) hx hb dX2_moveHands_5 (by decide +kernel) ?_
  refine lv_idiv hx hb dX2_moveHands_6 (by decide +kernel) ?_
  refine lv_iload_n hx hb dX2_moveHands_7 rfl (lv_at hl 1 rfl) ?_
  refine lv_iconst (v := 2) hx hb dX2_moveHands_8 (by decide +kernel) ?_
  refine k_SNi ⟨hx, hb, hml, hown, hts⟩ (c_X8_pairCount l D cI cJ cO seen 2) (va_cnB 2 hts gX2_moveHands_X8_pairCount_n104 rfl rfl rfl (hN.1 4 _ rfl) (hts (.initialized RX8) (by decide +kernel)) (by decide +kernel) ⟨Nat.le_of_ble_eq_true rfl, Nat.le_of_ble_eq_true rfl⟩) (hts (.static yX8_pairCount) (by decide +kernel)) hK hN hP hD hS hA [] rfl rfl rfl (ws' := [(h, oX2 b0 b1 P), (b0, oX5 S)]) rfl rfl hl.1 rfl (Nat.le_of_ble_eq_true rfl) dX2_moveHands_9 ⟨Nat.le_refl _, Nat.le_refl _⟩ (fun H locs hP hD hS => ?_)
  refine lv_iconst (v := 2) hx hb dX2_moveHands_12 (by decide +kernel) ?_
  refine lv_idiv hx hb dX2_moveHands_13 (by decide +kernel) ?_
  refine lv_iadd hx hb dX2_moveHands_14 ?_
  refine lv_topi (fun z_1 ez_1 => ?_)
  refine lv_istore_n (lv' := [(2, .int z_1), (0, .ref h), (1, .int seen)]) hx hb dX2_moveHands_15 rfl hl (by decide) rfl (fun ls hl => ?_)
  refine lv_aload_n hx hb dX2_moveHands_16 rfl (lv_at hl 1 rfl) ?_
  refine k_get hx hb hts hi2 hown hK hP 0 rfl rfl 3 (by decide) hf15 (.int (P 3)) rfl dX2_moveHands_17 ?_
  refine lv_iconst (v := 1) hx hb dX2_moveHands_20 (by decide +kernel) ?_
  have J_3 : ∀ z_2 : Int32, z_2 = (if (P 3) = 1 then ((P 4) + 1) else 1) → ∀ (H : Heap) (locs : List Loc), va_P D vwCl [(h, oX2 b0 b1 P), (b0, oX5 S)] H → va_D A [(h, oX2 b0 b1 P), (b0, oX5 S)] → va_S A s.heap H locs → ∀ ls : Array Slot, lv_has ls 4 [(0, .ref h), (2, .int z_1)] → W p l e (RM 2) s m ([.ref h, .int seen] : List Value).toArray below meth c H locs 0 0 Q (F0 m 34 ls [.int z_2]) := by
    intro z_2 ez_2 H locs hP hD hS ls hl
    refine lv_istore_n (lv' := [(3, .int z_2), (0, .ref h), (2, .int z_1)]) hx hb dX2_moveHands_34 rfl hl (by decide) rfl (fun ls hl => ?_)
    refine lv_aload_n hx hb dX2_moveHands_35 rfl (lv_at hl 1 rfl) ?_
    refine lv_aload_n hx hb dX2_moveHands_36 rfl (lv_at hl 1 rfl) ?_
    refine lv_iload_n hx hb dX2_moveHands_37 rfl (lv_at hl 2 rfl) ?_
    refine lv_iload_n hx hb dX2_moveHands_38 rfl (lv_at hl 0 rfl) ?_
    refine k_Vi ⟨hx, hb, hml, hown, hts⟩ (c_X2_handsThen l D cI cJ cO h b0 b1 P S z_1 z_2) (ci := 2) (q0 := 0) rfl rfl (cwV 2 hts gX2_moveHands_X2_handsThen rfl rfl rfl (by decide +kernel) ⟨Nat.le_of_ble_eq_true rfl, Nat.le_of_ble_eq_true rfl⟩) hK hN hP hD hS hA [0, 1] rfl rfl rfl (ws' := [(h, oX2 b0 b1 P), (b0, oX5 S)]) rfl rfl hl.1 rfl (Nat.le_of_ble_eq_true rfl) dX2_moveHands_39 ⟨Nat.le_refl _, Nat.le_refl _⟩ (fun H locs hP hD hS => ?_)
    refine lv_topi (fun z_4 ez_4 => ?_)
    refine k_put hx hb hts hi2 tyX2_ok nmX2 hown hK hP hD hS 0 rfl rfl 3 (by decide) hf15 rfl (.int z_4) rfl rfl (Nat.le_of_ble_eq_true rfl) (ws' := [(h, oX2 b0 b1 (upd P 3 z_4)), (b0, oX5 S)]) rfl dX2_moveHands_42 (fun H locs hP hD hS => ?_)
    refine lv_aload_n hx hb dX2_moveHands_45 rfl (lv_at hl 1 rfl) ?_
    refine lv_aload_n hx hb dX2_moveHands_46 rfl (lv_at hl 1 rfl) ?_
    refine k_get hx hb hts hi2 hown hK hP 0 rfl rfl 3 (by decide) hf15 (.int z_4) rfl dX2_moveHands_47 ?_
    refine lv_iconst (v := 1) hx hb dX2_moveHands_50 (by decide +kernel) ?_
    have J_6 : ∀ z_5 : Int32, z_5 = (if z_4 = 1 then z_2 else 0) → ∀ (H : Heap) (locs : List Loc), va_P D vwCl [(h, oX2 b0 b1 (upd P 3 z_4)), (b0, oX5 S)] H → va_D A [(h, oX2 b0 b1 (upd P 3 z_4)), (b0, oX5 S)] → va_S A s.heap H locs → ∀ ls : Array Slot, lv_has ls 4 [] → W p l e (RM 2) s m ([.ref h, .int seen] : List Value).toArray below meth c H locs 0 0 Q (F0 m 59 ls [.int z_5, .ref h]) := by
      intro z_5 ez_5 H locs hP hD hS ls hl
      refine k_put hx hb hts hi2 tyX2_ok nmX2 hown hK hP hD hS 0 rfl rfl 4 (by decide) hf18 rfl (.int z_5) rfl rfl (Nat.le_of_ble_eq_true rfl) (ws' := [(h, oX2 b0 b1 (upd (upd P 3 z_4) 4 z_5)), (b0, oX5 S)]) rfl dX2_moveHands_59 (fun H locs hP hD hS => ?_)
      have hsp : sp_X2_moveHands P S seen = (upd (upd P 3 z_4) 4 z_5) := sq_X2_moveHands_1 P S seen z_1 z_2 z_4 z_5 ez_1 ez_2 ez_4 ez_5
      exact hret _ _ _ _ (by rw [hsp]; exact hP) hS dX2_moveHands_62
    refine lv_icmp_ne (tgt := 58) hx hb dX2_moveHands_51 (by decide) (fun c_7 => ?_) (fun c_7 => ?_)
    · skip
      refine lv_iconst (v := 0) hx hb dX2_moveHands_58 (by decide +kernel) ?_
      exact J_6 0 (by first | (simp only [if_neg c_7]; done) | rfl) _ _ hP hD hS _ (lv_sub hl [] rfl)
    · skip
      refine lv_iload_n hx hb dX2_moveHands_54 rfl (lv_at hl 0 rfl) ?_
      refine lv_goto (tgt := 59) hx hb dX2_moveHands_55 (by decide) ?_
      exact J_6 z_2 (by first | (simp only [if_pos c_7]; done) | rfl) _ _ hP hD hS _ (lv_sub hl [] rfl)
  refine lv_icmp_ne (tgt := 33) hx hb dX2_moveHands_21 (by decide) (fun c_8 => ?_) (fun c_8 => ?_)
  · skip
    refine lv_iconst (v := 1) hx hb dX2_moveHands_33 (by decide +kernel) ?_
    exact J_3 1 (by first | (simp only [if_neg c_8]; done) | rfl) _ _ hP hD hS _ (lv_sub hl [1, 0] rfl)
  · skip
    refine lv_aload_n hx hb dX2_moveHands_24 rfl (lv_at hl 1 rfl) ?_
    refine k_get hx hb hts hi2 hown hK hP 0 rfl rfl 4 (by decide) hf18 (.int (P 4)) rfl dX2_moveHands_25 ?_
    refine lv_iconst (v := 1) hx hb dX2_moveHands_28 (by decide +kernel) ?_
    refine lv_iadd hx hb dX2_moveHands_29 ?_
    refine lv_goto (tgt := 34) hx hb dX2_moveHands_30 (by decide) ?_
    exact J_3 ((P 4) + 1) (by first | (simp only [if_pos c_8]; done) | rfl) _ _ hP hD hS _ (lv_sub hl [1, 0] rfl)
