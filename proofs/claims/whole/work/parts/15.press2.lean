def sp_X2_leastCause (P : Nat → Int32) (S : Nat → Int32) : Int32 :=
  (if (P 7) ≤ (S 0) then
    (if (P 8) ≤ (S 0) then
      (if (P 9) ≤ (S 0) then
        (if (P 10) ≤ 1 then
          let z_5 : Int32 := (if (P 5) = 4 then (if (P 2) = 2 then 5 else 0) else 0)
          z_5
        else
          4)
      else
        3)
    else
      2)
  else
    1)
set_option maxRecDepth 100000 in
theorem sq_X2_leastCause_1 (P : Nat → Int32) (S : Nat → Int32) (z_5 : Int32) (ez_5 : z_5 = (if (P 5) = 4 then (if (P 2) = 2 then 5 else 0) else 0)) (c_1 : (P 7) ≤ (S 0)) (c_2 : (P 8) ≤ (S 0)) (c_3 : (P 9) ≤ (S 0)) (c_4 : (P 10) ≤ 1) : sp_X2_leastCause P S = z_5 := by subst ez_5; simp only [sp_X2_leastCause, if_pos c_1, if_pos c_2, if_pos c_3, if_pos c_4]
set_option maxHeartbeats 4000000 in
set_option maxRecDepth 100000 in
theorem c_X2_leastCause (l : Launch) (D : va_G) (cI cJ cO : ClassId) (h : Nat) (b0 : Nat) (b1 : Nat) (P : Nat → Int32) (S : Nat → Int32)  : MI l D (TY cI cJ cO) yX2_leastCause wsX2_leastCause (RM 0) [.ref h] [(h, oX2 b0 b1 P), (b0, oX5 S)] (sp_X2_leastCause P S) [(h, oX2 b0 b1 P), (b0, oX5 S)] := by
  refine k_entI (cc := cX2_leastCause) (maxL := 1) (lv := [(0, .ref h)]) (by decide +kernel) rfl (Nat.le_of_ble_eq_true rfl) rfl ?_
  intro p e s m below meth c A Q ls hx hb hml hts hown hA hS hP hD hK hN hl hret
  have hown : s.vm.findClass RX2 = some m.cls := hown
  have hi2 : ∀ w ∈ wsX20, w ∈ wsX2_leastCause := fun w h => List.mem_cons_of_mem _ (List.mem_append_left _ (List.mem_append_right _ h))
  have hi5 : ∀ w ∈ wsX50, w ∈ wsX2_leastCause := fun w h => List.mem_cons_of_mem _ (List.mem_append_right _ h)
  have hf9 := hts (.fieldLink RX2 9 "PressGuard$Press" "mode" "I") (by decide +kernel)
  have hf21 := hts (.fieldLink RX2 21 "PressGuard$Press" "muting" "I") (by decide +kernel)
  have hf27 := hts (.fieldLink RX2 27 "PressGuard$Press" "leftApart" "I") (by decide +kernel)
  have hf30 := hts (.fieldLink RX2 30 "PressGuard$Press" "rightApart" "I") (by decide +kernel)
  have hf33 := hts (.fieldLink RX2 33 "PressGuard$Press" "curtainApart" "I") (by decide +kernel)
  have hf36 := hts (.fieldLink RX2 36 "PressGuard$Press" "unlike" "I") (by decide +kernel)
  have hf60 := hts (.fieldLink RX2 60 "PressGuard$Press" "settings" "LPressGuard$Settings;") (by decide +kernel)
  have hf142 := hts (.fieldLink RX2 142 "PressGuard$Settings" "patience" "I") (by decide +kernel)
  refine lv_aload_n hx hb dX2_leastCause_0 rfl (lv_at hl 0 rfl) ?_
  refine k_get hx hb hts hi2 hown hK hP 0 rfl rfl 7 (by decide) hf27 (.int (P 7)) rfl dX2_leastCause_1 ?_
  refine lv_aload_n hx hb dX2_leastCause_4 rfl (lv_at hl 0 rfl) ?_
  refine k_get hx hb hts hi2 hown hK hP 0 rfl rfl 0 (by decide) hf60 (.ref b0) rfl dX2_leastCause_5 ?_
  refine k_get hx hb hts hi5 hown hK hP 1 rfl rfl 0 (by decide) hf142 (.int (S 0)) rfl dX2_leastCause_8 ?_
  refine lv_icmp_le (tgt := 16) hx hb dX2_leastCause_11 (by decide) (fun c_1 => ?_) (fun c_1 => ?_)
  · skip
    refine lv_aload_n hx hb dX2_leastCause_16 rfl (lv_at hl 0 rfl) ?_
    refine k_get hx hb hts hi2 hown hK hP 0 rfl rfl 8 (by decide) hf30 (.int (P 8)) rfl dX2_leastCause_17 ?_
    refine lv_aload_n hx hb dX2_leastCause_20 rfl (lv_at hl 0 rfl) ?_
    refine k_get hx hb hts hi2 hown hK hP 0 rfl rfl 0 (by decide) hf60 (.ref b0) rfl dX2_leastCause_21 ?_
    refine k_get hx hb hts hi5 hown hK hP 1 rfl rfl 0 (by decide) hf142 (.int (S 0)) rfl dX2_leastCause_24 ?_
    refine lv_icmp_le (tgt := 32) hx hb dX2_leastCause_27 (by decide) (fun c_2 => ?_) (fun c_2 => ?_)
    · skip
      refine lv_aload_n hx hb dX2_leastCause_32 rfl (lv_at hl 0 rfl) ?_
      refine k_get hx hb hts hi2 hown hK hP 0 rfl rfl 9 (by decide) hf33 (.int (P 9)) rfl dX2_leastCause_33 ?_
      refine lv_aload_n hx hb dX2_leastCause_36 rfl (lv_at hl 0 rfl) ?_
      refine k_get hx hb hts hi2 hown hK hP 0 rfl rfl 0 (by decide) hf60 (.ref b0) rfl dX2_leastCause_37 ?_
      refine k_get hx hb hts hi5 hown hK hP 1 rfl rfl 0 (by decide) hf142 (.int (S 0)) rfl dX2_leastCause_40 ?_
      refine lv_icmp_le (tgt := 48) hx hb dX2_leastCause_43 (by decide) (fun c_3 => ?_) (fun c_3 => ?_)
      · skip
        refine lv_aload_n hx hb dX2_leastCause_48 rfl (lv_at hl 0 rfl) ?_
        refine k_get hx hb hts hi2 hown hK hP 0 rfl rfl 10 (by decide) hf36 (.int (P 10)) rfl dX2_leastCause_49 ?_
        refine lv_iconst (v := 1) hx hb dX2_leastCause_52 (by decide +kernel) ?_
        refine lv_icmp_le (tgt := 58) hx hb dX2_leastCause_53 (by decide) (fun c_4 => ?_) (fun c_4 => ?_)
        · skip
          refine lv_aload_n hx hb dX2_leastCause_58 rfl (lv_at hl 0 rfl) ?_
          refine k_get hx hb hts hi2 hown hK hP 0 rfl rfl 5 (by decide) hf21 (.int (P 5)) rfl dX2_leastCause_59 ?_
          refine lv_iconst (v := 4) hx hb dX2_leastCause_62 (by decide +kernel) ?_
          have J_6 : ∀ z_5 : Int32, z_5 = (if (P 5) = 4 then (if (P 2) = 2 then 5 else 0) else 0) → ∀ (H : Heap) (locs : List Loc), va_P D vwCl [(h, oX2 b0 b1 P), (b0, oX5 S)] H → va_D A [(h, oX2 b0 b1 P), (b0, oX5 S)] → va_S A s.heap H locs → ∀ ls : Array Slot, lv_has ls 1 [] → W p l e (RM 0) s m ([.ref h] : List Value).toArray below meth c H locs 0 0 Q (F0 m 79 ls [.int z_5]) := by
            intro z_5 ez_5 H locs hP hD hS ls hl
            have hsp : sp_X2_leastCause P S = z_5 := sq_X2_leastCause_1 P S z_5 ez_5 c_1 c_2 c_3 c_4
            exact hret _ _ _ _ _ (by rw [hsp]) rfl hP hS dX2_leastCause_79
          refine lv_icmp_ne (tgt := 78) hx hb dX2_leastCause_63 (by decide) (fun c_7 => ?_) (fun c_7 => ?_)
          · skip
            refine lv_iconst (v := 0) hx hb dX2_leastCause_78 (by decide +kernel) ?_
            exact J_6 0 (by first | (simp only [if_neg c_7]; done) | rfl) _ _ hP hD hS _ (lv_sub hl [] rfl)
          · skip
            refine lv_aload_n hx hb dX2_leastCause_66 rfl (lv_at hl 0 rfl) ?_
            refine k_get hx hb hts hi2 hown hK hP 0 rfl rfl 2 (by decide) hf9 (.int (P 2)) rfl dX2_leastCause_67 ?_
            refine lv_iconst (v := 2) hx hb dX2_leastCause_70 (by decide +kernel) ?_
            refine lv_icmp_ne (tgt := 78) hx hb dX2_leastCause_71 (by decide) (fun c_8 => ?_) (fun c_8 => ?_)
            · skip
              refine lv_iconst (v := 0) hx hb dX2_leastCause_78 (by decide +kernel) ?_
              exact J_6 0 (by first | (simp only [if_pos c_7, if_neg c_8]; done) | rfl) _ _ hP hD hS _ (lv_sub hl [] rfl)
            · skip
              refine lv_iconst (v := 5) hx hb dX2_leastCause_74 (by decide +kernel) ?_
              refine lv_goto (tgt := 79) hx hb dX2_leastCause_75 (by decide) ?_
              exact J_6 5 (by first | (simp only [if_pos c_7, if_pos c_8]; done) | rfl) _ _ hP hD hS _ (lv_sub hl [] rfl)
        · skip
          refine lv_iconst (v := 4) hx hb dX2_leastCause_56 (by decide +kernel) ?_
          have hsp : sp_X2_leastCause P S = 4 := by simp only [sp_X2_leastCause, if_pos c_1, if_pos c_2, if_pos c_3, if_neg c_4]
          exact hret _ _ _ _ _ (by rw [hsp]) rfl hP hS dX2_leastCause_57
      · skip
        refine lv_iconst (v := 3) hx hb dX2_leastCause_46 (by decide +kernel) ?_
        have hsp : sp_X2_leastCause P S = 3 := by simp only [sp_X2_leastCause, if_pos c_1, if_pos c_2, if_neg c_3]
        exact hret _ _ _ _ _ (by rw [hsp]) rfl hP hS dX2_leastCause_47
    · skip
      refine lv_iconst (v := 2) hx hb dX2_leastCause_30 (by decide +kernel) ?_
      have hsp : sp_X2_leastCause P S = 2 := by simp only [sp_X2_leastCause, if_pos c_1, if_neg c_2]
      exact hret _ _ _ _ _ (by rw [hsp]) rfl hP hS dX2_leastCause_31
  · skip
    refine lv_iconst (v := 1) hx hb dX2_leastCause_14 (by decide +kernel) ?_
    have hsp : sp_X2_leastCause P S = 1 := by simp only [sp_X2_leastCause, if_neg c_1]
    exact hret _ _ _ _ _ (by rw [hsp]) rfl hP hS dX2_leastCause_15

def sp_X2_changeMode (P : Nat → Int32) (S : Nat → Int32) (seen : Int32) (taken : Int32) (barred : Int32) : (Nat → Int32) :=
  let z_1 : Int32 := (if taken = 0 then 0 else (if barred = 0 then 1 else 0))
  let z_3 : Nat → Int32 := (if (P 2) = 0 then (let z_25 : Int32 := (if (P 14) = 1 then (if (sp_X8_bit seen 8) = 0 then 1 else 0) else 0); (let z_27 : Nat → Int32 := (if z_25 = 0 then P else (if (sp_X2_leastCause P S) = 0 then (if (P 3) = 0 then (if barred = 0 then (let z_30 : Int32 := (if (P 12) = 0 then 1 else 3); (upd P 2 z_30)) else P) else P) else P)); z_27)) else (if (sp_X2_leastCause P S) = 0 then (if (P 2) = 1 then (if z_1 = 0 then (if (P 2) = 2 then (if barred = 0 then (if (P 3) = 2 then P else (upd P 2 3)) else (upd P 2 3)) else P) else (upd P 2 2)) else (if (P 2) = 2 then (if barred = 0 then (if (P 3) = 2 then (if (P 2) = 3 then (if z_1 = 0 then P else (let z_15 : Int32 := (if (S 4) ≤ (P 12) then 4 else 2); (upd P 2 z_15))) else P) else (upd P 2 3)) else (upd P 2 3)) else (if (P 2) = 3 then (if z_1 = 0 then P else (let z_8 : Int32 := (if (S 4) ≤ (P 12) then 4 else 2); (upd P 2 z_8))) else P))) else (let z_24 : Int32 := (sp_X2_leastCause P S); (upd (upd P 2 0) 15 z_24))))
  z_3
set_option maxRecDepth 100000 in
theorem sq_X2_changeMode_1 (P : Nat → Int32) (S : Nat → Int32) (seen : Int32) (taken : Int32) (barred : Int32) (z_1 : Int32) (z_3 : Nat → Int32) (ez_1 : z_1 = (if taken = 0 then 0 else (if barred = 0 then 1 else 0))) (ez_3 : z_3 = (if (P 2) = 0 then (let z_25 : Int32 := (if (P 14) = 1 then (if (sp_X8_bit seen 8) = 0 then 1 else 0) else 0); (let z_27 : Nat → Int32 := (if z_25 = 0 then P else (if (sp_X2_leastCause P S) = 0 then (if (P 3) = 0 then (if barred = 0 then (let z_30 : Int32 := (if (P 12) = 0 then 1 else 3); (upd P 2 z_30)) else P) else P) else P)); z_27)) else (if (sp_X2_leastCause P S) = 0 then (if (P 2) = 1 then (if z_1 = 0 then (if (P 2) = 2 then (if barred = 0 then (if (P 3) = 2 then P else (upd P 2 3)) else (upd P 2 3)) else P) else (upd P 2 2)) else (if (P 2) = 2 then (if barred = 0 then (if (P 3) = 2 then (if (P 2) = 3 then (if z_1 = 0 then P else (let z_15 : Int32 := (if (S 4) ≤ (P 12) then 4 else 2); (upd P 2 z_15))) else P) else (upd P 2 3)) else (upd P 2 3)) else (if (P 2) = 3 then (if z_1 = 0 then P else (let z_8 : Int32 := (if (S 4) ≤ (P 12) then 4 else 2); (upd P 2 z_8))) else P))) else (let z_24 : Int32 := (sp_X2_leastCause P S); (upd (upd P 2 0) 15 z_24))))) : sp_X2_changeMode P S seen taken barred = z_3 := by subst ez_3; subst ez_1; rfl
set_option maxHeartbeats 4000000 in
set_option maxRecDepth 100000 in
theorem c_X2_changeMode (l : Launch) (D : va_G) (cI cJ cO : ClassId) (h : Nat) (b0 : Nat) (b1 : Nat) (P : Nat → Int32) (S : Nat → Int32) (seen : Int32) (taken : Int32) (barred : Int32)  : MV l D (TY cI cJ cO) yX2_changeMode wsX2_changeMode (RM 1) [.ref h, .int seen, .int taken, .int barred] [(h, oX2 b0 b1 P), (b0, oX5 S)] [(h, oX2 b0 b1 (sp_X2_changeMode P S seen taken barred)), (b0, oX5 S)] := by
  refine k_entV (cc := cX2_changeMode) (maxL := 7) (lv := [(0, .ref h), (1, .int seen), (2, .int taken), (3, .int barred)]) (by decide +kernel) rfl (Nat.le_of_ble_eq_true rfl) rfl ?_
  intro p e s m below meth c A Q ls hx hb hml hts hown hA hS hP hD hK hN hl hret
  have hown : s.vm.findClass RX2 = some m.cls := hown
  have hi2 : ∀ w ∈ wsX20, w ∈ wsX2_changeMode := fun w h => List.mem_cons_of_mem _ (List.mem_append_left _ (List.mem_append_right _ h))
  have hi5 : ∀ w ∈ wsX50, w ∈ wsX2_changeMode := fun w h => List.mem_cons_of_mem _ (List.mem_append_right _ h)
  have hf9 := hts (.fieldLink RX2 9 "PressGuard$Press" "mode" "I") (by decide +kernel)
  have hf15 := hts (.fieldLink RX2 15 "PressGuard$Press" "hands" "I") (by decide +kernel)
  have hf42 := hts (.fieldLink RX2 42 "PressGuard$Press" "position" "I") (by decide +kernel)
  have hf48 := hts (.fieldLink RX2 48 "PressGuard$Press" "resetSeen" "I") (by decide +kernel)
  have hf51 := hts (.fieldLink RX2 51 "PressGuard$Press" "lockedBy" "I") (by decide +kernel)
  have hf60 := hts (.fieldLink RX2 60 "PressGuard$Press" "settings" "LPressGuard$Settings;") (by decide +kernel)
  have hf149 := hts (.fieldLink RX2 149 "PressGuard$Settings" "bottom" "I") (by decide +kernel)
  refine lv_aload_n hx hb dX2_changeMode_0 rfl (lv_at hl 0 rfl) ?_
  refine k_Vi ⟨hx, hb, hml, hown, hts⟩ (c_X2_leastCause l D cI cJ cO h b0 b1 P S) (ci := 2) (q0 := 0) rfl rfl (cwV 0 hts gX2_changeMode_X2_leastCause rfl rfl rfl (by decide +kernel) ⟨Nat.le_of_ble_eq_true rfl, Nat.le_of_ble_eq_true rfl⟩) hK hN hP hD hS hA [0, 1] rfl rfl rfl (ws' := [(h, oX2 b0 b1 P), (b0, oX5 S)]) rfl rfl hl.1 rfl (Nat.le_of_ble_eq_true rfl) dX2_changeMode_1 ⟨Nat.le_refl _, Nat.le_refl _⟩ (fun H locs hP hD hS => ?_)
  refine lv_istore (lv' := [(4, .int (sp_X2_leastCause P S)), (0, .ref h), (1, .int seen), (2, .int taken), (3, .int barred)]) hx hb dX2_changeMode_4 hl (by decide) rfl (fun ls hl => ?_)
  refine lv_iload_n hx hb dX2_changeMode_6 rfl (lv_at hl 3 rfl) ?_
  have J_2 : ∀ z_1 : Int32, z_1 = (if taken = 0 then 0 else (if barred = 0 then 1 else 0)) → ∀ (H : Heap) (locs : List Loc), va_P D vwCl [(h, oX2 b0 b1 P), (b0, oX5 S)] H → va_D A [(h, oX2 b0 b1 P), (b0, oX5 S)] → va_S A s.heap H locs → ∀ ls : Array Slot, lv_has ls 7 [(0, .ref h), (1, .int seen), (3, .int barred), (4, .int (sp_X2_leastCause P S))] → W p l e (RM 1) s m ([.ref h, .int seen, .int taken, .int barred] : List Value).toArray below meth c H locs 0 0 Q (F0 m 19 ls [.int z_1]) := by
    intro z_1 ez_1 H locs hP hD hS ls hl
    refine lv_istore (lv' := [(5, .int z_1), (0, .ref h), (1, .int seen), (3, .int barred), (4, .int (sp_X2_leastCause P S))]) hx hb dX2_changeMode_19 hl (by decide) rfl (fun ls hl => ?_)
    refine lv_aload_n hx hb dX2_changeMode_21 rfl (lv_at hl 1 rfl) ?_
    refine k_get hx hb hts hi2 hown hK hP 0 rfl rfl 2 (by decide) hf9 (.int (P 2)) rfl dX2_changeMode_22 ?_
    have J_4 : ∀ z_3 : Nat → Int32, z_3 = (if (P 2) = 0 then (let z_25 : Int32 := (if (P 14) = 1 then (if (sp_X8_bit seen 8) = 0 then 1 else 0) else 0); (let z_27 : Nat → Int32 := (if z_25 = 0 then P else (if (sp_X2_leastCause P S) = 0 then (if (P 3) = 0 then (if barred = 0 then (let z_30 : Int32 := (if (P 12) = 0 then 1 else 3); (upd P 2 z_30)) else P) else P) else P)); z_27)) else (if (sp_X2_leastCause P S) = 0 then (if (P 2) = 1 then (if z_1 = 0 then (if (P 2) = 2 then (if barred = 0 then (if (P 3) = 2 then P else (upd P 2 3)) else (upd P 2 3)) else P) else (upd P 2 2)) else (if (P 2) = 2 then (if barred = 0 then (if (P 3) = 2 then (if (P 2) = 3 then (if z_1 = 0 then P else (let z_15 : Int32 := (if (S 4) ≤ (P 12) then 4 else 2); (upd P 2 z_15))) else P) else (upd P 2 3)) else (upd P 2 3)) else (if (P 2) = 3 then (if z_1 = 0 then P else (let z_8 : Int32 := (if (S 4) ≤ (P 12) then 4 else 2); (upd P 2 z_8))) else P))) else (let z_24 : Int32 := (sp_X2_leastCause P S); (upd (upd P 2 0) 15 z_24)))) → ∀ (H : Heap) (locs : List Loc), va_P D vwCl [(h, oX2 b0 b1 z_3), (b0, oX5 S)] H → va_D A [(h, oX2 b0 b1 z_3), (b0, oX5 S)] → va_S A s.heap H locs → ∀ ls : Array Slot, lv_has ls 7 [] → W p l e (RM 1) s m ([.ref h, .int seen, .int taken, .int barred] : List Value).toArray below meth c H locs 0 0 Q (F0 m 196 ls []) := by
      intro z_3 ez_3 H locs hP hD hS ls hl
      have hsp : sp_X2_changeMode P S seen taken barred = z_3 := sq_X2_changeMode_1 P S seen taken barred z_1 z_3 ez_1 ez_3
      exact hret _ _ _ _ (by rw [hsp]; exact hP) hS dX2_changeMode_196
    refine lv_if_ne (tgt := 92) hx hb dX2_changeMode_25 (by decide) (fun c_5 => ?_) (fun c_5 => ?_)
    · skip
      refine lv_iload hx hb dX2_changeMode_92 (lv_at hl 4 rfl) ?_
      refine lv_if_eq (tgt := 111) hx hb dX2_changeMode_94 (by decide) (fun c_6 => ?_) (fun c_6 => ?_)
      · skip
        refine lv_aload_n hx hb dX2_changeMode_111 rfl (lv_at hl 1 rfl) ?_
        refine k_get hx hb hts hi2 hown hK hP 0 rfl rfl 2 (by decide) hf9 (.int (P 2)) rfl dX2_changeMode_112 ?_
        refine lv_iconst (v := 1) hx hb dX2_changeMode_115 (by decide +kernel) ?_
        refine lv_icmp_ne (tgt := 132) hx hb dX2_changeMode_116 (by decide) (fun c_7 => ?_) (fun c_7 => ?_)
        · skip
          refine lv_aload_n hx hb dX2_changeMode_132 rfl (lv_at hl 1 rfl) ?_
          refine k_get hx hb hts hi2 hown hK hP 0 rfl rfl 2 (by decide) hf9 (.int (P 2)) rfl dX2_changeMode_133 ?_
          refine lv_iconst (v := 2) hx hb dX2_changeMode_136 (by decide +kernel) ?_
          refine lv_icmp_ne (tgt := 160) hx hb dX2_changeMode_137 (by decide) (fun c_8 => ?_) (fun c_8 => ?_)
          · skip
            refine lv_aload_n hx hb dX2_changeMode_160 rfl (lv_at hl 1 rfl) ?_
            refine k_get hx hb hts hi2 hown hK hP 0 rfl rfl 2 (by decide) hf9 (.int (P 2)) rfl dX2_changeMode_161 ?_
            refine lv_iconst (v := 3) hx hb dX2_changeMode_164 (by decide +kernel) ?_
            refine lv_icmp_ne (tgt := 196) hx hb dX2_changeMode_165 (by decide) (fun c_9 => ?_) (fun c_9 => ?_)
            · skip
              exact J_4 P (by first | (simp only [if_neg c_5, if_pos c_6, if_neg c_7, if_neg c_8, if_neg c_9]; done) | rfl) _ _ hP hD hS _ (lv_sub hl [] rfl)
            · skip
              refine lv_iload hx hb dX2_changeMode_168 (lv_at hl 0 rfl) ?_
              refine lv_if_eq (tgt := 196) hx hb dX2_changeMode_170 (by decide) (fun c_10 => ?_) (fun c_10 => ?_)
              · skip
                exact J_4 P (by first | (simp only [if_neg c_5, if_pos c_6, if_neg c_7, if_neg c_8, if_pos c_9, if_pos c_10]; done) | rfl) _ _ hP hD hS _ (lv_sub hl [] rfl)
              · skip
                refine lv_aload_n hx hb dX2_changeMode_173 rfl (lv_at hl 1 rfl) ?_
                refine lv_aload_n hx hb dX2_changeMode_174 rfl (lv_at hl 1 rfl) ?_
                refine k_get hx hb hts hi2 hown hK hP 0 rfl rfl 12 (by decide) hf42 (.int (P 12)) rfl dX2_changeMode_175 ?_
                refine lv_aload_n hx hb dX2_changeMode_178 rfl (lv_at hl 1 rfl) ?_
                refine k_get hx hb hts hi2 hown hK hP 0 rfl rfl 0 (by decide) hf60 (.ref b0) rfl dX2_changeMode_179 ?_
                refine k_get hx hb hts hi5 hown hK hP 1 rfl rfl 4 (by decide) hf149 (.int (S 4)) rfl dX2_changeMode_182 ?_
                have J_12 : ∀ z_11 : Int32, z_11 = (if (S 4) ≤ (P 12) then 4 else 2) → ∀ (H : Heap) (locs : List Loc), va_P D vwCl [(h, oX2 b0 b1 P), (b0, oX5 S)] H → va_D A [(h, oX2 b0 b1 P), (b0, oX5 S)] → va_S A s.heap H locs → ∀ ls : Array Slot, lv_has ls 7 [] → W p l e (RM 1) s m ([.ref h, .int seen, .int taken, .int barred] : List Value).toArray below meth c H locs 0 0 Q (F0 m 193 ls [.int z_11, .ref h]) := by
                  intro z_11 ez_11 H locs hP hD hS ls hl
                  refine k_put hx hb hts hi2 tyX2_ok nmX2 hown hK hP hD hS 0 rfl rfl 2 (by decide) hf9 rfl (.int z_11) rfl rfl (Nat.le_of_ble_eq_true rfl) (ws' := [(h, oX2 b0 b1 (upd P 2 z_11)), (b0, oX5 S)]) rfl dX2_changeMode_193 (fun H locs hP hD hS => ?_)
                  exact J_4 (upd P 2 z_11) (by subst ez_11; first | (simp only [if_neg c_5, if_pos c_6, if_neg c_7, if_neg c_8, if_pos c_9, if_neg c_10]; done) | rfl) _ _ hP hD hS _ (lv_sub hl [] rfl)
                refine lv_icmp_ge (tgt := 192) hx hb dX2_changeMode_185 (by decide) (fun c_13 => ?_) (fun c_13 => ?_)
                · skip
                  refine lv_iconst (v := 4) hx hb dX2_changeMode_192 (by decide +kernel) ?_
                  exact J_12 4 (by first | (simp only [if_pos c_13]; done) | rfl) _ _ hP hD hS _ (lv_sub hl [] rfl)
                · skip
                  refine lv_iconst (v := 2) hx hb dX2_changeMode_188 (by decide +kernel) ?_
                  refine lv_goto (tgt := 193) hx hb dX2_changeMode_189 (by decide) ?_
                  exact J_12 2 (by first | (simp only [if_neg c_13]; done) | rfl) _ _ hP hD hS _ (lv_sub hl [] rfl)
          · skip
            refine lv_iload_n hx hb dX2_changeMode_140 rfl (lv_at hl 3 rfl) ?_
            refine lv_if_ne (tgt := 152) hx hb dX2_changeMode_141 (by decide) (fun c_14 => ?_) (fun c_14 => ?_)
            · skip
              refine lv_aload_n hx hb dX2_changeMode_152 rfl (lv_at hl 1 rfl) ?_
              refine lv_iconst (v := 3) hx hb dX2_changeMode_153 (by decide +kernel) ?_
              refine k_put hx hb hts hi2 tyX2_ok nmX2 hown hK hP hD hS 0 rfl rfl 2 (by decide) hf9 rfl (.int 3) rfl rfl (Nat.le_of_ble_eq_true rfl) (ws' := [(h, oX2 b0 b1 (upd P 2 3)), (b0, oX5 S)]) rfl dX2_changeMode_154 (fun H locs hP hD hS => ?_)
              refine lv_goto (tgt := 196) hx hb dX2_changeMode_157 (by decide) ?_
              exact J_4 (upd P 2 3) (by first | (simp only [if_neg c_5, if_pos c_6, if_neg c_7, if_pos c_8, if_neg c_14]; done) | rfl) _ _ hP hD hS _ (lv_sub hl [] rfl)
            · skip
              refine lv_aload_n hx hb dX2_changeMode_144 rfl (lv_at hl 1 rfl) ?_
              refine k_get hx hb hts hi2 hown hK hP 0 rfl rfl 3 (by decide) hf15 (.int (P 3)) rfl dX2_changeMode_145 ?_
              refine lv_iconst (v := 2) hx hb dX2_changeMode_148 (by decide +kernel) ?_
              refine lv_icmp_eq (tgt := 160) hx hb dX2_changeMode_149 (by decide) (fun c_15 => ?_) (fun c_15 => ?_)
              · skip
                refine lv_aload_n hx hb dX2_changeMode_160 rfl (lv_at hl 1 rfl) ?_
                refine k_get hx hb hts hi2 hown hK hP 0 rfl rfl 2 (by decide) hf9 (.int (P 2)) rfl dX2_changeMode_161 ?_
                refine lv_iconst (v := 3) hx hb dX2_changeMode_164 (by decide +kernel) ?_
                refine lv_icmp_ne (tgt := 196) hx hb dX2_changeMode_165 (by decide) (fun c_16 => ?_) (fun c_16 => ?_)
                · skip
                  exact J_4 P (by first | (simp only [if_neg c_5, if_pos c_6, if_neg c_7, if_pos c_8, if_pos c_14, if_pos c_15, if_neg c_16]; done) | rfl) _ _ hP hD hS _ (lv_sub hl [] rfl)
                · skip
                  refine lv_iload hx hb dX2_changeMode_168 (lv_at hl 0 rfl) ?_
                  refine lv_if_eq (tgt := 196) hx hb dX2_changeMode_170 (by decide) (fun c_17 => ?_) (fun c_17 => ?_)
                  · skip
                    exact J_4 P (by first | (simp only [if_neg c_5, if_pos c_6, if_neg c_7, if_pos c_8, if_pos c_14, if_pos c_15, if_pos c_16, if_pos c_17]; done) | rfl) _ _ hP hD hS _ (lv_sub hl [] rfl)
                  · skip
                    refine lv_aload_n hx hb dX2_changeMode_173 rfl (lv_at hl 1 rfl) ?_
                    refine lv_aload_n hx hb dX2_changeMode_174 rfl (lv_at hl 1 rfl) ?_
                    refine k_get hx hb hts hi2 hown hK hP 0 rfl rfl 12 (by decide) hf42 (.int (P 12)) rfl dX2_changeMode_175 ?_
                    refine lv_aload_n hx hb dX2_changeMode_178 rfl (lv_at hl 1 rfl) ?_
                    refine k_get hx hb hts hi2 hown hK hP 0 rfl rfl 0 (by decide) hf60 (.ref b0) rfl dX2_changeMode_179 ?_
                    refine k_get hx hb hts hi5 hown hK hP 1 rfl rfl 4 (by decide) hf149 (.int (S 4)) rfl dX2_changeMode_182 ?_
                    have J_19 : ∀ z_18 : Int32, z_18 = (if (S 4) ≤ (P 12) then 4 else 2) → ∀ (H : Heap) (locs : List Loc), va_P D vwCl [(h, oX2 b0 b1 P), (b0, oX5 S)] H → va_D A [(h, oX2 b0 b1 P), (b0, oX5 S)] → va_S A s.heap H locs → ∀ ls : Array Slot, lv_has ls 7 [] → W p l e (RM 1) s m ([.ref h, .int seen, .int taken, .int barred] : List Value).toArray below meth c H locs 0 0 Q (F0 m 193 ls [.int z_18, .ref h]) := by
                      intro z_18 ez_18 H locs hP hD hS ls hl
                      refine k_put hx hb hts hi2 tyX2_ok nmX2 hown hK hP hD hS 0 rfl rfl 2 (by decide) hf9 rfl (.int z_18) rfl rfl (Nat.le_of_ble_eq_true rfl) (ws' := [(h, oX2 b0 b1 (upd P 2 z_18)), (b0, oX5 S)]) rfl dX2_changeMode_193 (fun H locs hP hD hS => ?_)
                      exact J_4 (upd P 2 z_18) (by subst ez_18; first | (simp only [if_neg c_5, if_pos c_6, if_neg c_7, if_pos c_8, if_pos c_14, if_pos c_15, if_pos c_16, if_neg c_17]; done) | rfl) _ _ hP hD hS _ (lv_sub hl [] rfl)
                    refine lv_icmp_ge (tgt := 192) hx hb dX2_changeMode_185 (by decide) (fun c_20 => ?_) (fun c_20 => ?_)
                    · skip
                      refine lv_iconst (v := 4) hx hb dX2_changeMode_192 (by decide +kernel) ?_
                      exact J_19 4 (by first | (simp only [if_pos c_20]; done) | rfl) _ _ hP hD hS _ (lv_sub hl [] rfl)
                    · skip
                      refine lv_iconst (v := 2) hx hb dX2_changeMode_188 (by decide +kernel) ?_
                      refine lv_goto (tgt := 193) hx hb dX2_changeMode_189 (by decide) ?_
                      exact J_19 2 (by first | (simp only [if_neg c_20]; done) | rfl) _ _ hP hD hS _ (lv_sub hl [] rfl)
              · skip
                refine lv_aload_n hx hb dX2_changeMode_152 rfl (lv_at hl 1 rfl) ?_
                refine lv_iconst (v := 3) hx hb dX2_changeMode_153 (by decide +kernel) ?_
                refine k_put hx hb hts hi2 tyX2_ok nmX2 hown hK hP hD hS 0 rfl rfl 2 (by decide) hf9 rfl (.int 3) rfl rfl (Nat.le_of_ble_eq_true rfl) (ws' := [(h, oX2 b0 b1 (upd P 2 3)), (b0, oX5 S)]) rfl dX2_changeMode_154 (fun H locs hP hD hS => ?_)
                refine lv_goto (tgt := 196) hx hb dX2_changeMode_157 (by decide) ?_
                exact J_4 (upd P 2 3) (by first | (simp only [if_neg c_5, if_pos c_6, if_neg c_7, if_pos c_8, if_pos c_14, if_neg c_15]; done) | rfl) _ _ hP hD hS _ (lv_sub hl [] rfl)
        · skip
          refine lv_iload hx hb dX2_changeMode_119 (lv_at hl 0 rfl) ?_
          refine lv_if_eq (tgt := 132) hx hb dX2_changeMode_121 (by decide) (fun c_21 => ?_) (fun c_21 => ?_)
          · skip
            refine lv_aload_n hx hb dX2_changeMode_132 rfl (lv_at hl 1 rfl) ?_
            refine k_get hx hb hts hi2 hown hK hP 0 rfl rfl 2 (by decide) hf9 (.int (P 2)) rfl dX2_changeMode_133 ?_
            refine lv_iconst (v := 2) hx hb dX2_changeMode_136 (by decide +kernel) ?_
            refine lv_icmp_ne (tgt := 160) hx hb dX2_changeMode_137 (by decide) (fun c_22 => ?_) (fun c_22 => ?_)
            · skip
              refine lv_aload_n hx hb dX2_changeMode_160 rfl (lv_at hl 1 rfl) ?_
              refine k_get hx hb hts hi2 hown hK hP 0 rfl rfl 2 (by decide) hf9 (.int (P 2)) rfl dX2_changeMode_161 ?_
              refine lv_iconst (v := 3) hx hb dX2_changeMode_164 (by decide +kernel) ?_
              refine lv_icmp_ne (tgt := 196) hx hb dX2_changeMode_165 (by decide) (fun c_23 => ?_) (fun c_23 => ?_)
              · skip
                exact J_4 P (by first | (simp only [if_neg c_5, if_pos c_6, if_pos c_7, if_pos c_21, if_neg c_22, if_neg c_23]; done) | rfl) _ _ hP hD hS _ (lv_sub hl [] rfl)
              · skip
                refine lv_iload hx hb dX2_changeMode_168 (lv_at hl 0 rfl) ?_
                refine lv_if_eq (tgt := 196) hx hb dX2_changeMode_170 (by decide) (fun _ => ?_) (fun q => absurd c_21 q)
                exact J_4 P (by first | (simp only [if_neg c_5, if_pos c_6, if_pos c_7, if_pos c_21, if_neg c_22, if_pos c_23]; done) | rfl) _ _ hP hD hS _ (lv_sub hl [] rfl)
            · skip
              refine lv_iload_n hx hb dX2_changeMode_140 rfl (lv_at hl 3 rfl) ?_
              refine lv_if_ne (tgt := 152) hx hb dX2_changeMode_141 (by decide) (fun c_24 => ?_) (fun c_24 => ?_)
              · skip
                refine lv_aload_n hx hb dX2_changeMode_152 rfl (lv_at hl 1 rfl) ?_
                refine lv_iconst (v := 3) hx hb dX2_changeMode_153 (by decide +kernel) ?_
                refine k_put hx hb hts hi2 tyX2_ok nmX2 hown hK hP hD hS 0 rfl rfl 2 (by decide) hf9 rfl (.int 3) rfl rfl (Nat.le_of_ble_eq_true rfl) (ws' := [(h, oX2 b0 b1 (upd P 2 3)), (b0, oX5 S)]) rfl dX2_changeMode_154 (fun H locs hP hD hS => ?_)
                refine lv_goto (tgt := 196) hx hb dX2_changeMode_157 (by decide) ?_
                exact J_4 (upd P 2 3) (by first | (simp only [if_neg c_5, if_pos c_6, if_pos c_7, if_pos c_21, if_pos c_22, if_neg c_24]; done) | rfl) _ _ hP hD hS _ (lv_sub hl [] rfl)
              · skip
                refine lv_aload_n hx hb dX2_changeMode_144 rfl (lv_at hl 1 rfl) ?_
                refine k_get hx hb hts hi2 hown hK hP 0 rfl rfl 3 (by decide) hf15 (.int (P 3)) rfl dX2_changeMode_145 ?_
                refine lv_iconst (v := 2) hx hb dX2_changeMode_148 (by decide +kernel) ?_
                refine lv_icmp_eq (tgt := 160) hx hb dX2_changeMode_149 (by decide) (fun c_25 => ?_) (fun c_25 => ?_)
                · skip
                  refine lv_aload_n hx hb dX2_changeMode_160 rfl (lv_at hl 1 rfl) ?_
                  refine k_get hx hb hts hi2 hown hK hP 0 rfl rfl 2 (by decide) hf9 (.int (P 2)) rfl dX2_changeMode_161 ?_
                  refine lv_iconst (v := 3) hx hb dX2_changeMode_164 (by decide +kernel) ?_
                  refine lv_icmp_ne (tgt := 196) hx hb dX2_changeMode_165 (by decide) (fun c_26 => ?_) (fun c_26 => ?_)
                  · skip
                    exact J_4 P (by first | (simp only [if_neg c_5, if_pos c_6, if_pos c_7, if_pos c_21, if_pos c_22, if_pos c_24, if_pos c_25, if_neg c_26]; done) | rfl) _ _ hP hD hS _ (lv_sub hl [] rfl)
                  · skip
                    refine lv_iload hx hb dX2_changeMode_168 (lv_at hl 0 rfl) ?_
                    refine lv_if_eq (tgt := 196) hx hb dX2_changeMode_170 (by decide) (fun _ => ?_) (fun q => absurd c_21 q)
                    exact J_4 P (by first | (simp only [if_neg c_5, if_pos c_6, if_pos c_7, if_pos c_21, if_pos c_22, if_pos c_24, if_pos c_25, if_pos c_26]; done) | rfl) _ _ hP hD hS _ (lv_sub hl [] rfl)
                · skip
                  refine lv_aload_n hx hb dX2_changeMode_152 rfl (lv_at hl 1 rfl) ?_
                  refine lv_iconst (v := 3) hx hb dX2_changeMode_153 (by decide +kernel) ?_
                  refine k_put hx hb hts hi2 tyX2_ok nmX2 hown hK hP hD hS 0 rfl rfl 2 (by decide) hf9 rfl (.int 3) rfl rfl (Nat.le_of_ble_eq_true rfl) (ws' := [(h, oX2 b0 b1 (upd P 2 3)), (b0, oX5 S)]) rfl dX2_changeMode_154 (fun H locs hP hD hS => ?_)
                  refine lv_goto (tgt := 196) hx hb dX2_changeMode_157 (by decide) ?_
                  exact J_4 (upd P 2 3) (by first | (simp only [if_neg c_5, if_pos c_6, if_pos c_7, if_pos c_21, if_pos c_22, if_pos c_24, if_neg c_25]; done) | rfl) _ _ hP hD hS _ (lv_sub hl [] rfl)
          · skip
            refine lv_aload_n hx hb dX2_changeMode_124 rfl (lv_at hl 1 rfl) ?_
            refine lv_iconst (v := 2) hx hb dX2_changeMode_125 (by decide +kernel) ?_
            refine k_put hx hb hts hi2 tyX2_ok nmX2 hown hK hP hD hS 0 rfl rfl 2 (by decide) hf9 rfl (.int 2) rfl rfl (Nat.le_of_ble_eq_true rfl) (ws' := [(h, oX2 b0 b1 (upd P 2 2)), (b0, oX5 S)]) rfl dX2_changeMode_126 (fun H locs hP hD hS => ?_)
            refine lv_goto (tgt := 196) hx hb dX2_changeMode_129 (by decide) ?_
            exact J_4 (upd P 2 2) (by first | (simp only [if_neg c_5, if_pos c_6, if_pos c_7, if_neg c_21]; done) | rfl) _ _ hP hD hS _ (lv_sub hl [] rfl)
      · skip
        refine lv_aload_n hx hb dX2_changeMode_97 rfl (lv_at hl 1 rfl) ?_
        refine lv_iconst (v := 0) hx hb dX2_changeMode_98 (by decide +kernel) ?_
        refine k_put hx hb hts hi2 tyX2_ok nmX2 hown hK hP hD hS 0 rfl rfl 2 (by decide) hf9 rfl (.int 0) rfl rfl (Nat.le_of_ble_eq_true rfl) (ws' := [(h, oX2 b0 b1 (upd P 2 0)), (b0, oX5 S)]) rfl dX2_changeMode_99 (fun H locs hP hD hS => ?_)
        refine lv_aload_n hx hb dX2_changeMode_102 rfl (lv_at hl 1 rfl) ?_
        refine lv_iload hx hb dX2_changeMode_103 (lv_at hl 4 rfl) ?_
        refine lv_topi (fun z_27 ez_27 => ?_)
        refine k_put hx hb hts hi2 tyX2_ok nmX2 hown hK hP hD hS 0 rfl rfl 15 (by decide) hf51 rfl (.int z_27) rfl rfl (Nat.le_of_ble_eq_true rfl) (ws' := [(h, oX2 b0 b1 (upd (upd P 2 0) 15 z_27)), (b0, oX5 S)]) rfl dX2_changeMode_105 (fun H locs hP hD hS => ?_)
        refine lv_goto (tgt := 196) hx hb dX2_changeMode_108 (by decide) ?_
        exact J_4 (upd (upd P 2 0) 15 z_27) (by subst ez_27; first | (simp only [if_neg c_5, if_neg c_6]; done) | rfl) _ _ hP hD hS _ (lv_sub hl [] rfl)
    · skip
      refine lv_aload_n hx hb dX2_changeMode_28 rfl (lv_at hl 1 rfl) ?_
      refine k_get hx hb hts hi2 hown hK hP 0 rfl rfl 14 (by decide) hf48 (.int (P 14)) rfl dX2_changeMode_29 ?_
      refine lv_iconst (v := 1) hx hb dX2_changeMode_32 (by decide +kernel) ?_
      have J_29 : ∀ z_28 : Int32, z_28 = (if (P 14) = 1 then (if (sp_X8_bit seen 8) = 0 then 1 else 0) else 0) → ∀ (H : Heap) (locs : List Loc), va_P D vwCl [(h, oX2 b0 b1 P), (b0, oX5 S)] H → va_D A [(h, oX2 b0 b1 P), (b0, oX5 S)] → va_S A s.heap H locs → ∀ ls : Array Slot, lv_has ls 7 [(0, .ref h), (3, .int barred), (4, .int (sp_X2_leastCause P S))] → W p l e (RM 1) s m ([.ref h, .int seen, .int taken, .int barred] : List Value).toArray below meth c H locs 0 0 Q (F0 m 50 ls [.int z_28]) := by
        intro z_28 ez_28 H locs hP hD hS ls hl
        refine lv_istore (lv' := [(6, .int z_28), (0, .ref h), (3, .int barred), (4, .int (sp_X2_leastCause P S))]) hx hb dX2_changeMode_50 hl (by decide) rfl (fun ls hl => ?_)
        refine lv_iload hx hb dX2_changeMode_52 (lv_at hl 0 rfl) ?_
        have J_31 : ∀ z_30 : Nat → Int32, z_30 = (if z_28 = 0 then P else (if (sp_X2_leastCause P S) = 0 then (if (P 3) = 0 then (if barred = 0 then (let z_33 : Int32 := (if (P 12) = 0 then 1 else 3); (upd P 2 z_33)) else P) else P) else P)) → ∀ (H : Heap) (locs : List Loc), va_P D vwCl [(h, oX2 b0 b1 z_30), (b0, oX5 S)] H → va_D A [(h, oX2 b0 b1 z_30), (b0, oX5 S)] → va_S A s.heap H locs → ∀ ls : Array Slot, lv_has ls 7 [] → W p l e (RM 1) s m ([.ref h, .int seen, .int taken, .int barred] : List Value).toArray below meth c H locs 0 0 Q (F0 m 89 ls []) := by
          intro z_30 ez_30 H locs hP hD hS ls hl
          refine lv_goto (tgt := 196) hx hb dX2_changeMode_89 (by decide) ?_
          exact J_4 z_30 (by subst ez_30; subst ez_28; first | (simp only [if_pos c_5]; done) | rfl) _ _ hP hD hS _ (lv_sub hl [] rfl)
        refine lv_if_eq (tgt := 89) hx hb dX2_changeMode_54 (by decide) (fun c_32 => ?_) (fun c_32 => ?_)
        · skip
          exact J_31 P (by first | (simp only [if_pos c_32]; done) | rfl) _ _ hP hD hS _ (lv_sub hl [] rfl)
        · skip
          refine lv_iload hx hb dX2_changeMode_57 (lv_at hl 3 rfl) ?_
          refine lv_if_ne (tgt := 89) hx hb dX2_changeMode_59 (by decide) (fun c_33 => ?_) (fun c_33 => ?_)
          · skip
            exact J_31 P (by first | (simp only [if_neg c_32, if_neg c_33]; done) | rfl) _ _ hP hD hS _ (lv_sub hl [] rfl)
          · skip
            refine lv_aload_n hx hb dX2_changeMode_62 rfl (lv_at hl 1 rfl) ?_
            refine k_get hx hb hts hi2 hown hK hP 0 rfl rfl 3 (by decide) hf15 (.int (P 3)) rfl dX2_changeMode_63 ?_
            refine lv_if_ne (tgt := 89) hx hb dX2_changeMode_66 (by decide) (fun c_34 => ?_) (fun c_34 => ?_)
            · skip
              exact J_31 P (by first | (simp only [if_neg c_32, if_pos c_33, if_neg c_34]; done) | rfl) _ _ hP hD hS _ (lv_sub hl [] rfl)
            · skip
              refine lv_iload_n hx hb dX2_changeMode_69 rfl (lv_at hl 2 rfl) ?_
              refine lv_if_ne (tgt := 89) hx hb dX2_changeMode_70 (by decide) (fun c_35 => ?_) (fun c_35 => ?_)
              · skip
                exact J_31 P (by first | (simp only [if_neg c_32, if_pos c_33, if_pos c_34, if_neg c_35]; done) | rfl) _ _ hP hD hS _ (lv_sub hl [] rfl)
              · skip
                refine lv_aload_n hx hb dX2_changeMode_73 rfl (lv_at hl 1 rfl) ?_
                refine lv_aload_n hx hb dX2_changeMode_74 rfl (lv_at hl 1 rfl) ?_
                refine k_get hx hb hts hi2 hown hK hP 0 rfl rfl 12 (by decide) hf42 (.int (P 12)) rfl dX2_changeMode_75 ?_
                have J_37 : ∀ z_36 : Int32, z_36 = (if (P 12) = 0 then 1 else 3) → ∀ (H : Heap) (locs : List Loc), va_P D vwCl [(h, oX2 b0 b1 P), (b0, oX5 S)] H → va_D A [(h, oX2 b0 b1 P), (b0, oX5 S)] → va_S A s.heap H locs → ∀ ls : Array Slot, lv_has ls 7 [] → W p l e (RM 1) s m ([.ref h, .int seen, .int taken, .int barred] : List Value).toArray below meth c H locs 0 0 Q (F0 m 86 ls [.int z_36, .ref h]) := by
                  intro z_36 ez_36 H locs hP hD hS ls hl
                  refine k_put hx hb hts hi2 tyX2_ok nmX2 hown hK hP hD hS 0 rfl rfl 2 (by decide) hf9 rfl (.int z_36) rfl rfl (Nat.le_of_ble_eq_true rfl) (ws' := [(h, oX2 b0 b1 (upd P 2 z_36)), (b0, oX5 S)]) rfl dX2_changeMode_86 (fun H locs hP hD hS => ?_)
                  exact J_31 (upd P 2 z_36) (by subst ez_36; first | (simp only [if_neg c_32, if_pos c_33, if_pos c_34, if_pos c_35]; done) | rfl) _ _ hP hD hS _ (lv_sub hl [] rfl)
                refine lv_if_ne (tgt := 85) hx hb dX2_changeMode_78 (by decide) (fun c_38 => ?_) (fun c_38 => ?_)
                · skip
                  refine lv_iconst (v := 3) hx hb dX2_changeMode_85 (by decide +kernel) ?_
                  exact J_37 3 (by first | (simp only [if_neg c_38]; done) | rfl) _ _ hP hD hS _ (lv_sub hl [] rfl)
                · skip
                  refine lv_iconst (v := 1) hx hb dX2_changeMode_81 (by decide +kernel) ?_
                  refine lv_goto (tgt := 86) hx hb dX2_changeMode_82 (by decide) ?_
                  exact J_37 1 (by first | (simp only [if_pos c_38]; done) | rfl) _ _ hP hD hS _ (lv_sub hl [] rfl)
      refine lv_icmp_ne (tgt := 49) hx hb dX2_changeMode_33 (by decide) (fun c_39 => ?_) (fun c_39 => ?_)
      · skip
        refine lv_iconst (v := 0) hx hb dX2_changeMode_49 (by decide +kernel) ?_
        exact J_29 0 (by first | (simp only [if_neg c_39]; done) | rfl) _ _ hP hD hS _ (lv_sub hl [1, 3, 4] rfl)
      · skip
        refine lv_iload_n hx hb dX2_changeMode_36 rfl (lv_at hl 2 rfl) ?_
        refine lv_bipush (v := 8) hx hb dX2_changeMode_37 (by decide +kernel) ?_
        refine k_SNi ⟨hx, hb, hml, hown, hts⟩ (c_X8_bit l D cI cJ cO seen 8) (va_cnB 2 hts gX2_changeMode_X8_bit_n119 rfl rfl rfl (hN.1 3 _ rfl) (hts (.initialized RX8) (by decide +kernel)) (by decide +kernel) ⟨Nat.le_of_ble_eq_true rfl, Nat.le_of_ble_eq_true rfl⟩) (hts (.static yX8_bit) (by decide +kernel)) hK hN hP hD hS hA [] rfl rfl rfl (ws' := [(h, oX2 b0 b1 P), (b0, oX5 S)]) rfl rfl hl.1 rfl (Nat.le_of_ble_eq_true rfl) dX2_changeMode_39 ⟨Nat.le_refl _, Nat.le_refl _⟩ (fun H locs hP hD hS => ?_)
        refine lv_if_ne (tgt := 49) hx hb dX2_changeMode_42 (by decide) (fun c_40 => ?_) (fun c_40 => ?_)
        · skip
          refine lv_iconst (v := 0) hx hb dX2_changeMode_49 (by decide +kernel) ?_
          exact J_29 0 (by first | (simp only [if_pos c_39, if_neg c_40]; done) | rfl) _ _ hP hD hS _ (lv_sub hl [1, 3, 4] rfl)
        · skip
          refine lv_iconst (v := 1) hx hb dX2_changeMode_45 (by decide +kernel) ?_
          refine lv_goto (tgt := 50) hx hb dX2_changeMode_46 (by decide) ?_
          exact J_29 1 (by first | (simp only [if_pos c_39, if_pos c_40]; done) | rfl) _ _ hP hD hS _ (lv_sub hl [1, 3, 4] rfl)
  refine lv_if_eq (tgt := 18) hx hb dX2_changeMode_7 (by decide) (fun c_41 => ?_) (fun c_41 => ?_)
  · skip
    refine lv_iconst (v := 0) hx hb dX2_changeMode_18 (by decide +kernel) ?_
    exact J_2 0 (by first | (simp only [if_pos c_41]; done) | rfl) _ _ hP hD hS _ (lv_sub hl [1, 2, 4, 0] rfl)
  · skip
    refine lv_iload_n hx hb dX2_changeMode_10 rfl (lv_at hl 4 rfl) ?_
    refine lv_if_ne (tgt := 18) hx hb dX2_changeMode_11 (by decide) (fun c_42 => ?_) (fun c_42 => ?_)
    · skip
      refine lv_iconst (v := 0) hx hb dX2_changeMode_18 (by decide +kernel) ?_
      exact J_2 0 (by first | (simp only [if_neg c_41, if_neg c_42]; done) | rfl) _ _ hP hD hS _ (lv_sub hl [1, 2, 4, 0] rfl)
    · skip
      refine lv_iconst (v := 1) hx hb dX2_changeMode_14 (by decide +kernel) ?_
      refine lv_goto (tgt := 19) hx hb dX2_changeMode_15 (by decide) ?_
      exact J_2 1 (by first | (simp only [if_neg c_41, if_pos c_42]; done) | rfl) _ _ hP hD hS _ (lv_sub hl [1, 2, 4, 0] rfl)

def sp_X2_arriveAtTop (P : Nat → Int32) : (Nat → Int32) :=
  let z_1 : Int32 := ((P 17) + 1)
  let z_2 : Nat → Int32 := (if (P 2) = 4 then (upd (upd (upd (upd P 2 1) 12 0) 13 0) 17 z_1) else (if (P 2) = 3 then (upd (upd (upd (upd P 2 1) 12 0) 13 0) 17 z_1) else (upd (upd (upd P 12 0) 13 0) 17 z_1)))
  z_2
set_option maxRecDepth 100000 in
theorem sq_X2_arriveAtTop_1 (P : Nat → Int32) (z_1 : Int32) (z_2 : Nat → Int32) (ez_1 : z_1 = ((P 17) + 1)) (ez_2 : z_2 = (if (P 2) = 4 then (upd (upd (upd (upd P 2 1) 12 0) 13 0) 17 z_1) else (if (P 2) = 3 then (upd (upd (upd (upd P 2 1) 12 0) 13 0) 17 z_1) else (upd (upd (upd P 12 0) 13 0) 17 z_1)))) : sp_X2_arriveAtTop P = z_2 := by subst ez_2; subst ez_1; rfl
set_option maxHeartbeats 4000000 in
set_option maxRecDepth 100000 in
theorem c_X2_arriveAtTop (l : Launch) (D : va_G) (cI cJ cO : ClassId) (h : Nat) (b0 : Nat) (b1 : Nat) (P : Nat → Int32)  : MV l D (TY cI cJ cO) yX2_arriveAtTop wsX2_arriveAtTop (RM 0) [.ref h] [(h, oX2 b0 b1 P)] [(h, oX2 b0 b1 (sp_X2_arriveAtTop P))] := by
  refine k_entV (cc := cX2_arriveAtTop) (maxL := 1) (lv := [(0, .ref h)]) (by decide +kernel) rfl (Nat.le_of_ble_eq_true rfl) rfl ?_
  intro p e s m below meth c A Q ls hx hb hml hts hown hA hS hP hD hK hN hl hret
  have hown : s.vm.findClass RX2 = some m.cls := hown
  have hi2 : ∀ w ∈ wsX20, w ∈ wsX2_arriveAtTop := fun w h => List.mem_cons_of_mem _ (List.mem_append_right _ h)
  have hf9 := hts (.fieldLink RX2 9 "PressGuard$Press" "mode" "I") (by decide +kernel)
  have hf42 := hts (.fieldLink RX2 42 "PressGuard$Press" "position" "I") (by decide +kernel)
  have hf45 := hts (.fieldLink RX2 45 "PressGuard$Press" "brake" "I") (by decide +kernel)
  have hf57 := hts (.fieldLink RX2 57 "PressGuard$Press" "rounds" "I") (by decide +kernel)
  refine lv_aload_n hx hb dX2_arriveAtTop_0 rfl (lv_at hl 0 rfl) ?_
  refine lv_iconst (v := 0) hx hb dX2_arriveAtTop_1 (by decide +kernel) ?_
  refine k_put hx hb hts hi2 tyX2_ok nmX2 hown hK hP hD hS 0 rfl rfl 12 (by decide) hf42 rfl (.int 0) rfl rfl (Nat.le_of_ble_eq_true rfl) (ws' := [(h, oX2 b0 b1 (upd P 12 0))]) rfl dX2_arriveAtTop_2 (fun H locs hP hD hS => ?_)
  refine lv_aload_n hx hb dX2_arriveAtTop_5 rfl (lv_at hl 0 rfl) ?_
  refine lv_iconst (v := 0) hx hb dX2_arriveAtTop_6 (by decide +kernel) ?_
  refine k_put hx hb hts hi2 tyX2_ok nmX2 hown hK hP hD hS 0 rfl rfl 13 (by decide) hf45 rfl (.int 0) rfl rfl (Nat.le_of_ble_eq_true rfl) (ws' := [(h, oX2 b0 b1 (upd (upd P 12 0) 13 0))]) rfl dX2_arriveAtTop_7 (fun H locs hP hD hS => ?_)
  refine lv_aload_n hx hb dX2_arriveAtTop_10 rfl (lv_at hl 0 rfl) ?_
  refine lv_dup hx hb dX2_arriveAtTop_11 rfl ?_
  refine k_get hx hb hts hi2 hown hK hP 0 rfl rfl 17 (by decide) hf57 (.int (P 17)) rfl dX2_arriveAtTop_12 ?_
  refine lv_iconst (v := 1) hx hb dX2_arriveAtTop_15 (by decide +kernel) ?_
  refine lv_iadd hx hb dX2_arriveAtTop_16 ?_
  refine lv_topi (fun z_1 ez_1 => ?_)
  refine k_put hx hb hts hi2 tyX2_ok nmX2 hown hK hP hD hS 0 rfl rfl 17 (by decide) hf57 rfl (.int z_1) rfl rfl (Nat.le_of_ble_eq_true rfl) (ws' := [(h, oX2 b0 b1 (upd (upd (upd P 12 0) 13 0) 17 z_1))]) rfl dX2_arriveAtTop_17 (fun H locs hP hD hS => ?_)
  refine lv_aload_n hx hb dX2_arriveAtTop_20 rfl (lv_at hl 0 rfl) ?_
  refine k_get hx hb hts hi2 hown hK hP 0 rfl rfl 2 (by decide) hf9 (.int (P 2)) rfl dX2_arriveAtTop_21 ?_
  refine lv_iconst (v := 4) hx hb dX2_arriveAtTop_24 (by decide +kernel) ?_
  have J_3 : ∀ z_2 : Nat → Int32, z_2 = (if (P 2) = 4 then (upd (upd (upd (upd P 2 1) 12 0) 13 0) 17 z_1) else (if (P 2) = 3 then (upd (upd (upd (upd P 2 1) 12 0) 13 0) 17 z_1) else (upd (upd (upd P 12 0) 13 0) 17 z_1))) → ∀ (H : Heap) (locs : List Loc), va_P D vwCl [(h, oX2 b0 b1 z_2)] H → va_D A [(h, oX2 b0 b1 z_2)] → va_S A s.heap H locs → ∀ ls : Array Slot, lv_has ls 1 [] → W p l e (RM 0) s m ([.ref h] : List Value).toArray below meth c H locs 0 0 Q (F0 m 41 ls []) := by
    intro z_2 ez_2 H locs hP hD hS ls hl
    have hsp : sp_X2_arriveAtTop P = z_2 := sq_X2_arriveAtTop_1 P z_1 z_2 ez_1 ez_2
    exact hret _ _ _ _ (by rw [hsp]; exact hP) hS dX2_arriveAtTop_41
  refine lv_icmp_eq (tgt := 36) hx hb dX2_arriveAtTop_25 (by decide) (fun c_4 => ?_) (fun c_4 => ?_)
  · skip
    refine lv_aload_n hx hb dX2_arriveAtTop_36 rfl (lv_at hl 0 rfl) ?_
    refine lv_iconst (v := 1) hx hb dX2_arriveAtTop_37 (by decide +kernel) ?_
    refine k_put hx hb hts hi2 tyX2_ok nmX2 hown hK hP hD hS 0 rfl rfl 2 (by decide) hf9 rfl (.int 1) rfl rfl (Nat.le_of_ble_eq_true rfl) (ws' := [(h, oX2 b0 b1 (upd (upd (upd (upd P 2 1) 12 0) 13 0) 17 z_1))]) rfl dX2_arriveAtTop_38 (fun H locs hP hD hS => ?_)
    exact J_3 (upd (upd (upd (upd P 2 1) 12 0) 13 0) 17 z_1) (by first | (simp only [if_pos c_4]; done) | rfl) _ _ hP hD hS _ (lv_sub hl [] rfl)
  · skip
    refine lv_aload_n hx hb dX2_arriveAtTop_28 rfl (lv_at hl 0 rfl) ?_
    refine k_get hx hb hts hi2 hown hK hP 0 rfl rfl 2 (by decide) hf9 (.int (P 2)) rfl dX2_arriveAtTop_29 ?_
    refine lv_iconst (v := 3) hx hb dX2_arriveAtTop_32 (by decide +kernel) ?_
    refine lv_icmp_ne (tgt := 41) hx hb dX2_arriveAtTop_33 (by decide) (fun c_5 => ?_) (fun c_5 => ?_)
    · skip
      exact J_3 (upd (upd (upd P 12 0) 13 0) 17 z_1) (by first | (simp only [if_neg c_4, if_neg c_5]; done) | rfl) _ _ hP hD hS _ (lv_sub hl [] rfl)
    · skip
      refine lv_aload_n hx hb dX2_arriveAtTop_36 rfl (lv_at hl 0 rfl) ?_
      refine lv_iconst (v := 1) hx hb dX2_arriveAtTop_37 (by decide +kernel) ?_
      refine k_put hx hb hts hi2 tyX2_ok nmX2 hown hK hP hD hS 0 rfl rfl 2 (by decide) hf9 rfl (.int 1) rfl rfl (Nat.le_of_ble_eq_true rfl) (ws' := [(h, oX2 b0 b1 (upd (upd (upd (upd P 2 1) 12 0) 13 0) 17 z_1))]) rfl dX2_arriveAtTop_38 (fun H locs hP hD hS => ?_)
      exact J_3 (upd (upd (upd (upd P 2 1) 12 0) 13 0) 17 z_1) (by first | (simp only [if_neg c_4, if_pos c_5]; done) | rfl) _ _ hP hD hS _ (lv_sub hl [] rfl)

def sp_X2_moveSlide (P : Nat → Int32) (S : Nat → Int32) (F : Nat → Int32) (told : Int32) : (Nat → Int32) :=
  (if (sp_X0_bothOpen F (P 11)) = 0 then
    (if (P 13) ≤ 0 then
      P
    else
      let z_3 : Int32 := ((P 13) - 1)
      let z_4 : Nat → Int32 := (if (S 4) ≤ (P 12) then (upd P 13 z_3) else (if (sp_X8_pairCount told 4) = 2 then (upd P 13 z_3) else (if (sp_X2_isMuted (upd P 13 z_3)) = 0 then (let z_6 : Int32 := ((P 16) + 1); (upd (upd P 13 z_3) 16 z_6)) else (upd P 13 z_3))))
      let z_6 : Int32 := ((z_4 12) + 1)
      let z_7 : Nat → Int32 := (if z_6 = (S 4) then (if (z_4 2) = 2 then (upd (upd z_4 2 4) 12 z_6) else (upd z_4 12 z_6)) else (upd z_4 12 z_6))
      let z_9 : Nat → Int32 := (if (z_7 12) < (2 * (S 4)) then z_7 else (let P_9 : Nat → Int32 := (sp_X2_arriveAtTop z_7); P_9))
      z_9)
  else
    let z_19 : Nat → Int32 := (if (S 4) ≤ (P 12) then (upd P 13 (S 3)) else (if (sp_X8_pairCount told 4) = 2 then (upd P 13 (S 3)) else (if (sp_X2_isMuted (upd P 13 (S 3))) = 0 then (let z_21 : Int32 := ((P 16) + 1); (upd (upd P 13 (S 3)) 16 z_21)) else (upd P 13 (S 3)))))
    let z_21 : Int32 := ((z_19 12) + 1)
    let z_22 : Nat → Int32 := (if z_21 = (S 4) then (if (z_19 2) = 2 then (upd (upd z_19 2 4) 12 z_21) else (upd z_19 12 z_21)) else (upd z_19 12 z_21))
    let z_24 : Nat → Int32 := (if (z_22 12) < (2 * (S 4)) then z_22 else (let P_24 : Nat → Int32 := (sp_X2_arriveAtTop z_22); P_24))
    z_24)
set_option maxRecDepth 100000 in
theorem sq_X2_moveSlide_1 (P : Nat → Int32) (S : Nat → Int32) (F : Nat → Int32) (told : Int32) (z_3 : Int32) (z_4 : Nat → Int32) (z_6 : Int32) (z_7 : Nat → Int32) (z_9 : Nat → Int32) (ez_3 : z_3 = ((P 13) - 1)) (ez_4 : z_4 = (if (S 4) ≤ (P 12) then (upd P 13 z_3) else (if (sp_X8_pairCount told 4) = 2 then (upd P 13 z_3) else (if (sp_X2_isMuted (upd P 13 z_3)) = 0 then (let z_6 : Int32 := ((P 16) + 1); (upd (upd P 13 z_3) 16 z_6)) else (upd P 13 z_3))))) (ez_6 : z_6 = ((z_4 12) + 1)) (ez_7 : z_7 = (if z_6 = (S 4) then (if (z_4 2) = 2 then (upd (upd z_4 2 4) 12 z_6) else (upd z_4 12 z_6)) else (upd z_4 12 z_6))) (ez_9 : z_9 = (if (z_7 12) < (2 * (S 4)) then z_7 else (let P_9 : Nat → Int32 := (sp_X2_arriveAtTop z_7); P_9))) (c_1 : (sp_X0_bothOpen F (P 11)) = 0) (c_2 : ¬ ((P 13) ≤ 0)) : sp_X2_moveSlide P S F told = z_9 := by subst ez_9; subst ez_7; subst ez_6; subst ez_4; subst ez_3; simp only [sp_X2_moveSlide, if_pos c_1, if_neg c_2]
set_option maxRecDepth 100000 in
theorem sq_X2_moveSlide_2 (P : Nat → Int32) (S : Nat → Int32) (F : Nat → Int32) (told : Int32) (z_19 : Nat → Int32) (z_21 : Int32) (z_22 : Nat → Int32) (z_24 : Nat → Int32) (ez_19 : z_19 = (if (S 4) ≤ (P 12) then (upd P 13 (S 3)) else (if (sp_X8_pairCount told 4) = 2 then (upd P 13 (S 3)) else (if (sp_X2_isMuted (upd P 13 (S 3))) = 0 then (let z_21 : Int32 := ((P 16) + 1); (upd (upd P 13 (S 3)) 16 z_21)) else (upd P 13 (S 3)))))) (ez_21 : z_21 = ((z_19 12) + 1)) (ez_22 : z_22 = (if z_21 = (S 4) then (if (z_19 2) = 2 then (upd (upd z_19 2 4) 12 z_21) else (upd z_19 12 z_21)) else (upd z_19 12 z_21))) (ez_24 : z_24 = (if (z_22 12) < (2 * (S 4)) then z_22 else (let P_24 : Nat → Int32 := (sp_X2_arriveAtTop z_22); P_24))) (c_1 : ¬ ((sp_X0_bothOpen F (P 11)) = 0)) : sp_X2_moveSlide P S F told = z_24 := by subst ez_24; subst ez_22; subst ez_21; subst ez_19; simp only [sp_X2_moveSlide, if_neg c_1]
set_option maxHeartbeats 4000000 in
set_option maxRecDepth 100000 in
theorem c_X2_moveSlide (l : Launch) (D : va_G) (cI cJ cO : ClassId) (h : Nat) (b0 : Nat) (b1 : Nat) (P : Nat → Int32) (S : Nat → Int32) (F : Nat → Int32) (told : Int32)  : MV l D (TY cI cJ cO) yX2_moveSlide wsX2_moveSlide (RM 2) [.ref h, .int told] [(h, oX2 b0 b1 P), (b0, oX5 S), (b1, oX0 F)] [(h, oX2 b0 b1 (sp_X2_moveSlide P S F told)), (b0, oX5 S), (b1, oX0 F)] := by
  refine k_entV (cc := cX2_moveSlide) (maxL := 2) (lv := [(0, .ref h), (1, .int told)]) (by decide +kernel) rfl (Nat.le_of_ble_eq_true rfl) rfl ?_
  intro p e s m below meth c A Q ls hx hb hml hts hown hA hS hP hD hK hN hl hret
  have hown : s.vm.findClass RX2 = some m.cls := hown
  have hi2 : ∀ w ∈ wsX20, w ∈ wsX2_moveSlide := fun w h => List.mem_cons_of_mem _ (List.mem_append_left _ (List.mem_append_left _ (List.mem_append_right _ h)))
  have hi5 : ∀ w ∈ wsX50, w ∈ wsX2_moveSlide := fun w h => List.mem_cons_of_mem _ (List.mem_append_left _ (List.mem_append_right _ h))
  have hf9 := hts (.fieldLink RX2 9 "PressGuard$Press" "mode" "I") (by decide +kernel)
  have hf39 := hts (.fieldLink RX2 39 "PressGuard$Press" "command" "I") (by decide +kernel)
  have hf42 := hts (.fieldLink RX2 42 "PressGuard$Press" "position" "I") (by decide +kernel)
  have hf45 := hts (.fieldLink RX2 45 "PressGuard$Press" "brake" "I") (by decide +kernel)
  have hf54 := hts (.fieldLink RX2 54 "PressGuard$Press" "dangers" "I") (by decide +kernel)
  have hf60 := hts (.fieldLink RX2 60 "PressGuard$Press" "settings" "LPressGuard$Settings;") (by decide +kernel)
  have hf64 := hts (.fieldLink RX2 64 "PressGuard$Press" "faults" "LPressGuard$Faults;") (by decide +kernel)
  have hf149 := hts (.fieldLink RX2 149 "PressGuard$Settings" "bottom" "I") (by decide +kernel)
  have hf155 := hts (.fieldLink RX2 155 "PressGuard$Settings" "overrun" "I") (by decide +kernel)
  refine lv_aload_n hx hb dX2_moveSlide_0 rfl (lv_at hl 0 rfl) ?_
  refine k_get hx hb hts hi2 hown hK hP 0 rfl rfl 1 (by decide) hf64 (.ref b1) rfl dX2_moveSlide_1 ?_
  refine lv_aload_n hx hb dX2_moveSlide_4 rfl (lv_at hl 0 rfl) ?_
  refine k_get hx hb hts hi2 hown hK hP 0 rfl rfl 11 (by decide) hf39 (.int (P 11)) rfl dX2_moveSlide_5 ?_
  refine k_Vi ⟨hx, hb, hml, hown, hts⟩ (c_X0_bothOpen l D cI cJ cO b1 F (P 11)) (ci := 0) (q0 := 2) rfl rfl (cwV 1 hts gX2_moveSlide_X0_bothOpen rfl rfl rfl (by decide +kernel) ⟨Nat.le_of_ble_eq_true rfl, Nat.le_of_ble_eq_true rfl⟩) hK hN hP hD hS hA [2] rfl rfl rfl (ws' := [(h, oX2 b0 b1 P), (b0, oX5 S), (b1, oX0 F)]) rfl rfl hl.1 rfl (Nat.le_of_ble_eq_true rfl) dX2_moveSlide_8 ⟨Nat.le_refl _, Nat.le_refl _⟩ (fun H locs hP hD hS => ?_)
  refine lv_if_eq (tgt := 28) hx hb dX2_moveSlide_11 (by decide) (fun c_1 => ?_) (fun c_1 => ?_)
  · skip
    refine lv_aload_n hx hb dX2_moveSlide_28 rfl (lv_at hl 0 rfl) ?_
    refine k_get hx hb hts hi2 hown hK hP 0 rfl rfl 13 (by decide) hf45 (.int (P 13)) rfl dX2_moveSlide_29 ?_
    refine lv_if_le (tgt := 48) hx hb dX2_moveSlide_32 (by decide) (fun c_2 => ?_) (fun c_2 => ?_)
    · skip
      have hsp : sp_X2_moveSlide P S F told = P := by simp only [sp_X2_moveSlide, if_pos c_1, if_pos c_2]
      exact hret _ _ _ _ (by rw [hsp]; exact hP) hS dX2_moveSlide_48
    · skip
      refine lv_aload_n hx hb dX2_moveSlide_35 rfl (lv_at hl 0 rfl) ?_
      refine lv_dup hx hb dX2_moveSlide_36 rfl ?_
      refine k_get hx hb hts hi2 hown hK hP 0 rfl rfl 13 (by decide) hf45 (.int (P 13)) rfl dX2_moveSlide_37 ?_
      refine lv_iconst (v := 1) hx hb dX2_moveSlide_40 (by decide +kernel) ?_
      refine lv_isub hx hb dX2_moveSlide_41 ?_
      refine lv_topi (fun z_3 ez_3 => ?_)
      refine k_put hx hb hts hi2 tyX2_ok nmX2 hown hK hP hD hS 0 rfl rfl 13 (by decide) hf45 rfl (.int z_3) rfl rfl (Nat.le_of_ble_eq_true rfl) (ws' := [(h, oX2 b0 b1 (upd P 13 z_3)), (b0, oX5 S), (b1, oX0 F)]) rfl dX2_moveSlide_42 (fun H locs hP hD hS => ?_)
      refine lv_goto (tgt := 49) hx hb dX2_moveSlide_45 (by decide) ?_
      refine lv_aload_n hx hb dX2_moveSlide_49 rfl (lv_at hl 0 rfl) ?_
      refine k_get hx hb hts hi2 hown hK hP 0 rfl rfl 12 (by decide) hf42 (.int (P 12)) rfl dX2_moveSlide_50 ?_
      refine lv_aload_n hx hb dX2_moveSlide_53 rfl (lv_at hl 0 rfl) ?_
      refine k_get hx hb hts hi2 hown hK hP 0 rfl rfl 0 (by decide) hf60 (.ref b0) rfl dX2_moveSlide_54 ?_
      refine k_get hx hb hts hi5 hown hK hP 1 rfl rfl 4 (by decide) hf149 (.int (S 4)) rfl dX2_moveSlide_57 ?_
      have J_5 : ∀ z_4 : Nat → Int32, z_4 = (if (S 4) ≤ (P 12) then (upd P 13 z_3) else (if (sp_X8_pairCount told 4) = 2 then (upd P 13 z_3) else (if (sp_X2_isMuted (upd P 13 z_3)) = 0 then (let z_6 : Int32 := ((P 16) + 1); (upd (upd P 13 z_3) 16 z_6)) else (upd P 13 z_3)))) → ∀ (H : Heap) (locs : List Loc), va_P D vwCl [(h, oX2 b0 b1 z_4), (b0, oX5 S), (b1, oX0 F)] H → va_D A [(h, oX2 b0 b1 z_4), (b0, oX5 S), (b1, oX0 F)] → va_S A s.heap H locs → ∀ ls : Array Slot, lv_has ls 2 [(0, .ref h)] → W p l e (RM 2) s m ([.ref h, .int told] : List Value).toArray below meth c H locs 0 0 Q (F0 m 89 ls []) := by
        intro z_4 ez_4 H locs hP hD hS ls hl
        refine lv_aload_n hx hb dX2_moveSlide_89 rfl (lv_at hl 0 rfl) ?_
        refine lv_dup hx hb dX2_moveSlide_90 rfl ?_
        refine k_get hx hb hts hi2 hown hK hP 0 rfl rfl 12 (by decide) hf42 (.int (z_4 12)) rfl dX2_moveSlide_91 ?_
        refine lv_iconst (v := 1) hx hb dX2_moveSlide_94 (by decide +kernel) ?_
        refine lv_iadd hx hb dX2_moveSlide_95 ?_
        refine lv_topi (fun z_6 ez_6 => ?_)
        refine k_put hx hb hts hi2 tyX2_ok nmX2 hown hK hP hD hS 0 rfl rfl 12 (by decide) hf42 rfl (.int z_6) rfl rfl (Nat.le_of_ble_eq_true rfl) (ws' := [(h, oX2 b0 b1 (upd z_4 12 z_6)), (b0, oX5 S), (b1, oX0 F)]) rfl dX2_moveSlide_96 (fun H locs hP hD hS => ?_)
        refine lv_aload_n hx hb dX2_moveSlide_99 rfl (lv_at hl 0 rfl) ?_
        refine k_get hx hb hts hi2 hown hK hP 0 rfl rfl 12 (by decide) hf42 (.int z_6) rfl dX2_moveSlide_100 ?_
        refine lv_aload_n hx hb dX2_moveSlide_103 rfl (lv_at hl 0 rfl) ?_
        refine k_get hx hb hts hi2 hown hK hP 0 rfl rfl 0 (by decide) hf60 (.ref b0) rfl dX2_moveSlide_104 ?_
        refine k_get hx hb hts hi5 hown hK hP 1 rfl rfl 4 (by decide) hf149 (.int (S 4)) rfl dX2_moveSlide_107 ?_
        have J_8 : ∀ z_7 : Nat → Int32, z_7 = (if z_6 = (S 4) then (if (z_4 2) = 2 then (upd (upd z_4 2 4) 12 z_6) else (upd z_4 12 z_6)) else (upd z_4 12 z_6)) → ∀ (H : Heap) (locs : List Loc), va_P D vwCl [(h, oX2 b0 b1 z_7), (b0, oX5 S), (b1, oX0 F)] H → va_D A [(h, oX2 b0 b1 z_7), (b0, oX5 S), (b1, oX0 F)] → va_S A s.heap H locs → ∀ ls : Array Slot, lv_has ls 2 [(0, .ref h)] → W p l e (RM 2) s m ([.ref h, .int told] : List Value).toArray below meth c H locs 0 0 Q (F0 m 126 ls []) := by
          intro z_7 ez_7 H locs hP hD hS ls hl
          refine lv_aload_n hx hb dX2_moveSlide_126 rfl (lv_at hl 0 rfl) ?_
          refine k_get hx hb hts hi2 hown hK hP 0 rfl rfl 12 (by decide) hf42 (.int (z_7 12)) rfl dX2_moveSlide_127 ?_
          refine lv_iconst (v := 2) hx hb dX2_moveSlide_130 (by decide +kernel) ?_
          refine lv_aload_n hx hb dX2_moveSlide_131 rfl (lv_at hl 0 rfl) ?_
          refine k_get hx hb hts hi2 hown hK hP 0 rfl rfl 0 (by decide) hf60 (.ref b0) rfl dX2_moveSlide_132 ?_
          refine k_get hx hb hts hi5 hown hK hP 1 rfl rfl 4 (by decide) hf149 (.int (S 4)) rfl dX2_moveSlide_135 ?_
          refine lv_imul hx hb dX2_moveSlide_138 ?_
          have J_10 : ∀ z_9 : Nat → Int32, z_9 = (if (z_7 12) < (2 * (S 4)) then z_7 else (let P_9 : Nat → Int32 := (sp_X2_arriveAtTop z_7); P_9)) → ∀ (H : Heap) (locs : List Loc), va_P D vwCl [(h, oX2 b0 b1 z_9), (b0, oX5 S), (b1, oX0 F)] H → va_D A [(h, oX2 b0 b1 z_9), (b0, oX5 S), (b1, oX0 F)] → va_S A s.heap H locs → ∀ ls : Array Slot, lv_has ls 2 [] → W p l e (RM 2) s m ([.ref h, .int told] : List Value).toArray below meth c H locs 0 0 Q (F0 m 146 ls []) := by
            intro z_9 ez_9 H locs hP hD hS ls hl
            have hsp : sp_X2_moveSlide P S F told = z_9 := sq_X2_moveSlide_1 P S F told z_3 z_4 z_6 z_7 z_9 ez_3 ez_4 ez_6 ez_7 ez_9 c_1 c_2
            exact hret _ _ _ _ (by rw [hsp]; exact hP) hS dX2_moveSlide_146
          refine lv_icmp_lt (tgt := 146) hx hb dX2_moveSlide_139 (by decide) (fun c_11 => ?_) (fun c_11 => ?_)
          · skip
            exact J_10 z_7 (by first | (simp only [if_pos c_11]; done) | rfl) _ _ hP hD hS _ (lv_sub hl [] rfl)
          · skip
            refine lv_aload_n hx hb dX2_moveSlide_142 rfl (lv_at hl 0 rfl) ?_
            obtain ⟨P_12, eP_12⟩ : ∃ q : Nat → Int32, q = (sp_X2_arriveAtTop z_7) := ⟨_, rfl⟩
            refine k_Vv ⟨hx, hb, hml, hown, hts⟩ (c_X2_arriveAtTop l D cI cJ cO h b0 b1 z_7) (ci := 2) (q0 := 0) rfl rfl (cwV 0 hts gX2_moveSlide_X2_arriveAtTop rfl rfl rfl (by decide +kernel) ⟨Nat.le_of_ble_eq_true rfl, Nat.le_of_ble_eq_true rfl⟩) hK hN hP hD hS hA [0] rfl rfl rfl (ws' := [(h, oX2 b0 b1 P_12), (b0, oX5 S), (b1, oX0 F)]) (by rw [eP_12]; rfl) rfl hl.1 rfl (Nat.le_of_ble_eq_true rfl) dX2_moveSlide_143 ⟨Nat.le_refl _, Nat.le_refl _⟩ (fun H locs hP hD hS => ?_)
            exact J_10 P_12 (by subst eP_12; first | (simp only [if_neg c_11]; done) | rfl) _ _ hP hD hS _ (lv_sub hl [] rfl)
        refine lv_icmp_ne (tgt := 126) hx hb dX2_moveSlide_110 (by decide) (fun c_13 => ?_) (fun c_13 => ?_)
        · skip
          exact J_8 (upd z_4 12 z_6) (by first | (simp only [if_neg c_13]; done) | rfl) _ _ hP hD hS _ (lv_sub hl [0] rfl)
        · skip
          refine lv_aload_n hx hb dX2_moveSlide_113 rfl (lv_at hl 0 rfl) ?_
          refine k_get hx hb hts hi2 hown hK hP 0 rfl rfl 2 (by decide) hf9 (.int (z_4 2)) rfl dX2_moveSlide_114 ?_
          refine lv_iconst (v := 2) hx hb dX2_moveSlide_117 (by decide +kernel) ?_
          refine lv_icmp_ne (tgt := 126) hx hb dX2_moveSlide_118 (by decide) (fun c_14 => ?_) (fun c_14 => ?_)
          · skip
            exact J_8 (upd z_4 12 z_6) (by first | (simp only [if_pos c_13, if_neg c_14]; done) | rfl) _ _ hP hD hS _ (lv_sub hl [0] rfl)
          · skip
            refine lv_aload_n hx hb dX2_moveSlide_121 rfl (lv_at hl 0 rfl) ?_
            refine lv_iconst (v := 4) hx hb dX2_moveSlide_122 (by decide +kernel) ?_
            refine k_put hx hb hts hi2 tyX2_ok nmX2 hown hK hP hD hS 0 rfl rfl 2 (by decide) hf9 rfl (.int 4) rfl rfl (Nat.le_of_ble_eq_true rfl) (ws' := [(h, oX2 b0 b1 (upd (upd z_4 2 4) 12 z_6)), (b0, oX5 S), (b1, oX0 F)]) rfl dX2_moveSlide_123 (fun H locs hP hD hS => ?_)
            exact J_8 (upd (upd z_4 2 4) 12 z_6) (by first | (simp only [if_pos c_13, if_pos c_14]; done) | rfl) _ _ hP hD hS _ (lv_sub hl [0] rfl)
      refine lv_icmp_ge (tgt := 89) hx hb dX2_moveSlide_60 (by decide) (fun c_15 => ?_) (fun c_15 => ?_)
      · skip
        exact J_5 (upd P 13 z_3) (by first | (simp only [if_pos c_15]; done) | rfl) _ _ hP hD hS _ (lv_sub hl [0] rfl)
      · skip
        refine lv_iload_n hx hb dX2_moveSlide_63 rfl (lv_at hl 1 rfl) ?_
        refine lv_iconst (v := 4) hx hb dX2_moveSlide_64 (by decide +kernel) ?_
        refine k_SNi ⟨hx, hb, hml, hown, hts⟩ (c_X8_pairCount l D cI cJ cO told 4) (va_cnB 2 hts gX2_moveSlide_X8_pairCount_n104 rfl rfl rfl (hN.1 4 _ rfl) (hts (.initialized RX8) (by decide +kernel)) (by decide +kernel) ⟨Nat.le_of_ble_eq_true rfl, Nat.le_of_ble_eq_true rfl⟩) (hts (.static yX8_pairCount) (by decide +kernel)) hK hN hP hD hS hA [] rfl rfl rfl (ws' := [(h, oX2 b0 b1 (upd P 13 z_3)), (b0, oX5 S), (b1, oX0 F)]) rfl rfl hl.1 rfl (Nat.le_of_ble_eq_true rfl) dX2_moveSlide_65 ⟨Nat.le_refl _, Nat.le_refl _⟩ (fun H locs hP hD hS => ?_)
        refine lv_iconst (v := 2) hx hb dX2_moveSlide_68 (by decide +kernel) ?_
        refine lv_icmp_eq (tgt := 89) hx hb dX2_moveSlide_69 (by decide) (fun c_16 => ?_) (fun c_16 => ?_)
        · skip
          exact J_5 (upd P 13 z_3) (by first | (simp only [if_neg c_15, if_pos c_16]; done) | rfl) _ _ hP hD hS _ (lv_sub hl [0] rfl)
        · skip
          refine lv_aload_n hx hb dX2_moveSlide_72 rfl (lv_at hl 0 rfl) ?_
          refine k_Vi ⟨hx, hb, hml, hown, hts⟩ (c_X2_isMuted l D cI cJ cO h b0 b1 (upd P 13 z_3)) (ci := 2) (q0 := 0) rfl rfl (cwV 0 hts gX2_moveSlide_X2_isMuted rfl rfl rfl (by decide +kernel) ⟨Nat.le_of_ble_eq_true rfl, Nat.le_of_ble_eq_true rfl⟩) hK hN hP hD hS hA [0] rfl rfl rfl (ws' := [(h, oX2 b0 b1 (upd P 13 z_3)), (b0, oX5 S), (b1, oX0 F)]) rfl rfl hl.1 rfl (Nat.le_of_ble_eq_true rfl) dX2_moveSlide_73 ⟨Nat.le_refl _, Nat.le_refl _⟩ (fun H locs hP hD hS => ?_)
          refine lv_if_ne (tgt := 89) hx hb dX2_moveSlide_76 (by decide) (fun c_17 => ?_) (fun c_17 => ?_)
          · skip
            exact J_5 (upd P 13 z_3) (by first | (simp only [if_neg c_15, if_neg c_16, if_neg c_17]; done) | rfl) _ _ hP hD hS _ (lv_sub hl [0] rfl)
          · skip
            refine lv_aload_n hx hb dX2_moveSlide_79 rfl (lv_at hl 0 rfl) ?_
            refine lv_dup hx hb dX2_moveSlide_80 rfl ?_
            refine k_get hx hb hts hi2 hown hK hP 0 rfl rfl 16 (by decide) hf54 (.int (P 16)) rfl dX2_moveSlide_81 ?_
            refine lv_iconst (v := 1) hx hb dX2_moveSlide_84 (by decide +kernel) ?_
            refine lv_iadd hx hb dX2_moveSlide_85 ?_
            refine lv_topi (fun z_18 ez_18 => ?_)
            refine k_put hx hb hts hi2 tyX2_ok nmX2 hown hK hP hD hS 0 rfl rfl 16 (by decide) hf54 rfl (.int z_18) rfl rfl (Nat.le_of_ble_eq_true rfl) (ws' := [(h, oX2 b0 b1 (upd (upd P 13 z_3) 16 z_18)), (b0, oX5 S), (b1, oX0 F)]) rfl dX2_moveSlide_86 (fun H locs hP hD hS => ?_)
            exact J_5 (upd (upd P 13 z_3) 16 z_18) (by subst ez_18; first | (simp only [if_neg c_15, if_neg c_16, if_pos c_17]; done) | rfl) _ _ hP hD hS _ (lv_sub hl [0] rfl)
  · skip
    refine lv_aload_n hx hb dX2_moveSlide_14 rfl (lv_at hl 0 rfl) ?_
    refine lv_aload_n hx hb dX2_moveSlide_15 rfl (lv_at hl 0 rfl) ?_
    refine k_get hx hb hts hi2 hown hK hP 0 rfl rfl 0 (by decide) hf60 (.ref b0) rfl dX2_moveSlide_16 ?_
    refine k_get hx hb hts hi5 hown hK hP 1 rfl rfl 3 (by decide) hf155 (.int (S 3)) rfl dX2_moveSlide_19 ?_
    refine k_put hx hb hts hi2 tyX2_ok nmX2 hown hK hP hD hS 0 rfl rfl 13 (by decide) hf45 rfl (.int (S 3)) rfl rfl (Nat.le_of_ble_eq_true rfl) (ws' := [(h, oX2 b0 b1 (upd P 13 (S 3))), (b0, oX5 S), (b1, oX0 F)]) rfl dX2_moveSlide_22 (fun H locs hP hD hS => ?_)
    refine lv_goto (tgt := 49) hx hb dX2_moveSlide_25 (by decide) ?_
    refine lv_aload_n hx hb dX2_moveSlide_49 rfl (lv_at hl 0 rfl) ?_
    refine k_get hx hb hts hi2 hown hK hP 0 rfl rfl 12 (by decide) hf42 (.int (P 12)) rfl dX2_moveSlide_50 ?_
    refine lv_aload_n hx hb dX2_moveSlide_53 rfl (lv_at hl 0 rfl) ?_
    refine k_get hx hb hts hi2 hown hK hP 0 rfl rfl 0 (by decide) hf60 (.ref b0) rfl dX2_moveSlide_54 ?_
    refine k_get hx hb hts hi5 hown hK hP 1 rfl rfl 4 (by decide) hf149 (.int (S 4)) rfl dX2_moveSlide_57 ?_
    have J_20 : ∀ z_19 : Nat → Int32, z_19 = (if (S 4) ≤ (P 12) then (upd P 13 (S 3)) else (if (sp_X8_pairCount told 4) = 2 then (upd P 13 (S 3)) else (if (sp_X2_isMuted (upd P 13 (S 3))) = 0 then (let z_21 : Int32 := ((P 16) + 1); (upd (upd P 13 (S 3)) 16 z_21)) else (upd P 13 (S 3))))) → ∀ (H : Heap) (locs : List Loc), va_P D vwCl [(h, oX2 b0 b1 z_19), (b0, oX5 S), (b1, oX0 F)] H → va_D A [(h, oX2 b0 b1 z_19), (b0, oX5 S), (b1, oX0 F)] → va_S A s.heap H locs → ∀ ls : Array Slot, lv_has ls 2 [(0, .ref h)] → W p l e (RM 2) s m ([.ref h, .int told] : List Value).toArray below meth c H locs 0 0 Q (F0 m 89 ls []) := by
      intro z_19 ez_19 H locs hP hD hS ls hl
      refine lv_aload_n hx hb dX2_moveSlide_89 rfl (lv_at hl 0 rfl) ?_
      refine lv_dup hx hb dX2_moveSlide_90 rfl ?_
      refine k_get hx hb hts hi2 hown hK hP 0 rfl rfl 12 (by decide) hf42 (.int (z_19 12)) rfl dX2_moveSlide_91 ?_
      refine lv_iconst (v := 1) hx hb dX2_moveSlide_94 (by decide +kernel) ?_
      refine lv_iadd hx hb dX2_moveSlide_95 ?_
      refine lv_topi (fun z_21 ez_21 => ?_)
      refine k_put hx hb hts hi2 tyX2_ok nmX2 hown hK hP hD hS 0 rfl rfl 12 (by decide) hf42 rfl (.int z_21) rfl rfl (Nat.le_of_ble_eq_true rfl) (ws' := [(h, oX2 b0 b1 (upd z_19 12 z_21)), (b0, oX5 S), (b1, oX0 F)]) rfl dX2_moveSlide_96 (fun H locs hP hD hS => ?_)
      refine lv_aload_n hx hb dX2_moveSlide_99 rfl (lv_at hl 0 rfl) ?_
      refine k_get hx hb hts hi2 hown hK hP 0 rfl rfl 12 (by decide) hf42 (.int z_21) rfl dX2_moveSlide_100 ?_
      refine lv_aload_n hx hb dX2_moveSlide_103 rfl (lv_at hl 0 rfl) ?_
      refine k_get hx hb hts hi2 hown hK hP 0 rfl rfl 0 (by decide) hf60 (.ref b0) rfl dX2_moveSlide_104 ?_
      refine k_get hx hb hts hi5 hown hK hP 1 rfl rfl 4 (by decide) hf149 (.int (S 4)) rfl dX2_moveSlide_107 ?_
      have J_23 : ∀ z_22 : Nat → Int32, z_22 = (if z_21 = (S 4) then (if (z_19 2) = 2 then (upd (upd z_19 2 4) 12 z_21) else (upd z_19 12 z_21)) else (upd z_19 12 z_21)) → ∀ (H : Heap) (locs : List Loc), va_P D vwCl [(h, oX2 b0 b1 z_22), (b0, oX5 S), (b1, oX0 F)] H → va_D A [(h, oX2 b0 b1 z_22), (b0, oX5 S), (b1, oX0 F)] → va_S A s.heap H locs → ∀ ls : Array Slot, lv_has ls 2 [(0, .ref h)] → W p l e (RM 2) s m ([.ref h, .int told] : List Value).toArray below meth c H locs 0 0 Q (F0 m 126 ls []) := by
        intro z_22 ez_22 H locs hP hD hS ls hl
        refine lv_aload_n hx hb dX2_moveSlide_126 rfl (lv_at hl 0 rfl) ?_
        refine k_get hx hb hts hi2 hown hK hP 0 rfl rfl 12 (by decide) hf42 (.int (z_22 12)) rfl dX2_moveSlide_127 ?_
        refine lv_iconst (v := 2) hx hb dX2_moveSlide_130 (by decide +kernel) ?_
        refine lv_aload_n hx hb dX2_moveSlide_131 rfl (lv_at hl 0 rfl) ?_
        refine k_get hx hb hts hi2 hown hK hP 0 rfl rfl 0 (by decide) hf60 (.ref b0) rfl dX2_moveSlide_132 ?_
        refine k_get hx hb hts hi5 hown hK hP 1 rfl rfl 4 (by decide) hf149 (.int (S 4)) rfl dX2_moveSlide_135 ?_
        refine lv_imul hx hb dX2_moveSlide_138 ?_
        have J_25 : ∀ z_24 : Nat → Int32, z_24 = (if (z_22 12) < (2 * (S 4)) then z_22 else (let P_24 : Nat → Int32 := (sp_X2_arriveAtTop z_22); P_24)) → ∀ (H : Heap) (locs : List Loc), va_P D vwCl [(h, oX2 b0 b1 z_24), (b0, oX5 S), (b1, oX0 F)] H → va_D A [(h, oX2 b0 b1 z_24), (b0, oX5 S), (b1, oX0 F)] → va_S A s.heap H locs → ∀ ls : Array Slot, lv_has ls 2 [] → W p l e (RM 2) s m ([.ref h, .int told] : List Value).toArray below meth c H locs 0 0 Q (F0 m 146 ls []) := by
          intro z_24 ez_24 H locs hP hD hS ls hl
          have hsp : sp_X2_moveSlide P S F told = z_24 := sq_X2_moveSlide_2 P S F told z_19 z_21 z_22 z_24 ez_19 ez_21 ez_22 ez_24 c_1
          exact hret _ _ _ _ (by rw [hsp]; exact hP) hS dX2_moveSlide_146
        refine lv_icmp_lt (tgt := 146) hx hb dX2_moveSlide_139 (by decide) (fun c_26 => ?_) (fun c_26 => ?_)
        · skip
          exact J_25 z_22 (by first | (simp only [if_pos c_26]; done) | rfl) _ _ hP hD hS _ (lv_sub hl [] rfl)
        · skip
          refine lv_aload_n hx hb dX2_moveSlide_142 rfl (lv_at hl 0 rfl) ?_
          obtain ⟨P_27, eP_27⟩ : ∃ q : Nat → Int32, q = (sp_X2_arriveAtTop z_22) := ⟨_, rfl⟩
          refine k_Vv ⟨hx, hb, hml, hown, hts⟩ (c_X2_arriveAtTop l D cI cJ cO h b0 b1 z_22) (ci := 2) (q0 := 0) rfl rfl (cwV 0 hts gX2_moveSlide_X2_arriveAtTop rfl rfl rfl (by decide +kernel) ⟨Nat.le_of_ble_eq_true rfl, Nat.le_of_ble_eq_true rfl⟩) hK hN hP hD hS hA [0] rfl rfl rfl (ws' := [(h, oX2 b0 b1 P_27), (b0, oX5 S), (b1, oX0 F)]) (by rw [eP_27]; rfl) rfl hl.1 rfl (Nat.le_of_ble_eq_true rfl) dX2_moveSlide_143 ⟨Nat.le_refl _, Nat.le_refl _⟩ (fun H locs hP hD hS => ?_)
          exact J_25 P_27 (by subst eP_27; first | (simp only [if_neg c_26]; done) | rfl) _ _ hP hD hS _ (lv_sub hl [] rfl)
      refine lv_icmp_ne (tgt := 126) hx hb dX2_moveSlide_110 (by decide) (fun c_28 => ?_) (fun c_28 => ?_)
      · skip
        exact J_23 (upd z_19 12 z_21) (by first | (simp only [if_neg c_28]; done) | rfl) _ _ hP hD hS _ (lv_sub hl [0] rfl)
      · skip
        refine lv_aload_n hx hb dX2_moveSlide_113 rfl (lv_at hl 0 rfl) ?_
        refine k_get hx hb hts hi2 hown hK hP 0 rfl rfl 2 (by decide) hf9 (.int (z_19 2)) rfl dX2_moveSlide_114 ?_
        refine lv_iconst (v := 2) hx hb dX2_moveSlide_117 (by decide +kernel) ?_
        refine lv_icmp_ne (tgt := 126) hx hb dX2_moveSlide_118 (by decide) (fun c_29 => ?_) (fun c_29 => ?_)
        · skip
          exact J_23 (upd z_19 12 z_21) (by first | (simp only [if_pos c_28, if_neg c_29]; done) | rfl) _ _ hP hD hS _ (lv_sub hl [0] rfl)
        · skip
          refine lv_aload_n hx hb dX2_moveSlide_121 rfl (lv_at hl 0 rfl) ?_
          refine lv_iconst (v := 4) hx hb dX2_moveSlide_122 (by decide +kernel) ?_
          refine k_put hx hb hts hi2 tyX2_ok nmX2 hown hK hP hD hS 0 rfl rfl 2 (by decide) hf9 rfl (.int 4) rfl rfl (Nat.le_of_ble_eq_true rfl) (ws' := [(h, oX2 b0 b1 (upd (upd z_19 2 4) 12 z_21)), (b0, oX5 S), (b1, oX0 F)]) rfl dX2_moveSlide_123 (fun H locs hP hD hS => ?_)
          exact J_23 (upd (upd z_19 2 4) 12 z_21) (by first | (simp only [if_pos c_28, if_pos c_29]; done) | rfl) _ _ hP hD hS _ (lv_sub hl [0] rfl)
    refine lv_icmp_ge (tgt := 89) hx hb dX2_moveSlide_60 (by decide) (fun c_30 => ?_) (fun c_30 => ?_)
    · skip
      exact J_20 (upd P 13 (S 3)) (by first | (simp only [if_pos c_30]; done) | rfl) _ _ hP hD hS _ (lv_sub hl [0] rfl)
    · skip
      refine lv_iload_n hx hb dX2_moveSlide_63 rfl (lv_at hl 1 rfl) ?_
      refine lv_iconst (v := 4) hx hb dX2_moveSlide_64 (by decide +kernel) ?_
      refine k_SNi ⟨hx, hb, hml, hown, hts⟩ (c_X8_pairCount l D cI cJ cO told 4) (va_cnB 2 hts gX2_moveSlide_X8_pairCount_n104 rfl rfl rfl (hN.1 4 _ rfl) (hts (.initialized RX8) (by decide +kernel)) (by decide +kernel) ⟨Nat.le_of_ble_eq_true rfl, Nat.le_of_ble_eq_true rfl⟩) (hts (.static yX8_pairCount) (by decide +kernel)) hK hN hP hD hS hA [] rfl rfl rfl (ws' := [(h, oX2 b0 b1 (upd P 13 (S 3))), (b0, oX5 S), (b1, oX0 F)]) rfl rfl hl.1 rfl (Nat.le_of_ble_eq_true rfl) dX2_moveSlide_65 ⟨Nat.le_refl _, Nat.le_refl _⟩ (fun H locs hP hD hS => ?_)
      refine lv_iconst (v := 2) hx hb dX2_moveSlide_68 (by decide +kernel) ?_
      refine lv_icmp_eq (tgt := 89) hx hb dX2_moveSlide_69 (by decide) (fun c_31 => ?_) (fun c_31 => ?_)
      · skip
        exact J_20 (upd P 13 (S 3)) (by first | (simp only [if_neg c_30, if_pos c_31]; done) | rfl) _ _ hP hD hS _ (lv_sub hl [0] rfl)
      · skip
        refine lv_aload_n hx hb dX2_moveSlide_72 rfl (lv_at hl 0 rfl) ?_
        refine k_Vi ⟨hx, hb, hml, hown, hts⟩ (c_X2_isMuted l D cI cJ cO h b0 b1 (upd P 13 (S 3))) (ci := 2) (q0 := 0) rfl rfl (cwV 0 hts gX2_moveSlide_X2_isMuted rfl rfl rfl (by decide +kernel) ⟨Nat.le_of_ble_eq_true rfl, Nat.le_of_ble_eq_true rfl⟩) hK hN hP hD hS hA [0] rfl rfl rfl (ws' := [(h, oX2 b0 b1 (upd P 13 (S 3))), (b0, oX5 S), (b1, oX0 F)]) rfl rfl hl.1 rfl (Nat.le_of_ble_eq_true rfl) dX2_moveSlide_73 ⟨Nat.le_refl _, Nat.le_refl _⟩ (fun H locs hP hD hS => ?_)
        refine lv_if_ne (tgt := 89) hx hb dX2_moveSlide_76 (by decide) (fun c_32 => ?_) (fun c_32 => ?_)
        · skip
          exact J_20 (upd P 13 (S 3)) (by first | (simp only [if_neg c_30, if_neg c_31, if_neg c_32]; done) | rfl) _ _ hP hD hS _ (lv_sub hl [0] rfl)
        · skip
          refine lv_aload_n hx hb dX2_moveSlide_79 rfl (lv_at hl 0 rfl) ?_
          refine lv_dup hx hb dX2_moveSlide_80 rfl ?_
          refine k_get hx hb hts hi2 hown hK hP 0 rfl rfl 16 (by decide) hf54 (.int (P 16)) rfl dX2_moveSlide_81 ?_
          refine lv_iconst (v := 1) hx hb dX2_moveSlide_84 (by decide +kernel) ?_
          refine lv_iadd hx hb dX2_moveSlide_85 ?_
          refine lv_topi (fun z_33 ez_33 => ?_)
          refine k_put hx hb hts hi2 tyX2_ok nmX2 hown hK hP hD hS 0 rfl rfl 16 (by decide) hf54 rfl (.int z_33) rfl rfl (Nat.le_of_ble_eq_true rfl) (ws' := [(h, oX2 b0 b1 (upd (upd P 13 (S 3)) 16 z_33)), (b0, oX5 S), (b1, oX0 F)]) rfl dX2_moveSlide_86 (fun H locs hP hD hS => ?_)
          exact J_20 (upd (upd P 13 (S 3)) 16 z_33) (by subst ez_33; first | (simp only [if_neg c_30, if_neg c_31, if_pos c_32]; done) | rfl) _ _ hP hD hS _ (lv_sub hl [0] rfl)
