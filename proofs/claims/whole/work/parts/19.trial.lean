def sp_X7_begin (U : Nat → Int32) (r0 : Int32) : (Nat → Int32) :=
  (upd (upd (upd (upd (upd (upd (upd U 0 r0) 1 0) 2 0) 3 0) 4 (-9)) 5 0) 6 0)
set_option maxHeartbeats 4000000 in
set_option maxRecDepth 100000 in
theorem c_X7_begin (l : Launch) (D : va_G) (cI cJ cO : ClassId) (h : Nat) (U : Nat → Int32) (r0 : Int32)  : MV l D (TY cI cJ cO) yX7_begin wsX7_begin (RM 0) [.ref h, .int r0] [(h, oX7 U)] [(h, oX7 (sp_X7_begin U r0))] := by
  refine k_entV (cc := cX7_begin) (maxL := 2) (lv := [(0, .ref h), (1, .int r0)]) (by decide +kernel) rfl (Nat.le_of_ble_eq_true rfl) rfl ?_
  intro p e s m below meth c A Q ls hx hb hml hts hown hA hS hP hD hK hN hl hret
  have hown : s.vm.findClass RX7 = some m.cls := hown
  have hi7 : ∀ w ∈ wsX70, w ∈ wsX7_begin := fun w h => List.mem_cons_of_mem _ (List.mem_append_right _ h)
  have hf9 := hts (.fieldLink RX7 9 "PressGuard$TrialSums" "soundRounds" "I") (by decide +kernel)
  have hf15 := hts (.fieldLink RX7 15 "PressGuard$TrialSums" "count" "I") (by decide +kernel)
  have hf18 := hts (.fieldLink RX7 18 "PressGuard$TrialSums" "dangerous" "I") (by decide +kernel)
  have hf21 := hts (.fieldLink RX7 21 "PressGuard$TrialSums" "everLocked" "I") (by decide +kernel)
  have hf24 := hts (.fieldLink RX7 24 "PressGuard$TrialSums" "longestToLock" "I") (by decide +kernel)
  have hf27 := hts (.fieldLink RX7 27 "PressGuard$TrialSums" "mostDangers" "I") (by decide +kernel)
  have hf30 := hts (.fieldLink RX7 30 "PressGuard$TrialSums" "fewerRounds" "I") (by decide +kernel)
  refine lv_aload_n hx hb dX7_begin_0 rfl (lv_at hl 0 rfl) ?_
  refine lv_iload_n hx hb dX7_begin_1 rfl (lv_at hl 1 rfl) ?_
  refine k_put hx hb hts hi7 tyX7_ok nmX7 hown hK hP hD hS 0 rfl rfl 0 (by decide) hf9 rfl (.int r0) rfl rfl (Nat.le_of_ble_eq_true rfl) (ws' := [(h, oX7 (upd U 0 r0))]) rfl dX7_begin_2 (fun H locs hP hD hS => ?_)
  refine lv_aload_n hx hb dX7_begin_5 rfl (lv_at hl 0 rfl) ?_
  refine lv_iconst (v := 0) hx hb dX7_begin_6 (by decide +kernel) ?_
  refine k_put hx hb hts hi7 tyX7_ok nmX7 hown hK hP hD hS 0 rfl rfl 1 (by decide) hf15 rfl (.int 0) rfl rfl (Nat.le_of_ble_eq_true rfl) (ws' := [(h, oX7 (upd (upd U 0 r0) 1 0))]) rfl dX7_begin_7 (fun H locs hP hD hS => ?_)
  refine lv_aload_n hx hb dX7_begin_10 rfl (lv_at hl 0 rfl) ?_
  refine lv_iconst (v := 0) hx hb dX7_begin_11 (by decide +kernel) ?_
  refine k_put hx hb hts hi7 tyX7_ok nmX7 hown hK hP hD hS 0 rfl rfl 2 (by decide) hf18 rfl (.int 0) rfl rfl (Nat.le_of_ble_eq_true rfl) (ws' := [(h, oX7 (upd (upd (upd U 0 r0) 1 0) 2 0))]) rfl dX7_begin_12 (fun H locs hP hD hS => ?_)
  refine lv_aload_n hx hb dX7_begin_15 rfl (lv_at hl 0 rfl) ?_
  refine lv_iconst (v := 0) hx hb dX7_begin_16 (by decide +kernel) ?_
  refine k_put hx hb hts hi7 tyX7_ok nmX7 hown hK hP hD hS 0 rfl rfl 3 (by decide) hf21 rfl (.int 0) rfl rfl (Nat.le_of_ble_eq_true rfl) (ws' := [(h, oX7 (upd (upd (upd (upd U 0 r0) 1 0) 2 0) 3 0))]) rfl dX7_begin_17 (fun H locs hP hD hS => ?_)
  refine lv_aload_n hx hb dX7_begin_20 rfl (lv_at hl 0 rfl) ?_
  refine lv_bipush (v := (-9)) hx hb dX7_begin_21 (by decide +kernel) ?_
  refine k_put hx hb hts hi7 tyX7_ok nmX7 hown hK hP hD hS 0 rfl rfl 4 (by decide) hf24 rfl (.int (-9)) rfl rfl (Nat.le_of_ble_eq_true rfl) (ws' := [(h, oX7 (upd (upd (upd (upd (upd U 0 r0) 1 0) 2 0) 3 0) 4 (-9)))]) rfl dX7_begin_23 (fun H locs hP hD hS => ?_)
  refine lv_aload_n hx hb dX7_begin_26 rfl (lv_at hl 0 rfl) ?_
  refine lv_iconst (v := 0) hx hb dX7_begin_27 (by decide +kernel) ?_
  refine k_put hx hb hts hi7 tyX7_ok nmX7 hown hK hP hD hS 0 rfl rfl 5 (by decide) hf27 rfl (.int 0) rfl rfl (Nat.le_of_ble_eq_true rfl) (ws' := [(h, oX7 (upd (upd (upd (upd (upd (upd U 0 r0) 1 0) 2 0) 3 0) 4 (-9)) 5 0))]) rfl dX7_begin_28 (fun H locs hP hD hS => ?_)
  refine lv_aload_n hx hb dX7_begin_31 rfl (lv_at hl 0 rfl) ?_
  refine lv_iconst (v := 0) hx hb dX7_begin_32 (by decide +kernel) ?_
  refine k_put hx hb hts hi7 tyX7_ok nmX7 hown hK hP hD hS 0 rfl rfl 6 (by decide) hf30 rfl (.int 0) rfl rfl (Nat.le_of_ble_eq_true rfl) (ws' := [(h, oX7 (upd (upd (upd (upd (upd (upd (upd U 0 r0) 1 0) 2 0) 3 0) 4 (-9)) 5 0) 6 0))]) rfl dX7_begin_33 (fun H locs hP hD hS => ?_)
  have hsp : sp_X7_begin U r0 = (upd (upd (upd (upd (upd (upd (upd U 0 r0) 1 0) 2 0) 3 0) 4 (-9)) 5 0) 6 0) := rfl
  exact hret _ _ _ _ (by rw [hsp]; exact hP) hS dX7_begin_36

def sp_X7_add (U : Nat → Int32) (V : Nat → Int32) (P : Nat → Int32) (fr : Int32) : (Nat → Int32) :=
  let z_1 : Int32 := ((U 1) + 1)
  let z_2 : Nat → Int32 := (if (P 16) ≤ 0 then (upd U 1 z_1) else (let z_2 : Int32 := ((U 2) + 1); (upd (upd U 1 z_1) 2 z_2)))
  let z_4 : Nat → Int32 := (if (V 2) = (-9) then z_2 else (let z_4 : Int32 := ((z_2 3) + 1); (upd z_2 3 z_4)))
  let z_6 : Nat → Int32 := (if (V 2) ≤ fr then z_4 else (let z_6 : Int32 := (if (z_4 4) < ((V 2) - fr) then ((V 2) - fr) else (z_4 4)); (upd z_4 4 z_6)))
  let z_8 : Int32 := (if (z_6 5) < (P 16) then (P 16) else (z_6 5))
  let z_9 : Nat → Int32 := (if (z_6 0) ≤ (P 17) then (upd z_6 5 z_8) else (let z_9 : Int32 := ((z_6 6) + 1); (upd (upd z_6 5 z_8) 6 z_9)))
  z_9
set_option maxRecDepth 100000 in
theorem sq_X7_add_1 (U : Nat → Int32) (V : Nat → Int32) (P : Nat → Int32) (fr : Int32) (z_1 : Int32) (z_2 : Nat → Int32) (z_4 : Nat → Int32) (z_6 : Nat → Int32) (z_8 : Int32) (z_9 : Nat → Int32) (ez_1 : z_1 = ((U 1) + 1)) (ez_2 : z_2 = (if (P 16) ≤ 0 then (upd U 1 z_1) else (let z_2 : Int32 := ((U 2) + 1); (upd (upd U 1 z_1) 2 z_2)))) (ez_4 : z_4 = (if (V 2) = (-9) then z_2 else (let z_4 : Int32 := ((z_2 3) + 1); (upd z_2 3 z_4)))) (ez_6 : z_6 = (if (V 2) ≤ fr then z_4 else (let z_6 : Int32 := (if (z_4 4) < ((V 2) - fr) then ((V 2) - fr) else (z_4 4)); (upd z_4 4 z_6)))) (ez_8 : z_8 = (if (z_6 5) < (P 16) then (P 16) else (z_6 5))) (ez_9 : z_9 = (if (z_6 0) ≤ (P 17) then (upd z_6 5 z_8) else (let z_9 : Int32 := ((z_6 6) + 1); (upd (upd z_6 5 z_8) 6 z_9)))) : sp_X7_add U V P fr = z_9 := by subst ez_9; subst ez_8; subst ez_6; subst ez_4; subst ez_2; subst ez_1; rfl
set_option maxHeartbeats 4000000 in
set_option maxRecDepth 100000 in
theorem c_X7_add (l : Launch) (D : va_G) (cI cJ cO : ClassId) (h : Nat) (t : Nat) (tf : Nat) (tp : Nat) (b0 : Nat) (U : Nat → Int32) (V : Nat → Int32) (P : Nat → Int32) (fr : Int32)  : MV l D (TY cI cJ cO) yX7_add wsX7_add (RM 0) [.ref h, .ref t, .int fr] [(h, oX7 U), (t, oX6 tf tp V), (tp, oX2 b0 tf P)] [(h, oX7 (sp_X7_add U V P fr)), (t, oX6 tf tp V), (tp, oX2 b0 tf P)] := by
  refine k_entV (cc := cX7_add) (maxL := 3) (lv := [(0, .ref h), (1, .ref t), (2, .int fr)]) (by decide +kernel) rfl (Nat.le_of_ble_eq_true rfl) rfl ?_
  intro p e s m below meth c A Q ls hx hb hml hts hown hA hS hP hD hK hN hl hret
  have hown : s.vm.findClass RX7 = some m.cls := hown
  have hi2 : ∀ w ∈ wsX20, w ∈ wsX7_add := fun w h => List.mem_cons_of_mem _ (List.mem_append_right _ h)
  have hi6 : ∀ w ∈ wsX60, w ∈ wsX7_add := fun w h => List.mem_cons_of_mem _ (List.mem_append_left _ (List.mem_append_right _ h))
  have hi7 : ∀ w ∈ wsX70, w ∈ wsX7_add := fun w h => List.mem_cons_of_mem _ (List.mem_append_left _ (List.mem_append_left _ (List.mem_append_right _ h)))
  have hf9 := hts (.fieldLink RX7 9 "PressGuard$TrialSums" "soundRounds" "I") (by decide +kernel)
  have hf15 := hts (.fieldLink RX7 15 "PressGuard$TrialSums" "count" "I") (by decide +kernel)
  have hf18 := hts (.fieldLink RX7 18 "PressGuard$TrialSums" "dangerous" "I") (by decide +kernel)
  have hf21 := hts (.fieldLink RX7 21 "PressGuard$TrialSums" "everLocked" "I") (by decide +kernel)
  have hf24 := hts (.fieldLink RX7 24 "PressGuard$TrialSums" "longestToLock" "I") (by decide +kernel)
  have hf27 := hts (.fieldLink RX7 27 "PressGuard$TrialSums" "mostDangers" "I") (by decide +kernel)
  have hf30 := hts (.fieldLink RX7 30 "PressGuard$TrialSums" "fewerRounds" "I") (by decide +kernel)
  have hf33 := hts (.fieldLink RX7 33 "PressGuard$Trial" "press" "LPressGuard$Press;") (by decide +kernel)
  have hf39 := hts (.fieldLink RX7 39 "PressGuard$Press" "dangers" "I") (by decide +kernel)
  have hf44 := hts (.fieldLink RX7 44 "PressGuard$Trial" "firstLock" "I") (by decide +kernel)
  have hf53 := hts (.fieldLink RX7 53 "PressGuard$Press" "rounds" "I") (by decide +kernel)
  refine lv_aload_n hx hb dX7_add_0 rfl (lv_at hl 0 rfl) ?_
  refine lv_dup hx hb dX7_add_1 rfl ?_
  refine k_get hx hb hts hi7 hown hK hP 0 rfl rfl 1 (by decide) hf15 (.int (U 1)) rfl dX7_add_2 ?_
  refine lv_iconst (v := 1) hx hb dX7_add_5 (by decide +kernel) ?_
  refine lv_iadd hx hb dX7_add_6 ?_
  refine lv_topi (fun z_1 ez_1 => ?_)
  refine k_put hx hb hts hi7 tyX7_ok nmX7 hown hK hP hD hS 0 rfl rfl 1 (by decide) hf15 rfl (.int z_1) rfl rfl (Nat.le_of_ble_eq_true rfl) (ws' := [(h, oX7 (upd U 1 z_1)), (t, oX6 tf tp V), (tp, oX2 b0 tf P)]) rfl dX7_add_7 (fun H locs hP hD hS => ?_)
  refine lv_aload_n hx hb dX7_add_10 rfl (lv_at hl 1 rfl) ?_
  refine k_get hx hb hts hi6 hown hK hP 1 rfl rfl 1 (by decide) hf33 (.ref tp) rfl dX7_add_11 ?_
  refine k_get hx hb hts hi2 hown hK hP 2 rfl rfl 16 (by decide) hf39 (.int (P 16)) rfl dX7_add_14 ?_
  have J_3 : ∀ z_2 : Nat → Int32, z_2 = (if (P 16) ≤ 0 then (upd U 1 z_1) else (let z_2 : Int32 := ((U 2) + 1); (upd (upd U 1 z_1) 2 z_2))) → ∀ (H : Heap) (locs : List Loc), va_P D vwCl [(h, oX7 z_2), (t, oX6 tf tp V), (tp, oX2 b0 tf P)] H → va_D A [(h, oX7 z_2), (t, oX6 tf tp V), (tp, oX2 b0 tf P)] → va_S A s.heap H locs → ∀ ls : Array Slot, lv_has ls 3 [(0, .ref h), (1, .ref t), (2, .int fr)] → W p l e (RM 0) s m ([.ref h, .ref t, .int fr] : List Value).toArray below meth c H locs 0 0 Q (F0 m 30 ls []) := by
    intro z_2 ez_2 H locs hP hD hS ls hl
    refine lv_aload_n hx hb dX7_add_30 rfl (lv_at hl 1 rfl) ?_
    refine k_get hx hb hts hi6 hown hK hP 1 rfl rfl 2 (by decide) hf44 (.int (V 2)) rfl dX7_add_31 ?_
    refine lv_bipush (v := (-9)) hx hb dX7_add_34 (by decide +kernel) ?_
    have J_5 : ∀ z_4 : Nat → Int32, z_4 = (if (V 2) = (-9) then z_2 else (let z_4 : Int32 := ((z_2 3) + 1); (upd z_2 3 z_4))) → ∀ (H : Heap) (locs : List Loc), va_P D vwCl [(h, oX7 z_4), (t, oX6 tf tp V), (tp, oX2 b0 tf P)] H → va_D A [(h, oX7 z_4), (t, oX6 tf tp V), (tp, oX2 b0 tf P)] → va_S A s.heap H locs → ∀ ls : Array Slot, lv_has ls 3 [(0, .ref h), (1, .ref t), (2, .int fr)] → W p l e (RM 0) s m ([.ref h, .ref t, .int fr] : List Value).toArray below meth c H locs 0 0 Q (F0 m 49 ls []) := by
      intro z_4 ez_4 H locs hP hD hS ls hl
      refine lv_aload_n hx hb dX7_add_49 rfl (lv_at hl 1 rfl) ?_
      refine k_get hx hb hts hi6 hown hK hP 1 rfl rfl 2 (by decide) hf44 (.int (V 2)) rfl dX7_add_50 ?_
      refine lv_iload_n hx hb dX7_add_53 rfl (lv_at hl 2 rfl) ?_
      have J_7 : ∀ z_6 : Nat → Int32, z_6 = (if (V 2) ≤ fr then z_4 else (let z_6 : Int32 := (if (z_4 4) < ((V 2) - fr) then ((V 2) - fr) else (z_4 4)); (upd z_4 4 z_6))) → ∀ (H : Heap) (locs : List Loc), va_P D vwCl [(h, oX7 z_6), (t, oX6 tf tp V), (tp, oX2 b0 tf P)] H → va_D A [(h, oX7 z_6), (t, oX6 tf tp V), (tp, oX2 b0 tf P)] → va_S A s.heap H locs → ∀ ls : Array Slot, lv_has ls 3 [(0, .ref h), (1, .ref t)] → W p l e (RM 0) s m ([.ref h, .ref t, .int fr] : List Value).toArray below meth c H locs 0 0 Q (F0 m 74 ls []) := by
        intro z_6 ez_6 H locs hP hD hS ls hl
        refine lv_aload_n hx hb dX7_add_74 rfl (lv_at hl 0 rfl) ?_
        refine lv_aload_n hx hb dX7_add_75 rfl (lv_at hl 0 rfl) ?_
        refine k_get hx hb hts hi7 hown hK hP 0 rfl rfl 5 (by decide) hf27 (.int (z_6 5)) rfl dX7_add_76 ?_
        refine lv_aload_n hx hb dX7_add_79 rfl (lv_at hl 1 rfl) ?_
        refine k_get hx hb hts hi6 hown hK hP 1 rfl rfl 1 (by decide) hf33 (.ref tp) rfl dX7_add_80 ?_
        refine k_get hx hb hts hi2 hown hK hP 2 rfl rfl 16 (by decide) hf39 (.int (P 16)) rfl dX7_add_83 ?_
        refine va_mmax hx hb (hml.trans hl.1.symm) hown (hts (.methodLink RX7 47 Lib.Math.max.name) (by decide +kernel)) (hts (.static Lib.Math.max.name) (by decide +kernel)) (hts (.initialized "java/lang/Math") (by decide +kernel)) (hts (.code Lib.Math.max.name Lib.Math.max.code 2 (some .int)) (by decide +kernel)) (Nat.le_of_ble_eq_true rfl) (Nat.le_of_ble_eq_true rfl) (Nat.le_refl _) (Nat.le_refl _) dX7_add_86 ?_
        refine lv_topi (fun z_8 ez_8 => ?_)
        refine k_put hx hb hts hi7 tyX7_ok nmX7 hown hK hP hD hS 0 rfl rfl 5 (by decide) hf27 rfl (.int z_8) rfl rfl (Nat.le_of_ble_eq_true rfl) (ws' := [(h, oX7 (upd z_6 5 z_8)), (t, oX6 tf tp V), (tp, oX2 b0 tf P)]) rfl dX7_add_89 (fun H locs hP hD hS => ?_)
        refine lv_aload_n hx hb dX7_add_92 rfl (lv_at hl 1 rfl) ?_
        refine k_get hx hb hts hi6 hown hK hP 1 rfl rfl 1 (by decide) hf33 (.ref tp) rfl dX7_add_93 ?_
        refine k_get hx hb hts hi2 hown hK hP 2 rfl rfl 17 (by decide) hf53 (.int (P 17)) rfl dX7_add_96 ?_
        refine lv_aload_n hx hb dX7_add_99 rfl (lv_at hl 0 rfl) ?_
        refine k_get hx hb hts hi7 hown hK hP 0 rfl rfl 0 (by decide) hf9 (.int (z_6 0)) rfl dX7_add_100 ?_
        have J_10 : ∀ z_9 : Nat → Int32, z_9 = (if (z_6 0) ≤ (P 17) then (upd z_6 5 z_8) else (let z_9 : Int32 := ((z_6 6) + 1); (upd (upd z_6 5 z_8) 6 z_9))) → ∀ (H : Heap) (locs : List Loc), va_P D vwCl [(h, oX7 z_9), (t, oX6 tf tp V), (tp, oX2 b0 tf P)] H → va_D A [(h, oX7 z_9), (t, oX6 tf tp V), (tp, oX2 b0 tf P)] → va_S A s.heap H locs → ∀ ls : Array Slot, lv_has ls 3 [] → W p l e (RM 0) s m ([.ref h, .ref t, .int fr] : List Value).toArray below meth c H locs 0 0 Q (F0 m 116 ls []) := by
          intro z_9 ez_9 H locs hP hD hS ls hl
          have hsp : sp_X7_add U V P fr = z_9 := sq_X7_add_1 U V P fr z_1 z_2 z_4 z_6 z_8 z_9 ez_1 ez_2 ez_4 ez_6 ez_8 ez_9
          exact hret _ _ _ _ (by rw [hsp]; exact hP) hS dX7_add_116
        refine lv_icmp_ge (tgt := 116) hx hb dX7_add_103 (by decide) (fun c_11 => ?_) (fun c_11 => ?_)
        · skip
          exact J_10 (upd z_6 5 z_8) (by first | (simp only [if_pos c_11]; done) | rfl) _ _ hP hD hS _ (lv_sub hl [] rfl)
        · skip
          refine lv_aload_n hx hb dX7_add_106 rfl (lv_at hl 0 rfl) ?_
          refine lv_dup hx hb dX7_add_107 rfl ?_
          refine k_get hx hb hts hi7 hown hK hP 0 rfl rfl 6 (by decide) hf30 (.int (z_6 6)) rfl dX7_add_108 ?_
          refine lv_iconst (v := 1) hx hb dX7_add_111 (by decide +kernel) ?_
          refine lv_iadd hx hb dX7_add_112 ?_
          refine lv_topi (fun z_12 ez_12 => ?_)
          refine k_put hx hb hts hi7 tyX7_ok nmX7 hown hK hP hD hS 0 rfl rfl 6 (by decide) hf30 rfl (.int z_12) rfl rfl (Nat.le_of_ble_eq_true rfl) (ws' := [(h, oX7 (upd (upd z_6 5 z_8) 6 z_12)), (t, oX6 tf tp V), (tp, oX2 b0 tf P)]) rfl dX7_add_113 (fun H locs hP hD hS => ?_)
          exact J_10 (upd (upd z_6 5 z_8) 6 z_12) (by subst ez_12; first | (simp only [if_neg c_11]; done) | rfl) _ _ hP hD hS _ (lv_sub hl [] rfl)
      refine lv_icmp_le (tgt := 74) hx hb dX7_add_54 (by decide) (fun c_13 => ?_) (fun c_13 => ?_)
      · skip
        exact J_7 z_4 (by first | (simp only [if_pos c_13]; done) | rfl) _ _ hP hD hS _ (lv_sub hl [0, 1] rfl)
      · skip
        refine lv_aload_n hx hb dX7_add_57 rfl (lv_at hl 0 rfl) ?_
        refine lv_aload_n hx hb dX7_add_58 rfl (lv_at hl 0 rfl) ?_
        refine k_get hx hb hts hi7 hown hK hP 0 rfl rfl 4 (by decide) hf24 (.int (z_4 4)) rfl dX7_add_59 ?_
        refine lv_aload_n hx hb dX7_add_62 rfl (lv_at hl 1 rfl) ?_
        refine k_get hx hb hts hi6 hown hK hP 1 rfl rfl 2 (by decide) hf44 (.int (V 2)) rfl dX7_add_63 ?_
        refine lv_iload_n hx hb dX7_add_66 rfl (lv_at hl 2 rfl) ?_
        refine lv_isub hx hb dX7_add_67 ?_
        refine va_mmax hx hb (hml.trans hl.1.symm) hown (hts (.methodLink RX7 47 Lib.Math.max.name) (by decide +kernel)) (hts (.static Lib.Math.max.name) (by decide +kernel)) (hts (.initialized "java/lang/Math") (by decide +kernel)) (hts (.code Lib.Math.max.name Lib.Math.max.code 2 (some .int)) (by decide +kernel)) (Nat.le_of_ble_eq_true rfl) (Nat.le_of_ble_eq_true rfl) (Nat.le_refl _) (Nat.le_refl _) dX7_add_68 ?_
        refine lv_topi (fun z_14 ez_14 => ?_)
        refine k_put hx hb hts hi7 tyX7_ok nmX7 hown hK hP hD hS 0 rfl rfl 4 (by decide) hf24 rfl (.int z_14) rfl rfl (Nat.le_of_ble_eq_true rfl) (ws' := [(h, oX7 (upd z_4 4 z_14)), (t, oX6 tf tp V), (tp, oX2 b0 tf P)]) rfl dX7_add_71 (fun H locs hP hD hS => ?_)
        exact J_7 (upd z_4 4 z_14) (by subst ez_14; first | (simp only [if_neg c_13]; done) | rfl) _ _ hP hD hS _ (lv_sub hl [0, 1] rfl)
    refine lv_icmp_eq (tgt := 49) hx hb dX7_add_36 (by decide) (fun c_15 => ?_) (fun c_15 => ?_)
    · skip
      exact J_5 z_2 (by first | (simp only [if_pos c_15]; done) | rfl) _ _ hP hD hS _ (lv_sub hl [0, 1, 2] rfl)
    · skip
      refine lv_aload_n hx hb dX7_add_39 rfl (lv_at hl 0 rfl) ?_
      refine lv_dup hx hb dX7_add_40 rfl ?_
      refine k_get hx hb hts hi7 hown hK hP 0 rfl rfl 3 (by decide) hf21 (.int (z_2 3)) rfl dX7_add_41 ?_
      refine lv_iconst (v := 1) hx hb dX7_add_44 (by decide +kernel) ?_
      refine lv_iadd hx hb dX7_add_45 ?_
      refine lv_topi (fun z_16 ez_16 => ?_)
      refine k_put hx hb hts hi7 tyX7_ok nmX7 hown hK hP hD hS 0 rfl rfl 3 (by decide) hf21 rfl (.int z_16) rfl rfl (Nat.le_of_ble_eq_true rfl) (ws' := [(h, oX7 (upd z_2 3 z_16)), (t, oX6 tf tp V), (tp, oX2 b0 tf P)]) rfl dX7_add_46 (fun H locs hP hD hS => ?_)
      exact J_5 (upd z_2 3 z_16) (by subst ez_16; first | (simp only [if_neg c_15]; done) | rfl) _ _ hP hD hS _ (lv_sub hl [0, 1, 2] rfl)
  refine lv_if_le (tgt := 30) hx hb dX7_add_17 (by decide) (fun c_17 => ?_) (fun c_17 => ?_)
  · skip
    exact J_3 (upd U 1 z_1) (by first | (simp only [if_pos c_17]; done) | rfl) _ _ hP hD hS _ (lv_sub hl [0, 1, 2] rfl)
  · skip
    refine lv_aload_n hx hb dX7_add_20 rfl (lv_at hl 0 rfl) ?_
    refine lv_dup hx hb dX7_add_21 rfl ?_
    refine k_get hx hb hts hi7 hown hK hP 0 rfl rfl 2 (by decide) hf18 (.int (U 2)) rfl dX7_add_22 ?_
    refine lv_iconst (v := 1) hx hb dX7_add_25 (by decide +kernel) ?_
    refine lv_iadd hx hb dX7_add_26 ?_
    refine lv_topi (fun z_18 ez_18 => ?_)
    refine k_put hx hb hts hi7 tyX7_ok nmX7 hown hK hP hD hS 0 rfl rfl 2 (by decide) hf18 rfl (.int z_18) rfl rfl (Nat.le_of_ble_eq_true rfl) (ws' := [(h, oX7 (upd (upd U 1 z_1) 2 z_18)), (t, oX6 tf tp V), (tp, oX2 b0 tf P)]) rfl dX7_add_27 (fun H locs hP hD hS => ?_)
    exact J_3 (upd (upd U 1 z_1) 2 z_18) (by subst ez_18; first | (simp only [if_neg c_17]; done) | rfl) _ _ hP hD hS _ (lv_sub hl [0, 1, 2] rfl)

def sp_X7_part (U : Nat → Int32) (what : Int32) : Int32 :=
  (if what = 0 then
    (U 1)
  else
    (if what = 1 then
      (U 2)
    else
      (if what = 2 then
        (U 3)
      else
        (if what = 3 then
          (U 4)
        else
          (if what = 4 then
            (U 5)
          else
            (if what = 5 then
              (U 6)
            else
              (-2)))))))
set_option maxHeartbeats 4000000 in
set_option maxRecDepth 100000 in
theorem c_X7_part (l : Launch) (D : va_G) (cI cJ cO : ClassId) (h : Nat) (U : Nat → Int32) (what : Int32)  : MI l D (TY cI cJ cO) yX7_part wsX7_part (RM 0) [.ref h, .int what] [(h, oX7 U)] (sp_X7_part U what) [(h, oX7 U)] := by
  refine k_entI (cc := cX7_part) (maxL := 2) (lv := [(0, .ref h), (1, .int what)]) (by decide +kernel) rfl (Nat.le_of_ble_eq_true rfl) rfl ?_
  intro p e s m below meth c A Q ls hx hb hml hts hown hA hS hP hD hK hN hl hret
  have hown : s.vm.findClass RX7 = some m.cls := hown
  have hi7 : ∀ w ∈ wsX70, w ∈ wsX7_part := fun w h => List.mem_cons_of_mem _ (List.mem_append_right _ h)
  have hf15 := hts (.fieldLink RX7 15 "PressGuard$TrialSums" "count" "I") (by decide +kernel)
  have hf18 := hts (.fieldLink RX7 18 "PressGuard$TrialSums" "dangerous" "I") (by decide +kernel)
  have hf21 := hts (.fieldLink RX7 21 "PressGuard$TrialSums" "everLocked" "I") (by decide +kernel)
  have hf24 := hts (.fieldLink RX7 24 "PressGuard$TrialSums" "longestToLock" "I") (by decide +kernel)
  have hf27 := hts (.fieldLink RX7 27 "PressGuard$TrialSums" "mostDangers" "I") (by decide +kernel)
  have hf30 := hts (.fieldLink RX7 30 "PressGuard$TrialSums" "fewerRounds" "I") (by decide +kernel)
  refine lv_iload_n hx hb dX7_part_0 rfl (lv_at hl 1 rfl) ?_
  by_cases c_1 : what = 0
  · refine lv_tableIn (off := 39) (tgt := 40) hx hb dX7_part_1 (by rw [c_1]; decide) (by rw [c_1]; decide) (by rw [c_1]; rfl) (by decide) ?_
    refine lv_aload_n hx hb dX7_part_40 rfl (lv_at hl 0 rfl) ?_
    refine k_get hx hb hts hi7 hown hK hP 0 rfl rfl 1 (by decide) hf15 (.int (U 1)) rfl dX7_part_41 ?_
    have hsp : sp_X7_part U what = (U 1) := by simp only [sp_X7_part, if_pos c_1]
    exact hret _ _ _ _ _ (by rw [hsp]) rfl hP hS dX7_part_44
  by_cases c_2 : what = 1
  · refine lv_tableIn (off := 44) (tgt := 45) hx hb dX7_part_1 (by rw [c_2]; decide) (by rw [c_2]; decide) (by rw [c_2]; rfl) (by decide) ?_
    refine lv_aload_n hx hb dX7_part_45 rfl (lv_at hl 0 rfl) ?_
    refine k_get hx hb hts hi7 hown hK hP 0 rfl rfl 2 (by decide) hf18 (.int (U 2)) rfl dX7_part_46 ?_
    have hsp : sp_X7_part U what = (U 2) := by simp only [sp_X7_part, if_neg c_1, if_pos c_2]
    exact hret _ _ _ _ _ (by rw [hsp]) rfl hP hS dX7_part_49
  by_cases c_3 : what = 2
  · refine lv_tableIn (off := 49) (tgt := 50) hx hb dX7_part_1 (by rw [c_3]; decide) (by rw [c_3]; decide) (by rw [c_3]; rfl) (by decide) ?_
    refine lv_aload_n hx hb dX7_part_50 rfl (lv_at hl 0 rfl) ?_
    refine k_get hx hb hts hi7 hown hK hP 0 rfl rfl 3 (by decide) hf21 (.int (U 3)) rfl dX7_part_51 ?_
    have hsp : sp_X7_part U what = (U 3) := by simp only [sp_X7_part, if_neg c_1, if_neg c_2, if_pos c_3]
    exact hret _ _ _ _ _ (by rw [hsp]) rfl hP hS dX7_part_54
  by_cases c_4 : what = 3
  · refine lv_tableIn (off := 54) (tgt := 55) hx hb dX7_part_1 (by rw [c_4]; decide) (by rw [c_4]; decide) (by rw [c_4]; rfl) (by decide) ?_
    refine lv_aload_n hx hb dX7_part_55 rfl (lv_at hl 0 rfl) ?_
    refine k_get hx hb hts hi7 hown hK hP 0 rfl rfl 4 (by decide) hf24 (.int (U 4)) rfl dX7_part_56 ?_
    have hsp : sp_X7_part U what = (U 4) := by simp only [sp_X7_part, if_neg c_1, if_neg c_2, if_neg c_3, if_pos c_4]
    exact hret _ _ _ _ _ (by rw [hsp]) rfl hP hS dX7_part_59
  by_cases c_5 : what = 4
  · refine lv_tableIn (off := 59) (tgt := 60) hx hb dX7_part_1 (by rw [c_5]; decide) (by rw [c_5]; decide) (by rw [c_5]; rfl) (by decide) ?_
    refine lv_aload_n hx hb dX7_part_60 rfl (lv_at hl 0 rfl) ?_
    refine k_get hx hb hts hi7 hown hK hP 0 rfl rfl 5 (by decide) hf27 (.int (U 5)) rfl dX7_part_61 ?_
    have hsp : sp_X7_part U what = (U 5) := by simp only [sp_X7_part, if_neg c_1, if_neg c_2, if_neg c_3, if_neg c_4, if_pos c_5]
    exact hret _ _ _ _ _ (by rw [hsp]) rfl hP hS dX7_part_64
  by_cases c_6 : what = 5
  · refine lv_tableIn (off := 64) (tgt := 65) hx hb dX7_part_1 (by rw [c_6]; decide) (by rw [c_6]; decide) (by rw [c_6]; rfl) (by decide) ?_
    refine lv_aload_n hx hb dX7_part_65 rfl (lv_at hl 0 rfl) ?_
    refine k_get hx hb hts hi7 hown hK hP 0 rfl rfl 6 (by decide) hf30 (.int (U 6)) rfl dX7_part_66 ?_
    have hsp : sp_X7_part U what = (U 6) := by simp only [sp_X7_part, if_neg c_1, if_neg c_2, if_neg c_3, if_neg c_4, if_neg c_5, if_pos c_6]
    exact hret _ _ _ _ _ (by rw [hsp]) rfl hP hS dX7_part_69
  refine lv_tableOut (tgt := 70) hx hb dX7_part_1 (by have q0 := lv_neT c_1 (show (0 : Int32).toInt = 0 by decide +kernel); have q1 := lv_neT c_2 (show (1 : Int32).toInt = 1 by decide +kernel); have q2 := lv_neT c_3 (show (2 : Int32).toInt = 2 by decide +kernel); have q3 := lv_neT c_4 (show (3 : Int32).toInt = 3 by decide +kernel); have q4 := lv_neT c_5 (show (4 : Int32).toInt = 4 by decide +kernel); have q5 := lv_neT c_6 (show (5 : Int32).toInt = 5 by decide +kernel); omega) (by decide) ?_
  refine lv_bipush (v := (-2)) hx hb dX7_part_70 (by decide +kernel) ?_
  have hsp : sp_X7_part U what = (-2) := by simp only [sp_X7_part, if_neg c_1, if_neg c_2, if_neg c_3, if_neg c_4, if_neg c_5, if_neg c_6]
  exact hret _ _ _ _ _ (by rw [hsp]) rfl hP hS dX7_part_72

def bd_X6_run_29 (S : Nat → Int32) (K : Nat → Int32) (k : Nat → Int32) (input : Int32) (v : Int32) (fr : Int32) (i_3 : Nat) (x_4 : (Nat → Int32) × (Nat → Int32) × (Nat → Int32)) : (Nat → Int32) × (Nat → Int32) × (Nat → Int32) :=
  (let z_5 : Nat → Int32 := (if (nI i_3) = fr then (let F_5 : Nat → Int32 := (sp_X0_setInput (x_4.2.1) input v); F_5) else (x_4.2.1)); (let P_7 : Nat → Int32 := (sp_X2_advance (x_4.2.2) S z_5 (sp_X3_setAt K k (nI i_3))); (let z_8 : Nat → Int32 := (if ((x_4.1) 2) = (-9) then (if (P_7 2) = 0 then (let z_9 : Int32 := ((nI i_3) + 1); (upd (upd (x_4.1) 2 z_9) 3 (P_7 15))) else (x_4.1)) else (x_4.1)); (z_8, z_5, P_7))))
def sp_X6_run (V : Nat → Int32) (G : Nat → Int32) (P : Nat → Int32) (S : Nat → Int32) (K : Nat → Int32) (k : Nat → Int32) (input : Int32) (v : Int32) (fr : Int32) : (Nat → Int32) × (Nat → Int32) × (Nat → Int32) :=
  let F_1 : Nat → Int32 := (sp_X0_clear G)
  let P_2 : Nat → Int32 := (sp_X2_begin P)
  let x_4 : (Nat → Int32) × (Nat → Int32) × (Nat → Int32) := lp (bd_X6_run_29 S K k input v fr) ((K 1).toNatClampNeg) ((upd (upd V 2 (-9)) 3 (-9)), F_1, P_2)
  ((x_4.1), (x_4.2.1), (x_4.2.2))
set_option maxRecDepth 100000 in
theorem sq_X6_run_1 (V : Nat → Int32) (G : Nat → Int32) (P : Nat → Int32) (S : Nat → Int32) (K : Nat → Int32) (k : Nat → Int32) (input : Int32) (v : Int32) (fr : Int32) (F_1 : Nat → Int32) (P_2 : Nat → Int32) (x_4 : (Nat → Int32) × (Nat → Int32) × (Nat → Int32)) (eF_1 : F_1 = (sp_X0_clear G)) (eP_2 : P_2 = (sp_X2_begin P)) (ex_4 : x_4 = lp (bd_X6_run_29 S K k input v fr) ((K 1).toNatClampNeg) ((upd (upd V 2 (-9)) 3 (-9)), F_1, P_2)) : sp_X6_run V G P S K k input v fr = ((x_4.1), (x_4.2.1), (x_4.2.2)) := by subst ex_4; subst eP_2; subst eF_1; rfl
set_option maxHeartbeats 4000000 in
set_option maxRecDepth 100000 in
theorem c_X6_run (l : Launch) (D : va_G) (cI cJ cO : ClassId) (h : Nat) (sc : Nat) (tf : Nat) (tp : Nat) (b0 : Nat) (sa : Nat) (V : Nat → Int32) (G : Nat → Int32) (P : Nat → Int32) (S : Nat → Int32) (K : Nat → Int32) (k : Nat → Int32) (input : Int32) (v : Int32) (fr : Int32) (hcnt : ¬ K 1 < 0) : MV l D (TY cI cJ cO) yX6_run wsX6_run (RM 4) [.ref h, .ref sc, .int input, .int v, .int fr] [(h, oX6 tf tp V), (tf, oX0 G), (tp, oX2 b0 tf P), (b0, oX5 S), (sc, oX3 sa K), (sa, .inl (cI, 32, .inl k))] [(h, oX6 tf tp ((sp_X6_run V G P S K k input v fr).1)), (tf, oX0 ((sp_X6_run V G P S K k input v fr).2.1)), (tp, oX2 b0 tf ((sp_X6_run V G P S K k input v fr).2.2)), (b0, oX5 S), (sc, oX3 sa K), (sa, .inl (cI, 32, .inl k))] := by
  refine k_entV (cc := cX6_run) (maxL := 6) (lv := [(0, .ref h), (1, .ref sc), (2, .int input), (3, .int v), (4, .int fr)]) (by decide +kernel) rfl (Nat.le_of_ble_eq_true rfl) rfl ?_
  intro p e s m below meth c A Q ls hx hb hml hts hown hA hS hP hD hK hN hl hret
  have hown : s.vm.findClass RX6 = some m.cls := hown
  have hi2 : ∀ w ∈ wsX20, w ∈ wsX6_run := fun w h => List.mem_cons_of_mem _ (List.mem_append_left _ (List.mem_append_left _ (List.mem_append_right _ h)))
  have hi3 : ∀ w ∈ wsX30, w ∈ wsX6_run := fun w h => List.mem_cons_of_mem _ (List.mem_append_left _ (List.mem_append_left _ (List.mem_append_left _ (List.mem_append_right _ h))))
  have hi6 : ∀ w ∈ wsX60, w ∈ wsX6_run := fun w h => List.mem_cons_of_mem _ (List.mem_append_left _ (List.mem_append_left _ (List.mem_append_left _ (List.mem_append_left _ (List.mem_append_right _ h)))))
  have hf12 := hts (.fieldLink RX6 12 "PressGuard$Trial" "faults" "LPressGuard$Faults;") (by decide +kernel)
  have hf18 := hts (.fieldLink RX6 18 "PressGuard$Trial" "firstLock" "I") (by decide +kernel)
  have hf22 := hts (.fieldLink RX6 22 "PressGuard$Trial" "firstCause" "I") (by decide +kernel)
  have hf30 := hts (.fieldLink RX6 30 "PressGuard$Trial" "press" "LPressGuard$Press;") (by decide +kernel)
  have hf40 := hts (.fieldLink RX6 40 "PressGuard$Script" "count" "I") (by decide +kernel)
  have hf57 := hts (.fieldLink RX6 57 "PressGuard$Press" "mode" "I") (by decide +kernel)
  have hf60 := hts (.fieldLink RX6 60 "PressGuard$Press" "lockedBy" "I") (by decide +kernel)
  refine lv_aload_n hx hb dX6_run_0 rfl (lv_at hl 0 rfl) ?_
  refine k_get hx hb hts hi6 hown hK hP 0 rfl rfl 0 (by decide) hf12 (.ref tf) rfl dX6_run_1 ?_
  obtain ⟨F_1, eF_1⟩ : ∃ q : Nat → Int32, q = (sp_X0_clear G) := ⟨_, rfl⟩
  refine k_Vv ⟨hx, hb, hml, hown, hts⟩ (c_X0_clear l D cI cJ cO tf G) (ci := 0) (q0 := 1) rfl rfl (cwV 0 hts gX6_run_X0_clear rfl rfl rfl (by decide +kernel) ⟨Nat.le_of_ble_eq_true rfl, Nat.le_of_ble_eq_true rfl⟩) hK hN hP hD hS hA [1] rfl rfl rfl (ws' := [(h, oX6 tf tp V), (tf, oX0 F_1), (tp, oX2 b0 tf P), (b0, oX5 S), (sc, oX3 sa K), (sa, .inl (cI, 32, .inl k))]) (by rw [eF_1]; rfl) rfl hl.1 rfl (Nat.le_of_ble_eq_true rfl) dX6_run_4 ⟨Nat.le_refl _, Nat.le_refl _⟩ (fun H locs hP hD hS => ?_)
  refine lv_aload_n hx hb dX6_run_7 rfl (lv_at hl 0 rfl) ?_
  refine k_get hx hb hts hi6 hown hK hP 0 rfl rfl 1 (by decide) hf30 (.ref tp) rfl dX6_run_8 ?_
  obtain ⟨P_2, eP_2⟩ : ∃ q : Nat → Int32, q = (sp_X2_begin P) := ⟨_, rfl⟩
  refine k_Vv ⟨hx, hb, hml, hown, hts⟩ (c_X2_begin l D cI cJ cO tp b0 tf P) (ci := 2) (q0 := 2) rfl rfl (cwV 0 hts gX6_run_X2_begin rfl rfl rfl (by decide +kernel) ⟨Nat.le_of_ble_eq_true rfl, Nat.le_of_ble_eq_true rfl⟩) hK hN hP hD hS hA [2] rfl rfl rfl (ws' := [(h, oX6 tf tp V), (tf, oX0 F_1), (tp, oX2 b0 tf P_2), (b0, oX5 S), (sc, oX3 sa K), (sa, .inl (cI, 32, .inl k))]) (by rw [eP_2]; rfl) rfl hl.1 rfl (Nat.le_of_ble_eq_true rfl) dX6_run_11 ⟨Nat.le_refl _, Nat.le_refl _⟩ (fun H locs hP hD hS => ?_)
  refine lv_aload_n hx hb dX6_run_14 rfl (lv_at hl 0 rfl) ?_
  refine lv_bipush (v := (-9)) hx hb dX6_run_15 (by decide +kernel) ?_
  refine k_put hx hb hts hi6 tyX6_ok nmX6 hown hK hP hD hS 0 rfl rfl 2 (by decide) hf18 rfl (.int (-9)) rfl rfl (Nat.le_of_ble_eq_true rfl) (ws' := [(h, oX6 tf tp (upd V 2 (-9))), (tf, oX0 F_1), (tp, oX2 b0 tf P_2), (b0, oX5 S), (sc, oX3 sa K), (sa, .inl (cI, 32, .inl k))]) rfl dX6_run_17 (fun H locs hP hD hS => ?_)
  refine lv_aload_n hx hb dX6_run_20 rfl (lv_at hl 0 rfl) ?_
  refine lv_bipush (v := (-9)) hx hb dX6_run_21 (by decide +kernel) ?_
  refine k_put hx hb hts hi6 tyX6_ok nmX6 hown hK hP hD hS 0 rfl rfl 3 (by decide) hf22 rfl (.int (-9)) rfl rfl (Nat.le_of_ble_eq_true rfl) (ws' := [(h, oX6 tf tp (upd (upd V 2 (-9)) 3 (-9))), (tf, oX0 F_1), (tp, oX2 b0 tf P_2), (b0, oX5 S), (sc, oX3 sa K), (sa, .inl (cI, 32, .inl k))]) rfl dX6_run_23 (fun H locs hP hD hS => ?_)
  refine lv_iconst (v := 0) hx hb dX6_run_26 (by decide +kernel) ?_
  refine lv_istore (lv' := [(5, .int 0), (0, .ref h), (1, .ref sc), (2, .int input), (3, .int v), (4, .int fr)]) hx hb dX6_run_27 hl (by decide) rfl (fun ls hl => ?_)
  obtain ⟨fx_4, hfx_4⟩ : ∃ f : Nat → (Nat → Int32) × (Nat → Int32) × (Nat → Int32) → (Nat → Int32) × (Nat → Int32) × (Nat → Int32), f = (bd_X6_run_29 S K k input v fr) := ⟨_, rfl⟩
  have hB_x_4 : (K 1) = nI ((K 1).toNatClampNeg) := nI_self hcnt
  have hN_x_4 : (K 1).toNatClampNeg < 2 ^ 31 := clamp_lt _
  have Lx_4 : ∀ (nn i_3 : Nat) (x_4 : (Nat → Int32) × (Nat → Int32) × (Nat → Int32)), (K 1).toNatClampNeg + 1 ≤ i_3 + nn → i_3 ≤ (K 1).toNatClampNeg → x_4 = lp fx_4 i_3 ((upd (upd V 2 (-9)) 3 (-9)), F_1, P_2) → ∀ (H : Heap) (locs : List Loc), va_P D vwCl [(h, oX6 tf tp (x_4.1)), (tf, oX0 (x_4.2.1)), (tp, oX2 b0 tf (x_4.2.2)), (b0, oX5 S), (sc, oX3 sa K), (sa, .inl (cI, 32, .inl k))] H → va_D A [(h, oX6 tf tp (x_4.1)), (tf, oX0 (x_4.2.1)), (tp, oX2 b0 tf (x_4.2.2)), (b0, oX5 S), (sc, oX3 sa K), (sa, .inl (cI, 32, .inl k))] → va_S A s.heap H locs → ∀ ls : Array Slot, lv_has ls 6 [(0, .ref h), (1, .ref sc), (2, .int input), (3, .int v), (4, .int fr), (5, .int (nI i_3))] → W p l e (RM 4) s m ([.ref h, .ref sc, .int input, .int v, .int fr] : List Value).toArray below meth c H locs 0 0 Q (F0 m 29 ls []) := by
    intro nn_x_4
    induction nn_x_4 with
    | zero => intro i_3 x_4 h1 h2; exact absurd h1 (by omega)
    | succ nn_x_4 ih_x_4 =>
      intro i_3 x_4 hn_x_4 hi_i_3 ex_x_4 H locs hP hD hS ls hl
      refine lv_iload hx hb dX6_run_29 (lv_at hl 5 rfl) ?_
      refine lv_aload_n hx hb dX6_run_31 rfl (lv_at hl 1 rfl) ?_
      refine k_get hx hb hts hi3 hown hK hP 4 rfl rfl 1 (by decide) hf40 (.int (K 1)) rfl dX6_run_32 ?_
      refine lv_icmp_ge (tgt := 111) hx hb dX6_run_35 (by decide) (fun c_5 => ?_) (fun c_5 => ?_)
      · skip
        have hq_x_4 : i_3 = (K 1).toNatClampNeg := k_eq hB_x_4 c_5 hi_i_3 hN_x_4
        have ex_4 : x_4 = lp (bd_X6_run_29 S K k input v fr) ((K 1).toNatClampNeg) ((upd (upd V 2 (-9)) 3 (-9)), F_1, P_2) := by rw [ex_x_4, hfx_4, hq_x_4]
        have hsp : sp_X6_run V G P S K k input v fr = ((x_4.1), (x_4.2.1), (x_4.2.2)) := sq_X6_run_1 V G P S K k input v fr F_1 P_2 x_4 eF_1 eP_2 ex_4
        exact hret _ _ _ _ (by rw [hsp]; exact hP) hS dX6_run_111
      · skip
        have hlt_i_3 : i_3 < (K 1).toNatClampNeg := k_lt hB_x_4 c_5 hi_i_3 hN_x_4
        refine lv_iload hx hb dX6_run_38 (lv_at hl 5 rfl) ?_
        refine lv_iload hx hb dX6_run_40 (lv_at hl 4 rfl) ?_
        have J_7 : ∀ z_6 : Nat → Int32, z_6 = (if (nI i_3) = fr then (let F_6 : Nat → Int32 := (sp_X0_setInput (x_4.2.1) input v); F_6) else (x_4.2.1)) → ∀ (H : Heap) (locs : List Loc), va_P D vwCl [(h, oX6 tf tp (x_4.1)), (tf, oX0 z_6), (tp, oX2 b0 tf (x_4.2.2)), (b0, oX5 S), (sc, oX3 sa K), (sa, .inl (cI, 32, .inl k))] H → va_D A [(h, oX6 tf tp (x_4.1)), (tf, oX0 z_6), (tp, oX2 b0 tf (x_4.2.2)), (b0, oX5 S), (sc, oX3 sa K), (sa, .inl (cI, 32, .inl k))] → va_S A s.heap H locs → ∀ ls : Array Slot, lv_has ls 6 [(0, .ref h), (1, .ref sc), (2, .int input), (3, .int v), (4, .int fr), (5, .int (nI i_3))] → W p l e (RM 4) s m ([.ref h, .ref sc, .int input, .int v, .int fr] : List Value).toArray below meth c H locs 0 0 Q (F0 m 54 ls []) := by
          intro z_6 ez_6 H locs hP hD hS ls hl
          refine lv_aload_n hx hb dX6_run_54 rfl (lv_at hl 0 rfl) ?_
          refine k_get hx hb hts hi6 hown hK hP 0 rfl rfl 1 (by decide) hf30 (.ref tp) rfl dX6_run_55 ?_
          refine lv_aload_n hx hb dX6_run_58 rfl (lv_at hl 1 rfl) ?_
          refine lv_iload hx hb dX6_run_59 (lv_at hl 5 rfl) ?_
          refine k_Vi ⟨hx, hb, hml, hown, hts⟩ (c_X3_setAt l D cI cJ cO sc sa K k (nI i_3)) (ci := 3) (q0 := 4) rfl rfl (cwV 1 hts gX6_run_X3_setAt rfl rfl rfl (by decide +kernel) ⟨Nat.le_of_ble_eq_true rfl, Nat.le_of_ble_eq_true rfl⟩) hK hN hP hD hS hA [4, 5] rfl rfl rfl (ws' := [(h, oX6 tf tp (x_4.1)), (tf, oX0 z_6), (tp, oX2 b0 tf (x_4.2.2)), (b0, oX5 S), (sc, oX3 sa K), (sa, .inl (cI, 32, .inl k))]) rfl rfl hl.1 rfl (Nat.le_of_ble_eq_true rfl) dX6_run_61 ⟨Nat.le_refl _, Nat.le_refl _⟩ (fun H locs hP hD hS => ?_)
          obtain ⟨P_8, eP_8⟩ : ∃ q : Nat → Int32, q = (sp_X2_advance (x_4.2.2) S z_6 (sp_X3_setAt K k (nI i_3))) := ⟨_, rfl⟩
          refine k_Vv ⟨hx, hb, hml, hown, hts⟩ (c_X2_advance l D cI cJ cO tp b0 tf (x_4.2.2) S z_6 (sp_X3_setAt K k (nI i_3))) (ci := 2) (q0 := 2) rfl rfl (cwV 1 hts gX6_run_X2_advance rfl rfl rfl (by decide +kernel) ⟨Nat.le_of_ble_eq_true rfl, Nat.le_of_ble_eq_true rfl⟩) hK hN hP hD hS hA [2, 3, 1] rfl rfl rfl (ws' := [(h, oX6 tf tp (x_4.1)), (tf, oX0 z_6), (tp, oX2 b0 tf P_8), (b0, oX5 S), (sc, oX3 sa K), (sa, .inl (cI, 32, .inl k))]) (by rw [eP_8]; rfl) rfl hl.1 rfl (Nat.le_of_ble_eq_true rfl) dX6_run_64 ⟨Nat.le_refl _, Nat.le_refl _⟩ (fun H locs hP hD hS => ?_)
          refine lv_aload_n hx hb dX6_run_67 rfl (lv_at hl 0 rfl) ?_
          refine k_get hx hb hts hi6 hown hK hP 0 rfl rfl 2 (by decide) hf18 (.int ((x_4.1) 2)) rfl dX6_run_68 ?_
          refine lv_bipush (v := (-9)) hx hb dX6_run_71 (by decide +kernel) ?_
          have J_10 : ∀ z_9 : Nat → Int32, z_9 = (if ((x_4.1) 2) = (-9) then (if (P_8 2) = 0 then (let z_10 : Int32 := ((nI i_3) + 1); (upd (upd (x_4.1) 2 z_10) 3 (P_8 15))) else (x_4.1)) else (x_4.1)) → ∀ (H : Heap) (locs : List Loc), va_P D vwCl [(h, oX6 tf tp z_9), (tf, oX0 z_6), (tp, oX2 b0 tf P_8), (b0, oX5 S), (sc, oX3 sa K), (sa, .inl (cI, 32, .inl k))] H → va_D A [(h, oX6 tf tp z_9), (tf, oX0 z_6), (tp, oX2 b0 tf P_8), (b0, oX5 S), (sc, oX3 sa K), (sa, .inl (cI, 32, .inl k))] → va_S A s.heap H locs → ∀ ls : Array Slot, lv_has ls 6 [(0, .ref h), (1, .ref sc), (2, .int input), (3, .int v), (4, .int fr), (5, .int (nI i_3))] → W p l e (RM 4) s m ([.ref h, .ref sc, .int input, .int v, .int fr] : List Value).toArray below meth c H locs 0 0 Q (F0 m 105 ls []) := by
            intro z_9 ez_9 H locs hP hD hS ls hl
            refine lv_iinc (v := (nI (i_3 + 1))) (lv' := [(5, .int (nI (i_3 + 1))), (0, .ref h), (1, .ref sc), (2, .int input), (3, .int v), (4, .int fr)]) hx hb dX6_run_105 hl (k := 5) rfl (nI_1 i_3) (by decide) rfl (fun ls hl => ?_)
            refine lv_goto (tgt := 29) hx hb dX6_run_108 (by decide) ?_
            exact ih_x_4 (i_3 + 1) (z_9, z_6, P_8) (by omega) (by omega) (by subst ez_9; subst eP_8; subst ez_6; rw [show lp fx_4 (i_3 + 1) ((upd (upd V 2 (-9)) 3 (-9)), F_1, P_2) = fx_4 i_3 (lp fx_4 i_3 ((upd (upd V 2 (-9)) 3 (-9)), F_1, P_2)) from rfl, ← ex_x_4, hfx_4]; try (first | (rfl; done) | rfl)) _ _ hP hD hS _ (lv_sub hl [1, 2, 3, 4, 5, 0] rfl)
          refine lv_icmp_ne (tgt := 105) hx hb dX6_run_73 (by decide) (fun c_11 => ?_) (fun c_11 => ?_)
          · skip
            exact J_10 (x_4.1) (by first | (simp only [if_neg c_11]; done) | rfl) _ _ hP hD hS _ (lv_sub hl [0, 1, 2, 3, 4, 5] rfl)
          · skip
            refine lv_aload_n hx hb dX6_run_76 rfl (lv_at hl 0 rfl) ?_
            refine k_get hx hb hts hi6 hown hK hP 0 rfl rfl 1 (by decide) hf30 (.ref tp) rfl dX6_run_77 ?_
            refine k_get hx hb hts hi2 hown hK hP 2 rfl rfl 2 (by decide) hf57 (.int (P_8 2)) rfl dX6_run_80 ?_
            refine lv_if_ne (tgt := 105) hx hb dX6_run_83 (by decide) (fun c_12 => ?_) (fun c_12 => ?_)
            · skip
              exact J_10 (x_4.1) (by first | (simp only [if_pos c_11, if_neg c_12]; done) | rfl) _ _ hP hD hS _ (lv_sub hl [0, 1, 2, 3, 4, 5] rfl)
            · skip
              refine lv_aload_n hx hb dX6_run_86 rfl (lv_at hl 0 rfl) ?_
              refine lv_iload hx hb dX6_run_87 (lv_at hl 5 rfl) ?_
              refine lv_iconst (v := 1) hx hb dX6_run_89 (by decide +kernel) ?_
              refine lv_iadd hx hb dX6_run_90 ?_
              refine lv_topi (fun z_13 ez_13 => ?_)
              refine k_put hx hb hts hi6 tyX6_ok nmX6 hown hK hP hD hS 0 rfl rfl 2 (by decide) hf18 rfl (.int z_13) rfl rfl (Nat.le_of_ble_eq_true rfl) (ws' := [(h, oX6 tf tp (upd (x_4.1) 2 z_13)), (tf, oX0 z_6), (tp, oX2 b0 tf P_8), (b0, oX5 S), (sc, oX3 sa K), (sa, .inl (cI, 32, .inl k))]) rfl dX6_run_91 (fun H locs hP hD hS => ?_)
              refine lv_aload_n hx hb dX6_run_94 rfl (lv_at hl 0 rfl) ?_
              refine lv_aload_n hx hb dX6_run_95 rfl (lv_at hl 0 rfl) ?_
              refine k_get hx hb hts hi6 hown hK hP 0 rfl rfl 1 (by decide) hf30 (.ref tp) rfl dX6_run_96 ?_
              refine k_get hx hb hts hi2 hown hK hP 2 rfl rfl 15 (by decide) hf60 (.int (P_8 15)) rfl dX6_run_99 ?_
              refine k_put hx hb hts hi6 tyX6_ok nmX6 hown hK hP hD hS 0 rfl rfl 3 (by decide) hf22 rfl (.int (P_8 15)) rfl rfl (Nat.le_of_ble_eq_true rfl) (ws' := [(h, oX6 tf tp (upd (upd (x_4.1) 2 z_13) 3 (P_8 15))), (tf, oX0 z_6), (tp, oX2 b0 tf P_8), (b0, oX5 S), (sc, oX3 sa K), (sa, .inl (cI, 32, .inl k))]) rfl dX6_run_102 (fun H locs hP hD hS => ?_)
              exact J_10 (upd (upd (x_4.1) 2 z_13) 3 (P_8 15)) (by subst ez_13; first | (simp only [if_pos c_11, if_pos c_12]; done) | rfl) _ _ hP hD hS _ (lv_sub hl [0, 1, 2, 3, 4, 5] rfl)
        refine lv_icmp_ne (tgt := 54) hx hb dX6_run_42 (by decide) (fun c_14 => ?_) (fun c_14 => ?_)
        · skip
          exact J_7 (x_4.2.1) (by first | (simp only [if_neg c_14]; done) | rfl) _ _ hP hD hS _ (lv_sub hl [0, 1, 2, 3, 4, 5] rfl)
        · skip
          refine lv_aload_n hx hb dX6_run_45 rfl (lv_at hl 0 rfl) ?_
          refine k_get hx hb hts hi6 hown hK hP 0 rfl rfl 0 (by decide) hf12 (.ref tf) rfl dX6_run_46 ?_
          refine lv_iload_n hx hb dX6_run_49 rfl (lv_at hl 2 rfl) ?_
          refine lv_iload_n hx hb dX6_run_50 rfl (lv_at hl 3 rfl) ?_
          obtain ⟨F_15, eF_15⟩ : ∃ q : Nat → Int32, q = (sp_X0_setInput (x_4.2.1) input v) := ⟨_, rfl⟩
          refine k_Vv ⟨hx, hb, hml, hown, hts⟩ (c_X0_setInput l D cI cJ cO tf (x_4.2.1) input v) (ci := 0) (q0 := 1) rfl rfl (cwV 2 hts gX6_run_X0_setInput rfl rfl rfl (by decide +kernel) ⟨Nat.le_of_ble_eq_true rfl, Nat.le_of_ble_eq_true rfl⟩) hK hN hP hD hS hA [1] rfl rfl rfl (ws' := [(h, oX6 tf tp (x_4.1)), (tf, oX0 F_15), (tp, oX2 b0 tf (x_4.2.2)), (b0, oX5 S), (sc, oX3 sa K), (sa, .inl (cI, 32, .inl k))]) (by rw [eF_15]; rfl) rfl hl.1 rfl (Nat.le_of_ble_eq_true rfl) dX6_run_51 ⟨Nat.le_refl _, Nat.le_refl _⟩ (fun H locs hP hD hS => ?_)
          exact J_7 F_15 (by subst eF_15; first | (simp only [if_pos c_14]; done) | rfl) _ _ hP hD hS _ (lv_sub hl [0, 1, 2, 3, 4, 5] rfl)
  exact Lx_4 ((K 1).toNatClampNeg + 1) 0 ((upd (upd V 2 (-9)) 3 (-9)), F_1, P_2) (by omega) (Nat.zero_le _) rfl _ _ hP hD hS _ (lv_sub hl [1, 2, 3, 4, 5, 0] rfl)

def sp_X6_part (V : Nat → Int32) (P : Nat → Int32) (what : Int32) : Int32 :=
  (if what = 0 then
    (P 16)
  else
    (if what = 1 then
      (V 2)
    else
      (if what = 2 then
        (V 3)
      else
        (if what = 3 then
          (P 2)
        else
          (if what = 4 then
            (P 17)
          else
            (-2))))))
set_option maxHeartbeats 4000000 in
set_option maxRecDepth 100000 in
theorem c_X6_part (l : Launch) (D : va_G) (cI cJ cO : ClassId) (h : Nat) (tf : Nat) (tp : Nat) (b0 : Nat) (V : Nat → Int32) (P : Nat → Int32) (what : Int32)  : MI l D (TY cI cJ cO) yX6_part wsX6_part (RM 0) [.ref h, .int what] [(h, oX6 tf tp V), (tp, oX2 b0 tf P)] (sp_X6_part V P what) [(h, oX6 tf tp V), (tp, oX2 b0 tf P)] := by
  refine k_entI (cc := cX6_part) (maxL := 2) (lv := [(0, .ref h), (1, .int what)]) (by decide +kernel) rfl (Nat.le_of_ble_eq_true rfl) rfl ?_
  intro p e s m below meth c A Q ls hx hb hml hts hown hA hS hP hD hK hN hl hret
  have hown : s.vm.findClass RX6 = some m.cls := hown
  have hi2 : ∀ w ∈ wsX20, w ∈ wsX6_part := fun w h => List.mem_cons_of_mem _ (List.mem_append_right _ h)
  have hi6 : ∀ w ∈ wsX60, w ∈ wsX6_part := fun w h => List.mem_cons_of_mem _ (List.mem_append_left _ (List.mem_append_right _ h))
  have hf18 := hts (.fieldLink RX6 18 "PressGuard$Trial" "firstLock" "I") (by decide +kernel)
  have hf22 := hts (.fieldLink RX6 22 "PressGuard$Trial" "firstCause" "I") (by decide +kernel)
  have hf30 := hts (.fieldLink RX6 30 "PressGuard$Trial" "press" "LPressGuard$Press;") (by decide +kernel)
  have hf57 := hts (.fieldLink RX6 57 "PressGuard$Press" "mode" "I") (by decide +kernel)
  have hf63 := hts (.fieldLink RX6 63 "PressGuard$Press" "dangers" "I") (by decide +kernel)
  have hf66 := hts (.fieldLink RX6 66 "PressGuard$Press" "rounds" "I") (by decide +kernel)
  refine lv_iload_n hx hb dX6_part_0 rfl (lv_at hl 1 rfl) ?_
  by_cases c_1 : what = 0
  · refine lv_tableIn (off := 35) (tgt := 36) hx hb dX6_part_1 (by rw [c_1]; decide) (by rw [c_1]; decide) (by rw [c_1]; rfl) (by decide) ?_
    refine lv_aload_n hx hb dX6_part_36 rfl (lv_at hl 0 rfl) ?_
    refine k_get hx hb hts hi6 hown hK hP 0 rfl rfl 1 (by decide) hf30 (.ref tp) rfl dX6_part_37 ?_
    refine k_get hx hb hts hi2 hown hK hP 1 rfl rfl 16 (by decide) hf63 (.int (P 16)) rfl dX6_part_40 ?_
    have hsp : sp_X6_part V P what = (P 16) := by simp only [sp_X6_part, if_pos c_1]
    exact hret _ _ _ _ _ (by rw [hsp]) rfl hP hS dX6_part_43
  by_cases c_2 : what = 1
  · refine lv_tableIn (off := 43) (tgt := 44) hx hb dX6_part_1 (by rw [c_2]; decide) (by rw [c_2]; decide) (by rw [c_2]; rfl) (by decide) ?_
    refine lv_aload_n hx hb dX6_part_44 rfl (lv_at hl 0 rfl) ?_
    refine k_get hx hb hts hi6 hown hK hP 0 rfl rfl 2 (by decide) hf18 (.int (V 2)) rfl dX6_part_45 ?_
    have hsp : sp_X6_part V P what = (V 2) := by simp only [sp_X6_part, if_neg c_1, if_pos c_2]
    exact hret _ _ _ _ _ (by rw [hsp]) rfl hP hS dX6_part_48
  by_cases c_3 : what = 2
  · refine lv_tableIn (off := 48) (tgt := 49) hx hb dX6_part_1 (by rw [c_3]; decide) (by rw [c_3]; decide) (by rw [c_3]; rfl) (by decide) ?_
    refine lv_aload_n hx hb dX6_part_49 rfl (lv_at hl 0 rfl) ?_
    refine k_get hx hb hts hi6 hown hK hP 0 rfl rfl 3 (by decide) hf22 (.int (V 3)) rfl dX6_part_50 ?_
    have hsp : sp_X6_part V P what = (V 3) := by simp only [sp_X6_part, if_neg c_1, if_neg c_2, if_pos c_3]
    exact hret _ _ _ _ _ (by rw [hsp]) rfl hP hS dX6_part_53
  by_cases c_4 : what = 3
  · refine lv_tableIn (off := 53) (tgt := 54) hx hb dX6_part_1 (by rw [c_4]; decide) (by rw [c_4]; decide) (by rw [c_4]; rfl) (by decide) ?_
    refine lv_aload_n hx hb dX6_part_54 rfl (lv_at hl 0 rfl) ?_
    refine k_get hx hb hts hi6 hown hK hP 0 rfl rfl 1 (by decide) hf30 (.ref tp) rfl dX6_part_55 ?_
    refine k_get hx hb hts hi2 hown hK hP 1 rfl rfl 2 (by decide) hf57 (.int (P 2)) rfl dX6_part_58 ?_
    have hsp : sp_X6_part V P what = (P 2) := by simp only [sp_X6_part, if_neg c_1, if_neg c_2, if_neg c_3, if_pos c_4]
    exact hret _ _ _ _ _ (by rw [hsp]) rfl hP hS dX6_part_61
  by_cases c_5 : what = 4
  · refine lv_tableIn (off := 61) (tgt := 62) hx hb dX6_part_1 (by rw [c_5]; decide) (by rw [c_5]; decide) (by rw [c_5]; rfl) (by decide) ?_
    refine lv_aload_n hx hb dX6_part_62 rfl (lv_at hl 0 rfl) ?_
    refine k_get hx hb hts hi6 hown hK hP 0 rfl rfl 1 (by decide) hf30 (.ref tp) rfl dX6_part_63 ?_
    refine k_get hx hb hts hi2 hown hK hP 1 rfl rfl 17 (by decide) hf66 (.int (P 17)) rfl dX6_part_66 ?_
    have hsp : sp_X6_part V P what = (P 17) := by simp only [sp_X6_part, if_neg c_1, if_neg c_2, if_neg c_3, if_neg c_4, if_pos c_5]
    exact hret _ _ _ _ _ (by rw [hsp]) rfl hP hS dX6_part_69
  refine lv_tableOut (tgt := 70) hx hb dX6_part_1 (by have q0 := lv_neT c_1 (show (0 : Int32).toInt = 0 by decide +kernel); have q1 := lv_neT c_2 (show (1 : Int32).toInt = 1 by decide +kernel); have q2 := lv_neT c_3 (show (2 : Int32).toInt = 2 by decide +kernel); have q3 := lv_neT c_4 (show (3 : Int32).toInt = 3 by decide +kernel); have q4 := lv_neT c_5 (show (4 : Int32).toInt = 4 by decide +kernel); omega) (by decide) ?_
  refine lv_bipush (v := (-2)) hx hb dX6_part_70 (by decide +kernel) ?_
  have hsp : sp_X6_part V P what = (-2) := by simp only [sp_X6_part, if_neg c_1, if_neg c_2, if_neg c_3, if_neg c_4, if_neg c_5]
  exact hret _ _ _ _ _ (by rw [hsp]) rfl hP hS dX6_part_72
